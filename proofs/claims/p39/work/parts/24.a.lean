/-! THE SECOND CHECKER: what cells hold is kept in mind; methods are walked through where they are called, or by their words. Printed by wip/am/chk/gen_t.py. -/
/-- number, slot, what it holds -/
abbrev ta_F : Type := List (Nat × (Nat × Int) × (Nat × Int))
abbrev ta_H : Type := sa_E → ta_F → List sa_V → (sa_E → ta_F → Option sa_V → Bool) → Bool
abbrev ta_C : Type := List (Nat × Nat × Nat × Nat × ta_H)
def tg_F (E : sa_E) (ρ : Nat → Int) (F : ta_F) (σ : am_S) : Prop := ∀ q ∈ F, q.2.1.1 < E.length ∧ q.2.2.1 < E.length ∧ 0 ≤ ρ q.2.1.1 + q.2.1.2 ∧ (σ.1 q.1 (ρ q.2.1.1 + q.2.1.2).toNat).toInt = ρ q.2.2.1 + q.2.2.2
theorem tg_F_x {E E' : sa_E} {ρ ρ' : Nat → Int} {F : ta_F} {σ : am_S} (hx : sx E ρ E' ρ') (h : tg_F E ρ F σ) : tg_F E' ρ' F σ := fun q hq => by
  obtain ⟨h1, h2, h3⟩ := h q hq
  exact ⟨Nat.lt_of_lt_of_le h1 hx.1, Nat.lt_of_lt_of_le h2 hx.1, by rw [hx.2 _ h1, hx.2 _ h2]; exact h3⟩
theorem tg_F_pl {E : sa_E} {ρ : Nat → Int} {F : ta_F} {σ : am_S} {o s : Nat} {x : Int64} (h : tg_F E ρ F σ) : tg_F E ρ F (am_pl σ o s x) := h
def t_lk (F : ta_F) (o : Nat) (a : Nat × Int) : Option (Nat × Int) := (F.find? (fun q => decide (q.1 = o ∧ q.2.1 = a))).map (fun q => q.2.2)
theorem t_lk_ok {E : sa_E} {ρ : Nat → Int} {F : ta_F} {σ : am_S} {o : Nat} {a v : Nat × Int} (h : tg_F E ρ F σ) (hf : t_lk F o a = some v) : v.1 < E.length ∧ (σ.1 o (ρ a.1 + a.2).toNat).toInt = ρ v.1 + v.2 := by
  unfold t_lk at hf
  cases hq : F.find? (fun q => decide (q.1 = o ∧ q.2.1 = a)) with
  | none => rw [hq] at hf; cases hf
  | some q =>
    rw [hq] at hf
    cases hf
    have h1 := List.find?_some hq
    have h1 := of_decide_eq_true h1
    obtain ⟨_, h2, _, h3⟩ := h q (List.mem_of_find?_eq_some hq)
    rw [h1.1, h1.2] at h3
    exact ⟨h2, h3⟩
/-- a slot that is known: as a number -/
def t_nm (E : sa_E) (a : Nat × Int) : Nat × Int := if (sa_h E a).1 = (sa_h E a).2 then (0, (sa_h E a).1) else a
theorem t_nm_ok {E : sa_E} {ρ : Nat → Int} {a : Nat × Int} {x : Int32} (hE : sg_E E ρ) (h : a.1 < E.length ∧ x.toInt = ρ a.1 + a.2) : (t_nm E a).1 < E.length ∧ x.toInt = ρ (t_nm E a).1 + (t_nm E a).2 := by
  unfold t_nm
  split
  · have := sa_h_ok hE h.2
    exact ⟨hE.1, by show x.toInt = ρ 0 + (sa_h E a).1; rw [hE.2.1]; omega⟩
  · exact h
/-- surely another slot -/
def t_dif (x y : Nat × Int) : Bool := decide (x.1 = y.1 ∧ x.2 ≠ y.2)
def t_fd (F : ta_F) (o : Nat) (a : Nat × Int) : ta_F := F.filter (fun q => !decide (q.1 = o) || t_dif q.2.1 a)
theorem t_fd_ok {E : sa_E} {ρ : Nat → Int} {F : ta_F} {σ : am_S} {o : Nat} {i : Nat × Int} {x y : Int32} (h : tg_F E ρ F σ) (hi : i.1 < E.length ∧ x.toInt = ρ i.1 + i.2) (h0 : 0 ≤ x.toInt) : tg_F E ρ (t_fd F o i) (am_pi σ o x.toNatClampNeg y) := fun q hq => by
  obtain ⟨h1, h2⟩ := List.mem_filter.mp hq
  obtain ⟨a1, a2, a3, a4⟩ := h q h1
  refine ⟨a1, a2, a3, ?_⟩
  rw [pi_n _ _ _ _ ?_]
  · exact a4
  · rintro ⟨e1, e2⟩
    have e2 : (ρ q.2.1.1 + q.2.1.2).toNat = x.toInt.toNat := e2
    simp only [Bool.or_eq_true, Bool.not_eq_true', decide_eq_false_iff_not] at h2
    rcases h2 with h2 | h2
    · exact h2 e1
    · have h2 := of_decide_eq_true h2
      have : ρ q.2.1.1 + q.2.1.2 = ρ i.1 + i.2 := by omega
      rw [h2.1] at this
      omega
theorem t_fd_put {E : sa_E} {ρ : Nat → Int} {F : ta_F} {σ : am_S} {o : Nat} {i a : Nat × Int} {x y : Int32} (h : tg_F E ρ F σ) (hi : i.1 < E.length ∧ x.toInt = ρ i.1 + i.2) (ha : a.1 < E.length ∧ y.toInt = ρ a.1 + a.2) (h0 : 0 ≤ x.toInt) : tg_F E ρ ((o, i, a) :: t_fd F o i) (am_pi σ o x.toNatClampNeg y) := fun q hq => by
  rcases List.mem_cons.mp hq with rfl | hq
  · refine ⟨hi.1, ha.1, by show 0 ≤ ρ i.1 + i.2; omega, ?_⟩
    show ((am_pi σ o x.toNatClampNeg y).1 o (ρ i.1 + i.2).toNat).toInt = ρ a.1 + a.2
    rw [← hi.2]
    show ((am_pi σ o x.toInt.toNat y).1 o x.toInt.toNat).toInt = _
    rw [pi_s]
    exact ha.2
  · exact t_fd_ok h hi h0 q hq
theorem tg_F_cons {E : sa_E} {ρ : Nat → Int} {F : ta_F} {σ : am_S} {o : Nat} {i a : Nat × Int} (hi : i.1 < E.length) (h0 : 0 ≤ ρ i.1 + i.2) (ha : a.1 < E.length ∧ (σ.1 o (ρ i.1 + i.2).toNat).toInt = ρ a.1 + a.2) (h : tg_F E ρ F σ) : tg_F E ρ ((o, i, a) :: F) σ := fun q hq => by
  rcases List.mem_cons.mp hq with rfl | hq
  · exact ⟨hi, ha.1, h0, ha.2⟩
  · exact h q hq
/-- a cell is read -/
def t_ld (B : sa_I) (o : Nat) (i : Nat × Int) (E : sa_E) (F : ta_F) : sa_E × ta_F × sa_V := match t_lk F o (t_nm E i) with
  | some a => (E, F, .inl a)
  | none => ((sa_fr E (sb_ld B o (sa_h E i))).1, (o, t_nm E i, (E.length, 0)) :: F, .inl (E.length, 0))
theorem t_ld_ok {B : sa_I} {o : Nat} {i : Nat × Int} {E : sa_E} {ρ : Nat → Int} {F : ta_F} {σ : am_S} {x : Int32} (hE : sg_E E ρ) (hF : tg_F E ρ F σ) (hi : i.1 < E.length ∧ x.toInt = ρ i.1 + i.2) (h0 : 0 ≤ (sa_h E i).1) (hb : (sb_a B o x.toNatClampNeg).1 ≤ (σ.1 o x.toNatClampNeg).toInt ∧ (σ.1 o x.toNatClampNeg).toInt ≤ (sb_a B o x.toNatClampNeg).2) : ∃ ρ', sx E ρ (t_ld B o i E F).1 ρ' ∧ sg_E (t_ld B o i E F).1 ρ' ∧ tg_F (t_ld B o i E F).1 ρ' (t_ld B o i E F).2.1 σ ∧ sg_V (t_ld B o i E F).1 ρ' (t_ld B o i E F).2.2 (.int (σ.1 o x.toNatClampNeg)) := by
  have hh := sa_h_ok hE hi.2
  have hn := t_nm_ok hE hi
  unfold t_ld
  split
  · rename_i a ha
    obtain ⟨a1, a2⟩ := t_lk_ok hF ha
    rw [← hn.2] at a2
    exact ⟨ρ, sx_r E ρ, hE, hF, a1, _, rfl, a2⟩
  · obtain ⟨ρ', q1, q2, q3⟩ := sa_fr_ok hE (sb_ld_ok h0 hh hb)
    obtain ⟨c1, y, c2, c3⟩ := q3
    cases c2
    have ei : ρ' (t_nm E i).1 = ρ (t_nm E i).1 := q1.2 _ hn.1
    refine ⟨ρ', q1, q2, tg_F_cons (Nat.lt_of_lt_of_le hn.1 q1.1) (by rw [ei]; omega) ⟨c1, ?_⟩ (tg_F_x q1 hF), c1, _, rfl, c3⟩
    rw [ei, ← hn.2]
    exact c3
/-- a field is read -/
def t_get (B : sa_I) (o s kd : Nat) (E : sa_E) (F : ta_F) (k : sa_E → ta_F → sa_V → Bool) : Bool := match kd with
  | 0 => (match t_lk F o (0, (s : Int)) with
    | some a => k E F (.inl a)
    | none => k (sa_fr E (B.2 o s)).1 ((o, (0, (s : Int)), (E.length, 0)) :: F) (.inl (E.length, 0)))
  | 1 => k E F (.inr (.inr true))
  | 2 => (match t_lk F o (0, (s : Int)) with
    | some a => k E F (.inl a)
    | none => k (sa_fr E (B.2 o s)).1 ((o, (0, (s : Int)), (E.length, 0)) :: F) (.inl (E.length, 0)))
  | 3 => false
  | t + 4 => k E F (.inr (.inl t))
theorem t_get_ok {B : sa_I} {o s kd : Nat} {E : sa_E} {ρ : Nat → Int} {F : ta_F} {k : sa_E → ta_F → sa_V → Bool} {σ : am_S} (hE : sg_E E ρ) (hF : tg_F E ρ F σ) (hb : (B.2 o s).1 ≤ (σ.1 o s).toInt ∧ (σ.1 o s).toInt ≤ (B.2 o s).2) (h : t_get B o s kd E F k = true) : ∃ E1 F1 v ρ', k E1 F1 v = true ∧ sx E ρ E1 ρ' ∧ sg_E E1 ρ' ∧ tg_F E1 ρ' F1 σ ∧ sg_V E1 ρ' v (am_av kd (σ.1 o s) (σ.2 o s)) := by
  have es : ∀ ρ : Nat → Int, ρ 0 = 0 → (ρ 0 + (s : Int)).toNat = s := fun ρ h => by rw [h]; omega
  have hint : (match t_lk F o (0, (s : Int)) with
    | some a => k E F (.inl a)
    | none => k (sa_fr E (B.2 o s)).1 ((o, (0, (s : Int)), (E.length, 0)) :: F) (.inl (E.length, 0))) = true → ∃ E1 F1 v ρ', k E1 F1 v = true ∧ sx E ρ E1 ρ' ∧ sg_E E1 ρ' ∧ tg_F E1 ρ' F1 σ ∧ sg_V E1 ρ' v (.int (σ.1 o s)) := by
    intro h
    split at h
    · rename_i a ha
      obtain ⟨a1, a2⟩ := t_lk_ok hF ha
      simp only [es ρ hE.2.1] at a2
      exact ⟨_, _, _, ρ, h, sx_r E ρ, hE, hF, a1, _, rfl, a2⟩
    · obtain ⟨ρ', q1, q2, q3⟩ := sa_fr_ok hE hb
      obtain ⟨c1, x, c2, c3⟩ := q3
      cases c2
      exact ⟨_, _, _, ρ', h, q1, q2, tg_F_cons (i := (0, (s : Int))) q2.1 (by show 0 ≤ ρ' 0 + (s : Int); rw [q2.2.1]; omega) ⟨c1, by simp only [es ρ' q2.2.1]; exact c3⟩ (tg_F_x q1 hF), c1, _, rfl, c3⟩
  unfold t_get at h
  split at h
  · exact hint h
  · exact ⟨_, _, _, ρ, h, sx_r E ρ, hE, hF, _, rfl⟩
  · exact hint h
  · cases h
  · exact ⟨_, _, _, ρ, h, sx_r E ρ, hE, hF, rfl⟩
theorem t_fd_fld {E : sa_E} {ρ : Nat → Int} {F : ta_F} {σ : am_S} {o s : Nat} {a : Nat × Int} {y : Int32} (hE : sg_E E ρ) (h : tg_F E ρ F σ) (ha : a.1 < E.length ∧ y.toInt = ρ a.1 + a.2) : tg_F E ρ ((o, (0, (s : Int)), a) :: t_fd F o (0, (s : Int))) (am_pi σ o s y) := fun q hq => by
  rcases List.mem_cons.mp hq with rfl | hq
  · refine ⟨hE.1, ha.1, by show 0 ≤ ρ 0 + (s : Int); rw [hE.2.1]; omega, ?_⟩
    show ((am_pi σ o s y).1 o (ρ 0 + (s : Int)).toNat).toInt = ρ a.1 + a.2
    rw [hE.2.1, show (0 + (s : Int)).toNat = s by omega, pi_s]
    exact ha.2
  · obtain ⟨h1, h2⟩ := List.mem_filter.mp hq
    obtain ⟨a1, a2, a3, a4⟩ := h q h1
    refine ⟨a1, a2, a3, ?_⟩
    rw [pi_n _ _ _ _ ?_]
    · exact a4
    · rintro ⟨e1, e2⟩
      simp only [Bool.or_eq_true, Bool.not_eq_true', decide_eq_false_iff_not] at h2
      rcases h2 with h2 | h2
      · exact h2 e1
      · have h2 := of_decide_eq_true h2
        have h3 : q.2.1.1 = 0 := h2.1
        rw [h3, hE.2.1] at a3 e2
        have h4 : q.2.1.2 ≠ (s : Int) := h2.2
        omega
/-- a field is written -/
def t_put (B : sa_I) (M : sa_M) (o s kd : Nat) (E : sa_E) (F : ta_F) (v : sa_V) (k : ta_F → Bool) : Bool := s_mod M o s s && (match kd with
  | 0 => (match v with
    | .inl a => sa_inB E (B.2 o s) a && k ((o, (0, (s : Int)), a) :: t_fd F o (0, (s : Int)))
    | _ => false)
  | 1 => (match v with
    | .inr (.inr true) => k F
    | _ => false)
  | 2 => (match v with
    | .inl a => sa_inB E (B.2 o s) a && (sa_inB E (0, 1) a && k ((o, (0, (s : Int)), a) :: t_fd F o (0, (s : Int))))
    | _ => false)
  | _ => false)
theorem t_put_ok {B : sa_I} {SH : am_Sh} {M : sa_M} {o s kd ci : Nat} {E : sa_E} {ρ : Nat → Int} {F : ta_F} {a : sa_V} {v : Value} {σ0 σ : am_S} {K : am_S → Prop} {k : ta_F → Bool} (hE : sg_E E ρ) (hF : tg_F E ρ F σ) (hV : sg_V E ρ a v) (hI : sI B SH M σ0 σ) (hs : SH o = .inl ci) (h : t_put B M o s kd E F a k = true) (hk : ∀ F' τ, k F' = true → tg_F E ρ F' τ → sI B SH M σ0 τ → K τ) : am_pf kd v σ o s K := by
  unfold t_put at h
  rw [Bool.and_eq_true] at h
  obtain ⟨h1, h2⟩ := h
  have hm : ∃ m ∈ M, m.1 = o ∧ m.2.1 ≤ s ∧ s < m.2.2 := by
    obtain ⟨m, m1, m2, m3, m4⟩ := s_mod_ok h1
    exact ⟨m, m1, m2, by omega, by omega⟩
  split at h2
  · split at h2
    · obtain ⟨hl, x, rfl, hx⟩ := hV
      rw [Bool.and_eq_true] at h2
      exact hk _ _ h2.2 (t_fd_fld hE hF ⟨hl, hx⟩) (sI_fld hI hs (sa_inB_ok hE hx h2.1) hm)
    · cases h2
  · split at h2
    · obtain ⟨y, rfl⟩ := hV
      exact hk _ _ h2 (tg_F_pl hF) (sI_pl hI hm)
    · cases h2
  · split at h2
    · obtain ⟨hl, x, rfl, hx⟩ := hV
      simp only [Bool.and_eq_true] at h2
      have hb := sa_inB_ok hE hx h2.2.1
      exact ⟨ti_nar hb.1 hb.2, hk _ _ h2.2.2 (t_fd_fld hE hF ⟨hl, hx⟩) (sI_fld hI hs (sa_inB_ok hE hx h2.1) hm)⟩
    · cases h2
  · cases h2
/-- a call's handler keeps a word -/
def t_hs (B : sa_I) (SH : am_Sh) (N : Nat) (M : sa_M) (σ0 : am_S) (h : ta_H) (sp : am_Sp) : Prop := ∀ (E : sa_E) (ρ : Nat → Int) (F : ta_F) (as : List sa_V) (vs : List Value) (σ : am_S) (k : sa_E → ta_F → Option sa_V → Bool) (post : Option Value → am_S → Prop), sg_E E ρ → tg_F E ρ F σ → sg_S E ρ as vs → sI B SH M σ0 σ → (∀ E' F' v', k E' F' v' = true → ∀ ρ' v τ, sx E ρ E' ρ' → sg_E E' ρ' → tg_F E' ρ' F' τ → sv_o E' ρ' v' v → sI B SH M σ0 τ → post v τ) → h E F as k = true → sp vs N σ post
def t_call (SH : am_Sh) (N : Nat) (CS : ta_C) (k1 k2 ix : Nat) (E : sa_E) (F : ta_F) (S : List sa_V) (k : sa_E → ta_F → List sa_V → Bool) : Bool := match am_find CS ix with
  | none => false
  | some q => decide (q.1 = k1 ∨ q.1 = k2) && (decide (q.2.1 ≤ S.length) && (s_rc q.1 q.2.2.1 N SH (S.take q.2.1).reverse && (decide (((S.drop q.2.1).map s_cat).sum ≤ 8) && q.2.2.2 E F (S.take q.2.1).reverse (fun E' F' v' => k E' F' (v'.toList ++ S.drop q.2.1)))))
theorem t_call_ok {X : am_X} {B : sa_I} {N : Nat} {CS : ta_C} {M : sa_M} {σ0 σ : am_S} {k1 k2 ix : Nat} {E : sa_E} {ρ : Nat → Int} {F : ta_F} {S : List sa_V} {stk : List Value} {k : sa_E → ta_F → List sa_V → Bool} {K : List Value → Nat → am_S → Prop}
    (hCS : ∀ ix q, am_find CS ix = some q → ∃ sp, am_find (am_ML X) ix = some (q.1, q.2.1, q.2.2.1, 0, 0, sp) ∧ t_hs B (am_SH X) N M σ0 q.2.2.2 sp) (hE : sg_E E ρ) (hF : tg_F E ρ F σ) (hS : sg_S E ρ S stk) (hI : sI B (am_SH X) M σ0 σ)
    (hk : ∀ E1 F1 S1, k E1 F1 S1 = true → ∀ ρ' st' τ, sx E ρ E1 ρ' → sg_E E1 ρ' → tg_F E1 ρ' F1 τ → sg_S E1 ρ' S1 st' → sI B (am_SH X) M σ0 τ → K st' N τ) (h : t_call (am_SH X) N CS k1 k2 ix E F S k = true) :
    am_opt (am_find (am_ML X) ix) (fun q => (q.1 = k1 ∨ q.1 = k2) ∧ q.2.1 ≤ stk.length ∧ am_rc q.1 q.2.2.1 N (am_SH X) (stk.take q.2.1).reverse ∧ ((stk.drop q.2.1).map fun v => v.category).sum ≤ 8 ∧ N + q.2.2.2.1 ≤ N ∧ am_sz (am_SH X) (am_KF X) (N + q.2.2.2.1) = am_sz (am_SH X) (am_KF X) N + q.2.2.2.2.1 ∧ q.2.2.2.2.2 (stk.take q.2.1).reverse N σ (fun v σ1 => K (v.toList ++ stk.drop q.2.1) (N + q.2.2.2.1) σ1)) := by
  unfold t_call at h
  cases hf : am_find CS ix with
  | none => rw [hf] at h; cases h
  | some q =>
    rw [hf] at h
    simp only [Bool.and_eq_true, decide_eq_true_eq] at h
    obtain ⟨h1, h2, h3, h4, h5⟩ := h
    obtain ⟨sp, e1, e2⟩ := hCS ix q hf
    rw [e1]
    have hA := sg_S_rev (sg_S_take q.2.1 hS)
    refine ⟨h1, by rw [sg_S_len hS]; exact h2, s_rc_ok hA h3, by rw [s_cats (sg_S_drop q.2.1 hS)]; exact h4, Nat.le_refl _, rfl, ?_⟩
    refine e2 E ρ F _ _ σ _ _ hE hF hA hI (fun E' F' v' hk' ρ' v τ x1 x2 x3 x4 x5 => ?_) h5
    refine hk _ _ _ hk' ρ' _ τ x1 x2 x3 (sg_S_app ?_ (sg_S_x x1 (sg_S_drop q.2.1 hS))) x5
    cases v' <;> cases v
    · trivial
    · exact x4.elim
    · exact x4.elim
    · exact ⟨x4, trivial⟩
def t_nat (SH : am_Sh) (B : sa_I) (N : Nat) (M : sa_M) (w op : Nat) (E : sa_E) (F : ta_F) (S : List sa_V) (k : sa_E → ta_F → List sa_V → Bool) : Bool := decide (w < 4) && s_nat SH B N M w op E S (fun E1 S1 => k E1 F S1)
theorem t_nat_ok {SH : am_Sh} {B : sa_I} {N : Nat} {M : sa_M} {σ0 σ : am_S} {w op : Nat} {E : sa_E} {ρ : Nat → Int} {F : ta_F} {S : List sa_V} {stk : List Value} {k : sa_E → ta_F → List sa_V → Bool} {K : List Value → am_S → Prop} (hE : sg_E E ρ) (hF : tg_F E ρ F σ) (hS : sg_S E ρ S stk) (hI : sI B SH M σ0 σ)
    (hk : ∀ E1 F1 S1, k E1 F1 S1 = true → ∀ ρ' st' τ, sx E ρ E1 ρ' → sg_E E1 ρ' → tg_F E1 ρ' F1 τ → sg_S E1 ρ' S1 st' → sI B SH M σ0 τ → K st' τ) (h : t_nat SH B N M w op E F S k = true) : am_nat w op stk N SH σ K := by
  unfold t_nat at h
  simp only [Bool.and_eq_true, decide_eq_true_eq] at h
  obtain ⟨hw, h⟩ := h
  unfold s_nat at h
  split at h
  · obtain ⟨x, y, r, a, b, st', g1, rfl, g3, g4⟩ := s_2_ok hS h
    simp only [Bool.and_eq_true, decide_eq_true_eq] at g1
    obtain ⟨ρ', q1, q2, q3⟩ := sa_max_ok hE g3
    exact ⟨by rw [s_cats g4]; exact g1.1, hk _ _ _ g1.2 ρ' _ _ q1 q2 (tg_F_x q1 hF) ⟨q3, sg_S_x q1 g4⟩ hI⟩
  · obtain ⟨x, y, r, a, b, st', g1, rfl, g3, g4⟩ := s_2_ok hS h
    simp only [Bool.and_eq_true, decide_eq_true_eq] at g1
    obtain ⟨ρ', q1, q2, q3⟩ := sa_min_ok hE g3
    exact ⟨by rw [s_cats g4]; exact g1.1, hk _ _ _ g1.2 ρ' _ _ q1 q2 (tg_F_x q1 hF) ⟨q3, sg_S_x q1 g4⟩ hI⟩
  · obtain ⟨x, r, a, st', g1, rfl, g3, g4⟩ := s_1_ok hS h
    simp only [Bool.and_eq_true, decide_eq_true_eq] at g1
    obtain ⟨ρ', q1, q2, q3⟩ := sa_fr_ok hE (sa_ab_ok hE g3.2)
    exact ⟨by rw [s_cats g4]; exact g1.1, hk _ _ _ g1.2 ρ' _ _ q1 q2 (tg_F_x q1 hF) ⟨q3, sg_S_x q1 g4⟩ hI⟩
  · omega
  · cases h
def t_one (X : am_X) (B : sa_I) (N : Nat) (CS : ta_C) (M : sa_M) (Fk : List Nat) (ret : sa_E → ta_F → Option sa_V → Bool) (i : Instr) (len pc : Nat) (E : sa_E) (F : ta_F) (L : List (Option sa_V)) (S : List sa_V) (k : Nat → sa_E → ta_F → List (Option sa_V) → List sa_V → Bool) : Bool := match i with
  | .iconst v => decide (len = 1) && (decide (-2147483648 ≤ v ∧ v ≤ 2147483647) && k (pc + 1) E F L (.inl (0, v) :: S))
  | .bipush v => decide (len = 2) && (decide (-128 ≤ v ∧ v ≤ 127) && k (pc + 2) E F L (.inl (0, v) :: S))
  | .sipush v => decide (len = 3) && (decide (-32768 ≤ v ∧ v ≤ 32767) && k (pc + 3) E F L (.inl (0, v) :: S))
  | .lconst v => decide (len = 1) && k (pc + 1) E F L (.inr (.inr true) :: S)
  | .ldc ix => decide (len = 2) && (match am_find (am_KT X) ix with
    | some v => k (pc + 2) E F L (.inl (0, v.toInt) :: S)
    | none => false)
  | .ldc_w ix => decide (len = 3) && (match am_find (am_KT X) ix with
    | some v => k (pc + 3) E F L (.inl (0, v.toInt) :: S)
    | none => false)
  | .ldc2_w ix => decide (len = 3) && (match am_find (am_LT X) ix with
    | some _ => k (pc + 3) E F L (.inr (.inr true) :: S)
    | none => false)
  | .iload_n n => decide (len = 1) && s_ldi L (n : Nat) (fun a => if Fk.contains pc then s_fork E a (fun E1 _ => k (pc + 1) E1 F L (.inl a :: S)) else k (pc + 1) E F L (.inl a :: S))
  | .iload n => decide (len = 2) && s_ldi L n (fun a => if Fk.contains pc then s_fork E a (fun E1 _ => k (pc + 2) E1 F L (.inl a :: S)) else k (pc + 2) E F L (.inl a :: S))
  | .lload_n n => decide (len = 1) && s_ldl L (n : Nat) (k (pc + 1) E F L (.inr (.inr true) :: S))
  | .lload n => decide (len = 2) && s_ldl L n (k (pc + 2) E F L (.inr (.inr true) :: S))
  | .aload_n n => decide (len = 1) && s_lda L (n : Nat) (fun o => k (pc + 1) E F L (.inr (.inl o) :: S))
  | .aload n => decide (len = 2) && s_lda L n (fun o => k (pc + 2) E F L (.inr (.inl o) :: S))
  | .istore_n n => decide (len = 1) && s_1 S (fun a r => decide (s_lg L (n : Nat) = false) && (decide ((n : Nat) < L.length) && k (pc + 1) E F (L.set (n : Nat) (some (.inl a))) r))
  | .istore n => decide (len = 2) && s_1 S (fun a r => decide (s_lg L n = false) && (decide (n < L.length) && k (pc + 2) E F (L.set n (some (.inl a))) r))
  | .lstore_n n => decide (len = 1) && s_l S (fun r => decide (s_lg L (n : Nat) = false) && (decide ((n : Nat) + 1 < L.length) && k (pc + 1) E F ((L.set (n : Nat) (some (.inr (.inr true)))).set ((n : Nat) + 1) none) r))
  | .lstore n => decide (len = 2) && s_l S (fun r => decide (s_lg L n = false) && (decide (n + 1 < L.length) && k (pc + 2) E F ((L.set n (some (.inr (.inr true)))).set (n + 1) none) r))
  | .astore_n n => decide (len = 1) && s_a S (fun o r => decide (s_lg L (n : Nat) = false) && (decide ((n : Nat) < L.length) && k (pc + 1) E F (L.set (n : Nat) (some (.inr (.inl o)))) r))
  | .astore n => decide (len = 2) && s_a S (fun o r => decide (s_lg L n = false) && (decide (n < L.length) && k (pc + 2) E F (L.set n (some (.inr (.inl o)))) r))
  | .iinc n c => decide (len = 3) && (decide (-2147483648 ≤ c ∧ c ≤ 2147483647) && s_ldi L n (fun a => decide (s_lg L n = false) && (decide (n < L.length) && k (pc + 3) (sa_add E a (0, c)).1 F (L.set n (some (sa_add E a (0, c)).2)) S)))
  | .imul => decide (len = 1) && s_2 S (fun x y r => if Fk.contains pc then s_fmul E x y (fun E1 q => k (pc + 1) E1 F L (.inl q :: r)) else k (pc + 1) (sa_mul E x y).1 F L ((sa_mul E x y).2 :: r))
  | .iadd => decide (len = 1) && s_2 S (fun x y r => k (pc + 1) (sa_add E x y).1 F L ((sa_add E x y).2 :: r))
  | .isub => decide (len = 1) && s_2 S (fun x y r => k (pc + 1) (sa_sub E x y).1 F L ((sa_sub E x y).2 :: r))
  | .iand => decide (len = 1) && s_2 S (fun x y r => k (pc + 1) (sa_and E x y).1 F L ((sa_and E x y).2 :: r))
  | .ior => decide (len = 1) && s_2 S (fun _ _ r => k (pc + 1) (sa_fr E sa_full).1 F L ((sa_fr E sa_full).2 :: r))
  | .ixor => decide (len = 1) && s_2 S (fun _ _ r => k (pc + 1) (sa_fr E sa_full).1 F L ((sa_fr E sa_full).2 :: r))
  | .ishl => decide (len = 1) && s_2 S (fun x y r => k (pc + 1) (sa_shl E x y).1 F L ((sa_shl E x y).2 :: r))
  | .ishr => decide (len = 1) && s_2 S (fun x y r => k (pc + 1) (sa_shr E x y).1 F L ((sa_shr E x y).2 :: r))
  | .iushr => decide (len = 1) && s_2 S (fun _ _ r => k (pc + 1) (sa_fr E sa_full).1 F L ((sa_fr E sa_full).2 :: r))
  | .idiv => decide (len = 1) && s_2 S (fun x y r => s_nz E y && k (pc + 1) (sa_div E x y).1 F L ((sa_div E x y).2 :: r))
  | .irem => decide (len = 1) && s_2 S (fun x y r => s_nz E y && k (pc + 1) (sa_rem E x y).1 F L ((sa_rem E x y).2 :: r))
  | .ladd => decide (len = 1) && s_l S (fun r1 => s_l r1 (fun r => k (pc + 1) E F L (.inr (.inr true) :: r)))
  | .lmul => decide (len = 1) && s_l S (fun r1 => s_l r1 (fun r => k (pc + 1) E F L (.inr (.inr true) :: r)))
  | .lcmp => decide (len = 1) && s_l S (fun r1 => s_l r1 (fun r => k (pc + 1) (sa_fr E sa_full).1 F L ((sa_fr E sa_full).2 :: r)))
  | .i2l => decide (len = 1) && s_1 S (fun _ r => k (pc + 1) E F L (.inr (.inr true) :: r))
  | .i2b => decide (len = 1) && s_1 S (fun _ r => k (pc + 1) (sa_fr E (-128, 127)).1 F L ((sa_fr E (-128, 127)).2 :: r))
  | .l2i => decide (len = 1) && s_l S (fun r => k (pc + 1) (sa_fr E sa_full).1 F L ((sa_fr E sa_full).2 :: r))
  | .dup => decide (len = 1) && s_v S (fun a r => decide (s_cat a = 1) && k (pc + 1) E F L (a :: a :: r))
  | .pop => decide (len = 1) && s_v S (fun a r => decide (s_cat a = 1) && k (pc + 1) E F L r)
  | .dup2 => decide (len = 1) && s_v S (fun a r1 => s_v r1 (fun b r => decide (s_cat a = 1) && (decide (s_cat b = 1) && k (pc + 1) E F L (a :: b :: a :: b :: r))))
  | .ifCond .eq off => decide (len = 3) && s_1 S (fun x r => s_tg pc off (fun t => sa_cmp E 0 x (0, 0) (fun E1 => k t E1 F L r)) && sa_cmp E 1 x (0, 0) (fun E1 => k (pc + 3) E1 F L r))
  | .if_icmp .eq off => decide (len = 3) && s_2 S (fun x y r => s_tg pc off (fun t => sa_cmp E 0 x y (fun E1 => k t E1 F L r)) && sa_cmp E 1 x y (fun E1 => k (pc + 3) E1 F L r))
  | .ifCond .ne off => decide (len = 3) && s_1 S (fun x r => s_tg pc off (fun t => sa_cmp E 1 x (0, 0) (fun E1 => k t E1 F L r)) && sa_cmp E 0 x (0, 0) (fun E1 => k (pc + 3) E1 F L r))
  | .if_icmp .ne off => decide (len = 3) && s_2 S (fun x y r => s_tg pc off (fun t => sa_cmp E 1 x y (fun E1 => k t E1 F L r)) && sa_cmp E 0 x y (fun E1 => k (pc + 3) E1 F L r))
  | .ifCond .lt off => decide (len = 3) && s_1 S (fun x r => s_tg pc off (fun t => sa_cmp E 2 x (0, 0) (fun E1 => k t E1 F L r)) && sa_cmp E 3 (0, 0) x (fun E1 => k (pc + 3) E1 F L r))
  | .if_icmp .lt off => decide (len = 3) && s_2 S (fun x y r => s_tg pc off (fun t => sa_cmp E 2 x y (fun E1 => k t E1 F L r)) && sa_cmp E 3 y x (fun E1 => k (pc + 3) E1 F L r))
  | .ifCond .ge off => decide (len = 3) && s_1 S (fun x r => s_tg pc off (fun t => sa_cmp E 3 (0, 0) x (fun E1 => k t E1 F L r)) && sa_cmp E 2 x (0, 0) (fun E1 => k (pc + 3) E1 F L r))
  | .if_icmp .ge off => decide (len = 3) && s_2 S (fun x y r => s_tg pc off (fun t => sa_cmp E 3 y x (fun E1 => k t E1 F L r)) && sa_cmp E 2 x y (fun E1 => k (pc + 3) E1 F L r))
  | .ifCond .gt off => decide (len = 3) && s_1 S (fun x r => s_tg pc off (fun t => sa_cmp E 2 (0, 0) x (fun E1 => k t E1 F L r)) && sa_cmp E 3 x (0, 0) (fun E1 => k (pc + 3) E1 F L r))
  | .if_icmp .gt off => decide (len = 3) && s_2 S (fun x y r => s_tg pc off (fun t => sa_cmp E 2 y x (fun E1 => k t E1 F L r)) && sa_cmp E 3 x y (fun E1 => k (pc + 3) E1 F L r))
  | .ifCond .le off => decide (len = 3) && s_1 S (fun x r => s_tg pc off (fun t => sa_cmp E 3 x (0, 0) (fun E1 => k t E1 F L r)) && sa_cmp E 2 (0, 0) x (fun E1 => k (pc + 3) E1 F L r))
  | .if_icmp .le off => decide (len = 3) && s_2 S (fun x y r => s_tg pc off (fun t => sa_cmp E 3 x y (fun E1 => k t E1 F L r)) && sa_cmp E 2 y x (fun E1 => k (pc + 3) E1 F L r))
  | .goto off => decide (len = 3) && s_tg pc off (fun t => k t E F L S)
  | .tableswitch d lo hi offs => s_1 S (fun x r => s_ts pc x (fun t E1 => k t E1 F L r) E offs.toList lo && (s_tg pc d (fun t => k t E F L r) && decide ((offs.size : Int) = hi - lo + 1)))
  | .lookupswitch d ps => s_1 S (fun x r => decide ((ps.toList.zip (ps.toList.drop 1)).all (fun (a, next) => a.1 < next.1) = true) && s_ls pc x d (fun t E1 => k t E1 F L r) E ps.toList)
  | .ireturn => decide (len = 1) && s_1 S (fun a r => r.isEmpty && (s_ri (am_rt X) E a && ret E F (some (.inl a))))
  | .lreturn => decide (len = 1) && s_l S (fun r => r.isEmpty && (s_rl (am_rt X) && ret E F (some (.inr (.inr true)))))
  | .return_ => decide (len = 1) && (S.isEmpty && ((am_rt X).isNone && ret E F none))
  | .getfield ix => decide (len = 3) && s_a S (fun o r => decide (o < N) && (match am_find (am_FT X) ix with
    | none => false
    | some q => decide (am_SH X o = .inl q.1) && (match (am_KF X o)[q.2]? with
      | none => false
      | some kd => t_get B o q.2 kd E F (fun E1 F1 v => k (pc + 3) E1 F1 L (v :: r)))))
  | .putfield ix => decide (len = 3) && s_v S (fun v r1 => s_a r1 (fun o r => decide (o < N) && (match am_find (am_PT X) ix with
    | none => false
    | some q => decide (am_SH X o = .inl q.1) && (match (am_KF X o)[q.2]? with
      | none => false
      | some kd => t_put B M o q.2 kd E F v (fun F1 => k (pc + 3) E F1 L r)))))
  | .arraylength => decide (len = 1) && s_a S (fun o r => decide (o < N) && (match am_SH X o with
    | .inl _ => false
    | .inr q => decide (q.1 < 4 ∧ q.2 ≤ 2147483647) && k (pc + 1) E F L (.inl (0, (q.2 : Int)) :: r)))
  | .iaload => decide (len = 1) && s_1 S (fun i r1 => s_a r1 (fun o r => decide (o < N) && (match am_SH X o with
    | .inl _ => false
    | .inr q => decide (q.1 = 0) && (sa_inB E (0, (q.2 : Int) - 1) i && k (pc + 1) (t_ld B o i E F).1 (t_ld B o i E F).2.1 L ((t_ld B o i E F).2.2 :: r)))))
  | .baload => decide (len = 1) && s_1 S (fun i r1 => s_a r1 (fun o r => decide (o < N) && (match am_SH X o with
    | .inl _ => false
    | .inr q => decide (q.1 = 1 ∨ q.1 = 2) && (sa_inB E (0, (q.2 : Int) - 1) i && k (pc + 1) (t_ld B o i E F).1 (t_ld B o i E F).2.1 L ((t_ld B o i E F).2.2 :: r)))))
  | .laload => decide (len = 1) && s_1 S (fun i r1 => s_a r1 (fun o r => decide (o < N) && (match am_SH X o with
    | .inl _ => false
    | .inr q => decide (q.1 = 3) && (sa_inB E (0, (q.2 : Int) - 1) i && k (pc + 1) E F L (.inr (.inr true) :: r)))))
  | .iastore => decide (len = 1) && s_1 S (fun a r1 => s_1 r1 (fun i r2 => s_a r2 (fun o r => decide (o < N) && (match am_SH X o with
    | .inl _ => false
    | .inr q => decide (q.1 = 0) && (sa_inB E (0, (q.2 : Int) - 1) i && (s_mod M o (sa_h E i).1 (sa_h E i).2 && (sb_st B o (sa_h E i) (sa_h E a) && k (pc + 1) E ((o, t_nm E i, a) :: t_fd F o (t_nm E i)) L r)))))))
  | .bastore => decide (len = 1) && s_1 S (fun a r1 => s_1 r1 (fun i r2 => s_a r2 (fun o r => decide (o < N) && (match am_SH X o with
    | .inl _ => false
    | .inr q => decide (q.1 = 1 ∨ q.1 = 2) && (sa_inB E (0, (q.2 : Int) - 1) i && (s_mod M o (sa_h E i).1 (sa_h E i).2 && (sb_st B o (sa_h E i) (if q.1 = 1 then (-128, 127) else (0, 1)) && k (pc + 1) E (t_fd F o (t_nm E i)) L r)))))))
  | .lastore => decide (len = 1) && s_l S (fun r1 => s_1 r1 (fun i r2 => s_a r2 (fun o r => decide (o < N) && (match am_SH X o with
    | .inl _ => false
    | .inr q => decide (q.1 = 3) && (sa_inB E (0, (q.2 : Int) - 1) i && (s_mod M o (sa_h E i).1 (sa_h E i).2 && (true && k (pc + 1) E F L r)))))))
  | .invokevirtual ix => decide (len = 3) && (match am_find (am_NT X) ix with
    | some w => t_nat (am_SH X) B N M w 2 E F S (fun E1 F1 S1 => k (pc + 3) E1 F1 L S1)
    | none => t_call (am_SH X) N CS 0 3 ix E F S (fun E1 F1 S1 => k (pc + 3) E1 F1 L S1))
  | .invokestatic ix => decide (len = 3) && (match am_find (am_NT X) ix with
    | some w => t_nat (am_SH X) B N M w 1 E F S (fun E1 F1 S1 => k (pc + 3) E1 F1 L S1)
    | none => t_call (am_SH X) N CS 1 4 ix E F S (fun E1 F1 S1 => k (pc + 3) E1 F1 L S1))
  | .invokespecial ix => decide (len = 3) && (match am_find (am_NT X) ix with
    | some w => t_nat (am_SH X) B N M w 0 E F S (fun E1 F1 S1 => k (pc + 3) E1 F1 L S1)
    | none => t_call (am_SH X) N CS 2 5 ix E F S (fun E1 F1 S1 => k (pc + 3) E1 F1 L S1))
  | _ => false
section
variable {X : am_X} {B : sa_I} {N : Nat} {CS : ta_C} {M : sa_M} {Fk : List Nat} {ret : sa_E → ta_F → Option sa_V → Bool} {σ0 : am_S} {post : Option Value → am_S → Prop} {K : Nat → List (Option Value) → List Value → Nat → am_S → Prop}
set_option maxHeartbeats 4000000 in
theorem t_one_ok {i : Instr} {len pc : Nat} {E : sa_E} {ρ : Nat → Int} {F : ta_F} {L : List (Option sa_V)} {S : List sa_V} {ls : List (Option Value)} {stk : List Value} {σ : am_S} {k : Nat → sa_E → ta_F → List (Option sa_V) → List sa_V → Bool}
    (hCS : ∀ ix q, am_find CS ix = some q → ∃ sp, am_find (am_ML X) ix = some (q.1, q.2.1, q.2.2.1, 0, 0, sp) ∧ t_hs B (am_SH X) N M σ0 q.2.2.2 sp)
    (hret : ∀ v' v, ret E F v' = true → sv_o E ρ v' v → post v σ)
    (hk : ∀ pc' E' F' L' S', k pc' E' F' L' S' = true → ∀ ρ' ls' st' τ, sx E ρ E' ρ' → sg_E E' ρ' → tg_F E' ρ' F' τ → sg_L E' ρ' L' ls' → sg_S E' ρ' S' st' → sI B (am_SH X) M σ0 τ → K pc' ls' st' N τ)
    (hE : sg_E E ρ) (hF : tg_F E ρ F σ) (hL : sg_L E ρ L ls) (hS : sg_S E ρ S stk) (hI : sI B (am_SH X) M σ0 σ) (h : t_one X B N CS M Fk ret i len pc E F L S k = true) : am_one X N post i len pc ls stk N σ K := by
  cases i
  case iconst v =>
    simp only [t_one, Bool.and_eq_true, decide_eq_true_eq] at h
    obtain ⟨h1, ⟨h2, h3⟩, h4⟩ := h
    exact ⟨h1, hk _ _ _ _ _ h4 ρ _ _ _ (sx_r E ρ) hE hF hL ⟨⟨hE.1, _, rfl, by rw [ii_t (by omega) (by omega), hE.2.1]; omega⟩, hS⟩ hI⟩
  case bipush v =>
    simp only [t_one, Bool.and_eq_true, decide_eq_true_eq] at h
    obtain ⟨h1, ⟨h2, h3⟩, h4⟩ := h
    exact ⟨h1, ⟨h2, h3⟩, hk _ _ _ _ _ h4 ρ _ _ _ (sx_r E ρ) hE hF hL ⟨⟨hE.1, _, rfl, by rw [ii_t (by omega) (by omega), hE.2.1]; omega⟩, hS⟩ hI⟩
  case sipush v =>
    simp only [t_one, Bool.and_eq_true, decide_eq_true_eq] at h
    obtain ⟨h1, ⟨h2, h3⟩, h4⟩ := h
    exact ⟨h1, ⟨h2, h3⟩, hk _ _ _ _ _ h4 ρ _ _ _ (sx_r E ρ) hE hF hL ⟨⟨hE.1, _, rfl, by rw [ii_t (by omega) (by omega), hE.2.1]; omega⟩, hS⟩ hI⟩
  case lconst v =>
    simp only [t_one, Bool.and_eq_true, decide_eq_true_eq] at h
    exact ⟨h.1, hk _ _ _ _ _ h.2 ρ _ _ _ (sx_r E ρ) hE hF hL ⟨⟨_, rfl⟩, hS⟩ hI⟩
  case ldc ix =>
    simp only [t_one, Bool.and_eq_true, decide_eq_true_eq] at h
    obtain ⟨h1, h2⟩ := h
    refine ⟨h1, ?_⟩
    cases hf : am_find (am_KT X) ix with
    | none => rw [hf] at h2; cases h2
    | some v =>
      rw [hf] at h2
      exact hk _ _ _ _ _ h2 ρ _ _ _ (sx_r E ρ) hE hF hL ⟨⟨hE.1, v, rfl, by show v.toInt = ρ 0 + v.toInt; rw [hE.2.1]; omega⟩, hS⟩ hI
  case ldc_w ix =>
    simp only [t_one, Bool.and_eq_true, decide_eq_true_eq] at h
    obtain ⟨h1, h2⟩ := h
    refine ⟨h1, ?_⟩
    cases hf : am_find (am_KT X) ix with
    | none => rw [hf] at h2; cases h2
    | some v =>
      rw [hf] at h2
      exact hk _ _ _ _ _ h2 ρ _ _ _ (sx_r E ρ) hE hF hL ⟨⟨hE.1, v, rfl, by show v.toInt = ρ 0 + v.toInt; rw [hE.2.1]; omega⟩, hS⟩ hI
  case ldc2_w ix =>
    simp only [t_one, Bool.and_eq_true, decide_eq_true_eq] at h
    obtain ⟨h1, h2⟩ := h
    refine ⟨h1, ?_⟩
    cases hf : am_find (am_LT X) ix with
    | none => rw [hf] at h2; cases h2
    | some v =>
      rw [hf] at h2
      exact hk _ _ _ _ _ h2 ρ _ _ _ (sx_r E ρ) hE hF hL ⟨⟨v, rfl⟩, hS⟩ hI
  case iload_n n =>
    simp only [t_one, Bool.and_eq_true, decide_eq_true_eq] at h
    obtain ⟨h1, h2⟩ := h
    obtain ⟨a, x, g1, g2, g3⟩ := s_ldi_ok hL h2
    refine ⟨h1, ?_⟩
    simp only [am_ldi, g2]
    split at g1
    · obtain ⟨E1, q1, q2, q3⟩ := s_fork_ok hE g3.2 g1
      exact hk _ _ _ _ _ q1 ρ _ _ _ (sx_l q3) q2 (tg_F_x (sx_l q3) hF) (sg_L_x (sx_l q3) hL) ⟨sg_V_x (sx_l q3) (a := .inl a) ⟨g3.1, x, rfl, g3.2⟩, sg_S_x (sx_l q3) hS⟩ hI
    · exact hk _ _ _ _ _ g1 ρ _ _ _ (sx_r E ρ) hE hF hL ⟨⟨g3.1, x, rfl, g3.2⟩, hS⟩ hI
  case iload n =>
    simp only [t_one, Bool.and_eq_true, decide_eq_true_eq] at h
    obtain ⟨h1, h2⟩ := h
    obtain ⟨a, x, g1, g2, g3⟩ := s_ldi_ok hL h2
    refine ⟨h1, ?_⟩
    simp only [am_ldi, g2]
    split at g1
    · obtain ⟨E1, q1, q2, q3⟩ := s_fork_ok hE g3.2 g1
      exact hk _ _ _ _ _ q1 ρ _ _ _ (sx_l q3) q2 (tg_F_x (sx_l q3) hF) (sg_L_x (sx_l q3) hL) ⟨sg_V_x (sx_l q3) (a := .inl a) ⟨g3.1, x, rfl, g3.2⟩, sg_S_x (sx_l q3) hS⟩ hI
    · exact hk _ _ _ _ _ g1 ρ _ _ _ (sx_r E ρ) hE hF hL ⟨⟨g3.1, x, rfl, g3.2⟩, hS⟩ hI
  case lload_n n =>
    simp only [t_one, Bool.and_eq_true, decide_eq_true_eq] at h
    obtain ⟨h1, h2⟩ := h
    obtain ⟨g1, y, g2⟩ := s_ldl_ok hL h2
    refine ⟨h1, ?_⟩
    simp only [am_ldl, g2]
    exact hk _ _ _ _ _ g1 ρ _ _ _ (sx_r E ρ) hE hF hL ⟨⟨y, rfl⟩, hS⟩ hI
  case lload n =>
    simp only [t_one, Bool.and_eq_true, decide_eq_true_eq] at h
    obtain ⟨h1, h2⟩ := h
    obtain ⟨g1, y, g2⟩ := s_ldl_ok hL h2
    refine ⟨h1, ?_⟩
    simp only [am_ldl, g2]
    exact hk _ _ _ _ _ g1 ρ _ _ _ (sx_r E ρ) hE hF hL ⟨⟨y, rfl⟩, hS⟩ hI
  case aload_n n =>
    simp only [t_one, Bool.and_eq_true, decide_eq_true_eq] at h
    obtain ⟨h1, h2⟩ := h
    obtain ⟨o, g1, g2⟩ := s_lda_ok hL h2
    refine ⟨h1, ?_⟩
    simp only [am_lda, g2]
    exact hk _ _ _ _ _ g1 ρ _ _ _ (sx_r E ρ) hE hF hL ⟨rfl, hS⟩ hI
  case aload n =>
    simp only [t_one, Bool.and_eq_true, decide_eq_true_eq] at h
    obtain ⟨h1, h2⟩ := h
    obtain ⟨o, g1, g2⟩ := s_lda_ok hL h2
    refine ⟨h1, ?_⟩
    simp only [am_lda, g2]
    exact hk _ _ _ _ _ g1 ρ _ _ _ (sx_r E ρ) hE hF hL ⟨rfl, hS⟩ hI
  case istore_n n =>
    simp only [t_one, Bool.and_eq_true, decide_eq_true_eq] at h
    obtain ⟨h1, h2⟩ := h
    obtain ⟨a, r, x, st', g1, rfl, g3, g4⟩ := s_1_ok hS h2
    simp only [Bool.and_eq_true, decide_eq_true_eq] at g1
    exact ⟨h1, s_lg_ok hL g1.1, by rw [hL.1]; exact g1.2.1, hk _ _ _ _ _ g1.2.2 ρ _ _ _ (sx_r E ρ) hE hF (sg_L_set hL ⟨g3.1, x, rfl, g3.2⟩) g4 hI⟩
  case istore n =>
    simp only [t_one, Bool.and_eq_true, decide_eq_true_eq] at h
    obtain ⟨h1, h2⟩ := h
    obtain ⟨a, r, x, st', g1, rfl, g3, g4⟩ := s_1_ok hS h2
    simp only [Bool.and_eq_true, decide_eq_true_eq] at g1
    exact ⟨h1, s_lg_ok hL g1.1, by rw [hL.1]; exact g1.2.1, hk _ _ _ _ _ g1.2.2 ρ _ _ _ (sx_r E ρ) hE hF (sg_L_set hL ⟨g3.1, x, rfl, g3.2⟩) g4 hI⟩
  case lstore_n n =>
    simp only [t_one, Bool.and_eq_true, decide_eq_true_eq] at h
    obtain ⟨h1, h2⟩ := h
    obtain ⟨r, y, st', g1, rfl, g4⟩ := s_l_ok hS h2
    simp only [Bool.and_eq_true, decide_eq_true_eq] at g1
    exact ⟨h1, s_lg_ok hL g1.1, by rw [hL.1]; exact g1.2.1, hk _ _ _ _ _ g1.2.2 ρ _ _ _ (sx_r E ρ) hE hF (sg_L_setn (sg_L_set hL ⟨y, rfl⟩)) g4 hI⟩
  case lstore n =>
    simp only [t_one, Bool.and_eq_true, decide_eq_true_eq] at h
    obtain ⟨h1, h2⟩ := h
    obtain ⟨r, y, st', g1, rfl, g4⟩ := s_l_ok hS h2
    simp only [Bool.and_eq_true, decide_eq_true_eq] at g1
    exact ⟨h1, s_lg_ok hL g1.1, by rw [hL.1]; exact g1.2.1, hk _ _ _ _ _ g1.2.2 ρ _ _ _ (sx_r E ρ) hE hF (sg_L_setn (sg_L_set hL ⟨y, rfl⟩)) g4 hI⟩
  case astore_n n =>
    simp only [t_one, Bool.and_eq_true, decide_eq_true_eq] at h
    obtain ⟨h1, h2⟩ := h
    obtain ⟨o, r, st', g1, rfl, g4⟩ := s_a_ok hS h2
    simp only [Bool.and_eq_true, decide_eq_true_eq] at g1
    exact ⟨h1, s_lg_ok hL g1.1, by rw [hL.1]; exact g1.2.1, hk _ _ _ _ _ g1.2.2 ρ _ _ _ (sx_r E ρ) hE hF (sg_L_set hL rfl) g4 hI⟩
  case astore n =>
    simp only [t_one, Bool.and_eq_true, decide_eq_true_eq] at h
    obtain ⟨h1, h2⟩ := h
    obtain ⟨o, r, st', g1, rfl, g4⟩ := s_a_ok hS h2
    simp only [Bool.and_eq_true, decide_eq_true_eq] at g1
    exact ⟨h1, s_lg_ok hL g1.1, by rw [hL.1]; exact g1.2.1, hk _ _ _ _ _ g1.2.2 ρ _ _ _ (sx_r E ρ) hE hF (sg_L_set hL rfl) g4 hI⟩
  case iinc n c =>
    simp only [t_one, Bool.and_eq_true, decide_eq_true_eq] at h
    obtain ⟨h1, h0, h2⟩ := h
    obtain ⟨a, x, g1, g2, g3⟩ := s_ldi_ok hL h2
    simp only [Bool.and_eq_true, decide_eq_true_eq] at g1
    refine ⟨h1, ?_⟩
    simp only [am_ldi, g2]
    obtain ⟨ρ', q1, q2, q3⟩ := sa_add_ok (x := a) (y := (0, c)) (a := x) (b := Int32.ofInt c) hE ⟨g3, hE.1, by rw [ii_t (by omega) (by omega), hE.2.1]; omega⟩
    exact ⟨s_lg_ok hL g1.1, by rw [hL.1]; exact g1.2.1, hk _ _ _ _ _ g1.2.2 ρ' _ _ _ q1 q2 (tg_F_x q1 hF) (sg_L_set (sg_L_x q1 hL) q3) (sg_S_x q1 hS) hI⟩
  case imul  =>
    simp only [t_one, Bool.and_eq_true, decide_eq_true_eq] at h
    obtain ⟨h1, h2⟩ := h
    obtain ⟨x, y, r, a, b, st', g1, rfl, g3, g4⟩ := s_2_ok hS h2
    split at g1
    · obtain ⟨E1, q, q1, q2, q3, q4, q5⟩ := s_fmul_ok hE g3 g1
      exact ⟨h1, hk _ _ _ _ _ q1 ρ _ _ _ (sx_l q3) q2 (tg_F_x (sx_l q3) hF) (sg_L_x (sx_l q3) hL) ⟨⟨q4, _, rfl, q5⟩, sg_S_x (sx_l q3) g4⟩ hI⟩
    · obtain ⟨ρ', q1, q2, q3⟩ := sa_mul_ok hE g3
      exact ⟨h1, hk _ _ _ _ _ g1 ρ' _ _ _ q1 q2 (tg_F_x q1 hF) (sg_L_x q1 hL) ⟨q3, sg_S_x q1 g4⟩ hI⟩
  case iadd  =>
    simp only [t_one, Bool.and_eq_true, decide_eq_true_eq] at h
    obtain ⟨h1, h2⟩ := h
    obtain ⟨x, y, r, a, b, st', g1, rfl, g3, g4⟩ := s_2_ok hS h2
    obtain ⟨ρ', q1, q2, q3⟩ := sa_add_ok hE g3
    exact ⟨h1, hk _ _ _ _ _ g1 ρ' _ _ _ q1 q2 (tg_F_x q1 hF) (sg_L_x q1 hL) ⟨q3, sg_S_x q1 g4⟩ hI⟩
  case isub  =>
    simp only [t_one, Bool.and_eq_true, decide_eq_true_eq] at h
    obtain ⟨h1, h2⟩ := h
    obtain ⟨x, y, r, a, b, st', g1, rfl, g3, g4⟩ := s_2_ok hS h2
    obtain ⟨ρ', q1, q2, q3⟩ := sa_sub_ok hE g3
    exact ⟨h1, hk _ _ _ _ _ g1 ρ' _ _ _ q1 q2 (tg_F_x q1 hF) (sg_L_x q1 hL) ⟨q3, sg_S_x q1 g4⟩ hI⟩
  case iand  =>
    simp only [t_one, Bool.and_eq_true, decide_eq_true_eq] at h
    obtain ⟨h1, h2⟩ := h
    obtain ⟨x, y, r, a, b, st', g1, rfl, g3, g4⟩ := s_2_ok hS h2
    obtain ⟨ρ', q1, q2, q3⟩ := sa_and_ok hE g3
    exact ⟨h1, hk _ _ _ _ _ g1 ρ' _ _ _ q1 q2 (tg_F_x q1 hF) (sg_L_x q1 hL) ⟨q3, sg_S_x q1 g4⟩ hI⟩
  case ior  =>
    simp only [t_one, Bool.and_eq_true, decide_eq_true_eq] at h
    obtain ⟨h1, h2⟩ := h
    obtain ⟨x, y, r, a, b, st', g1, rfl, g3, g4⟩ := s_2_ok hS h2
    obtain ⟨ρ', q1, q2, q3⟩ := sa_full_ok _ hE
    exact ⟨h1, hk _ _ _ _ _ g1 ρ' _ _ _ q1 q2 (tg_F_x q1 hF) (sg_L_x q1 hL) ⟨q3, sg_S_x q1 g4⟩ hI⟩
  case ixor  =>
    simp only [t_one, Bool.and_eq_true, decide_eq_true_eq] at h
    obtain ⟨h1, h2⟩ := h
    obtain ⟨x, y, r, a, b, st', g1, rfl, g3, g4⟩ := s_2_ok hS h2
    obtain ⟨ρ', q1, q2, q3⟩ := sa_full_ok _ hE
    exact ⟨h1, hk _ _ _ _ _ g1 ρ' _ _ _ q1 q2 (tg_F_x q1 hF) (sg_L_x q1 hL) ⟨q3, sg_S_x q1 g4⟩ hI⟩
  case ishl  =>
    simp only [t_one, Bool.and_eq_true, decide_eq_true_eq] at h
    obtain ⟨h1, h2⟩ := h
    obtain ⟨x, y, r, a, b, st', g1, rfl, g3, g4⟩ := s_2_ok hS h2
    obtain ⟨ρ', q1, q2, q3⟩ := sa_shl_ok hE g3
    exact ⟨h1, hk _ _ _ _ _ g1 ρ' _ _ _ q1 q2 (tg_F_x q1 hF) (sg_L_x q1 hL) ⟨q3, sg_S_x q1 g4⟩ hI⟩
  case ishr  =>
    simp only [t_one, Bool.and_eq_true, decide_eq_true_eq] at h
    obtain ⟨h1, h2⟩ := h
    obtain ⟨x, y, r, a, b, st', g1, rfl, g3, g4⟩ := s_2_ok hS h2
    obtain ⟨ρ', q1, q2, q3⟩ := sa_shr_ok hE g3
    exact ⟨h1, hk _ _ _ _ _ g1 ρ' _ _ _ q1 q2 (tg_F_x q1 hF) (sg_L_x q1 hL) ⟨q3, sg_S_x q1 g4⟩ hI⟩
  case iushr  =>
    simp only [t_one, Bool.and_eq_true, decide_eq_true_eq] at h
    obtain ⟨h1, h2⟩ := h
    obtain ⟨x, y, r, a, b, st', g1, rfl, g3, g4⟩ := s_2_ok hS h2
    obtain ⟨ρ', q1, q2, q3⟩ := sa_full_ok _ hE
    exact ⟨h1, hk _ _ _ _ _ g1 ρ' _ _ _ q1 q2 (tg_F_x q1 hF) (sg_L_x q1 hL) ⟨q3, sg_S_x q1 g4⟩ hI⟩
  case idiv  =>
    simp only [t_one, Bool.and_eq_true, decide_eq_true_eq] at h
    obtain ⟨h1, h2⟩ := h
    obtain ⟨x, y, r, a, b, st', g1, rfl, g3, g4⟩ := s_2_ok hS h2
    simp only [Bool.and_eq_true] at g1
    obtain ⟨ρ', q1, q2, q3⟩ := sa_div_ok hE g3
    exact ⟨h1, s_nz_ok hE g3.2.2 g1.1, hk _ _ _ _ _ g1.2 ρ' _ _ _ q1 q2 (tg_F_x q1 hF) (sg_L_x q1 hL) ⟨q3, sg_S_x q1 g4⟩ hI⟩
  case irem  =>
    simp only [t_one, Bool.and_eq_true, decide_eq_true_eq] at h
    obtain ⟨h1, h2⟩ := h
    obtain ⟨x, y, r, a, b, st', g1, rfl, g3, g4⟩ := s_2_ok hS h2
    simp only [Bool.and_eq_true] at g1
    obtain ⟨ρ', q1, q2, q3⟩ := sa_rem_ok hE g3
    exact ⟨h1, s_nz_ok hE g3.2.2 g1.1, hk _ _ _ _ _ g1.2 ρ' _ _ _ q1 q2 (tg_F_x q1 hF) (sg_L_x q1 hL) ⟨q3, sg_S_x q1 g4⟩ hI⟩
  case ladd  =>
    simp only [t_one, Bool.and_eq_true, decide_eq_true_eq] at h
    obtain ⟨h1, h2⟩ := h
    obtain ⟨r1, y, st1, g1, rfl, g3⟩ := s_l_ok hS h2
    obtain ⟨r, x, st', g4, rfl, g6⟩ := s_l_ok g3 g1
    exact ⟨h1, hk _ _ _ _ _ g4 ρ _ _ _ (sx_r E ρ) hE hF hL ⟨⟨_, rfl⟩, g6⟩ hI⟩
  case lmul  =>
    simp only [t_one, Bool.and_eq_true, decide_eq_true_eq] at h
    obtain ⟨h1, h2⟩ := h
    obtain ⟨r1, y, st1, g1, rfl, g3⟩ := s_l_ok hS h2
    obtain ⟨r, x, st', g4, rfl, g6⟩ := s_l_ok g3 g1
    exact ⟨h1, hk _ _ _ _ _ g4 ρ _ _ _ (sx_r E ρ) hE hF hL ⟨⟨_, rfl⟩, g6⟩ hI⟩
  case lcmp  =>
    simp only [t_one, Bool.and_eq_true, decide_eq_true_eq] at h
    obtain ⟨h1, h2⟩ := h
    obtain ⟨r1, y, st1, g1, rfl, g3⟩ := s_l_ok hS h2
    obtain ⟨r, x, st', g4, rfl, g6⟩ := s_l_ok g3 g1
    obtain ⟨ρ', q1, q2, q3⟩ := sa_full_ok (lg_cmp x y) hE
    exact ⟨h1, hk _ _ _ _ _ g4 ρ' _ _ _ q1 q2 (tg_F_x q1 hF) (sg_L_x q1 hL) ⟨q3, sg_S_x q1 g6⟩ hI⟩
  case i2l  =>
    simp only [t_one, Bool.and_eq_true, decide_eq_true_eq] at h
    obtain ⟨h1, h2⟩ := h
    obtain ⟨a, r, x, st', g1, rfl, g3, g4⟩ := s_1_ok hS h2
    exact ⟨h1, hk _ _ _ _ _ g1 ρ _ _ _ (sx_r E ρ) hE hF hL ⟨⟨_, rfl⟩, g4⟩ hI⟩
  case i2b  =>
    simp only [t_one, Bool.and_eq_true, decide_eq_true_eq] at h
    obtain ⟨h1, h2⟩ := h
    obtain ⟨a, r, x, st', g1, rfl, g3, g4⟩ := s_1_ok hS h2
    obtain ⟨ρ', q1, q2, q3⟩ := sa_fr_ok (b := (-128, 127)) hE (ti_i2b x)
    exact ⟨h1, hk _ _ _ _ _ g1 ρ' _ _ _ q1 q2 (tg_F_x q1 hF) (sg_L_x q1 hL) ⟨q3, sg_S_x q1 g4⟩ hI⟩
  case l2i  =>
    simp only [t_one, Bool.and_eq_true, decide_eq_true_eq] at h
    obtain ⟨h1, h2⟩ := h
    obtain ⟨r, y, st', g1, rfl, g3⟩ := s_l_ok hS h2
    obtain ⟨ρ', q1, q2, q3⟩ := sa_full_ok y.toInt32 hE
    exact ⟨h1, hk _ _ _ _ _ g1 ρ' _ _ _ q1 q2 (tg_F_x q1 hF) (sg_L_x q1 hL) ⟨q3, sg_S_x q1 g3⟩ hI⟩
  case dup  =>
    simp only [t_one, Bool.and_eq_true, decide_eq_true_eq] at h
    obtain ⟨h1, h2⟩ := h
    obtain ⟨a, r, v, st', g1, rfl, g3, g4⟩ := s_v_ok hS h2
    simp only [Bool.and_eq_true, decide_eq_true_eq] at g1
    exact ⟨h1, by rw [s_cat_ok g3]; exact g1.1, hk _ _ _ _ _ g1.2 ρ _ _ _ (sx_r E ρ) hE hF hL ⟨g3, g3, g4⟩ hI⟩
  case pop  =>
    simp only [t_one, Bool.and_eq_true, decide_eq_true_eq] at h
    obtain ⟨h1, h2⟩ := h
    obtain ⟨a, r, v, st', g1, rfl, g3, g4⟩ := s_v_ok hS h2
    simp only [Bool.and_eq_true, decide_eq_true_eq] at g1
    exact ⟨h1, by rw [s_cat_ok g3]; exact g1.1, hk _ _ _ _ _ g1.2 ρ _ _ _ (sx_r E ρ) hE hF hL g4 hI⟩
  case dup2  =>
    simp only [t_one, Bool.and_eq_true, decide_eq_true_eq] at h
    obtain ⟨h1, h2⟩ := h
    obtain ⟨a, r1, v, st1, g1, rfl, g3, g4⟩ := s_v_ok hS h2
    obtain ⟨b, r, w, st', g5, rfl, g7, g8⟩ := s_v_ok g4 g1
    simp only [Bool.and_eq_true, decide_eq_true_eq] at g5
    exact ⟨h1, by rw [s_cat_ok g3]; exact g5.1, by rw [s_cat_ok g7]; exact g5.2.1, hk _ _ _ _ _ g5.2.2 ρ _ _ _ (sx_r E ρ) hE hF hL ⟨g3, g7, g3, g7, g8⟩ hI⟩
  case ifCond c off =>
    cases c
    case eq =>
      simp only [t_one, Bool.and_eq_true, decide_eq_true_eq] at h
      obtain ⟨h1, h2⟩ := h
      obtain ⟨x, r, a, st', g1, rfl, g3, g4⟩ := s_1_ok hS h2
      have hz0 : (0 : Int32).toInt = ρ ((0 : Nat), (0 : Int)).1 + ((0 : Nat), (0 : Int)).2 := by show (0 : Int) = ρ 0 + 0; rw [hE.2.1]; rfl
      simp only [Bool.and_eq_true] at g1
      obtain ⟨t, e1, e2⟩ := s_tg_ok g1.1
      refine ⟨h1, ?_⟩
      simp only [am_1]
      rw [am_tg_eq e1]
      refine ⟨fun hc => ?_, fun hc => ?_⟩
      · obtain ⟨E1, q1, q2, q3⟩ := sa_cmp_ok hE g3.2 hz0 (ra_eq hc) e2
        exact hk _ _ _ _ _ q1 ρ _ _ _ (sx_l q3) q2 (tg_F_x (sx_l q3) hF) (sg_L_x (sx_l q3) hL) (sg_S_x (sx_l q3) g4) hI
      · obtain ⟨E1, q1, q2, q3⟩ := sa_cmp_ok hE g3.2 hz0 (ra_ne hc) g1.2
        exact hk _ _ _ _ _ q1 ρ _ _ _ (sx_l q3) q2 (tg_F_x (sx_l q3) hF) (sg_L_x (sx_l q3) hL) (sg_S_x (sx_l q3) g4) hI
    case ne =>
      simp only [t_one, Bool.and_eq_true, decide_eq_true_eq] at h
      obtain ⟨h1, h2⟩ := h
      obtain ⟨x, r, a, st', g1, rfl, g3, g4⟩ := s_1_ok hS h2
      have hz0 : (0 : Int32).toInt = ρ ((0 : Nat), (0 : Int)).1 + ((0 : Nat), (0 : Int)).2 := by show (0 : Int) = ρ 0 + 0; rw [hE.2.1]; rfl
      simp only [Bool.and_eq_true] at g1
      obtain ⟨t, e1, e2⟩ := s_tg_ok g1.1
      refine ⟨h1, ?_⟩
      simp only [am_1]
      rw [am_tg_eq e1]
      refine ⟨fun hc => ?_, fun hc => ?_⟩
      · obtain ⟨E1, q1, q2, q3⟩ := sa_cmp_ok hE g3.2 hz0 (ra_ne hc) e2
        exact hk _ _ _ _ _ q1 ρ _ _ _ (sx_l q3) q2 (tg_F_x (sx_l q3) hF) (sg_L_x (sx_l q3) hL) (sg_S_x (sx_l q3) g4) hI
      · obtain ⟨E1, q1, q2, q3⟩ := sa_cmp_ok hE g3.2 hz0 (ra_nn hc) g1.2
        exact hk _ _ _ _ _ q1 ρ _ _ _ (sx_l q3) q2 (tg_F_x (sx_l q3) hF) (sg_L_x (sx_l q3) hL) (sg_S_x (sx_l q3) g4) hI
    case lt =>
      simp only [t_one, Bool.and_eq_true, decide_eq_true_eq] at h
      obtain ⟨h1, h2⟩ := h
      obtain ⟨x, r, a, st', g1, rfl, g3, g4⟩ := s_1_ok hS h2
      have hz0 : (0 : Int32).toInt = ρ ((0 : Nat), (0 : Int)).1 + ((0 : Nat), (0 : Int)).2 := by show (0 : Int) = ρ 0 + 0; rw [hE.2.1]; rfl
      simp only [Bool.and_eq_true] at g1
      obtain ⟨t, e1, e2⟩ := s_tg_ok g1.1
      refine ⟨h1, ?_⟩
      simp only [am_1]
      rw [am_tg_eq e1]
      refine ⟨fun hc => ?_, fun hc => ?_⟩
      · obtain ⟨E1, q1, q2, q3⟩ := sa_cmp_ok hE g3.2 hz0 (ra_lt hc) e2
        exact hk _ _ _ _ _ q1 ρ _ _ _ (sx_l q3) q2 (tg_F_x (sx_l q3) hF) (sg_L_x (sx_l q3) hL) (sg_S_x (sx_l q3) g4) hI
      · obtain ⟨E1, q1, q2, q3⟩ := sa_cmp_ok hE hz0 g3.2 (ra_nlt hc) g1.2
        exact hk _ _ _ _ _ q1 ρ _ _ _ (sx_l q3) q2 (tg_F_x (sx_l q3) hF) (sg_L_x (sx_l q3) hL) (sg_S_x (sx_l q3) g4) hI
    case ge =>
      simp only [t_one, Bool.and_eq_true, decide_eq_true_eq] at h
      obtain ⟨h1, h2⟩ := h
      obtain ⟨x, r, a, st', g1, rfl, g3, g4⟩ := s_1_ok hS h2
      have hz0 : (0 : Int32).toInt = ρ ((0 : Nat), (0 : Int)).1 + ((0 : Nat), (0 : Int)).2 := by show (0 : Int) = ρ 0 + 0; rw [hE.2.1]; rfl
      simp only [Bool.and_eq_true] at g1
      obtain ⟨t, e1, e2⟩ := s_tg_ok g1.1
      refine ⟨h1, ?_⟩
      simp only [am_1]
      rw [am_tg_eq e1]
      refine ⟨fun hc => ?_, fun hc => ?_⟩
      · obtain ⟨E1, q1, q2, q3⟩ := sa_cmp_ok hE hz0 g3.2 (ra_le hc) e2
        exact hk _ _ _ _ _ q1 ρ _ _ _ (sx_l q3) q2 (tg_F_x (sx_l q3) hF) (sg_L_x (sx_l q3) hL) (sg_S_x (sx_l q3) g4) hI
      · obtain ⟨E1, q1, q2, q3⟩ := sa_cmp_ok hE g3.2 hz0 (ra_nle hc) g1.2
        exact hk _ _ _ _ _ q1 ρ _ _ _ (sx_l q3) q2 (tg_F_x (sx_l q3) hF) (sg_L_x (sx_l q3) hL) (sg_S_x (sx_l q3) g4) hI
    case gt =>
      simp only [t_one, Bool.and_eq_true, decide_eq_true_eq] at h
      obtain ⟨h1, h2⟩ := h
      obtain ⟨x, r, a, st', g1, rfl, g3, g4⟩ := s_1_ok hS h2
      have hz0 : (0 : Int32).toInt = ρ ((0 : Nat), (0 : Int)).1 + ((0 : Nat), (0 : Int)).2 := by show (0 : Int) = ρ 0 + 0; rw [hE.2.1]; rfl
      simp only [Bool.and_eq_true] at g1
      obtain ⟨t, e1, e2⟩ := s_tg_ok g1.1
      refine ⟨h1, ?_⟩
      simp only [am_1]
      rw [am_tg_eq e1]
      refine ⟨fun hc => ?_, fun hc => ?_⟩
      · obtain ⟨E1, q1, q2, q3⟩ := sa_cmp_ok hE hz0 g3.2 (ra_lt hc) e2
        exact hk _ _ _ _ _ q1 ρ _ _ _ (sx_l q3) q2 (tg_F_x (sx_l q3) hF) (sg_L_x (sx_l q3) hL) (sg_S_x (sx_l q3) g4) hI
      · obtain ⟨E1, q1, q2, q3⟩ := sa_cmp_ok hE g3.2 hz0 (ra_nlt hc) g1.2
        exact hk _ _ _ _ _ q1 ρ _ _ _ (sx_l q3) q2 (tg_F_x (sx_l q3) hF) (sg_L_x (sx_l q3) hL) (sg_S_x (sx_l q3) g4) hI
    case le =>
      simp only [t_one, Bool.and_eq_true, decide_eq_true_eq] at h
      obtain ⟨h1, h2⟩ := h
      obtain ⟨x, r, a, st', g1, rfl, g3, g4⟩ := s_1_ok hS h2
      have hz0 : (0 : Int32).toInt = ρ ((0 : Nat), (0 : Int)).1 + ((0 : Nat), (0 : Int)).2 := by show (0 : Int) = ρ 0 + 0; rw [hE.2.1]; rfl
      simp only [Bool.and_eq_true] at g1
      obtain ⟨t, e1, e2⟩ := s_tg_ok g1.1
      refine ⟨h1, ?_⟩
      simp only [am_1]
      rw [am_tg_eq e1]
      refine ⟨fun hc => ?_, fun hc => ?_⟩
      · obtain ⟨E1, q1, q2, q3⟩ := sa_cmp_ok hE g3.2 hz0 (ra_le hc) e2
        exact hk _ _ _ _ _ q1 ρ _ _ _ (sx_l q3) q2 (tg_F_x (sx_l q3) hF) (sg_L_x (sx_l q3) hL) (sg_S_x (sx_l q3) g4) hI
      · obtain ⟨E1, q1, q2, q3⟩ := sa_cmp_ok hE hz0 g3.2 (ra_nle hc) g1.2
        exact hk _ _ _ _ _ q1 ρ _ _ _ (sx_l q3) q2 (tg_F_x (sx_l q3) hF) (sg_L_x (sx_l q3) hL) (sg_S_x (sx_l q3) g4) hI
  case if_icmp c off =>
    cases c
    case eq =>
      simp only [t_one, Bool.and_eq_true, decide_eq_true_eq] at h
      obtain ⟨h1, h2⟩ := h
      obtain ⟨x, y, r, a, b, st', g1, rfl, g3, g4⟩ := s_2_ok hS h2
      simp only [Bool.and_eq_true] at g1
      obtain ⟨t, e1, e2⟩ := s_tg_ok g1.1
      refine ⟨h1, ?_⟩
      simp only [am_2]
      rw [am_tg_eq e1]
      refine ⟨fun hc => ?_, fun hc => ?_⟩
      · obtain ⟨E1, q1, q2, q3⟩ := sa_cmp_ok hE g3.1.2 g3.2.2 (ra_eq hc) e2
        exact hk _ _ _ _ _ q1 ρ _ _ _ (sx_l q3) q2 (tg_F_x (sx_l q3) hF) (sg_L_x (sx_l q3) hL) (sg_S_x (sx_l q3) g4) hI
      · obtain ⟨E1, q1, q2, q3⟩ := sa_cmp_ok hE g3.1.2 g3.2.2 (ra_ne hc) g1.2
        exact hk _ _ _ _ _ q1 ρ _ _ _ (sx_l q3) q2 (tg_F_x (sx_l q3) hF) (sg_L_x (sx_l q3) hL) (sg_S_x (sx_l q3) g4) hI
    case ne =>
      simp only [t_one, Bool.and_eq_true, decide_eq_true_eq] at h
      obtain ⟨h1, h2⟩ := h
      obtain ⟨x, y, r, a, b, st', g1, rfl, g3, g4⟩ := s_2_ok hS h2
      simp only [Bool.and_eq_true] at g1
      obtain ⟨t, e1, e2⟩ := s_tg_ok g1.1
      refine ⟨h1, ?_⟩
      simp only [am_2]
      rw [am_tg_eq e1]
      refine ⟨fun hc => ?_, fun hc => ?_⟩
      · obtain ⟨E1, q1, q2, q3⟩ := sa_cmp_ok hE g3.1.2 g3.2.2 (ra_ne hc) e2
        exact hk _ _ _ _ _ q1 ρ _ _ _ (sx_l q3) q2 (tg_F_x (sx_l q3) hF) (sg_L_x (sx_l q3) hL) (sg_S_x (sx_l q3) g4) hI
      · obtain ⟨E1, q1, q2, q3⟩ := sa_cmp_ok hE g3.1.2 g3.2.2 (ra_nn hc) g1.2
        exact hk _ _ _ _ _ q1 ρ _ _ _ (sx_l q3) q2 (tg_F_x (sx_l q3) hF) (sg_L_x (sx_l q3) hL) (sg_S_x (sx_l q3) g4) hI
    case lt =>
      simp only [t_one, Bool.and_eq_true, decide_eq_true_eq] at h
      obtain ⟨h1, h2⟩ := h
      obtain ⟨x, y, r, a, b, st', g1, rfl, g3, g4⟩ := s_2_ok hS h2
      simp only [Bool.and_eq_true] at g1
      obtain ⟨t, e1, e2⟩ := s_tg_ok g1.1
      refine ⟨h1, ?_⟩
      simp only [am_2]
      rw [am_tg_eq e1]
      refine ⟨fun hc => ?_, fun hc => ?_⟩
      · obtain ⟨E1, q1, q2, q3⟩ := sa_cmp_ok hE g3.1.2 g3.2.2 (ra_lt hc) e2
        exact hk _ _ _ _ _ q1 ρ _ _ _ (sx_l q3) q2 (tg_F_x (sx_l q3) hF) (sg_L_x (sx_l q3) hL) (sg_S_x (sx_l q3) g4) hI
      · obtain ⟨E1, q1, q2, q3⟩ := sa_cmp_ok hE g3.2.2 g3.1.2 (ra_nlt hc) g1.2
        exact hk _ _ _ _ _ q1 ρ _ _ _ (sx_l q3) q2 (tg_F_x (sx_l q3) hF) (sg_L_x (sx_l q3) hL) (sg_S_x (sx_l q3) g4) hI
    case ge =>
      simp only [t_one, Bool.and_eq_true, decide_eq_true_eq] at h
      obtain ⟨h1, h2⟩ := h
      obtain ⟨x, y, r, a, b, st', g1, rfl, g3, g4⟩ := s_2_ok hS h2
      simp only [Bool.and_eq_true] at g1
      obtain ⟨t, e1, e2⟩ := s_tg_ok g1.1
      refine ⟨h1, ?_⟩
      simp only [am_2]
      rw [am_tg_eq e1]
      refine ⟨fun hc => ?_, fun hc => ?_⟩
      · obtain ⟨E1, q1, q2, q3⟩ := sa_cmp_ok hE g3.2.2 g3.1.2 (ra_le hc) e2
        exact hk _ _ _ _ _ q1 ρ _ _ _ (sx_l q3) q2 (tg_F_x (sx_l q3) hF) (sg_L_x (sx_l q3) hL) (sg_S_x (sx_l q3) g4) hI
      · obtain ⟨E1, q1, q2, q3⟩ := sa_cmp_ok hE g3.1.2 g3.2.2 (ra_nle hc) g1.2
        exact hk _ _ _ _ _ q1 ρ _ _ _ (sx_l q3) q2 (tg_F_x (sx_l q3) hF) (sg_L_x (sx_l q3) hL) (sg_S_x (sx_l q3) g4) hI
    case gt =>
      simp only [t_one, Bool.and_eq_true, decide_eq_true_eq] at h
      obtain ⟨h1, h2⟩ := h
      obtain ⟨x, y, r, a, b, st', g1, rfl, g3, g4⟩ := s_2_ok hS h2
      simp only [Bool.and_eq_true] at g1
      obtain ⟨t, e1, e2⟩ := s_tg_ok g1.1
      refine ⟨h1, ?_⟩
      simp only [am_2]
      rw [am_tg_eq e1]
      refine ⟨fun hc => ?_, fun hc => ?_⟩
      · obtain ⟨E1, q1, q2, q3⟩ := sa_cmp_ok hE g3.2.2 g3.1.2 (ra_lt hc) e2
        exact hk _ _ _ _ _ q1 ρ _ _ _ (sx_l q3) q2 (tg_F_x (sx_l q3) hF) (sg_L_x (sx_l q3) hL) (sg_S_x (sx_l q3) g4) hI
      · obtain ⟨E1, q1, q2, q3⟩ := sa_cmp_ok hE g3.1.2 g3.2.2 (ra_nlt hc) g1.2
        exact hk _ _ _ _ _ q1 ρ _ _ _ (sx_l q3) q2 (tg_F_x (sx_l q3) hF) (sg_L_x (sx_l q3) hL) (sg_S_x (sx_l q3) g4) hI
    case le =>
      simp only [t_one, Bool.and_eq_true, decide_eq_true_eq] at h
      obtain ⟨h1, h2⟩ := h
      obtain ⟨x, y, r, a, b, st', g1, rfl, g3, g4⟩ := s_2_ok hS h2
      simp only [Bool.and_eq_true] at g1
      obtain ⟨t, e1, e2⟩ := s_tg_ok g1.1
      refine ⟨h1, ?_⟩
      simp only [am_2]
      rw [am_tg_eq e1]
      refine ⟨fun hc => ?_, fun hc => ?_⟩
      · obtain ⟨E1, q1, q2, q3⟩ := sa_cmp_ok hE g3.1.2 g3.2.2 (ra_le hc) e2
        exact hk _ _ _ _ _ q1 ρ _ _ _ (sx_l q3) q2 (tg_F_x (sx_l q3) hF) (sg_L_x (sx_l q3) hL) (sg_S_x (sx_l q3) g4) hI
      · obtain ⟨E1, q1, q2, q3⟩ := sa_cmp_ok hE g3.2.2 g3.1.2 (ra_nle hc) g1.2
        exact hk _ _ _ _ _ q1 ρ _ _ _ (sx_l q3) q2 (tg_F_x (sx_l q3) hF) (sg_L_x (sx_l q3) hL) (sg_S_x (sx_l q3) g4) hI
  case goto off =>
    simp only [t_one, Bool.and_eq_true, decide_eq_true_eq] at h
    obtain ⟨h1, h2⟩ := h
    obtain ⟨t, e1, e2⟩ := s_tg_ok h2
    refine ⟨h1, ?_⟩
    rw [am_tg_eq e1]
    exact hk _ _ _ _ _ e2 ρ _ _ _ (sx_r E ρ) hE hF hL hS hI
  case tableswitch d lo hi offs =>
    simp only [t_one, Bool.and_eq_true, decide_eq_true_eq] at h
    obtain ⟨x, r, a, st', g1, rfl, g3, g4⟩ := s_1_ok hS h
    simp only [Bool.and_eq_true, decide_eq_true_eq] at g1
    refine ⟨s_ts_ok hE g3.2 (fun t E1 q1 q2 q3 => ?_) _ _ g1.1, fun _ => ?_, g1.2.2⟩
    · exact hk _ _ _ _ _ q1 ρ _ _ _ (sx_l q3) q2 (tg_F_x (sx_l q3) hF) (sg_L_x (sx_l q3) hL) (sg_S_x (sx_l q3) g4) hI
    · obtain ⟨t, e1, e2⟩ := s_tg_ok g1.2.1
      rw [am_tg_eq e1]
      exact hk _ _ _ _ _ e2 ρ _ _ _ (sx_r E ρ) hE hF hL g4 hI
  case lookupswitch d ps =>
    simp only [t_one, Bool.and_eq_true, decide_eq_true_eq] at h
    obtain ⟨x, r, a, st', g1, rfl, g3, g4⟩ := s_1_ok hS h
    simp only [Bool.and_eq_true, decide_eq_true_eq] at g1
    refine ⟨g1.1, s_ls_ok hE g3.2 (fun t E1 q1 q2 q3 => ?_) _ g1.2⟩
    exact hk _ _ _ _ _ q1 ρ _ _ _ (sx_l q3) q2 (tg_F_x (sx_l q3) hF) (sg_L_x (sx_l q3) hL) (sg_S_x (sx_l q3) g4) hI
  case ireturn  =>
    simp only [t_one, Bool.and_eq_true, decide_eq_true_eq] at h
    obtain ⟨h1, h2⟩ := h
    obtain ⟨a, r, x, st', g1, rfl, g3, g4⟩ := s_1_ok hS h2
    simp only [Bool.and_eq_true, List.isEmpty_iff] at g1
    obtain ⟨rfl, g5, g6⟩ := g1
    cases st' with
    | cons _ _ => exact g4.elim
    | nil => exact ⟨h1, rfl, rfl, s_ri_ok hE g3.2 g5, hret (some (.inl a)) (some (.int x)) g6 ⟨g3.1, x, rfl, g3.2⟩⟩
  case lreturn  =>
    simp only [t_one, Bool.and_eq_true, decide_eq_true_eq] at h
    obtain ⟨h1, h2⟩ := h
    obtain ⟨r, y, st', g1, rfl, g4⟩ := s_l_ok hS h2
    simp only [Bool.and_eq_true, List.isEmpty_iff] at g1
    obtain ⟨rfl, g5, g6⟩ := g1
    cases st' with
    | cons _ _ => exact g4.elim
    | nil => exact ⟨h1, rfl, rfl, s_rl_ok g5, hret (some (.inr (.inr true))) (some (.long y)) g6 ⟨y, rfl⟩⟩
  case return_  =>
    simp only [t_one, Bool.and_eq_true, decide_eq_true_eq] at h
    obtain ⟨h1, h2, h3, h4⟩ := h
    rw [List.isEmpty_iff] at h2
    subst h2
    rw [Option.isNone_iff_eq_none] at h3
    cases stk with
    | cons _ _ => exact hS.elim
    | nil => exact ⟨h1, rfl, rfl, h3, hret none none h4 trivial⟩
  case getfield ix =>
    simp only [t_one, Bool.and_eq_true, decide_eq_true_eq] at h
    obtain ⟨h1, h2⟩ := h
    obtain ⟨o, r, st', g1, rfl, g4⟩ := s_a_ok hS h2
    simp only [Bool.and_eq_true, decide_eq_true_eq] at g1
    obtain ⟨g5, g6⟩ := g1
    refine ⟨h1, g5, ?_⟩
    cases hf : am_find (am_FT X) ix with
    | none => rw [hf] at g6; cases g6
    | some q =>
      rw [hf] at g6
      simp only [Bool.and_eq_true, decide_eq_true_eq] at g6
      obtain ⟨g7, g8⟩ := g6
      refine ⟨g7, ?_⟩
      cases hkd : (am_KF X o)[q.2]? with
      | none => rw [hkd] at g8; cases g8
      | some kd =>
        rw [hkd] at g8
        obtain ⟨E1, F1, v, ρ', q1, q2, q3, qF, q4⟩ := t_get_ok hE hF (hI.1.2 o q.1 q.2 g7) g8
        exact hk _ _ _ _ _ q1 ρ' _ _ _ q2 q3 qF (sg_L_x q2 hL) ⟨q4, sg_S_x q2 g4⟩ hI
  case putfield ix =>
    simp only [t_one, Bool.and_eq_true, decide_eq_true_eq] at h
    obtain ⟨h1, h2⟩ := h
    obtain ⟨a, r1, v, st1, g1, rfl, g3, g4⟩ := s_v_ok hS h2
    obtain ⟨o, r, st', g5, rfl, g6⟩ := s_a_ok g4 g1
    simp only [Bool.and_eq_true, decide_eq_true_eq] at g5
    obtain ⟨g7, g8⟩ := g5
    refine ⟨h1, g7, ?_⟩
    cases hf : am_find (am_PT X) ix with
    | none => rw [hf] at g8; cases g8
    | some q =>
      rw [hf] at g8
      simp only [Bool.and_eq_true, decide_eq_true_eq] at g8
      obtain ⟨g9, g10⟩ := g8
      refine ⟨g9, ?_⟩
      cases hkd : (am_KF X o)[q.2]? with
      | none => rw [hkd] at g10; cases g10
      | some kd =>
        rw [hkd] at g10
        exact t_put_ok hE hF g3 hI g9 g10 (fun F' τ hh hf ht => hk _ _ _ _ _ hh ρ _ _ _ (sx_r E ρ) hE hf hL g6 ht)
  case arraylength  =>
    simp only [t_one, Bool.and_eq_true, decide_eq_true_eq] at h
    obtain ⟨h1, h2⟩ := h
    obtain ⟨o, r, st', g1, rfl, g4⟩ := s_a_ok hS h2
    simp only [Bool.and_eq_true, decide_eq_true_eq] at g1
    obtain ⟨g5, g6⟩ := g1
    refine ⟨h1, g5, ?_⟩
    cases hs : am_SH X o with
    | inl c => rw [hs] at g6; cases g6
    | inr q =>
      rw [hs] at g6
      simp only [Bool.and_eq_true, decide_eq_true_eq] at g6
      refine ⟨g6.1.1, hk _ _ _ _ _ g6.2 ρ _ _ _ (sx_r E ρ) hE hF hL ⟨⟨hE.1, _, rfl, ?_⟩, g4⟩ hI⟩
      show (Int32.ofInt (q.2 : Int)).toInt = ρ 0 + (q.2 : Int)
      rw [ii_t (by omega) (by omega), hE.2.1]
      omega
  case iaload  =>
    simp only [t_one, Bool.and_eq_true, decide_eq_true_eq] at h
    obtain ⟨h1, h2⟩ := h
    obtain ⟨i, r1, x, st1, g1, rfl, g3, g4⟩ := s_1_ok hS h2
    obtain ⟨o, r, st', g5, rfl, g6⟩ := s_a_ok g4 g1
    simp only [Bool.and_eq_true, decide_eq_true_eq] at g5
    obtain ⟨g7, g8⟩ := g5
    refine ⟨h1, g7, ?_⟩
    cases hs : am_SH X o with
    | inl c => rw [hs] at g8; cases g8
    | inr q =>
      rw [hs] at g8
      simp only [Bool.and_eq_true, decide_eq_true_eq] at g8
      obtain ⟨g9, g10, g11⟩ := g8
      have hb := sa_inB_ok hE g3.2 g10
      have hb1 : 0 ≤ x.toInt := hb.1
      have hb2 : x.toInt ≤ (q.2 : Int) - 1 := hb.2
      have h0 : 0 ≤ (sa_h E i).1 := by
        simp only [sa_inB, Bool.and_eq_true, decide_eq_true_eq] at g10
        exact g10.1
      refine ⟨g9, by rw [vp_in_iff]; omega, ?_⟩
      obtain ⟨ρ', q1, q2, qF, q3⟩ := t_ld_ok hE hF g3 h0 (hI.1.1 o q x.toNatClampNeg hs (by show x.toInt.toNat < q.2; omega))
      exact hk _ _ _ _ _ g11 ρ' _ _ _ q1 q2 qF (sg_L_x q1 hL) ⟨q3, sg_S_x q1 g6⟩ hI
  case baload  =>
    simp only [t_one, Bool.and_eq_true, decide_eq_true_eq] at h
    obtain ⟨h1, h2⟩ := h
    obtain ⟨i, r1, x, st1, g1, rfl, g3, g4⟩ := s_1_ok hS h2
    obtain ⟨o, r, st', g5, rfl, g6⟩ := s_a_ok g4 g1
    simp only [Bool.and_eq_true, decide_eq_true_eq] at g5
    obtain ⟨g7, g8⟩ := g5
    refine ⟨h1, g7, ?_⟩
    cases hs : am_SH X o with
    | inl c => rw [hs] at g8; cases g8
    | inr q =>
      rw [hs] at g8
      simp only [Bool.and_eq_true, decide_eq_true_eq] at g8
      obtain ⟨g9, g10, g11⟩ := g8
      have hb := sa_inB_ok hE g3.2 g10
      have hb1 : 0 ≤ x.toInt := hb.1
      have hb2 : x.toInt ≤ (q.2 : Int) - 1 := hb.2
      have h0 : 0 ≤ (sa_h E i).1 := by
        simp only [sa_inB, Bool.and_eq_true, decide_eq_true_eq] at g10
        exact g10.1
      refine ⟨g9, by rw [vp_in_iff]; omega, ?_⟩
      obtain ⟨ρ', q1, q2, qF, q3⟩ := t_ld_ok hE hF g3 h0 (hI.1.1 o q x.toNatClampNeg hs (by show x.toInt.toNat < q.2; omega))
      exact hk _ _ _ _ _ g11 ρ' _ _ _ q1 q2 qF (sg_L_x q1 hL) ⟨q3, sg_S_x q1 g6⟩ hI
  case laload  =>
    simp only [t_one, Bool.and_eq_true, decide_eq_true_eq] at h
    obtain ⟨h1, h2⟩ := h
    obtain ⟨i, r1, x, st1, g1, rfl, g3, g4⟩ := s_1_ok hS h2
    obtain ⟨o, r, st', g5, rfl, g6⟩ := s_a_ok g4 g1
    simp only [Bool.and_eq_true, decide_eq_true_eq] at g5
    obtain ⟨g7, g8⟩ := g5
    refine ⟨h1, g7, ?_⟩
    cases hs : am_SH X o with
    | inl c => rw [hs] at g8; cases g8
    | inr q =>
      rw [hs] at g8
      simp only [Bool.and_eq_true, decide_eq_true_eq] at g8
      obtain ⟨g9, g10, g11⟩ := g8
      have hb := sa_inB_ok hE g3.2 g10
      have hb1 : 0 ≤ x.toInt := hb.1
      have hb2 : x.toInt ≤ (q.2 : Int) - 1 := hb.2
      have h0 : 0 ≤ (sa_h E i).1 := by
        simp only [sa_inB, Bool.and_eq_true, decide_eq_true_eq] at g10
        exact g10.1
      refine ⟨g9, by rw [vp_in_iff]; omega, ?_⟩
      exact hk _ _ _ _ _ g11 ρ _ _ _ (sx_r E ρ) hE hF hL ⟨⟨_, rfl⟩, g6⟩ hI
  case iastore  =>
    simp only [t_one, Bool.and_eq_true, decide_eq_true_eq] at h
    obtain ⟨h1, h2⟩ := h
    obtain ⟨a, r1, y, st1, g1, rfl, g3, g4⟩ := s_1_ok hS h2
    obtain ⟨i, r2, x, st2, g5, rfl, g6, g7⟩ := s_1_ok g4 g1
    obtain ⟨o, r, st', g9, rfl, g8⟩ := s_a_ok g7 g5
    simp only [Bool.and_eq_true, decide_eq_true_eq] at g9
    obtain ⟨g10, g11⟩ := g9
    refine ⟨h1, g10, ?_⟩
    cases hs : am_SH X o with
    | inl c => rw [hs] at g11; cases g11
    | inr q =>
      rw [hs] at g11
      simp only [Bool.and_eq_true, decide_eq_true_eq] at g11
      obtain ⟨g12, g13, g16, g14, g15⟩ := g11
      have hb := sa_inB_ok hE g6.2 g13
      have hb1 : 0 ≤ x.toInt := hb.1
      have hb2 : x.toInt ≤ (q.2 : Int) - 1 := hb.2
      have hh := sa_h_ok hE g6.2
      have h0 : 0 ≤ (sa_h E i).1 := by
        simp only [sa_inB, Bool.and_eq_true, decide_eq_true_eq] at g13
        exact g13.1
      have hm : ∃ m ∈ M, m.1 = o ∧ m.2.1 ≤ x.toNatClampNeg ∧ x.toNatClampNeg < m.2.2 := by
        obtain ⟨m, m1, m2, m3, m4⟩ := s_mod_ok g16
        exact ⟨m, m1, m2, by show m.2.1 ≤ x.toInt.toNat; omega, by show x.toInt.toNat < m.2.2; omega⟩
      refine ⟨g12, by rw [vp_in_iff]; omega, ?_⟩
      exact hk _ _ _ _ _ g15 ρ _ _ _ (sx_r E ρ) hE (t_fd_put hF (t_nm_ok hE g6) g3 (by omega)) hL g8 (sI_arr hI hs (sb_st_ok h0 (sa_h_ok hE g6.2) (sa_h_ok hE g3.2) g14) hm)
  case bastore  =>
    simp only [t_one, Bool.and_eq_true, decide_eq_true_eq] at h
    obtain ⟨h1, h2⟩ := h
    obtain ⟨a, r1, y, st1, g1, rfl, g3, g4⟩ := s_1_ok hS h2
    obtain ⟨i, r2, x, st2, g5, rfl, g6, g7⟩ := s_1_ok g4 g1
    obtain ⟨o, r, st', g9, rfl, g8⟩ := s_a_ok g7 g5
    simp only [Bool.and_eq_true, decide_eq_true_eq] at g9
    obtain ⟨g10, g11⟩ := g9
    refine ⟨h1, g10, ?_⟩
    cases hs : am_SH X o with
    | inl c => rw [hs] at g11; cases g11
    | inr q =>
      rw [hs] at g11
      simp only [Bool.and_eq_true, decide_eq_true_eq] at g11
      obtain ⟨g12, g13, g16, g14, g15⟩ := g11
      have hb := sa_inB_ok hE g6.2 g13
      have hb1 : 0 ≤ x.toInt := hb.1
      have hb2 : x.toInt ≤ (q.2 : Int) - 1 := hb.2
      have hh := sa_h_ok hE g6.2
      have h0 : 0 ≤ (sa_h E i).1 := by
        simp only [sa_inB, Bool.and_eq_true, decide_eq_true_eq] at g13
        exact g13.1
      have hm : ∃ m ∈ M, m.1 = o ∧ m.2.1 ≤ x.toNatClampNeg ∧ x.toNatClampNeg < m.2.2 := by
        obtain ⟨m, m1, m2, m3, m4⟩ := s_mod_ok g16
        exact ⟨m, m1, m2, by show m.2.1 ≤ x.toInt.toNat; omega, by show x.toInt.toNat < m.2.2; omega⟩
      refine ⟨g12, by rw [vp_in_iff]; omega, ?_⟩
      refine hk _ _ _ _ _ g15 ρ _ _ _ (sx_r E ρ) hE (t_fd_ok hF (t_nm_ok hE g6) (by omega)) hL g8 (sI_arr hI hs (sb_st_ok h0 (sa_h_ok hE g6.2) ?_ g14) hm)
      by_cases hq : q.1 = 1
      · rw [if_pos hq, if_pos hq]
        exact ti_byte y
      · rw [if_neg hq, if_neg hq]
        exact ti_bool y
  case lastore  =>
    simp only [t_one, Bool.and_eq_true, decide_eq_true_eq] at h
    obtain ⟨h1, h2⟩ := h
    obtain ⟨r1, y, st1, g1, rfl, g4⟩ := s_l_ok hS h2
    obtain ⟨i, r2, x, st2, g5, rfl, g6, g7⟩ := s_1_ok g4 g1
    obtain ⟨o, r, st', g9, rfl, g8⟩ := s_a_ok g7 g5
    simp only [Bool.and_eq_true, decide_eq_true_eq] at g9
    obtain ⟨g10, g11⟩ := g9
    refine ⟨h1, g10, ?_⟩
    cases hs : am_SH X o with
    | inl c => rw [hs] at g11; cases g11
    | inr q =>
      rw [hs] at g11
      simp only [Bool.and_eq_true, decide_eq_true_eq] at g11
      obtain ⟨g12, g13, g16, g14, g15⟩ := g11
      have hb := sa_inB_ok hE g6.2 g13
      have hb1 : 0 ≤ x.toInt := hb.1
      have hb2 : x.toInt ≤ (q.2 : Int) - 1 := hb.2
      have hh := sa_h_ok hE g6.2
      have h0 : 0 ≤ (sa_h E i).1 := by
        simp only [sa_inB, Bool.and_eq_true, decide_eq_true_eq] at g13
        exact g13.1
      have hm : ∃ m ∈ M, m.1 = o ∧ m.2.1 ≤ x.toNatClampNeg ∧ x.toNatClampNeg < m.2.2 := by
        obtain ⟨m, m1, m2, m3, m4⟩ := s_mod_ok g16
        exact ⟨m, m1, m2, by show m.2.1 ≤ x.toInt.toNat; omega, by show x.toInt.toNat < m.2.2; omega⟩
      refine ⟨g12, by rw [vp_in_iff]; omega, ?_⟩
      exact hk _ _ _ _ _ g15 ρ _ _ _ (sx_r E ρ) hE (tg_F_pl hF) hL g8 (sI_pl hI hm)
  case invokevirtual ix =>
    simp only [t_one, Bool.and_eq_true, decide_eq_true_eq] at h
    obtain ⟨h1, h2⟩ := h
    refine ⟨h1, ?_⟩
    cases hf : am_find (am_NT X) ix with
    | some w =>
      rw [hf] at h2
      exact t_nat_ok hE hF hS hI (fun E1 F1 S1 hh ρ' st' τ q1 q2 qF q3 q4 => hk _ _ _ _ _ hh ρ' _ _ _ q1 q2 qF (sg_L_x q1 hL) q3 q4) h2
    | none =>
      rw [hf] at h2
      exact t_call_ok (K := fun st m τ => K (pc + 3) ls st m τ) hCS hE hF hS hI (fun E1 F1 S1 hh ρ' st' τ q1 q2 qF q3 q4 => hk _ _ _ _ _ hh ρ' _ _ _ q1 q2 qF (sg_L_x q1 hL) q3 q4) h2
  case invokestatic ix =>
    simp only [t_one, Bool.and_eq_true, decide_eq_true_eq] at h
    obtain ⟨h1, h2⟩ := h
    refine ⟨h1, ?_⟩
    cases hf : am_find (am_NT X) ix with
    | some w =>
      rw [hf] at h2
      exact t_nat_ok hE hF hS hI (fun E1 F1 S1 hh ρ' st' τ q1 q2 qF q3 q4 => hk _ _ _ _ _ hh ρ' _ _ _ q1 q2 qF (sg_L_x q1 hL) q3 q4) h2
    | none =>
      rw [hf] at h2
      exact t_call_ok (K := fun st m τ => K (pc + 3) ls st m τ) hCS hE hF hS hI (fun E1 F1 S1 hh ρ' st' τ q1 q2 qF q3 q4 => hk _ _ _ _ _ hh ρ' _ _ _ q1 q2 qF (sg_L_x q1 hL) q3 q4) h2
  case invokespecial ix =>
    simp only [t_one, Bool.and_eq_true, decide_eq_true_eq] at h
    obtain ⟨h1, h2⟩ := h
    refine ⟨h1, ?_⟩
    cases hf : am_find (am_NT X) ix with
    | some w =>
      rw [hf] at h2
      exact t_nat_ok hE hF hS hI (fun E1 F1 S1 hh ρ' st' τ q1 q2 qF q3 q4 => hk _ _ _ _ _ hh ρ' _ _ _ q1 q2 qF (sg_L_x q1 hL) q3 q4) h2
    | none =>
      rw [hf] at h2
      exact t_call_ok (K := fun st m τ => K (pc + 3) ls st m τ) hCS hE hF hS hI (fun E1 F1 S1 hh ρ' st' τ q1 q2 qF q3 q4 => hk _ _ _ _ _ hh ρ' _ _ _ q1 q2 qF (sg_L_x q1 hL) q3 q4) h2
  all_goals exact absurd h (by simp [t_one])
end
/-! a stretch of code -/
def t_run (X : am_X) (B : sa_I) (N : Nat) (CS : ta_C) (M : sa_M) (D : List (Nat × Instr × Nat)) (cuts : List (Nat × Nat)) (Fk : List Nat) (ret : sa_E → ta_F → Option sa_V → Bool) (cut : Nat → sa_E → ta_F → List (Option sa_V) → List sa_V → Bool) : Nat → Nat → sa_E → ta_F → List (Option sa_V) → List sa_V → Bool
  | 0, _, _, _, _, _ => false
  | f + 1, pc, E, F, L, S => match am_find D pc with
    | none => false
    | some q => t_one X B N CS M Fk ret q.1 q.2 pc E F L S (fun pc' E' F' L' S' => match am_find cuts pc' with
      | some j => cut pc' E' F' (s_mask j L') S'
      | none => t_run X B N CS M D cuts Fk ret cut f pc' E' F' L' S')
theorem t_run_ok {X : am_X} {B : sa_I} {N : Nat} {CS : ta_C} {M : sa_M} {D : List (Nat × Instr × Nat)} {cuts : List (Nat × Nat)} {Fk : List Nat} {ret : sa_E → ta_F → Option sa_V → Bool} {cut : Nat → sa_E → ta_F → List (Option sa_V) → List sa_V → Bool} {σ0 : am_S} {post : Option Value → am_S → Prop} {AA : Nat → List (Option Value) → List Value → Nat → am_S → Prop} {cc : ByteArray} {E0 : sa_E} {ρ0 : Nat → Int}
    (hCS : ∀ ix q, am_find CS ix = some q → ∃ sp, am_find (am_ML X) ix = some (q.1, q.2.1, q.2.2.1, 0, 0, sp) ∧ t_hs B (am_SH X) N M σ0 q.2.2.2 sp) (hD : ∀ pc q, am_find D pc = some q → decode cc pc = .ok q)
    (hret : ∀ E' F' ρ' v' v τ, ret E' F' v' = true → sx E0 ρ0 E' ρ' → sg_E E' ρ' → tg_F E' ρ' F' τ → sv_o E' ρ' v' v → sI B (am_SH X) M σ0 τ → post v τ)
    (hcut : ∀ pc' E' F' L' S', cut pc' E' F' L' S' = true → ∀ ρ' ls' st' τ, sx E0 ρ0 E' ρ' → sg_E E' ρ' → tg_F E' ρ' F' τ → sg_L E' ρ' L' ls' → sg_S E' ρ' S' st' → sI B (am_SH X) M σ0 τ → AA pc' ls' st' N τ) :
    ∀ (f pc : Nat) (E : sa_E) (ρ : Nat → Int) (F : ta_F) (L : List (Option sa_V)) (S : List sa_V) (ls : List (Option Value)) (st : List Value) (σ : am_S), sx E0 ρ0 E ρ → sg_E E ρ → tg_F E ρ F σ → sg_L E ρ L ls → sg_S E ρ S st → sI B (am_SH X) M σ0 σ → t_run X B N CS M D cuts Fk ret cut f pc E F L S = true → am_vc cc X N post AA cuts f pc ls st N σ := by
  intro f
  induction f with
  | zero => intro pc E ρ F L S ls st σ _ _ _ _ _ _ h; cases h
  | succ f ih =>
    intro pc E ρ F L S ls st σ hx hE hF hL hS hI h
    unfold t_run at h
    split at h
    · cases h
    · rename_i q hq
      unfold am_vc
      rw [hD pc q hq]
      refine t_one_ok hCS (fun v' v hr hv => hret E F ρ v' v σ hr hx hE hF hv hI) (fun pc' E' F' L' S' hk ρ' ls' st' τ x1 x2 xF x3 x4 x5 => ?_) hE hF hL hS hI h
      have hx' := sx_t hx x1
      cases hc : am_find cuts pc' with
      | some j =>
        rw [hc] at hk
        exact hcut _ _ _ _ _ hk ρ' _ _ τ hx' x2 xF (sg_L_mask j x3) x4 x5
      | none =>
        rw [hc] at hk
        exact ih pc' E' ρ' F' L' S' ls' st' τ hx' x2 xF x3 x4 x5 hk
/-! handlers: by a word -/
def t_fk (F : ta_F) (M : sa_M) : ta_F := F.filter (fun q => M.all (fun m => !decide (m.1 = q.1) || decide (q.2.1.1 = 0 ∧ (q.2.1.2 < (m.2.1 : Int) ∨ (m.2.2 : Int) ≤ q.2.1.2))))
theorem tg_F_call {E : sa_E} {ρ : Nat → Int} {F : ta_F} {M : sa_M} {σ τ : am_S} (h0 : ρ 0 = 0) (hf : sb_fr M σ τ) (h : tg_F E ρ F σ) : tg_F E ρ (t_fk F M) τ := fun q hq => by
  obtain ⟨h1, h2⟩ := List.mem_filter.mp hq
  obtain ⟨a1, a2, a3, a4⟩ := h q h1
  refine ⟨a1, a2, a3, ?_⟩
  rw [(hf q.1 (ρ q.2.1.1 + q.2.1.2).toNat (fun m hm hh => ?_)).1]
  · exact a4
  · have h3 := List.all_eq_true.mp h2 m hm
    simp only [Bool.or_eq_true, Bool.not_eq_true', decide_eq_false_iff_not, decide_eq_true_eq] at h3
    rcases h3 with h3 | ⟨h3, h4⟩
    · exact h3 hh.1
    · rw [h3, h0] at hh a3
      omega
def t_w (M : sa_M) (sm : List sa_A) : ta_H := fun E F as k => match sm.find? (fun a => sa_inPs E a.1 as) with
  | none => false
  | some a => a.2.2.all (fun z => M.any (fun m => decide (m.1 = z.1 ∧ m.2.1 ≤ z.2.1 ∧ z.2.2 ≤ m.2.2))) && a.2.1.all (fun r => s_refs as r.2 E (fun E1 => match r.1 with
    | none => k E1 (t_fk F a.2.2) none
    | some (.inl b) => k (sa_fr E1 b).1 (t_fk F a.2.2) (some (sa_fr E1 b).2)
    | some (.inr b) => k E1 (t_fk F a.2.2) (some (.inr b))))
theorem t_w_ok {J : am_S → Prop} {B : sa_I} {SH : am_Sh} {N : Nat} {M : sa_M} {σ0 : am_S} {sm : List sa_A} (hJ : ∀ τ, sb_fr M σ0 τ → J τ) : t_hs B SH N M σ0 (t_w M sm) (sp_w J B SH N sm) := by
  intro E ρ F as vs σ k post hE hF hA hI hk h
  unfold t_w at h
  split at h
  · cases h
  · rename_i a ha
    simp only [Bool.and_eq_true] at h
    refine ⟨rfl, hI.1, hJ _ hI.2, a, List.mem_of_find?_eq_some ha, sa_inPs_ok hE hA (by have hz := List.find?_some ha; exact hz), fun v τ t1 t2 t3 t4 => ?_⟩
    obtain ⟨r, r1, r2, r3⟩ := t4
    obtain ⟨E1, q1, q2, q3⟩ := s_refs_ok r.2 E _ hE hA r3 (List.all_eq_true.mp h.2 r r1)
    have hI' : sI B SH M σ0 τ := ⟨t1, sb_fr_t hI.2 (s_fr_m h.1 t3)⟩
    have hx := sx_l (ρ := ρ) q3
    split at q1
    · rename_i e
      rw [e] at r2
      cases v with
      | some _ => exact r2.elim
      | none => exact hk _ _ _ q1 ρ none τ hx q2 (tg_F_x hx (tg_F_call hE.2.1 t3 hF)) trivial hI'
    · rename_i b e
      rw [e] at r2
      cases v with
      | none => exact r2.elim
      | some w =>
        obtain ⟨x, rfl, hb⟩ := r2
        obtain ⟨ρ', p1, p2, p3⟩ := sa_fr_ok q2 hb
        have hx2 := sx_t hx p1
        exact hk _ _ _ q1 ρ' (some (.int x)) τ hx2 p2 (tg_F_x hx2 (tg_F_call hE.2.1 t3 hF)) p3 hI'
    · rename_i b e
      rw [e] at r2
      cases v with
      | none => exact r2.elim
      | some w =>
        refine hk _ _ _ q1 ρ (some w) τ hx q2 (tg_F_x hx (tg_F_call hE.2.1 t3 hF)) ?_ hI'
        rcases b with o | b
        · exact r2
        · cases b <;> exact r2
/-! handlers: the method itself -/
def t_sl : List sa_V → List (Option sa_V)
  | [] => []
  | a :: t => if s_cat a = 2 then some a :: none :: t_sl t else some a :: t_sl t
def t_en (n : Nat) (a : List sa_V) : List (Option sa_V) := t_sl a ++ List.replicate (n - (t_sl a).length) none
theorem t_sl_ok {E : sa_E} {ρ : Nat → Int} : ∀ {a : List sa_V} {vs : List Value}, sg_S E ρ a vs → sg_L E ρ (t_sl a) (am_sl vs)
  | [], [], _ => ⟨rfl, fun k p h => by simp [t_sl] at h, fun k h => by simp [t_sl] at h⟩
  | p :: t, v :: t', h => by
    obtain ⟨h1, h2, h3⟩ := t_sl_ok h.2
    have hc := s_cat_ok h.1
    by_cases hn : s_cat p = 2
    · rw [hn] at hc
      simp only [t_sl, am_sl, hn, hc, if_true]
      refine ⟨by simp [h1], fun k q hq => ?_, fun k hq => ?_⟩
      · match k, hq with
        | 0, hq =>
          simp at hq
          subst hq
          exact ⟨v, rfl, h.1⟩
        | 1, hq => simp at hq
        | k + 2, hq =>
          simp only [List.getElem?_cons_succ] at hq ⊢
          exact h2 k q hq
      · match k, hq with
        | 0, hq => simp at hq
        | 1, hq => rfl
        | k + 2, hq =>
          simp only [List.getElem?_cons_succ] at hq ⊢
          exact h3 k hq
    · have hc2 : ¬ v.category = 2 := by rw [hc]; exact hn
      simp only [t_sl, am_sl, hn, hc2, if_false]
      refine ⟨by simp [h1], fun k q hq => ?_, fun k hq => ?_⟩
      · cases k with
        | zero =>
          simp at hq
          subst hq
          exact ⟨v, rfl, h.1⟩
        | succ k =>
          simp only [List.getElem?_cons_succ] at hq ⊢
          exact h2 k q hq
      · cases k with
        | zero => simp at hq
        | succ k =>
          simp only [List.getElem?_cons_succ] at hq ⊢
          exact h3 k hq
  | [], _ :: _, h => h.elim
  | _ :: _, [], h => h.elim
theorem t_en_ok {E : sa_E} {ρ : Nat → Int} {n : Nat} {a : List sa_V} {vs : List Value} (h : sg_S E ρ a vs) : sg_L E ρ (t_en n a) (am_entry n vs) := by
  obtain ⟨h1, h2, h3⟩ := t_sl_ok h
  unfold t_en am_entry
  refine ⟨by simp [h1], fun k p hp => ?_, fun k hp => ?_⟩
  · by_cases q : k < (t_sl a).length
    · rw [List.getElem?_append_left q] at hp
      rw [List.getElem?_append_left (by rw [h1]; exact q)]
      exact h2 k p hp
    · rw [List.getElem?_append_right (by omega), List.getElem?_replicate] at hp
      split at hp <;> cases hp
  · by_cases q : k < (t_sl a).length
    · rw [List.getElem?_append_left q] at hp
      rw [List.getElem?_append_left (by rw [h1]; exact q)]
      exact h3 k hp
    · rw [List.getElem?_append_right (by omega), List.getElem?_replicate] at hp
      rw [List.getElem?_append_right (by rw [h1]; omega), List.getElem?_replicate, h1]
      split at hp
      · rename_i q2
        rw [if_pos q2]
      · cases hp
/-- a method's word that says what the method does, row by row -/
def t_wp (cc : ByteArray) (X : am_X) (f maxL : Nat) : am_Sp := fun as n σ post => (am_sl as).length ≤ maxL ∧ ∀ AA : Nat → List (Option Value) → List Value → Nat → am_S → Prop, am_vc cc X n post AA [] f 0 (am_entry maxL as) [] n σ
theorem t_wp_B {cc : ByteArray} {X : am_X} {f maxL : Nat} : am_B cc X maxL 0 (t_wp cc X f maxL) := by
  intro n0 as σ post AA hA h
  exact ⟨h.1, hA [] f _ _ _ _ _ (h.2 AA)⟩
def t_in (X : am_X) (B : sa_I) (N : Nat) (CS : ta_C) (M : sa_M) (D : List (Nat × Instr × Nat)) (Fk : List Nat) (f maxL : Nat) : ta_H := fun E F as k => decide ((t_sl as).length ≤ maxL) && t_run X B N CS M D [] Fk k (fun _ _ _ _ _ => false) f 0 E F (t_en maxL as) []
theorem t_in_ok {X : am_X} {B : sa_I} {N : Nat} {CS : ta_C} {M : sa_M} {D : List (Nat × Instr × Nat)} {Fk : List Nat} {f maxL : Nat} {σ0 : am_S} {cc : ByteArray} (hCS : ∀ ix q, am_find CS ix = some q → ∃ sp, am_find (am_ML X) ix = some (q.1, q.2.1, q.2.2.1, 0, 0, sp) ∧ t_hs B (am_SH X) N M σ0 q.2.2.2 sp) (hD : ∀ pc q, am_find D pc = some q → decode cc pc = .ok q) : t_hs B (am_SH X) N M σ0 (t_in X B N CS M D Fk f maxL) (t_wp cc X f maxL) := by
  intro E ρ F as vs σ k post hE hF hA hI hk h
  unfold t_in at h
  simp only [Bool.and_eq_true, decide_eq_true_eq] at h
  refine ⟨by rw [(t_sl_ok hA).1]; exact h.1, fun AA => ?_⟩
  exact t_run_ok (E0 := E) (ρ0 := ρ) hCS hD (fun E' F' ρ' v' v τ hr x1 x2 x3 x4 x5 => hk E' F' v' hr ρ' v τ x1 x2 x3 x4 x5) (fun _ _ _ _ _ hc => by cases hc) f 0 E ρ F _ [] _ [] σ (sx_r E ρ) hE hF (t_en_ok hA) trivial hI h.2
/-! where a stretch begins -/
/-- number, slot (a ghost of the locals, an offset), bounds -/
abbrev ta_B : Type := Nat × (Nat × Int) × Int × Int
def t_sE (P : List (Option sa_P)) (l : List ta_B) : sa_E := s_aE P ++ l.map (fun q => (q.2.2.1, q.2.2.2, false))
def t_sF (b : Nat) : List ta_B → ta_F
  | [] => []
  | q :: t => (q.1, q.2.1, (b, 0)) :: t_sF (b + 1) t
/-- what a cell holds -/
def t_cv (P : List (Option sa_P)) (ls : List (Option Value)) (σ : am_S) (q : ta_B) : Int := (σ.1 q.1 (s_ρ P ls q.2.1.1 + q.2.1.2).toNat).toInt
def t_sρ (P : List (Option sa_P)) (ls : List (Option Value)) (l : List ta_B) (σ : am_S) (i : Nat) : Int := if i < P.length + 1 then s_ρ P ls i else match l[i - (P.length + 1)]? with
  | some q => t_cv P ls σ q
  | none => 0
def t_sc (P : List (Option sa_P)) (ls : List (Option Value)) (l : List ta_B) (σ : am_S) : Prop := ∀ q ∈ l, q.2.1.1 < P.length + 1 ∧ 0 ≤ s_ρ P ls q.2.1.1 + q.2.1.2 ∧ q.2.2.1 ≤ t_cv P ls σ q ∧ t_cv P ls σ q ≤ q.2.2.2
theorem s_aE_len (P : List (Option sa_P)) : (s_aE P).length = P.length + 1 := by simp [s_aE]
theorem t_sF_mem : ∀ (l : List ta_B) (b : Nat) (z : Nat × (Nat × Int) × (Nat × Int)), z ∈ t_sF b l → ∃ j q, l[j]? = some q ∧ z = (q.1, q.2.1, (b + j, 0))
  | [], b, z, h => by simp [t_sF] at h
  | q :: t, b, z, h => by
    rcases List.mem_cons.mp h with rfl | h
    · exact ⟨0, q, rfl, rfl⟩
    · obtain ⟨j, q', h1, h2⟩ := t_sF_mem t (b + 1) z h
      exact ⟨j + 1, q', h1, by rw [h2]; congr 3; omega⟩
theorem t_start {P : List (Option sa_P)} {ls : List (Option Value)} {l : List ta_B} {σ : am_S} (hP : s_P P ls) (hl : t_sc P ls l σ) : sg_E (t_sE P l) (t_sρ P ls l σ) ∧ tg_F (t_sE P l) (t_sρ P ls l σ) (t_sF (P.length + 1) l) σ ∧ sg_L (t_sE P l) (t_sρ P ls l σ) (s_aL 1 P) ls := by
  have hx : sx (s_aE P) (s_ρ P ls) (t_sE P l) (t_sρ P ls l σ) := ⟨by simp [t_sE], fun i hi => by rw [s_aE_len] at hi; exact if_pos hi⟩
  have hE := s_start_E hP
  have hlen : (t_sE P l).length = P.length + 1 + l.length := by simp [t_sE, s_aE_len]
  refine ⟨⟨by omega, by rw [hx.2 0 (by rw [s_aE_len]; omega)]; exact hE.2.1, fun i q hq => ?_⟩, fun z hz => ?_, sg_L_x hx (s_start_L hP)⟩
  · by_cases hi : i < P.length + 1
    · have : t_sρ P ls l σ i = s_ρ P ls i := if_pos hi
      rw [this]
      simp only [t_sE] at hq
      rw [List.getElem?_append_left (by rw [s_aE_len]; exact hi)] at hq
      exact hE.2.2 i q hq
    · simp only [t_sE] at hq
      rw [List.getElem?_append_right (by rw [s_aE_len]; omega), List.getElem?_map, s_aE_len] at hq
      have e : t_sρ P ls l σ i = match l[i - (P.length + 1)]? with
        | some q => t_cv P ls σ q
        | none => 0 := if_neg hi
      cases hc : l[i - (P.length + 1)]? with
      | none => rw [hc] at hq; cases hq
      | some c =>
        rw [hc] at hq e
        simp only [Option.map_some, Option.some.injEq] at hq
        subst hq
        have := hl c (List.mem_of_getElem? hc)
        rw [e]
        exact ⟨this.2.2.1, this.2.2.2, fun z => by cases z⟩
  · obtain ⟨j, q, h1, rfl⟩ := t_sF_mem l _ z hz
    have hj : j < l.length := (List.getElem?_eq_some_iff.mp h1).1
    obtain ⟨g1, g2, _⟩ := hl q (List.mem_of_getElem? h1)
    have e1 : t_sρ P ls l σ q.2.1.1 = s_ρ P ls q.2.1.1 := if_pos g1
    have e2 : t_sρ P ls l σ (P.length + 1 + j) = t_cv P ls σ q := by
      unfold t_sρ
      rw [if_neg (by omega), show P.length + 1 + j - (P.length + 1) = j by omega, h1]
    refine ⟨by show q.2.1.1 < _; omega, by show P.length + 1 + j < _; omega, by show 0 ≤ t_sρ P ls l σ q.2.1.1 + q.2.1.2; rw [e1]; exact g2, ?_⟩
    show (σ.1 q.1 (t_sρ P ls l σ q.2.1.1 + q.2.1.2).toNat).toInt = t_sρ P ls l σ (P.length + 1 + j) + 0
    rw [e1, e2, Int.add_zero]
    rfl
/-! what is asked where a stretch ends: cells (as they must be told), locals, bounds -/