/-! THE SAFETY CHECKER: one instruction. Printed by wip/am/chk/gen_f.py. -/
abbrev sa_C : Type := List (Nat × Nat × Nat × Nat × List sa_A)
/-- where ints are told apart; arrays of which one slot alone, the one that a field holds, is in bounds (array, field's number and slot, bounds) -/
abbrev sa_Q : Type := List Nat × List (Nat × Nat × Nat × Int × Int)
def s_gd (g : Nat × Nat × Nat × Int × Int) (σ : am_S) : Prop := g.2.2.2.1 ≤ (σ.1 g.1 (σ.1 g.2.1 g.2.2.1).toInt.toNat).toInt ∧ (σ.1 g.1 (σ.1 g.2.1 g.2.2.1).toInt.toNat).toInt ≤ g.2.2.2.2
def sb_lg (G : List (Nat × Nat × Nat × Int × Int)) (B : sa_I) (o : Nat) (i : Nat × Int) (E : sa_E) (F : sa_F) : Int × Int := match G.find? (fun g => decide (g.1 = o ∧ s_ff F g.2.1 g.2.2.1 = some i)) with
  | some g => g.2.2.2
  | none => sb_ld B o (sa_h E i)
theorem sb_lg_ok {G : List (Nat × Nat × Nat × Int × Int)} {B : sa_I} {SH : am_Sh} {o : Nat} {i : Nat × Int} {E : sa_E} {ρ : Nat → Int} {F : sa_F} {σ : am_S} {x : Int32} (hF : sg_F SH E ρ F σ) (hG : ∀ g ∈ G, s_gd g σ) (hi : x.toInt = ρ i.1 + i.2) (h : (sb_ld B o (sa_h E i)).1 ≤ (σ.1 o x.toNatClampNeg).toInt ∧ (σ.1 o x.toNatClampNeg).toInt ≤ (sb_ld B o (sa_h E i)).2) : (sb_lg G B o i E F).1 ≤ (σ.1 o x.toNatClampNeg).toInt ∧ (σ.1 o x.toNatClampNeg).toInt ≤ (sb_lg G B o i E F).2 := by
  unfold sb_lg
  split
  · rename_i g hg
    have hz := List.find?_some hg
    obtain ⟨h1, h2⟩ := of_decide_eq_true hz
    have h3 := (s_ff_ok hF h2).2
    have h4 := hG g (List.mem_of_find?_eq_some hg)
    unfold s_gd at h4
    rw [h1, h3, ← hi] at h4
    exact h4
  · exact h
def s_tg (pc : Nat) (off : Int) (k : Nat → Bool) : Bool := decide (0 ≤ (pc : Int) + off) && k ((pc : Int) + off).toNat
theorem s_tg_ok {pc : Nat} {off : Int} {k : Nat → Bool} (h : s_tg pc off k = true) : ∃ t : Nat, (pc : Int) + off = (t : Int) ∧ k t = true := by
  simp only [s_tg, Bool.and_eq_true, decide_eq_true_eq] at h
  exact ⟨((pc : Int) + off).toNat, (Int.toNat_of_nonneg h.1).symm, h.2⟩
def s_nz (E : sa_E) (y : Nat × Int) : Bool := decide (0 < (sa_h E y).1) || (decide ((sa_h E y).2 < 0) || (decide (y.2 = 0) && (match E[y.1]? with
  | some q => q.2.2
  | none => false)))
theorem s_nz_ok {E : sa_E} {ρ : Nat → Int} {y : Nat × Int} {b : Int32} (hE : sg_E E ρ) (h : b.toInt = ρ y.1 + y.2) (hz : s_nz E y = true) : ¬ b = 0 := by
  rintro rfl
  have hh := sa_h_ok hE h
  have e : (0 : Int32).toInt = 0 := rfl
  rw [e] at hh h
  simp only [s_nz, Bool.or_eq_true, Bool.and_eq_true, decide_eq_true_eq] at hz
  rcases hz with hz | hz | ⟨hz, hq⟩
  · omega
  · omega
  · split at hq
    · rename_i q he
      exact (hE.2.2 _ _ he).2.2 hq (by omega)
    · cases hq
theorem ra_eq {a b : Int32} (h : a = b) : sa_rel 0 a.toInt b.toInt := by rw [h]; rfl
theorem ra_nn {a b : Int32} (h : a = b) : sa_rel 0 a.toInt b.toInt := by rw [h]; rfl
theorem ra_ne {a b : Int32} (h : ¬ a = b) : sa_rel 1 a.toInt b.toInt := fun e => h (Int32.toInt_inj.mp e)
theorem ra_lt {a b : Int32} (h : a < b) : sa_rel 2 a.toInt b.toInt := Int32.lt_iff_toInt_lt.mp h
theorem ra_nlt {a b : Int32} (h : ¬ a < b) : sa_rel 3 b.toInt a.toInt := by
  have : ¬ a.toInt < b.toInt := fun e => h (Int32.lt_iff_toInt_lt.mpr e)
  show b.toInt ≤ a.toInt
  omega
theorem ra_le {a b : Int32} (h : a ≤ b) : sa_rel 3 a.toInt b.toInt := Int32.le_iff_toInt_le.mp h
theorem ra_nle {a b : Int32} (h : ¬ a ≤ b) : sa_rel 2 b.toInt a.toInt := by
  have : ¬ a.toInt ≤ b.toInt := fun e => h (Int32.le_iff_toInt_le.mpr e)
  show b.toInt < a.toInt
  omega
def s_ts (pc : Nat) (x : Nat × Int) (k : Nat → sa_E → Bool) (E : sa_E) : List Int → Int → Bool
  | [], _ => true
  | off :: t, i => sa_cmp E 0 x (0, i) (fun E1 => s_tg pc off (fun z => k z E1)) && s_ts pc x k E t (i + 1)
theorem s_ts_ok {pc : Nat} {x : Nat × Int} {k : Nat → sa_E → Bool} {E : sa_E} {ρ : Nat → Int} {a : Int32} {K : Nat → Prop} {lo : Int} (hE : sg_E E ρ) (hx : a.toInt = ρ x.1 + x.2) (hk : ∀ t E1, k t E1 = true → sg_E E1 ρ → E1.length = E.length → K t) : ∀ (l : List Int) (i : Int), s_ts pc x k E l i = true → am_ts pc a K lo l i
  | [], _, _ => trivial
  | off :: t, i, h => by
    simp only [s_ts, Bool.and_eq_true] at h
    refine ⟨fun e => ?_, s_ts_ok hE hx hk t (i + 1) h.2⟩
    obtain ⟨E1, q1, q2, q3⟩ := sa_cmp_ok (y := (0, i)) (b := a) hE hx (by show a.toInt = ρ 0 + i; rw [hE.2.1]; omega) (ra_eq rfl) h.1
    obtain ⟨z, z1, z2⟩ := s_tg_ok q1
    rw [am_tg_eq z1]
    exact hk z E1 z2 q2 q3
def s_ls (pc : Nat) (x : Nat × Int) (d : Int) (k : Nat → sa_E → Bool) (E : sa_E) : List (Int × Int) → Bool
  | [] => s_tg pc d (fun z => k z E)
  | q :: t => sa_cmp E 0 x (0, q.1) (fun E1 => s_tg pc q.2 (fun z => k z E1)) && s_ls pc x d k E t
theorem s_ls_ok {pc : Nat} {x : Nat × Int} {d : Int} {k : Nat → sa_E → Bool} {E : sa_E} {ρ : Nat → Int} {a : Int32} {K : Nat → Prop} (hE : sg_E E ρ) (hx : a.toInt = ρ x.1 + x.2) (hk : ∀ t E1, k t E1 = true → sg_E E1 ρ → E1.length = E.length → K t) : ∀ (l : List (Int × Int)), s_ls pc x d k E l = true → am_ls pc a d K l
  | [], h => by
    obtain ⟨z, z1, z2⟩ := s_tg_ok h
    show am_tg pc d K
    rw [am_tg_eq z1]
    exact hk z E z2 hE rfl
  | q :: t, h => by
    simp only [s_ls, Bool.and_eq_true] at h
    refine ⟨fun e => ?_, fun _ => s_ls_ok hE hx hk t h.2⟩
    obtain ⟨E1, q1, q2, q3⟩ := sa_cmp_ok (y := (0, q.1)) (b := a) hE hx (by show a.toInt = ρ 0 + q.1; rw [hE.2.1]; omega) (ra_eq rfl) h.1
    obtain ⟨z, z1, z2⟩ := s_tg_ok q1
    rw [am_tg_eq z1]
    exact hk z E1 z2 q2 q3
def s_ri (rt : Option FieldType) (E : sa_E) (a : Nat × Int) : Bool := match rt with
  | some .int => true
  | some .boolean => sa_inB E (0, 1) a
  | _ => false
theorem s_ri_ok {rt : Option FieldType} {E : sa_E} {ρ : Nat → Int} {a : Nat × Int} {x : Int32} (hE : sg_E E ρ) (hx : x.toInt = ρ a.1 + a.2) (h : s_ri rt E a = true) : am_ri rt x := by
  unfold s_ri at h
  split at h
  · trivial
  · have := sa_inB_ok hE hx h
    exact ti_nar this.1 this.2
  · cases h
def s_rl (rt : Option FieldType) : Bool := match rt with
  | some .long => true
  | _ => false
theorem s_rl_ok {rt : Option FieldType} (h : s_rl rt = true) : rt = some .long := by
  unfold s_rl at h
  split at h
  · rfl
  · cases h
def sv_o (E : sa_E) (ρ : Nat → Int) (v' : Option sa_V) (v : Option Value) : Prop := match v', v with
  | none, none => True
  | some a, some w => sg_V E ρ a w
  | _, _ => False
/-- a field is read -/
def s_get (B : sa_I) (o s kd : Nat) (E : sa_E) (F : sa_F) (k : sa_E → sa_F → sa_V → Bool) : Bool := match kd with
  | 0 => (match s_ff F o s with
    | some a => k E F (.inl a)
    | none => k (sa_fr E (B.2 o s)).1 ((o, s, E.length, 0) :: F) (.inl (E.length, 0)))
  | 1 => k E F (.inr (.inr true))
  | 2 => (match s_ff F o s with
    | some a => k E F (.inl a)
    | none => k (sa_fr E (B.2 o s)).1 ((o, s, E.length, 0) :: F) (.inl (E.length, 0)))
  | 3 => decide (1 ≤ (B.2 o s).1) && (List.range ((B.2 o s).2.toNat + 1)).all (fun j => decide (j < (B.2 o s).1.toNat) || k E F (.inr (.inl (j - 1))))
  | t + 4 => k E F (.inr (.inl t))
theorem s_get_ok {B : sa_I} {SH : am_Sh} {o s kd ci : Nat} {E : sa_E} {ρ : Nat → Int} {F : sa_F} {k : sa_E → sa_F → sa_V → Bool} {σ : am_S} (hE : sg_E E ρ) (hF : sg_F SH E ρ F σ) (hs : SH o = .inl ci) (hb : (B.2 o s).1 ≤ (σ.1 o s).toInt ∧ (σ.1 o s).toInt ≤ (B.2 o s).2) (h : s_get B o s kd E F k = true) : ∃ E1 F1 v ρ', k E1 F1 v = true ∧ sx E ρ E1 ρ' ∧ sg_E E1 ρ' ∧ sg_F SH E1 ρ' F1 σ ∧ sg_V E1 ρ' v (am_av kd (σ.1 o s) (σ.2 o s)) := by
  have hint : (match s_ff F o s with
    | some a => k E F (.inl a)
    | none => k (sa_fr E (B.2 o s)).1 ((o, s, E.length, 0) :: F) (.inl (E.length, 0))) = true → ∃ E1 F1 v ρ', k E1 F1 v = true ∧ sx E ρ E1 ρ' ∧ sg_E E1 ρ' ∧ sg_F SH E1 ρ' F1 σ ∧ sg_V E1 ρ' v (.int (σ.1 o s)) := by
    intro h
    split at h
    · rename_i a ha
      obtain ⟨a1, a2⟩ := s_ff_ok hF ha
      exact ⟨_, _, _, ρ, h, sx_r E ρ, hE, hF, a1, _, rfl, a2⟩
    · obtain ⟨ρ', q1, q2, q3⟩ := sa_fr_ok hE hb
      obtain ⟨c1, x, c2, c3⟩ := q3
      cases c2
      exact ⟨_, _, _, ρ', h, q1, q2, sg_F_cons hs ⟨c1, c3⟩ (sg_F_x q1 hF), c1, _, rfl, c3⟩
  unfold s_get at h
  split at h
  · exact hint h
  · exact ⟨_, _, _, ρ, h, sx_r E ρ, hE, hF, _, rfl⟩
  · exact hint h
  · simp only [Bool.and_eq_true, decide_eq_true_eq] at h
    have h2 := List.all_eq_true.mp h.2 (σ.1 o s).toInt.toNat (List.mem_range.mpr (by omega))
    simp only [Bool.or_eq_true, decide_eq_true_eq] at h2
    have h3 : k E F (.inr (.inl ((σ.1 o s).toInt.toNat - 1))) = true := by
      rcases h2 with h2 | h2
      · omega
      · exact h2
    refine ⟨_, _, _, ρ, h3, sx_r E ρ, hE, hF, ?_⟩
    have hx : ¬ (σ.1 o s) = 0 := by
      intro e
      rw [e] at hb
      have e : (0 : Int32).toInt = 0 := rfl
      omega
    show (if (σ.1 o s) = 0 then Value.null else Value.ref ((σ.1 o s).toNatClampNeg - 1)) = Value.ref ((σ.1 o s).toInt.toNat - 1)
    rw [if_neg hx]
    rfl
  · exact ⟨_, _, _, ρ, h, sx_r E ρ, hE, hF, rfl⟩
/-- a field is written -/
def s_put (B : sa_I) (M : sa_M) (o s kd : Nat) (E : sa_E) (F : sa_F) (v : sa_V) (k : sa_F → Bool) : Bool := s_mod M o s s && (match kd with
  | 0 => (match v with
    | .inl a => sa_inB E (B.2 o s) a && k ((o, s, a) :: s_fd F o s)
    | _ => false)
  | 1 => (match v with
    | .inr (.inr true) => k F
    | _ => false)
  | 2 => (match v with
    | .inl a => sa_inB E (B.2 o s) a && (sa_inB E (0, 1) a && k ((o, s, a) :: s_fd F o s))
    | _ => false)
  | 3 => (match v with
    | .inr (.inl t) => decide (t < 1000000 ∧ (B.2 o s).1 ≤ (t : Int) + 1 ∧ (t : Int) + 1 ≤ (B.2 o s).2) && k (s_fd F o s)
    | _ => false)
  | _ => false)
theorem s_put_ok {B : sa_I} {SH : am_Sh} {M : sa_M} {o s kd ci : Nat} {E : sa_E} {ρ : Nat → Int} {F : sa_F} {a : sa_V} {v : Value} {σ0 σ : am_S} {K : am_S → Prop} {k : sa_F → Bool} (hE : sg_E E ρ) (hF : sg_F SH E ρ F σ) (hV : sg_V E ρ a v) (hI : sI B SH M σ0 σ) (hs : SH o = .inl ci) (h : s_put B M o s kd E F a k = true) (hk : ∀ F' τ, k F' = true → sg_F SH E ρ F' τ → sI B SH M σ0 τ → K τ) : am_pf kd v σ o s K := by
  unfold s_put at h
  rw [Bool.and_eq_true] at h
  obtain ⟨h1, h2⟩ := h
  have hm : ∃ m ∈ M, m.1 = o ∧ m.2.1 ≤ s ∧ s < m.2.2 := by
    obtain ⟨m, m1, m2, m3, m4⟩ := s_mod_ok h1
    exact ⟨m, m1, m2, by omega, by omega⟩
  split at h2
  · split at h2
    · obtain ⟨hl, x, rfl, hx⟩ := hV
      rw [Bool.and_eq_true] at h2
      exact hk _ _ h2.2 (sg_F_cons hs ⟨hl, by rw [pi_s]; exact hx⟩ (sg_F_put hF)) (sI_fld hI hs (sa_inB_ok hE hx h2.1) hm)
    · cases h2
  · split at h2
    · obtain ⟨y, rfl⟩ := hV
      exact hk _ _ h2 (sg_F_putl hF) (sI_pl hI hm)
    · cases h2
  · split at h2
    · obtain ⟨hl, x, rfl, hx⟩ := hV
      simp only [Bool.and_eq_true] at h2
      have hb := sa_inB_ok hE hx h2.2.1
      exact ⟨ti_nar hb.1 hb.2, hk _ _ h2.2.2 (sg_F_cons hs ⟨hl, by rw [pi_s]; exact hx⟩ (sg_F_put hF)) (sI_fld hI hs (sa_inB_ok hE hx h2.1) hm)⟩
    · cases h2
  · split at h2
    · rename_i t
      have hV : v = .ref t := hV
      subst hV
      simp only [Bool.and_eq_true, decide_eq_true_eq] at h2
      refine ⟨h2.1.1, hk _ _ h2.2 (sg_F_put hF) (sI_fld hI hs ?_ hm)⟩
      have e : (Int32.ofNat (t + 1)).toInt = (t : Int) + 1 := by
        show (Int32.ofInt ((t + 1 : Nat) : Int)).toInt = _
        rw [ii_t (by omega) (by omega)]
        omega
      rw [e]
      exact h2.1.2
    · cases h2
  · cases h2
/-- an int told apart: one way for each worth that it may have -/
def s_fork (E : sa_E) (y : Nat × Int) (k : sa_E → Int → Bool) : Bool := (List.range (((sa_h E y).2 - (sa_h E y).1).toNat + 1)).all (fun j => sa_cmp E 0 y (0, (sa_h E y).1 + (j : Int)) (fun E1 => k E1 ((sa_h E y).1 + (j : Int))))
theorem s_fork_ok {E : sa_E} {ρ : Nat → Int} {y : Nat × Int} {b : Int32} {k : sa_E → Int → Bool} (hE : sg_E E ρ) (hy : b.toInt = ρ y.1 + y.2) (h : s_fork E y k = true) : ∃ E1, k E1 b.toInt = true ∧ sg_E E1 ρ ∧ E1.length = E.length := by
  have hh := sa_h_ok hE hy
  have h1 := List.all_eq_true.mp h (b.toInt - (sa_h E y).1).toNat (List.mem_range.mpr (by omega))
  have e : (sa_h E y).1 + (((b.toInt - (sa_h E y).1).toNat : Nat) : Int) = b.toInt := by omega
  rw [e] at h1
  exact sa_cmp_ok (a := b) (b := b) hE hy (by show b.toInt = ρ 0 + b.toInt; rw [hE.2.1]; omega) (ra_eq rfl) h1
/-- a product of which one is told apart -/
def s_fmul (E : sa_E) (x y : Nat × Int) (k : sa_E → Nat × Int → Bool) : Bool :=
  if y.1 = 0 then s_fork E x (fun E1 z => decide (-2147483648 ≤ z * y.2 ∧ z * y.2 ≤ 2147483647) && k E1 (0, z * y.2))
  else if x.1 = 0 then s_fork E y (fun E1 z => decide (-2147483648 ≤ x.2 * z ∧ x.2 * z ≤ 2147483647) && k E1 (0, x.2 * z))
  else false
theorem s_fmul_ok {E : sa_E} {ρ : Nat → Int} {x y : Nat × Int} {a b : Int32} {k : sa_E → Nat × Int → Bool} (hE : sg_E E ρ) (h2 : s2 E ρ x y a b) (h : s_fmul E x y k = true) : ∃ E1 q, k E1 q = true ∧ sg_E E1 ρ ∧ E1.length = E.length ∧ q.1 < E1.length ∧ (a * b).toInt = ρ q.1 + q.2 := by
  obtain ⟨⟨_, hx⟩, _, hy⟩ := h2
  unfold s_fmul at h
  split at h
  · rename_i e
    obtain ⟨E1, q1, q2, q3⟩ := s_fork_ok hE hx h
    rw [e, hE.2.1] at hy
    have hy : b.toInt = y.2 := by omega
    simp only [Bool.and_eq_true, decide_eq_true_eq] at q1
    refine ⟨E1, _, q1.2, q2, q3, q2.1, ?_⟩
    rw [ti_mul (by rw [hy]; omega) (by rw [hy]; omega), hy, q2.2.1]
    omega
  · split at h
    · rename_i e
      obtain ⟨E1, q1, q2, q3⟩ := s_fork_ok hE hy h
      rw [e, hE.2.1] at hx
      have hx : a.toInt = x.2 := by omega
      simp only [Bool.and_eq_true, decide_eq_true_eq] at q1
      refine ⟨E1, _, q1.2, q2, q3, q2.1, ?_⟩
      rw [ti_mul (by rw [hx]; omega) (by rw [hx]; omega), hx, q2.2.1]
      omega
    · cases h
/-! calls -/
def s_rc (kind cls N : Nat) (SH : am_Sh) (as : List sa_V) : Bool := if kind = 1 ∨ kind = 4 then true else (match as with
  | .inr (.inl o) :: _ => decide (o < N) && decide (SH o = .inl cls)
  | _ => false)
theorem s_rc_ok {kind cls N : Nat} {SH : am_Sh} {as : List sa_V} {vs : List Value} {E : sa_E} {ρ : Nat → Int} (hS : sg_S E ρ as vs) (h : s_rc kind cls N SH as = true) : am_rc kind cls N SH vs := by
  unfold s_rc at h
  unfold am_rc
  split
  · trivial
  · trivial
  · rename_i n1 n4
    rw [if_neg (by rintro (rfl | rfl); exact n1 rfl; exact n4 rfl)] at h
    split at h
    · rename_i o t
      cases vs with
      | nil => exact hS.elim
      | cons v t' =>
        have e : v = .ref o := hS.1
        subst e
        simp only [Bool.and_eq_true, decide_eq_true_eq] at h
        exact h
    · cases h
def s_refs (as : List sa_V) : List (Nat × Int × Int) → sa_E → (sa_E → Bool) → Bool
  | [], E, k => k E
  | q :: t, E, k => match as[q.1]? with
    | some (.inl a) => sa_meet E a.1 (q.2.1 - a.2) (q.2.2 - a.2) false (fun E1 => s_refs as t E1 k)
    | _ => s_refs as t E k
theorem s_refs_ok {as : List sa_V} {vs : List Value} {ρ : Nat → Int} : ∀ (R : List (Nat × Int × Int)) (E : sa_E) (k : sa_E → Bool), sg_E E ρ → sg_S E ρ as vs → (∀ q ∈ R, ∃ x : Int32, vs[q.1]? = some (.int x) ∧ q.2.1 ≤ x.toInt ∧ x.toInt ≤ q.2.2) → s_refs as R E k = true → ∃ E', k E' = true ∧ sg_E E' ρ ∧ E'.length = E.length
  | [], E, k, hE, _, _, h => ⟨E, h, hE, rfl⟩
  | q :: t, E, k, hE, hS, hR, h => by
    simp only [s_refs] at h
    split at h
    · rename_i a ha
      obtain ⟨v, v1, v2⟩ := sg_S_at hS ha
      obtain ⟨x, x1, x2, x3⟩ := hR q List.mem_cons_self
      rw [v1] at x1
      cases x1
      obtain ⟨_, x', hx', hx⟩ := v2
      cases hx'
      obtain ⟨E1, q1, q2, q3⟩ := sa_meet_ok hE (by omega) (by omega) (fun z => by cases z) h
      obtain ⟨E2, p1, p2, p3⟩ := s_refs_ok t E1 k q2 (sg_S_x (sx_l q3) hS) (fun z hz => hR z (List.mem_cons_of_mem _ hz)) q1
      exact ⟨E2, p1, p2, p3.trans q3⟩
    · exact s_refs_ok t E k hE hS (fun z hz => hR z (List.mem_cons_of_mem _ hz)) h
def s_res (E : sa_E) (r : Option sa_P) (k : sa_E → List sa_V → Bool) : Bool := match r with
  | none => k E []
  | some (.inl b) => k (sa_fr E b).1 [(sa_fr E b).2]
  | some (.inr b) => k E [.inr b]
theorem s_res_ok {E : sa_E} {ρ : Nat → Int} {r : Option sa_P} {v : Option Value} {k : sa_E → List sa_V → Bool} (hE : sg_E E ρ) (hr : sp_ro r v) (h : s_res E r k = true) : ∃ E1 S1 ρ', k E1 S1 = true ∧ sx E ρ E1 ρ' ∧ sg_E E1 ρ' ∧ sg_S E1 ρ' S1 v.toList := by
  unfold s_res at h
  split at h
  · cases v with
    | none => exact ⟨_, _, ρ, h, sx_r E ρ, hE, trivial⟩
    | some w => exact hr.elim
  · cases v with
    | none => exact hr.elim
    | some w =>
      obtain ⟨x, rfl, hb⟩ := hr
      obtain ⟨ρ', q1, q2, q3⟩ := sa_fr_ok hE hb
      exact ⟨_, _, ρ', h, q1, q2, q3, trivial⟩
  · rename_i b
    cases v with
    | none => exact hr.elim
    | some w =>
      refine ⟨_, _, ρ, h, sx_r E ρ, hE, ?_, trivial⟩
      rcases b with o | b
      · exact hr
      · cases b <;> exact hr
def s_call (SH : am_Sh) (N : Nat) (CS : sa_C) (M : sa_M) (k1 k2 ix : Nat) (E : sa_E) (F : sa_F) (S : List sa_V) (k : sa_E → sa_F → List sa_V → Bool) : Bool := match am_find CS ix with
  | none => false
  | some q => decide (q.1 = k1 ∨ q.1 = k2) && (decide (q.2.1 ≤ S.length) && (s_rc q.1 q.2.2.1 N SH (S.take q.2.1).reverse && (decide (((S.drop q.2.1).map s_cat).sum ≤ 8) && (match q.2.2.2.find? (fun a => sa_inPs E a.1 (S.take q.2.1).reverse) with
    | none => false
    | some a => a.2.2.all (fun z => M.any (fun m => decide (m.1 = z.1 ∧ m.2.1 ≤ z.2.1 ∧ z.2.2 ≤ m.2.2))) && a.2.1.all (fun r => s_refs (S.take q.2.1).reverse r.2 E (fun E1 => s_res E1 r.1 (fun E2 S2 => k E2 (s_fk F a.2.2) (S2 ++ S.drop q.2.1))))))))
theorem s_fr_m {M M' : sa_M} {σ τ : am_S} (h : M'.all (fun z => M.any (fun m => decide (m.1 = z.1 ∧ m.2.1 ≤ z.2.1 ∧ z.2.2 ≤ m.2.2))) = true) (hf : sb_fr M' σ τ) : sb_fr M σ τ := by
  intro o k hn
  refine hf o k (fun z hz hh => ?_)
  obtain ⟨m, m1, m2⟩ := List.any_eq_true.mp (List.all_eq_true.mp h z hz)
  have m2 := of_decide_eq_true m2
  exact hn m m1 ⟨by omega, by omega, by omega⟩
theorem s_call_ok {X : am_X} {B : sa_I} {N : Nat} {CS : sa_C} {M : sa_M} {J : am_S → Prop} {σ0 σ : am_S} {k1 k2 ix : Nat} {E : sa_E} {ρ : Nat → Int} {F : sa_F} {S : List sa_V} {stk : List Value} {k : sa_E → sa_F → List sa_V → Bool} {K : List Value → Nat → am_S → Prop}
    (hML : ∀ ix q, am_find CS ix = some q → am_find (am_ML X) ix = some (q.1, q.2.1, q.2.2.1, 0, 0, sp_w J B (am_SH X) N q.2.2.2)) (hJ : ∀ τ, sb_fr M σ0 τ → J τ) (hE : sg_E E ρ) (hF : sg_F (am_SH X) E ρ F σ) (hS : sg_S E ρ S stk) (hI : sI B (am_SH X) M σ0 σ)
    (hk : ∀ E1 F1 S1, k E1 F1 S1 = true → ∀ ρ' st' τ, sx E ρ E1 ρ' → sg_E E1 ρ' → sg_F (am_SH X) E1 ρ' F1 τ → sg_S E1 ρ' S1 st' → sI B (am_SH X) M σ0 τ → K st' N τ) (h : s_call (am_SH X) N CS M k1 k2 ix E F S k = true) :
    am_opt (am_find (am_ML X) ix) (fun q => (q.1 = k1 ∨ q.1 = k2) ∧ q.2.1 ≤ stk.length ∧ am_rc q.1 q.2.2.1 N (am_SH X) (stk.take q.2.1).reverse ∧ ((stk.drop q.2.1).map fun v => v.category).sum ≤ 8 ∧ N + q.2.2.2.1 ≤ N ∧ am_sz (am_SH X) (am_KF X) (N + q.2.2.2.1) = am_sz (am_SH X) (am_KF X) N + q.2.2.2.2.1 ∧ q.2.2.2.2.2 (stk.take q.2.1).reverse N σ (fun v σ1 => K (v.toList ++ stk.drop q.2.1) (N + q.2.2.2.1) σ1)) := by
  unfold s_call at h
  cases hf : am_find CS ix with
  | none => rw [hf] at h; cases h
  | some q =>
    rw [hf] at h
    simp only [Bool.and_eq_true, decide_eq_true_eq] at h
    obtain ⟨h1, h2, h3, h4, h5⟩ := h
    rw [hML ix q hf]
    have hA := sg_S_rev (sg_S_take q.2.1 hS)
    refine ⟨h1, by rw [sg_S_len hS]; exact h2, s_rc_ok hA h3, by rw [s_cats (sg_S_drop q.2.1 hS)]; exact h4, Nat.le_refl _, rfl, ?_⟩
    split at h5
    · cases h5
    · rename_i a ha
      simp only [Bool.and_eq_true] at h5
      refine ⟨rfl, hI.1, hJ _ hI.2, a, List.mem_of_find?_eq_some ha, sa_inPs_ok hE hA (by have hz := List.find?_some ha; exact hz), fun v τ t1 t2 t3 t4 => ?_⟩
      obtain ⟨r, r1, r2, r3⟩ := t4
      obtain ⟨E1, q1, q2, q3⟩ := s_refs_ok r.2 E _ hE hA r3 (List.all_eq_true.mp h5.2 r r1)
      obtain ⟨E2, S2, ρ', p1, p2, p3, p4⟩ := s_res_ok q2 r2 q1
      have hx := sx_t (sx_l q3) p2
      exact hk _ _ _ p1 ρ' _ τ hx p3 (sg_F_x hx (sg_F_call t3 hF)) (sg_S_app p4 (sg_S_x hx (sg_S_drop q.2.1 hS))) ⟨t1, sb_fr_t hI.2 (s_fr_m h5.1 t3)⟩
/-! members of the JDK -/
def sa_ab (E : sa_E) (x : Nat × Int) : Int × Int := if -2147483648 < (sa_h E x).1 then (0, sa_mx (sa_h E x).2 (0 - (sa_h E x).1)) else sa_full
theorem sa_ab_ok {E : sa_E} {ρ : Nat → Int} {x : Nat × Int} {a : Int32} (hE : sg_E E ρ) (hx : a.toInt = ρ x.1 + x.2) : (sa_ab E x).1 ≤ (if 0 ≤ a then a else 0 - a).toInt ∧ (if 0 ≤ a then a else 0 - a).toInt ≤ (sa_ab E x).2 := by
  have hh := sa_h_ok hE hx
  unfold sa_ab
  split
  · rename_i hc
    have m1 : (sa_h E x).2 ≤ sa_mx (sa_h E x).2 (0 - (sa_h E x).1) := by unfold sa_mx; split <;> omega
    have m2 : 0 - (sa_h E x).1 ≤ sa_mx (sa_h E x).2 (0 - (sa_h E x).1) := by unfold sa_mx; split <;> omega
    have e0 : (0 : Int32).toInt = 0 := rfl
    by_cases q : 0 ≤ a
    · rw [if_pos q]
      have q := Int32.le_iff_toInt_le.mp q
      rw [e0] at q
      exact ⟨q, by show a.toInt ≤ _; omega⟩
    · rw [if_neg q]
      have q : ¬ (0 : Int32).toInt ≤ a.toInt := fun z => q (Int32.le_iff_toInt_le.mpr z)
      rw [e0] at q
      have l := ii_hi a
      rw [ti_sub (by rw [e0]; omega) (by rw [e0]; omega), e0]
      exact ⟨by show (0 : Int) ≤ _; omega, by show 0 - a.toInt ≤ _; omega⟩
  · have l1 := ii_lo (if 0 ≤ a then a else 0 - a)
    have l2 := ii_hi (if 0 ≤ a then a else 0 - a)
    exact ⟨l1, by show _ ≤ (2147483647 : Int); omega⟩
def s_nat (SH : am_Sh) (B : sa_I) (N : Nat) (M : sa_M) (w op : Nat) (E : sa_E) (S : List sa_V) (k : sa_E → List sa_V → Bool) : Bool := match w, op with
  | 0, 1 => s_2 S (fun x y r => decide ((r.map s_cat).sum ≤ 8) && k (sa_max E x y).1 ((sa_max E x y).2 :: r))
  | 1, 1 => s_2 S (fun x y r => decide ((r.map s_cat).sum ≤ 8) && k (sa_min E x y).1 ((sa_min E x y).2 :: r))
  | 2, 1 => s_1 S (fun x r => decide ((r.map s_cat).sum ≤ 8) && k (sa_fr E (sa_ab E x)).1 ((sa_fr E (sa_ab E x)).2 :: r))
  | 4, 1 => s_1 S (fun m r1 => s_1 r1 (fun dp r2 => s_a r2 (fun d r3 => s_1 r3 (fun sp r4 => s_a r4 (fun c r => decide (c < N) && (decide (d < N) && (match SH c with
    | .inl _ => false
    | .inr q => (match SH d with
      | .inl _ => false
      | .inr q2 => decide (q.1 = 0 ∧ q2.1 = 0 ∧ 0 ≤ (sa_h E sp).1 ∧ 0 ≤ (sa_h E dp).1 ∧ 0 ≤ (sa_h E m).1 ∧ (sa_h E sp).2 + (sa_h E m).2 ≤ (q.2 : Int) ∧ (sa_h E dp).2 + (sa_h E m).2 ≤ (q2.2 : Int) ∧ (r.map s_cat).sum ≤ 8) && (sb_cp B c d (sa_h E sp) (sa_h E dp) && (M.any (fun z => decide (z.1 = d ∧ (z.2.1 : Int) ≤ (sa_h E dp).1 ∧ (sa_h E dp).2 + (sa_h E m).2 ≤ (z.2.2 : Int))) && k E r))))))))))
  | _, _ => false
theorem s_nat_ok {SH : am_Sh} {B : sa_I} {N : Nat} {M : sa_M} {σ0 σ : am_S} {w op : Nat} {E : sa_E} {ρ : Nat → Int} {F : sa_F} {S : List sa_V} {stk : List Value} {k : sa_E → List sa_V → Bool} {K : List Value → am_S → Prop} (hE : sg_E E ρ) (hF : sg_F SH E ρ F σ) (hS : sg_S E ρ S stk) (hI : sI B SH M σ0 σ)
    (hk : ∀ E1 S1, k E1 S1 = true → ∀ ρ' st' τ, sx E ρ E1 ρ' → sg_E E1 ρ' → sg_F SH E1 ρ' F τ → sg_S E1 ρ' S1 st' → sI B SH M σ0 τ → K st' τ) (h : s_nat SH B N M w op E S k = true) : am_nat w op stk N SH σ K := by
  unfold s_nat at h
  split at h
  · obtain ⟨x, y, r, a, b, st', g1, rfl, g3, g4⟩ := s_2_ok hS h
    simp only [Bool.and_eq_true, decide_eq_true_eq] at g1
    obtain ⟨ρ', q1, q2, q3⟩ := sa_max_ok hE g3
    exact ⟨by rw [s_cats g4]; exact g1.1, hk _ _ g1.2 ρ' _ _ q1 q2 (sg_F_x q1 hF) ⟨q3, sg_S_x q1 g4⟩ hI⟩
  · obtain ⟨x, y, r, a, b, st', g1, rfl, g3, g4⟩ := s_2_ok hS h
    simp only [Bool.and_eq_true, decide_eq_true_eq] at g1
    obtain ⟨ρ', q1, q2, q3⟩ := sa_min_ok hE g3
    exact ⟨by rw [s_cats g4]; exact g1.1, hk _ _ g1.2 ρ' _ _ q1 q2 (sg_F_x q1 hF) ⟨q3, sg_S_x q1 g4⟩ hI⟩
  · obtain ⟨x, r, a, st', g1, rfl, g3, g4⟩ := s_1_ok hS h
    simp only [Bool.and_eq_true, decide_eq_true_eq] at g1
    obtain ⟨ρ', q1, q2, q3⟩ := sa_fr_ok hE (sa_ab_ok hE g3.2)
    exact ⟨by rw [s_cats g4]; exact g1.1, hk _ _ g1.2 ρ' _ _ q1 q2 (sg_F_x q1 hF) ⟨q3, sg_S_x q1 g4⟩ hI⟩
  · obtain ⟨m, r1, xm, st1, h1, rfl, m3, m4⟩ := s_1_ok hS h
    obtain ⟨dp, r2, xd, st2, h2, rfl, d3, d4⟩ := s_1_ok m4 h1
    obtain ⟨d, r3, st3, h3, rfl, e4⟩ := s_a_ok d4 h2
    obtain ⟨sp, r4, xs, st4, h4, rfl, p3, p4⟩ := s_1_ok e4 h3
    obtain ⟨c, r, st', h5, rfl, c4⟩ := s_a_ok p4 h4
    simp only [Bool.and_eq_true, decide_eq_true_eq] at h5
    obtain ⟨hc, hd, h6⟩ := h5
    cases hsc : SH c with
    | inl _ => rw [hsc] at h6; cases h6
    | inr q =>
      cases hsd : SH d with
      | inl _ => rw [hsc, hsd] at h6; cases h6
      | inr q2 =>
        rw [hsc, hsd] at h6
        simp only [Bool.and_eq_true, decide_eq_true_eq] at h6
        obtain ⟨⟨k1, k2, k3, k4, k5, k6, k7, k10⟩, k8, h7, h8⟩ := h6
        have bm := sa_h_ok hE m3.2
        have bd := sa_h_ok hE d3.2
        have bs := sa_h_ok hE p3.2
        have z0 : (0 : Int32).toInt = 0 := rfl
        have nl : ∀ y : Int32, 0 ≤ y.toInt → ¬ y < 0 := fun y hy hlt => by
          have := Int32.lt_iff_toInt_lt.mp hlt
          rw [z0] at this
          omega
        have am : xm.toNatClampNeg = xm.toInt.toNat := rfl
        have ad : xd.toNatClampNeg = xd.toInt.toNat := rfl
        have as : xs.toNatClampNeg = xs.toInt.toNat := rfl
        show c < N ∧ d < N ∧ am_arr (SH c) _
        rw [hsc]
        refine ⟨hc, hd, k1, ?_⟩
        rw [hsd]
        refine ⟨k2, nl _ (by omega), nl _ (by omega), nl _ (by omega), by rw [am, as]; omega, by rw [am, ad]; omega, by rw [s_cats c4]; exact k10, ?_⟩
        refine hk _ _ h8 ρ _ _ (sx_r E ρ) hE (sg_F_cpy hsd hF) c4 (sI_cpy hI hsc hsd (by rw [am, as]; omega) (fun j _ => sb_cp_ok bs bd k8 j) ?_)
        obtain ⟨z, z1, z2⟩ := List.any_eq_true.mp h7
        have z2 := of_decide_eq_true z2
        exact ⟨z, z1, z2.1, by rw [ad]; omega, by rw [am, ad]; omega⟩
  · cases h
def s_one (X : am_X) (B : sa_I) (N : Nat) (CS : sa_C) (M : sa_M) (Fk : sa_Q) (ret : sa_E → Option sa_V → Bool) (i : Instr) (len pc : Nat) (E : sa_E) (F : sa_F) (L : List (Option sa_V)) (S : List sa_V) (k : Nat → sa_E → sa_F → List (Option sa_V) → List sa_V → Bool) : Bool := match i with
  | .iconst v => decide (len = 1) && (decide (-2147483648 ≤ v ∧ v ≤ 2147483647) && k (pc + 1) E F L (.inl (0, v) :: S))
  | .bipush v => decide (len = 2) && (decide (-128 ≤ v ∧ v ≤ 127) && k (pc + 2) E F L (.inl (0, v) :: S))
  | .sipush v => decide (len = 3) && (decide (-32768 ≤ v ∧ v ≤ 32767) && k (pc + 3) E F L (.inl (0, v) :: S))
  | .lconst v => decide (len = 1) && k (pc + 1) E F L (.inr (.inr true) :: S)
  | .ldc ix => decide (len = 2) && (match am_find (am_KT X) ix with
    | some v => k (pc + 2) E F L (.inl (0, v.toInt) :: S)
    | none => false)
  | .ldc_w ix => decide (len = 3) && (match am_find (am_KT X) ix with
    | some v => k (pc + 3) E F L (.inl (0, v.toInt) :: S)
    | none => false)
  | .ldc2_w ix => decide (len = 3) && (match am_find (am_LT X) ix with
    | some _ => k (pc + 3) E F L (.inr (.inr true) :: S)
    | none => false)
  | .iload_n n => decide (len = 1) && s_ldi L (n : Nat) (fun a => if Fk.1.contains pc then s_fork E a (fun E1 _ => k (pc + 1) E1 F L (.inl a :: S)) else k (pc + 1) E F L (.inl a :: S))
  | .iload n => decide (len = 2) && s_ldi L n (fun a => if Fk.1.contains pc then s_fork E a (fun E1 _ => k (pc + 2) E1 F L (.inl a :: S)) else k (pc + 2) E F L (.inl a :: S))
  | .lload_n n => decide (len = 1) && s_ldl L (n : Nat) (k (pc + 1) E F L (.inr (.inr true) :: S))
  | .lload n => decide (len = 2) && s_ldl L n (k (pc + 2) E F L (.inr (.inr true) :: S))
  | .aload_n n => decide (len = 1) && s_lda L (n : Nat) (fun o => k (pc + 1) E F L (.inr (.inl o) :: S))
  | .aload n => decide (len = 2) && s_lda L n (fun o => k (pc + 2) E F L (.inr (.inl o) :: S))
  | .istore_n n => decide (len = 1) && s_1 S (fun a r => decide (s_lg L (n : Nat) = false) && (decide ((n : Nat) < L.length) && k (pc + 1) E F (L.set (n : Nat) (some (.inl a))) r))
  | .istore n => decide (len = 2) && s_1 S (fun a r => decide (s_lg L n = false) && (decide (n < L.length) && k (pc + 2) E F (L.set n (some (.inl a))) r))
  | .lstore_n n => decide (len = 1) && s_l S (fun r => decide (s_lg L (n : Nat) = false) && (decide ((n : Nat) + 1 < L.length) && k (pc + 1) E F ((L.set (n : Nat) (some (.inr (.inr true)))).set ((n : Nat) + 1) none) r))
  | .lstore n => decide (len = 2) && s_l S (fun r => decide (s_lg L n = false) && (decide (n + 1 < L.length) && k (pc + 2) E F ((L.set n (some (.inr (.inr true)))).set (n + 1) none) r))
  | .astore_n n => decide (len = 1) && s_a S (fun o r => decide (s_lg L (n : Nat) = false) && (decide ((n : Nat) < L.length) && k (pc + 1) E F (L.set (n : Nat) (some (.inr (.inl o)))) r))
  | .astore n => decide (len = 2) && s_a S (fun o r => decide (s_lg L n = false) && (decide (n < L.length) && k (pc + 2) E F (L.set n (some (.inr (.inl o)))) r))
  | .iinc n c => decide (len = 3) && (decide (-2147483648 ≤ c ∧ c ≤ 2147483647) && s_ldi L n (fun a => decide (s_lg L n = false) && (decide (n < L.length) && k (pc + 3) (sa_add E a (0, c)).1 F (L.set n (some (sa_add E a (0, c)).2)) S)))
  | .imul => decide (len = 1) && s_2 S (fun x y r => if Fk.1.contains pc then s_fmul E x y (fun E1 q => k (pc + 1) E1 F L (.inl q :: r)) else k (pc + 1) (sa_mul E x y).1 F L ((sa_mul E x y).2 :: r))
  | .iadd => decide (len = 1) && s_2 S (fun x y r => k (pc + 1) (sa_add E x y).1 F L ((sa_add E x y).2 :: r))
  | .isub => decide (len = 1) && s_2 S (fun x y r => k (pc + 1) (sa_sub E x y).1 F L ((sa_sub E x y).2 :: r))
  | .iand => decide (len = 1) && s_2 S (fun x y r => k (pc + 1) (sa_and E x y).1 F L ((sa_and E x y).2 :: r))
  | .ior => decide (len = 1) && s_2 S (fun _ _ r => k (pc + 1) (sa_fr E sa_full).1 F L ((sa_fr E sa_full).2 :: r))
  | .ixor => decide (len = 1) && s_2 S (fun _ _ r => k (pc + 1) (sa_fr E sa_full).1 F L ((sa_fr E sa_full).2 :: r))
  | .ishl => decide (len = 1) && s_2 S (fun x y r => k (pc + 1) (sa_shl E x y).1 F L ((sa_shl E x y).2 :: r))
  | .ishr => decide (len = 1) && s_2 S (fun x y r => k (pc + 1) (sa_shr E x y).1 F L ((sa_shr E x y).2 :: r))
  | .iushr => decide (len = 1) && s_2 S (fun _ _ r => k (pc + 1) (sa_fr E sa_full).1 F L ((sa_fr E sa_full).2 :: r))
  | .idiv => decide (len = 1) && s_2 S (fun x y r => s_nz E y && k (pc + 1) (sa_div E x y).1 F L ((sa_div E x y).2 :: r))
  | .irem => decide (len = 1) && s_2 S (fun x y r => s_nz E y && k (pc + 1) (sa_rem E x y).1 F L ((sa_rem E x y).2 :: r))
  | .ladd => decide (len = 1) && s_l S (fun r1 => s_l r1 (fun r => k (pc + 1) E F L (.inr (.inr true) :: r)))
  | .lmul => decide (len = 1) && s_l S (fun r1 => s_l r1 (fun r => k (pc + 1) E F L (.inr (.inr true) :: r)))
  | .lcmp => decide (len = 1) && s_l S (fun r1 => s_l r1 (fun r => k (pc + 1) (sa_fr E sa_full).1 F L ((sa_fr E sa_full).2 :: r)))
  | .i2l => decide (len = 1) && s_1 S (fun _ r => k (pc + 1) E F L (.inr (.inr true) :: r))
  | .i2b => decide (len = 1) && s_1 S (fun _ r => k (pc + 1) (sa_fr E (-128, 127)).1 F L ((sa_fr E (-128, 127)).2 :: r))
  | .l2i => decide (len = 1) && s_l S (fun r => k (pc + 1) (sa_fr E sa_full).1 F L ((sa_fr E sa_full).2 :: r))
  | .dup => decide (len = 1) && s_v S (fun a r => decide (s_cat a = 1) && k (pc + 1) E F L (a :: a :: r))
  | .pop => decide (len = 1) && s_v S (fun a r => decide (s_cat a = 1) && k (pc + 1) E F L r)
  | .dup2 => decide (len = 1) && s_v S (fun a r1 => s_v r1 (fun b r => decide (s_cat a = 1) && (decide (s_cat b = 1) && k (pc + 1) E F L (a :: b :: a :: b :: r))))
  | .ifCond .eq off => decide (len = 3) && s_1 S (fun x r => s_tg pc off (fun t => sa_cmp E 0 x (0, 0) (fun E1 => k t E1 F L r)) && sa_cmp E 1 x (0, 0) (fun E1 => k (pc + 3) E1 F L r))
  | .if_icmp .eq off => decide (len = 3) && s_2 S (fun x y r => s_tg pc off (fun t => sa_cmp E 0 x y (fun E1 => k t E1 F L r)) && sa_cmp E 1 x y (fun E1 => k (pc + 3) E1 F L r))
  | .ifCond .ne off => decide (len = 3) && s_1 S (fun x r => s_tg pc off (fun t => sa_cmp E 1 x (0, 0) (fun E1 => k t E1 F L r)) && sa_cmp E 0 x (0, 0) (fun E1 => k (pc + 3) E1 F L r))
  | .if_icmp .ne off => decide (len = 3) && s_2 S (fun x y r => s_tg pc off (fun t => sa_cmp E 1 x y (fun E1 => k t E1 F L r)) && sa_cmp E 0 x y (fun E1 => k (pc + 3) E1 F L r))
  | .ifCond .lt off => decide (len = 3) && s_1 S (fun x r => s_tg pc off (fun t => sa_cmp E 2 x (0, 0) (fun E1 => k t E1 F L r)) && sa_cmp E 3 (0, 0) x (fun E1 => k (pc + 3) E1 F L r))
  | .if_icmp .lt off => decide (len = 3) && s_2 S (fun x y r => s_tg pc off (fun t => sa_cmp E 2 x y (fun E1 => k t E1 F L r)) && sa_cmp E 3 y x (fun E1 => k (pc + 3) E1 F L r))
  | .ifCond .ge off => decide (len = 3) && s_1 S (fun x r => s_tg pc off (fun t => sa_cmp E 3 (0, 0) x (fun E1 => k t E1 F L r)) && sa_cmp E 2 x (0, 0) (fun E1 => k (pc + 3) E1 F L r))
  | .if_icmp .ge off => decide (len = 3) && s_2 S (fun x y r => s_tg pc off (fun t => sa_cmp E 3 y x (fun E1 => k t E1 F L r)) && sa_cmp E 2 x y (fun E1 => k (pc + 3) E1 F L r))
  | .ifCond .gt off => decide (len = 3) && s_1 S (fun x r => s_tg pc off (fun t => sa_cmp E 2 (0, 0) x (fun E1 => k t E1 F L r)) && sa_cmp E 3 x (0, 0) (fun E1 => k (pc + 3) E1 F L r))
  | .if_icmp .gt off => decide (len = 3) && s_2 S (fun x y r => s_tg pc off (fun t => sa_cmp E 2 y x (fun E1 => k t E1 F L r)) && sa_cmp E 3 x y (fun E1 => k (pc + 3) E1 F L r))
  | .ifCond .le off => decide (len = 3) && s_1 S (fun x r => s_tg pc off (fun t => sa_cmp E 3 x (0, 0) (fun E1 => k t E1 F L r)) && sa_cmp E 2 (0, 0) x (fun E1 => k (pc + 3) E1 F L r))
  | .if_icmp .le off => decide (len = 3) && s_2 S (fun x y r => s_tg pc off (fun t => sa_cmp E 3 x y (fun E1 => k t E1 F L r)) && sa_cmp E 2 y x (fun E1 => k (pc + 3) E1 F L r))
  | .goto off => decide (len = 3) && s_tg pc off (fun t => k t E F L S)
  | .tableswitch d lo hi offs => s_1 S (fun x r => s_ts pc x (fun t E1 => k t E1 F L r) E offs.toList lo && (s_tg pc d (fun t => k t E F L r) && decide ((offs.size : Int) = hi - lo + 1)))
  | .lookupswitch d ps => s_1 S (fun x r => decide ((ps.toList.zip (ps.toList.drop 1)).all (fun (a, next) => a.1 < next.1) = true) && s_ls pc x d (fun t E1 => k t E1 F L r) E ps.toList)
  | .ireturn => decide (len = 1) && s_1 S (fun a r => r.isEmpty && (s_ri (am_rt X) E a && ret E (some (.inl a))))
  | .lreturn => decide (len = 1) && s_l S (fun r => r.isEmpty && (s_rl (am_rt X) && ret E (some (.inr (.inr true)))))
  | .return_ => decide (len = 1) && (S.isEmpty && ((am_rt X).isNone && ret E none))
  | .getfield ix => decide (len = 3) && s_a S (fun o r => decide (o < N) && (match am_find (am_FT X) ix with
    | none => false
    | some q => decide (am_SH X o = .inl q.1) && (match (am_KF X o)[q.2]? with
      | none => false
      | some kd => s_get B o q.2 kd E F (fun E1 F1 v => k (pc + 3) E1 F1 L (v :: r)))))
  | .putfield ix => decide (len = 3) && s_v S (fun v r1 => s_a r1 (fun o r => decide (o < N) && (match am_find (am_PT X) ix with
    | none => false
    | some q => decide (am_SH X o = .inl q.1) && (match (am_KF X o)[q.2]? with
      | none => false
      | some kd => s_put B M o q.2 kd E F v (fun F1 => k (pc + 3) E F1 L r)))))
  | .arraylength => decide (len = 1) && s_a S (fun o r => decide (o < N) && (match am_SH X o with
    | .inl _ => false
    | .inr q => decide (q.1 < 4 ∧ q.2 ≤ 2147483647) && k (pc + 1) E F L (.inl (0, (q.2 : Int)) :: r)))
  | .iaload => decide (len = 1) && s_1 S (fun i r1 => s_a r1 (fun o r => decide (o < N) && (match am_SH X o with
    | .inl _ => false
    | .inr q => decide (q.1 = 0) && (sa_inB E (0, (q.2 : Int) - 1) i && k (pc + 1) (sa_fr E (sb_lg Fk.2 B o i E F)).1 F L ((sa_fr E (sb_lg Fk.2 B o i E F)).2 :: r)))))
  | .baload => decide (len = 1) && s_1 S (fun i r1 => s_a r1 (fun o r => decide (o < N) && (match am_SH X o with
    | .inl _ => false
    | .inr q => decide (q.1 = 1 ∨ q.1 = 2) && (sa_inB E (0, (q.2 : Int) - 1) i && k (pc + 1) (sa_fr E (sb_lg Fk.2 B o i E F)).1 F L ((sa_fr E (sb_lg Fk.2 B o i E F)).2 :: r)))))
  | .laload => decide (len = 1) && s_1 S (fun i r1 => s_a r1 (fun o r => decide (o < N) && (match am_SH X o with
    | .inl _ => false
    | .inr q => decide (q.1 = 3) && (sa_inB E (0, (q.2 : Int) - 1) i && k (pc + 1) E F L (.inr (.inr true) :: r)))))
  | .iastore => decide (len = 1) && s_1 S (fun a r1 => s_1 r1 (fun i r2 => s_a r2 (fun o r => decide (o < N) && (match am_SH X o with
    | .inl _ => false
    | .inr q => decide (q.1 = 0) && (sa_inB E (0, (q.2 : Int) - 1) i && (s_mod M o (sa_h E i).1 (sa_h E i).2 && (sb_st B o (sa_h E i) (sa_h E a) && k (pc + 1) E F L r)))))))
  | .bastore => decide (len = 1) && s_1 S (fun a r1 => s_1 r1 (fun i r2 => s_a r2 (fun o r => decide (o < N) && (match am_SH X o with
    | .inl _ => false
    | .inr q => decide (q.1 = 1 ∨ q.1 = 2) && (sa_inB E (0, (q.2 : Int) - 1) i && (s_mod M o (sa_h E i).1 (sa_h E i).2 && (sb_st B o (sa_h E i) (if q.1 = 1 then (-128, 127) else (0, 1)) && k (pc + 1) E F L r)))))))
  | .lastore => decide (len = 1) && s_l S (fun r1 => s_1 r1 (fun i r2 => s_a r2 (fun o r => decide (o < N) && (match am_SH X o with
    | .inl _ => false
    | .inr q => decide (q.1 = 3) && (sa_inB E (0, (q.2 : Int) - 1) i && (s_mod M o (sa_h E i).1 (sa_h E i).2 && (true && k (pc + 1) E F L r)))))))
  | .invokevirtual ix => decide (len = 3) && (match am_find (am_NT X) ix with
    | some w => s_nat (am_SH X) B N M w 2 E S (fun E1 S1 => k (pc + 3) E1 F L S1)
    | none => s_call (am_SH X) N CS M 0 3 ix E F S (fun E1 F1 S1 => k (pc + 3) E1 F1 L S1))
  | .invokestatic ix => decide (len = 3) && (match am_find (am_NT X) ix with
    | some w => s_nat (am_SH X) B N M w 1 E S (fun E1 S1 => k (pc + 3) E1 F L S1)
    | none => s_call (am_SH X) N CS M 1 4 ix E F S (fun E1 F1 S1 => k (pc + 3) E1 F1 L S1))
  | .invokespecial ix => decide (len = 3) && (match am_find (am_NT X) ix with
    | some w => s_nat (am_SH X) B N M w 0 E S (fun E1 S1 => k (pc + 3) E1 F L S1)
    | none => s_call (am_SH X) N CS M 2 5 ix E F S (fun E1 F1 S1 => k (pc + 3) E1 F1 L S1))
  | _ => false
section
variable {X : am_X} {B : sa_I} {N : Nat} {CS : sa_C} {M : sa_M} {Fk : sa_Q} {ret : sa_E → Option sa_V → Bool} {J : am_S → Prop} {σ0 : am_S} {post : Option Value → am_S → Prop} {K : Nat → List (Option Value) → List Value → Nat → am_S → Prop}
set_option maxHeartbeats 4000000 in
theorem s_one_ok {i : Instr} {len pc : Nat} {E : sa_E} {ρ : Nat → Int} {F : sa_F} {L : List (Option sa_V)} {S : List sa_V} {ls : List (Option Value)} {stk : List Value} {σ : am_S} {k : Nat → sa_E → sa_F → List (Option sa_V) → List sa_V → Bool}
    (hML : ∀ ix q, am_find CS ix = some q → am_find (am_ML X) ix = some (q.1, q.2.1, q.2.2.1, 0, 0, sp_w J B (am_SH X) N q.2.2.2)) (hJ : ∀ τ, sb_fr M σ0 τ → J τ) (hG : ∀ g ∈ Fk.2, ∀ τ, sb_fr M σ0 τ → s_gd g τ)
    (hret : ∀ v' v, ret E v' = true → sv_o E ρ v' v → post v σ)
    (hk : ∀ pc' E' F' L' S', k pc' E' F' L' S' = true → ∀ ρ' ls' st' τ, sx E ρ E' ρ' → sg_E E' ρ' → sg_F (am_SH X) E' ρ' F' τ → sg_L E' ρ' L' ls' → sg_S E' ρ' S' st' → sI B (am_SH X) M σ0 τ → K pc' ls' st' N τ)
    (hE : sg_E E ρ) (hF : sg_F (am_SH X) E ρ F σ) (hL : sg_L E ρ L ls) (hS : sg_S E ρ S stk) (hI : sI B (am_SH X) M σ0 σ) (h : s_one X B N CS M Fk ret i len pc E F L S k = true) : am_one X N post i len pc ls stk N σ K := by
  cases i
  case iconst v =>
    simp only [s_one, Bool.and_eq_true, decide_eq_true_eq] at h
    obtain ⟨h1, ⟨h2, h3⟩, h4⟩ := h
    exact ⟨h1, hk _ _ _ _ _ h4 ρ _ _ _ (sx_r E ρ) hE hF hL ⟨⟨hE.1, _, rfl, by rw [ii_t (by omega) (by omega), hE.2.1]; omega⟩, hS⟩ hI⟩
  case bipush v =>
    simp only [s_one, Bool.and_eq_true, decide_eq_true_eq] at h
    obtain ⟨h1, ⟨h2, h3⟩, h4⟩ := h
    exact ⟨h1, ⟨h2, h3⟩, hk _ _ _ _ _ h4 ρ _ _ _ (sx_r E ρ) hE hF hL ⟨⟨hE.1, _, rfl, by rw [ii_t (by omega) (by omega), hE.2.1]; omega⟩, hS⟩ hI⟩
  case sipush v =>
    simp only [s_one, Bool.and_eq_true, decide_eq_true_eq] at h
    obtain ⟨h1, ⟨h2, h3⟩, h4⟩ := h
    exact ⟨h1, ⟨h2, h3⟩, hk _ _ _ _ _ h4 ρ _ _ _ (sx_r E ρ) hE hF hL ⟨⟨hE.1, _, rfl, by rw [ii_t (by omega) (by omega), hE.2.1]; omega⟩, hS⟩ hI⟩
  case lconst v =>
    simp only [s_one, Bool.and_eq_true, decide_eq_true_eq] at h
    exact ⟨h.1, hk _ _ _ _ _ h.2 ρ _ _ _ (sx_r E ρ) hE hF hL ⟨⟨_, rfl⟩, hS⟩ hI⟩
  case ldc ix =>
    simp only [s_one, Bool.and_eq_true, decide_eq_true_eq] at h
    obtain ⟨h1, h2⟩ := h
    refine ⟨h1, ?_⟩
    cases hf : am_find (am_KT X) ix with
    | none => rw [hf] at h2; cases h2
    | some v =>
      rw [hf] at h2
      exact hk _ _ _ _ _ h2 ρ _ _ _ (sx_r E ρ) hE hF hL ⟨⟨hE.1, v, rfl, by show v.toInt = ρ 0 + v.toInt; rw [hE.2.1]; omega⟩, hS⟩ hI
  case ldc_w ix =>
    simp only [s_one, Bool.and_eq_true, decide_eq_true_eq] at h
    obtain ⟨h1, h2⟩ := h
    refine ⟨h1, ?_⟩
    cases hf : am_find (am_KT X) ix with
    | none => rw [hf] at h2; cases h2
    | some v =>
      rw [hf] at h2
      exact hk _ _ _ _ _ h2 ρ _ _ _ (sx_r E ρ) hE hF hL ⟨⟨hE.1, v, rfl, by show v.toInt = ρ 0 + v.toInt; rw [hE.2.1]; omega⟩, hS⟩ hI
  case ldc2_w ix =>
    simp only [s_one, Bool.and_eq_true, decide_eq_true_eq] at h
    obtain ⟨h1, h2⟩ := h
    refine ⟨h1, ?_⟩
    cases hf : am_find (am_LT X) ix with
    | none => rw [hf] at h2; cases h2
    | some v =>
      rw [hf] at h2
      exact hk _ _ _ _ _ h2 ρ _ _ _ (sx_r E ρ) hE hF hL ⟨⟨v, rfl⟩, hS⟩ hI
  case iload_n n =>
    simp only [s_one, Bool.and_eq_true, decide_eq_true_eq] at h
    obtain ⟨h1, h2⟩ := h
    obtain ⟨a, x, g1, g2, g3⟩ := s_ldi_ok hL h2
    refine ⟨h1, ?_⟩
    simp only [am_ldi, g2]
    split at g1
    · obtain ⟨E1, q1, q2, q3⟩ := s_fork_ok hE g3.2 g1
      exact hk _ _ _ _ _ q1 ρ _ _ _ (sx_l q3) q2 (sg_F_x (sx_l q3) hF) (sg_L_x (sx_l q3) hL) ⟨sg_V_x (sx_l q3) (a := .inl a) ⟨g3.1, x, rfl, g3.2⟩, sg_S_x (sx_l q3) hS⟩ hI
    · exact hk _ _ _ _ _ g1 ρ _ _ _ (sx_r E ρ) hE hF hL ⟨⟨g3.1, x, rfl, g3.2⟩, hS⟩ hI
  case iload n =>
    simp only [s_one, Bool.and_eq_true, decide_eq_true_eq] at h
    obtain ⟨h1, h2⟩ := h
    obtain ⟨a, x, g1, g2, g3⟩ := s_ldi_ok hL h2
    refine ⟨h1, ?_⟩
    simp only [am_ldi, g2]
    split at g1
    · obtain ⟨E1, q1, q2, q3⟩ := s_fork_ok hE g3.2 g1
      exact hk _ _ _ _ _ q1 ρ _ _ _ (sx_l q3) q2 (sg_F_x (sx_l q3) hF) (sg_L_x (sx_l q3) hL) ⟨sg_V_x (sx_l q3) (a := .inl a) ⟨g3.1, x, rfl, g3.2⟩, sg_S_x (sx_l q3) hS⟩ hI
    · exact hk _ _ _ _ _ g1 ρ _ _ _ (sx_r E ρ) hE hF hL ⟨⟨g3.1, x, rfl, g3.2⟩, hS⟩ hI
  case lload_n n =>
    simp only [s_one, Bool.and_eq_true, decide_eq_true_eq] at h
    obtain ⟨h1, h2⟩ := h
    obtain ⟨g1, y, g2⟩ := s_ldl_ok hL h2
    refine ⟨h1, ?_⟩
    simp only [am_ldl, g2]
    exact hk _ _ _ _ _ g1 ρ _ _ _ (sx_r E ρ) hE hF hL ⟨⟨y, rfl⟩, hS⟩ hI
  case lload n =>
    simp only [s_one, Bool.and_eq_true, decide_eq_true_eq] at h
    obtain ⟨h1, h2⟩ := h
    obtain ⟨g1, y, g2⟩ := s_ldl_ok hL h2
    refine ⟨h1, ?_⟩
    simp only [am_ldl, g2]
    exact hk _ _ _ _ _ g1 ρ _ _ _ (sx_r E ρ) hE hF hL ⟨⟨y, rfl⟩, hS⟩ hI
  case aload_n n =>
    simp only [s_one, Bool.and_eq_true, decide_eq_true_eq] at h
    obtain ⟨h1, h2⟩ := h
    obtain ⟨o, g1, g2⟩ := s_lda_ok hL h2
    refine ⟨h1, ?_⟩
    simp only [am_lda, g2]
    exact hk _ _ _ _ _ g1 ρ _ _ _ (sx_r E ρ) hE hF hL ⟨rfl, hS⟩ hI
  case aload n =>
    simp only [s_one, Bool.and_eq_true, decide_eq_true_eq] at h
    obtain ⟨h1, h2⟩ := h
    obtain ⟨o, g1, g2⟩ := s_lda_ok hL h2
    refine ⟨h1, ?_⟩
    simp only [am_lda, g2]
    exact hk _ _ _ _ _ g1 ρ _ _ _ (sx_r E ρ) hE hF hL ⟨rfl, hS⟩ hI
  case istore_n n =>
    simp only [s_one, Bool.and_eq_true, decide_eq_true_eq] at h
    obtain ⟨h1, h2⟩ := h
    obtain ⟨a, r, x, st', g1, rfl, g3, g4⟩ := s_1_ok hS h2
    simp only [Bool.and_eq_true, decide_eq_true_eq] at g1
    exact ⟨h1, s_lg_ok hL g1.1, by rw [hL.1]; exact g1.2.1, hk _ _ _ _ _ g1.2.2 ρ _ _ _ (sx_r E ρ) hE hF (sg_L_set hL ⟨g3.1, x, rfl, g3.2⟩) g4 hI⟩
  case istore n =>
    simp only [s_one, Bool.and_eq_true, decide_eq_true_eq] at h
    obtain ⟨h1, h2⟩ := h
    obtain ⟨a, r, x, st', g1, rfl, g3, g4⟩ := s_1_ok hS h2
    simp only [Bool.and_eq_true, decide_eq_true_eq] at g1
    exact ⟨h1, s_lg_ok hL g1.1, by rw [hL.1]; exact g1.2.1, hk _ _ _ _ _ g1.2.2 ρ _ _ _ (sx_r E ρ) hE hF (sg_L_set hL ⟨g3.1, x, rfl, g3.2⟩) g4 hI⟩
  case lstore_n n =>
    simp only [s_one, Bool.and_eq_true, decide_eq_true_eq] at h
    obtain ⟨h1, h2⟩ := h
    obtain ⟨r, y, st', g1, rfl, g4⟩ := s_l_ok hS h2
    simp only [Bool.and_eq_true, decide_eq_true_eq] at g1
    exact ⟨h1, s_lg_ok hL g1.1, by rw [hL.1]; exact g1.2.1, hk _ _ _ _ _ g1.2.2 ρ _ _ _ (sx_r E ρ) hE hF (sg_L_setn (sg_L_set hL ⟨y, rfl⟩)) g4 hI⟩
  case lstore n =>
    simp only [s_one, Bool.and_eq_true, decide_eq_true_eq] at h
    obtain ⟨h1, h2⟩ := h
    obtain ⟨r, y, st', g1, rfl, g4⟩ := s_l_ok hS h2
    simp only [Bool.and_eq_true, decide_eq_true_eq] at g1
    exact ⟨h1, s_lg_ok hL g1.1, by rw [hL.1]; exact g1.2.1, hk _ _ _ _ _ g1.2.2 ρ _ _ _ (sx_r E ρ) hE hF (sg_L_setn (sg_L_set hL ⟨y, rfl⟩)) g4 hI⟩
  case astore_n n =>
    simp only [s_one, Bool.and_eq_true, decide_eq_true_eq] at h
    obtain ⟨h1, h2⟩ := h
    obtain ⟨o, r, st', g1, rfl, g4⟩ := s_a_ok hS h2
    simp only [Bool.and_eq_true, decide_eq_true_eq] at g1
    exact ⟨h1, s_lg_ok hL g1.1, by rw [hL.1]; exact g1.2.1, hk _ _ _ _ _ g1.2.2 ρ _ _ _ (sx_r E ρ) hE hF (sg_L_set hL rfl) g4 hI⟩
  case astore n =>
    simp only [s_one, Bool.and_eq_true, decide_eq_true_eq] at h
    obtain ⟨h1, h2⟩ := h
    obtain ⟨o, r, st', g1, rfl, g4⟩ := s_a_ok hS h2
    simp only [Bool.and_eq_true, decide_eq_true_eq] at g1
    exact ⟨h1, s_lg_ok hL g1.1, by rw [hL.1]; exact g1.2.1, hk _ _ _ _ _ g1.2.2 ρ _ _ _ (sx_r E ρ) hE hF (sg_L_set hL rfl) g4 hI⟩
  case iinc n c =>
    simp only [s_one, Bool.and_eq_true, decide_eq_true_eq] at h
    obtain ⟨h1, h0, h2⟩ := h
    obtain ⟨a, x, g1, g2, g3⟩ := s_ldi_ok hL h2
    simp only [Bool.and_eq_true, decide_eq_true_eq] at g1
    refine ⟨h1, ?_⟩
    simp only [am_ldi, g2]
    obtain ⟨ρ', q1, q2, q3⟩ := sa_add_ok (x := a) (y := (0, c)) (a := x) (b := Int32.ofInt c) hE ⟨g3, hE.1, by rw [ii_t (by omega) (by omega), hE.2.1]; omega⟩
    exact ⟨s_lg_ok hL g1.1, by rw [hL.1]; exact g1.2.1, hk _ _ _ _ _ g1.2.2 ρ' _ _ _ q1 q2 (sg_F_x q1 hF) (sg_L_set (sg_L_x q1 hL) q3) (sg_S_x q1 hS) hI⟩
  case imul  =>
    simp only [s_one, Bool.and_eq_true, decide_eq_true_eq] at h
    obtain ⟨h1, h2⟩ := h
    obtain ⟨x, y, r, a, b, st', g1, rfl, g3, g4⟩ := s_2_ok hS h2
    split at g1
    · obtain ⟨E1, q, q1, q2, q3, q4, q5⟩ := s_fmul_ok hE g3 g1
      exact ⟨h1, hk _ _ _ _ _ q1 ρ _ _ _ (sx_l q3) q2 (sg_F_x (sx_l q3) hF) (sg_L_x (sx_l q3) hL) ⟨⟨q4, _, rfl, q5⟩, sg_S_x (sx_l q3) g4⟩ hI⟩
    · obtain ⟨ρ', q1, q2, q3⟩ := sa_mul_ok hE g3
      exact ⟨h1, hk _ _ _ _ _ g1 ρ' _ _ _ q1 q2 (sg_F_x q1 hF) (sg_L_x q1 hL) ⟨q3, sg_S_x q1 g4⟩ hI⟩
  case iadd  =>
    simp only [s_one, Bool.and_eq_true, decide_eq_true_eq] at h
    obtain ⟨h1, h2⟩ := h
    obtain ⟨x, y, r, a, b, st', g1, rfl, g3, g4⟩ := s_2_ok hS h2
    obtain ⟨ρ', q1, q2, q3⟩ := sa_add_ok hE g3
    exact ⟨h1, hk _ _ _ _ _ g1 ρ' _ _ _ q1 q2 (sg_F_x q1 hF) (sg_L_x q1 hL) ⟨q3, sg_S_x q1 g4⟩ hI⟩
  case isub  =>
    simp only [s_one, Bool.and_eq_true, decide_eq_true_eq] at h
    obtain ⟨h1, h2⟩ := h
    obtain ⟨x, y, r, a, b, st', g1, rfl, g3, g4⟩ := s_2_ok hS h2
    obtain ⟨ρ', q1, q2, q3⟩ := sa_sub_ok hE g3
    exact ⟨h1, hk _ _ _ _ _ g1 ρ' _ _ _ q1 q2 (sg_F_x q1 hF) (sg_L_x q1 hL) ⟨q3, sg_S_x q1 g4⟩ hI⟩
  case iand  =>
    simp only [s_one, Bool.and_eq_true, decide_eq_true_eq] at h
    obtain ⟨h1, h2⟩ := h
    obtain ⟨x, y, r, a, b, st', g1, rfl, g3, g4⟩ := s_2_ok hS h2
    obtain ⟨ρ', q1, q2, q3⟩ := sa_and_ok hE g3
    exact ⟨h1, hk _ _ _ _ _ g1 ρ' _ _ _ q1 q2 (sg_F_x q1 hF) (sg_L_x q1 hL) ⟨q3, sg_S_x q1 g4⟩ hI⟩
  case ior  =>
    simp only [s_one, Bool.and_eq_true, decide_eq_true_eq] at h
    obtain ⟨h1, h2⟩ := h
    obtain ⟨x, y, r, a, b, st', g1, rfl, g3, g4⟩ := s_2_ok hS h2
    obtain ⟨ρ', q1, q2, q3⟩ := sa_full_ok _ hE
    exact ⟨h1, hk _ _ _ _ _ g1 ρ' _ _ _ q1 q2 (sg_F_x q1 hF) (sg_L_x q1 hL) ⟨q3, sg_S_x q1 g4⟩ hI⟩
  case ixor  =>
    simp only [s_one, Bool.and_eq_true, decide_eq_true_eq] at h
    obtain ⟨h1, h2⟩ := h
    obtain ⟨x, y, r, a, b, st', g1, rfl, g3, g4⟩ := s_2_ok hS h2
    obtain ⟨ρ', q1, q2, q3⟩ := sa_full_ok _ hE
    exact ⟨h1, hk _ _ _ _ _ g1 ρ' _ _ _ q1 q2 (sg_F_x q1 hF) (sg_L_x q1 hL) ⟨q3, sg_S_x q1 g4⟩ hI⟩
  case ishl  =>
    simp only [s_one, Bool.and_eq_true, decide_eq_true_eq] at h
    obtain ⟨h1, h2⟩ := h
    obtain ⟨x, y, r, a, b, st', g1, rfl, g3, g4⟩ := s_2_ok hS h2
    obtain ⟨ρ', q1, q2, q3⟩ := sa_shl_ok hE g3
    exact ⟨h1, hk _ _ _ _ _ g1 ρ' _ _ _ q1 q2 (sg_F_x q1 hF) (sg_L_x q1 hL) ⟨q3, sg_S_x q1 g4⟩ hI⟩
  case ishr  =>
    simp only [s_one, Bool.and_eq_true, decide_eq_true_eq] at h
    obtain ⟨h1, h2⟩ := h
    obtain ⟨x, y, r, a, b, st', g1, rfl, g3, g4⟩ := s_2_ok hS h2
    obtain ⟨ρ', q1, q2, q3⟩ := sa_shr_ok hE g3
    exact ⟨h1, hk _ _ _ _ _ g1 ρ' _ _ _ q1 q2 (sg_F_x q1 hF) (sg_L_x q1 hL) ⟨q3, sg_S_x q1 g4⟩ hI⟩
  case iushr  =>
    simp only [s_one, Bool.and_eq_true, decide_eq_true_eq] at h
    obtain ⟨h1, h2⟩ := h
    obtain ⟨x, y, r, a, b, st', g1, rfl, g3, g4⟩ := s_2_ok hS h2
    obtain ⟨ρ', q1, q2, q3⟩ := sa_full_ok _ hE
    exact ⟨h1, hk _ _ _ _ _ g1 ρ' _ _ _ q1 q2 (sg_F_x q1 hF) (sg_L_x q1 hL) ⟨q3, sg_S_x q1 g4⟩ hI⟩
  case idiv  =>
    simp only [s_one, Bool.and_eq_true, decide_eq_true_eq] at h
    obtain ⟨h1, h2⟩ := h
    obtain ⟨x, y, r, a, b, st', g1, rfl, g3, g4⟩ := s_2_ok hS h2
    simp only [Bool.and_eq_true] at g1
    obtain ⟨ρ', q1, q2, q3⟩ := sa_div_ok hE g3
    exact ⟨h1, s_nz_ok hE g3.2.2 g1.1, hk _ _ _ _ _ g1.2 ρ' _ _ _ q1 q2 (sg_F_x q1 hF) (sg_L_x q1 hL) ⟨q3, sg_S_x q1 g4⟩ hI⟩
  case irem  =>
    simp only [s_one, Bool.and_eq_true, decide_eq_true_eq] at h
    obtain ⟨h1, h2⟩ := h
    obtain ⟨x, y, r, a, b, st', g1, rfl, g3, g4⟩ := s_2_ok hS h2
    simp only [Bool.and_eq_true] at g1
    obtain ⟨ρ', q1, q2, q3⟩ := sa_rem_ok hE g3
    exact ⟨h1, s_nz_ok hE g3.2.2 g1.1, hk _ _ _ _ _ g1.2 ρ' _ _ _ q1 q2 (sg_F_x q1 hF) (sg_L_x q1 hL) ⟨q3, sg_S_x q1 g4⟩ hI⟩
  case ladd  =>
    simp only [s_one, Bool.and_eq_true, decide_eq_true_eq] at h
    obtain ⟨h1, h2⟩ := h
    obtain ⟨r1, y, st1, g1, rfl, g3⟩ := s_l_ok hS h2
    obtain ⟨r, x, st', g4, rfl, g6⟩ := s_l_ok g3 g1
    exact ⟨h1, hk _ _ _ _ _ g4 ρ _ _ _ (sx_r E ρ) hE hF hL ⟨⟨_, rfl⟩, g6⟩ hI⟩
  case lmul  =>
    simp only [s_one, Bool.and_eq_true, decide_eq_true_eq] at h
    obtain ⟨h1, h2⟩ := h
    obtain ⟨r1, y, st1, g1, rfl, g3⟩ := s_l_ok hS h2
    obtain ⟨r, x, st', g4, rfl, g6⟩ := s_l_ok g3 g1
    exact ⟨h1, hk _ _ _ _ _ g4 ρ _ _ _ (sx_r E ρ) hE hF hL ⟨⟨_, rfl⟩, g6⟩ hI⟩
  case lcmp  =>
    simp only [s_one, Bool.and_eq_true, decide_eq_true_eq] at h
    obtain ⟨h1, h2⟩ := h
    obtain ⟨r1, y, st1, g1, rfl, g3⟩ := s_l_ok hS h2
    obtain ⟨r, x, st', g4, rfl, g6⟩ := s_l_ok g3 g1
    obtain ⟨ρ', q1, q2, q3⟩ := sa_full_ok (lg_cmp x y) hE
    exact ⟨h1, hk _ _ _ _ _ g4 ρ' _ _ _ q1 q2 (sg_F_x q1 hF) (sg_L_x q1 hL) ⟨q3, sg_S_x q1 g6⟩ hI⟩
  case i2l  =>
    simp only [s_one, Bool.and_eq_true, decide_eq_true_eq] at h
    obtain ⟨h1, h2⟩ := h
    obtain ⟨a, r, x, st', g1, rfl, g3, g4⟩ := s_1_ok hS h2
    exact ⟨h1, hk _ _ _ _ _ g1 ρ _ _ _ (sx_r E ρ) hE hF hL ⟨⟨_, rfl⟩, g4⟩ hI⟩
  case i2b  =>
    simp only [s_one, Bool.and_eq_true, decide_eq_true_eq] at h
    obtain ⟨h1, h2⟩ := h
    obtain ⟨a, r, x, st', g1, rfl, g3, g4⟩ := s_1_ok hS h2
    obtain ⟨ρ', q1, q2, q3⟩ := sa_fr_ok (b := (-128, 127)) hE (ti_i2b x)
    exact ⟨h1, hk _ _ _ _ _ g1 ρ' _ _ _ q1 q2 (sg_F_x q1 hF) (sg_L_x q1 hL) ⟨q3, sg_S_x q1 g4⟩ hI⟩
  case l2i  =>
    simp only [s_one, Bool.and_eq_true, decide_eq_true_eq] at h
    obtain ⟨h1, h2⟩ := h
    obtain ⟨r, y, st', g1, rfl, g3⟩ := s_l_ok hS h2
    obtain ⟨ρ', q1, q2, q3⟩ := sa_full_ok y.toInt32 hE
    exact ⟨h1, hk _ _ _ _ _ g1 ρ' _ _ _ q1 q2 (sg_F_x q1 hF) (sg_L_x q1 hL) ⟨q3, sg_S_x q1 g3⟩ hI⟩
  case dup  =>
    simp only [s_one, Bool.and_eq_true, decide_eq_true_eq] at h
    obtain ⟨h1, h2⟩ := h
    obtain ⟨a, r, v, st', g1, rfl, g3, g4⟩ := s_v_ok hS h2
    simp only [Bool.and_eq_true, decide_eq_true_eq] at g1
    exact ⟨h1, by rw [s_cat_ok g3]; exact g1.1, hk _ _ _ _ _ g1.2 ρ _ _ _ (sx_r E ρ) hE hF hL ⟨g3, g3, g4⟩ hI⟩
  case pop  =>
    simp only [s_one, Bool.and_eq_true, decide_eq_true_eq] at h
    obtain ⟨h1, h2⟩ := h
    obtain ⟨a, r, v, st', g1, rfl, g3, g4⟩ := s_v_ok hS h2
    simp only [Bool.and_eq_true, decide_eq_true_eq] at g1
    exact ⟨h1, by rw [s_cat_ok g3]; exact g1.1, hk _ _ _ _ _ g1.2 ρ _ _ _ (sx_r E ρ) hE hF hL g4 hI⟩
  case dup2  =>
    simp only [s_one, Bool.and_eq_true, decide_eq_true_eq] at h
    obtain ⟨h1, h2⟩ := h
    obtain ⟨a, r1, v, st1, g1, rfl, g3, g4⟩ := s_v_ok hS h2
    obtain ⟨b, r, w, st', g5, rfl, g7, g8⟩ := s_v_ok g4 g1
    simp only [Bool.and_eq_true, decide_eq_true_eq] at g5
    exact ⟨h1, by rw [s_cat_ok g3]; exact g5.1, by rw [s_cat_ok g7]; exact g5.2.1, hk _ _ _ _ _ g5.2.2 ρ _ _ _ (sx_r E ρ) hE hF hL ⟨g3, g7, g3, g7, g8⟩ hI⟩
  case ifCond c off =>
    cases c
    case eq =>
      simp only [s_one, Bool.and_eq_true, decide_eq_true_eq] at h
      obtain ⟨h1, h2⟩ := h
      obtain ⟨x, r, a, st', g1, rfl, g3, g4⟩ := s_1_ok hS h2
      have hz0 : (0 : Int32).toInt = ρ ((0 : Nat), (0 : Int)).1 + ((0 : Nat), (0 : Int)).2 := by show (0 : Int) = ρ 0 + 0; rw [hE.2.1]; rfl
      simp only [Bool.and_eq_true] at g1
      obtain ⟨t, e1, e2⟩ := s_tg_ok g1.1
      refine ⟨h1, ?_⟩
      simp only [am_1]
      rw [am_tg_eq e1]
      refine ⟨fun hc => ?_, fun hc => ?_⟩
      · obtain ⟨E1, q1, q2, q3⟩ := sa_cmp_ok hE g3.2 hz0 (ra_eq hc) e2
        exact hk _ _ _ _ _ q1 ρ _ _ _ (sx_l q3) q2 (sg_F_x (sx_l q3) hF) (sg_L_x (sx_l q3) hL) (sg_S_x (sx_l q3) g4) hI
      · obtain ⟨E1, q1, q2, q3⟩ := sa_cmp_ok hE g3.2 hz0 (ra_ne hc) g1.2
        exact hk _ _ _ _ _ q1 ρ _ _ _ (sx_l q3) q2 (sg_F_x (sx_l q3) hF) (sg_L_x (sx_l q3) hL) (sg_S_x (sx_l q3) g4) hI
    case ne =>
      simp only [s_one, Bool.and_eq_true, decide_eq_true_eq] at h
      obtain ⟨h1, h2⟩ := h
      obtain ⟨x, r, a, st', g1, rfl, g3, g4⟩ := s_1_ok hS h2
      have hz0 : (0 : Int32).toInt = ρ ((0 : Nat), (0 : Int)).1 + ((0 : Nat), (0 : Int)).2 := by show (0 : Int) = ρ 0 + 0; rw [hE.2.1]; rfl
      simp only [Bool.and_eq_true] at g1
      obtain ⟨t, e1, e2⟩ := s_tg_ok g1.1
      refine ⟨h1, ?_⟩
      simp only [am_1]
      rw [am_tg_eq e1]
      refine ⟨fun hc => ?_, fun hc => ?_⟩
      · obtain ⟨E1, q1, q2, q3⟩ := sa_cmp_ok hE g3.2 hz0 (ra_ne hc) e2
        exact hk _ _ _ _ _ q1 ρ _ _ _ (sx_l q3) q2 (sg_F_x (sx_l q3) hF) (sg_L_x (sx_l q3) hL) (sg_S_x (sx_l q3) g4) hI
      · obtain ⟨E1, q1, q2, q3⟩ := sa_cmp_ok hE g3.2 hz0 (ra_nn hc) g1.2
        exact hk _ _ _ _ _ q1 ρ _ _ _ (sx_l q3) q2 (sg_F_x (sx_l q3) hF) (sg_L_x (sx_l q3) hL) (sg_S_x (sx_l q3) g4) hI
    case lt =>
      simp only [s_one, Bool.and_eq_true, decide_eq_true_eq] at h
      obtain ⟨h1, h2⟩ := h
      obtain ⟨x, r, a, st', g1, rfl, g3, g4⟩ := s_1_ok hS h2
      have hz0 : (0 : Int32).toInt = ρ ((0 : Nat), (0 : Int)).1 + ((0 : Nat), (0 : Int)).2 := by show (0 : Int) = ρ 0 + 0; rw [hE.2.1]; rfl
      simp only [Bool.and_eq_true] at g1
      obtain ⟨t, e1, e2⟩ := s_tg_ok g1.1
      refine ⟨h1, ?_⟩
      simp only [am_1]
      rw [am_tg_eq e1]
      refine ⟨fun hc => ?_, fun hc => ?_⟩
      · obtain ⟨E1, q1, q2, q3⟩ := sa_cmp_ok hE g3.2 hz0 (ra_lt hc) e2
        exact hk _ _ _ _ _ q1 ρ _ _ _ (sx_l q3) q2 (sg_F_x (sx_l q3) hF) (sg_L_x (sx_l q3) hL) (sg_S_x (sx_l q3) g4) hI
      · obtain ⟨E1, q1, q2, q3⟩ := sa_cmp_ok hE hz0 g3.2 (ra_nlt hc) g1.2
        exact hk _ _ _ _ _ q1 ρ _ _ _ (sx_l q3) q2 (sg_F_x (sx_l q3) hF) (sg_L_x (sx_l q3) hL) (sg_S_x (sx_l q3) g4) hI
    case ge =>
      simp only [s_one, Bool.and_eq_true, decide_eq_true_eq] at h
      obtain ⟨h1, h2⟩ := h
      obtain ⟨x, r, a, st', g1, rfl, g3, g4⟩ := s_1_ok hS h2
      have hz0 : (0 : Int32).toInt = ρ ((0 : Nat), (0 : Int)).1 + ((0 : Nat), (0 : Int)).2 := by show (0 : Int) = ρ 0 + 0; rw [hE.2.1]; rfl
      simp only [Bool.and_eq_true] at g1
      obtain ⟨t, e1, e2⟩ := s_tg_ok g1.1
      refine ⟨h1, ?_⟩
      simp only [am_1]
      rw [am_tg_eq e1]
      refine ⟨fun hc => ?_, fun hc => ?_⟩
      · obtain ⟨E1, q1, q2, q3⟩ := sa_cmp_ok hE hz0 g3.2 (ra_le hc) e2
        exact hk _ _ _ _ _ q1 ρ _ _ _ (sx_l q3) q2 (sg_F_x (sx_l q3) hF) (sg_L_x (sx_l q3) hL) (sg_S_x (sx_l q3) g4) hI
      · obtain ⟨E1, q1, q2, q3⟩ := sa_cmp_ok hE g3.2 hz0 (ra_nle hc) g1.2
        exact hk _ _ _ _ _ q1 ρ _ _ _ (sx_l q3) q2 (sg_F_x (sx_l q3) hF) (sg_L_x (sx_l q3) hL) (sg_S_x (sx_l q3) g4) hI
    case gt =>
      simp only [s_one, Bool.and_eq_true, decide_eq_true_eq] at h
      obtain ⟨h1, h2⟩ := h
      obtain ⟨x, r, a, st', g1, rfl, g3, g4⟩ := s_1_ok hS h2
      have hz0 : (0 : Int32).toInt = ρ ((0 : Nat), (0 : Int)).1 + ((0 : Nat), (0 : Int)).2 := by show (0 : Int) = ρ 0 + 0; rw [hE.2.1]; rfl
      simp only [Bool.and_eq_true] at g1
      obtain ⟨t, e1, e2⟩ := s_tg_ok g1.1
      refine ⟨h1, ?_⟩
      simp only [am_1]
      rw [am_tg_eq e1]
      refine ⟨fun hc => ?_, fun hc => ?_⟩
      · obtain ⟨E1, q1, q2, q3⟩ := sa_cmp_ok hE hz0 g3.2 (ra_lt hc) e2
        exact hk _ _ _ _ _ q1 ρ _ _ _ (sx_l q3) q2 (sg_F_x (sx_l q3) hF) (sg_L_x (sx_l q3) hL) (sg_S_x (sx_l q3) g4) hI
      · obtain ⟨E1, q1, q2, q3⟩ := sa_cmp_ok hE g3.2 hz0 (ra_nlt hc) g1.2
        exact hk _ _ _ _ _ q1 ρ _ _ _ (sx_l q3) q2 (sg_F_x (sx_l q3) hF) (sg_L_x (sx_l q3) hL) (sg_S_x (sx_l q3) g4) hI
    case le =>
      simp only [s_one, Bool.and_eq_true, decide_eq_true_eq] at h
      obtain ⟨h1, h2⟩ := h
      obtain ⟨x, r, a, st', g1, rfl, g3, g4⟩ := s_1_ok hS h2
      have hz0 : (0 : Int32).toInt = ρ ((0 : Nat), (0 : Int)).1 + ((0 : Nat), (0 : Int)).2 := by show (0 : Int) = ρ 0 + 0; rw [hE.2.1]; rfl
      simp only [Bool.and_eq_true] at g1
      obtain ⟨t, e1, e2⟩ := s_tg_ok g1.1
      refine ⟨h1, ?_⟩
      simp only [am_1]
      rw [am_tg_eq e1]
      refine ⟨fun hc => ?_, fun hc => ?_⟩
      · obtain ⟨E1, q1, q2, q3⟩ := sa_cmp_ok hE g3.2 hz0 (ra_le hc) e2
        exact hk _ _ _ _ _ q1 ρ _ _ _ (sx_l q3) q2 (sg_F_x (sx_l q3) hF) (sg_L_x (sx_l q3) hL) (sg_S_x (sx_l q3) g4) hI
      · obtain ⟨E1, q1, q2, q3⟩ := sa_cmp_ok hE hz0 g3.2 (ra_nle hc) g1.2
        exact hk _ _ _ _ _ q1 ρ _ _ _ (sx_l q3) q2 (sg_F_x (sx_l q3) hF) (sg_L_x (sx_l q3) hL) (sg_S_x (sx_l q3) g4) hI
  case if_icmp c off =>
    cases c
    case eq =>
      simp only [s_one, Bool.and_eq_true, decide_eq_true_eq] at h
      obtain ⟨h1, h2⟩ := h
      obtain ⟨x, y, r, a, b, st', g1, rfl, g3, g4⟩ := s_2_ok hS h2
      simp only [Bool.and_eq_true] at g1
      obtain ⟨t, e1, e2⟩ := s_tg_ok g1.1
      refine ⟨h1, ?_⟩
      simp only [am_2]
      rw [am_tg_eq e1]
      refine ⟨fun hc => ?_, fun hc => ?_⟩
      · obtain ⟨E1, q1, q2, q3⟩ := sa_cmp_ok hE g3.1.2 g3.2.2 (ra_eq hc) e2
        exact hk _ _ _ _ _ q1 ρ _ _ _ (sx_l q3) q2 (sg_F_x (sx_l q3) hF) (sg_L_x (sx_l q3) hL) (sg_S_x (sx_l q3) g4) hI
      · obtain ⟨E1, q1, q2, q3⟩ := sa_cmp_ok hE g3.1.2 g3.2.2 (ra_ne hc) g1.2
        exact hk _ _ _ _ _ q1 ρ _ _ _ (sx_l q3) q2 (sg_F_x (sx_l q3) hF) (sg_L_x (sx_l q3) hL) (sg_S_x (sx_l q3) g4) hI
    case ne =>
      simp only [s_one, Bool.and_eq_true, decide_eq_true_eq] at h
      obtain ⟨h1, h2⟩ := h
      obtain ⟨x, y, r, a, b, st', g1, rfl, g3, g4⟩ := s_2_ok hS h2
      simp only [Bool.and_eq_true] at g1
      obtain ⟨t, e1, e2⟩ := s_tg_ok g1.1
      refine ⟨h1, ?_⟩
      simp only [am_2]
      rw [am_tg_eq e1]
      refine ⟨fun hc => ?_, fun hc => ?_⟩
      · obtain ⟨E1, q1, q2, q3⟩ := sa_cmp_ok hE g3.1.2 g3.2.2 (ra_ne hc) e2
        exact hk _ _ _ _ _ q1 ρ _ _ _ (sx_l q3) q2 (sg_F_x (sx_l q3) hF) (sg_L_x (sx_l q3) hL) (sg_S_x (sx_l q3) g4) hI
      · obtain ⟨E1, q1, q2, q3⟩ := sa_cmp_ok hE g3.1.2 g3.2.2 (ra_nn hc) g1.2
        exact hk _ _ _ _ _ q1 ρ _ _ _ (sx_l q3) q2 (sg_F_x (sx_l q3) hF) (sg_L_x (sx_l q3) hL) (sg_S_x (sx_l q3) g4) hI
    case lt =>
      simp only [s_one, Bool.and_eq_true, decide_eq_true_eq] at h
      obtain ⟨h1, h2⟩ := h
      obtain ⟨x, y, r, a, b, st', g1, rfl, g3, g4⟩ := s_2_ok hS h2
      simp only [Bool.and_eq_true] at g1
      obtain ⟨t, e1, e2⟩ := s_tg_ok g1.1
      refine ⟨h1, ?_⟩
      simp only [am_2]
      rw [am_tg_eq e1]
      refine ⟨fun hc => ?_, fun hc => ?_⟩
      · obtain ⟨E1, q1, q2, q3⟩ := sa_cmp_ok hE g3.1.2 g3.2.2 (ra_lt hc) e2
        exact hk _ _ _ _ _ q1 ρ _ _ _ (sx_l q3) q2 (sg_F_x (sx_l q3) hF) (sg_L_x (sx_l q3) hL) (sg_S_x (sx_l q3) g4) hI
      · obtain ⟨E1, q1, q2, q3⟩ := sa_cmp_ok hE g3.2.2 g3.1.2 (ra_nlt hc) g1.2
        exact hk _ _ _ _ _ q1 ρ _ _ _ (sx_l q3) q2 (sg_F_x (sx_l q3) hF) (sg_L_x (sx_l q3) hL) (sg_S_x (sx_l q3) g4) hI
    case ge =>
      simp only [s_one, Bool.and_eq_true, decide_eq_true_eq] at h
      obtain ⟨h1, h2⟩ := h
      obtain ⟨x, y, r, a, b, st', g1, rfl, g3, g4⟩ := s_2_ok hS h2
      simp only [Bool.and_eq_true] at g1
      obtain ⟨t, e1, e2⟩ := s_tg_ok g1.1
      refine ⟨h1, ?_⟩
      simp only [am_2]
      rw [am_tg_eq e1]
      refine ⟨fun hc => ?_, fun hc => ?_⟩
      · obtain ⟨E1, q1, q2, q3⟩ := sa_cmp_ok hE g3.2.2 g3.1.2 (ra_le hc) e2
        exact hk _ _ _ _ _ q1 ρ _ _ _ (sx_l q3) q2 (sg_F_x (sx_l q3) hF) (sg_L_x (sx_l q3) hL) (sg_S_x (sx_l q3) g4) hI
      · obtain ⟨E1, q1, q2, q3⟩ := sa_cmp_ok hE g3.1.2 g3.2.2 (ra_nle hc) g1.2
        exact hk _ _ _ _ _ q1 ρ _ _ _ (sx_l q3) q2 (sg_F_x (sx_l q3) hF) (sg_L_x (sx_l q3) hL) (sg_S_x (sx_l q3) g4) hI
    case gt =>
      simp only [s_one, Bool.and_eq_true, decide_eq_true_eq] at h
      obtain ⟨h1, h2⟩ := h
      obtain ⟨x, y, r, a, b, st', g1, rfl, g3, g4⟩ := s_2_ok hS h2
      simp only [Bool.and_eq_true] at g1
      obtain ⟨t, e1, e2⟩ := s_tg_ok g1.1
      refine ⟨h1, ?_⟩
      simp only [am_2]
      rw [am_tg_eq e1]
      refine ⟨fun hc => ?_, fun hc => ?_⟩
      · obtain ⟨E1, q1, q2, q3⟩ := sa_cmp_ok hE g3.2.2 g3.1.2 (ra_lt hc) e2
        exact hk _ _ _ _ _ q1 ρ _ _ _ (sx_l q3) q2 (sg_F_x (sx_l q3) hF) (sg_L_x (sx_l q3) hL) (sg_S_x (sx_l q3) g4) hI
      · obtain ⟨E1, q1, q2, q3⟩ := sa_cmp_ok hE g3.1.2 g3.2.2 (ra_nlt hc) g1.2
        exact hk _ _ _ _ _ q1 ρ _ _ _ (sx_l q3) q2 (sg_F_x (sx_l q3) hF) (sg_L_x (sx_l q3) hL) (sg_S_x (sx_l q3) g4) hI
    case le =>
      simp only [s_one, Bool.and_eq_true, decide_eq_true_eq] at h
      obtain ⟨h1, h2⟩ := h
      obtain ⟨x, y, r, a, b, st', g1, rfl, g3, g4⟩ := s_2_ok hS h2
      simp only [Bool.and_eq_true] at g1
      obtain ⟨t, e1, e2⟩ := s_tg_ok g1.1
      refine ⟨h1, ?_⟩
      simp only [am_2]
      rw [am_tg_eq e1]
      refine ⟨fun hc => ?_, fun hc => ?_⟩
      · obtain ⟨E1, q1, q2, q3⟩ := sa_cmp_ok hE g3.1.2 g3.2.2 (ra_le hc) e2
        exact hk _ _ _ _ _ q1 ρ _ _ _ (sx_l q3) q2 (sg_F_x (sx_l q3) hF) (sg_L_x (sx_l q3) hL) (sg_S_x (sx_l q3) g4) hI
      · obtain ⟨E1, q1, q2, q3⟩ := sa_cmp_ok hE g3.2.2 g3.1.2 (ra_nle hc) g1.2
        exact hk _ _ _ _ _ q1 ρ _ _ _ (sx_l q3) q2 (sg_F_x (sx_l q3) hF) (sg_L_x (sx_l q3) hL) (sg_S_x (sx_l q3) g4) hI
  case goto off =>
    simp only [s_one, Bool.and_eq_true, decide_eq_true_eq] at h
    obtain ⟨h1, h2⟩ := h
    obtain ⟨t, e1, e2⟩ := s_tg_ok h2
    refine ⟨h1, ?_⟩
    rw [am_tg_eq e1]
    exact hk _ _ _ _ _ e2 ρ _ _ _ (sx_r E ρ) hE hF hL hS hI
  case tableswitch d lo hi offs =>
    simp only [s_one, Bool.and_eq_true, decide_eq_true_eq] at h
    obtain ⟨x, r, a, st', g1, rfl, g3, g4⟩ := s_1_ok hS h
    simp only [Bool.and_eq_true, decide_eq_true_eq] at g1
    refine ⟨s_ts_ok hE g3.2 (fun t E1 q1 q2 q3 => ?_) _ _ g1.1, fun _ => ?_, g1.2.2⟩
    · exact hk _ _ _ _ _ q1 ρ _ _ _ (sx_l q3) q2 (sg_F_x (sx_l q3) hF) (sg_L_x (sx_l q3) hL) (sg_S_x (sx_l q3) g4) hI
    · obtain ⟨t, e1, e2⟩ := s_tg_ok g1.2.1
      rw [am_tg_eq e1]
      exact hk _ _ _ _ _ e2 ρ _ _ _ (sx_r E ρ) hE hF hL g4 hI
  case lookupswitch d ps =>
    simp only [s_one, Bool.and_eq_true, decide_eq_true_eq] at h
    obtain ⟨x, r, a, st', g1, rfl, g3, g4⟩ := s_1_ok hS h
    simp only [Bool.and_eq_true, decide_eq_true_eq] at g1
    refine ⟨g1.1, s_ls_ok hE g3.2 (fun t E1 q1 q2 q3 => ?_) _ g1.2⟩
    exact hk _ _ _ _ _ q1 ρ _ _ _ (sx_l q3) q2 (sg_F_x (sx_l q3) hF) (sg_L_x (sx_l q3) hL) (sg_S_x (sx_l q3) g4) hI
  case ireturn  =>
    simp only [s_one, Bool.and_eq_true, decide_eq_true_eq] at h
    obtain ⟨h1, h2⟩ := h
    obtain ⟨a, r, x, st', g1, rfl, g3, g4⟩ := s_1_ok hS h2
    simp only [Bool.and_eq_true, List.isEmpty_iff] at g1
    obtain ⟨rfl, g5, g6⟩ := g1
    cases st' with
    | cons _ _ => exact g4.elim
    | nil => exact ⟨h1, rfl, rfl, s_ri_ok hE g3.2 g5, hret (some (.inl a)) (some (.int x)) g6 ⟨g3.1, x, rfl, g3.2⟩⟩
  case lreturn  =>
    simp only [s_one, Bool.and_eq_true, decide_eq_true_eq] at h
    obtain ⟨h1, h2⟩ := h
    obtain ⟨r, y, st', g1, rfl, g4⟩ := s_l_ok hS h2
    simp only [Bool.and_eq_true, List.isEmpty_iff] at g1
    obtain ⟨rfl, g5, g6⟩ := g1
    cases st' with
    | cons _ _ => exact g4.elim
    | nil => exact ⟨h1, rfl, rfl, s_rl_ok g5, hret (some (.inr (.inr true))) (some (.long y)) g6 ⟨y, rfl⟩⟩
  case return_  =>
    simp only [s_one, Bool.and_eq_true, decide_eq_true_eq] at h
    obtain ⟨h1, h2, h3, h4⟩ := h
    rw [List.isEmpty_iff] at h2
    subst h2
    rw [Option.isNone_iff_eq_none] at h3
    cases stk with
    | cons _ _ => exact hS.elim
    | nil => exact ⟨h1, rfl, rfl, h3, hret none none h4 trivial⟩
  case getfield ix =>
    simp only [s_one, Bool.and_eq_true, decide_eq_true_eq] at h
    obtain ⟨h1, h2⟩ := h
    obtain ⟨o, r, st', g1, rfl, g4⟩ := s_a_ok hS h2
    simp only [Bool.and_eq_true, decide_eq_true_eq] at g1
    obtain ⟨g5, g6⟩ := g1
    refine ⟨h1, g5, ?_⟩
    cases hf : am_find (am_FT X) ix with
    | none => rw [hf] at g6; cases g6
    | some q =>
      rw [hf] at g6
      simp only [Bool.and_eq_true, decide_eq_true_eq] at g6
      obtain ⟨g7, g8⟩ := g6
      refine ⟨g7, ?_⟩
      cases hkd : (am_KF X o)[q.2]? with
      | none => rw [hkd] at g8; cases g8
      | some kd =>
        rw [hkd] at g8
        obtain ⟨E1, F1, v, ρ', q1, q2, q3, qF, q4⟩ := s_get_ok hE hF g7 (hI.1.2 o q.1 q.2 g7) g8
        exact hk _ _ _ _ _ q1 ρ' _ _ _ q2 q3 qF (sg_L_x q2 hL) ⟨q4, sg_S_x q2 g4⟩ hI
  case putfield ix =>
    simp only [s_one, Bool.and_eq_true, decide_eq_true_eq] at h
    obtain ⟨h1, h2⟩ := h
    obtain ⟨a, r1, v, st1, g1, rfl, g3, g4⟩ := s_v_ok hS h2
    obtain ⟨o, r, st', g5, rfl, g6⟩ := s_a_ok g4 g1
    simp only [Bool.and_eq_true, decide_eq_true_eq] at g5
    obtain ⟨g7, g8⟩ := g5
    refine ⟨h1, g7, ?_⟩
    cases hf : am_find (am_PT X) ix with
    | none => rw [hf] at g8; cases g8
    | some q =>
      rw [hf] at g8
      simp only [Bool.and_eq_true, decide_eq_true_eq] at g8
      obtain ⟨g9, g10⟩ := g8
      refine ⟨g9, ?_⟩
      cases hkd : (am_KF X o)[q.2]? with
      | none => rw [hkd] at g10; cases g10
      | some kd =>
        rw [hkd] at g10
        exact s_put_ok hE hF g3 hI g9 g10 (fun F' τ hh hf ht => hk _ _ _ _ _ hh ρ _ _ _ (sx_r E ρ) hE hf hL g6 ht)
  case arraylength  =>
    simp only [s_one, Bool.and_eq_true, decide_eq_true_eq] at h
    obtain ⟨h1, h2⟩ := h
    obtain ⟨o, r, st', g1, rfl, g4⟩ := s_a_ok hS h2
    simp only [Bool.and_eq_true, decide_eq_true_eq] at g1
    obtain ⟨g5, g6⟩ := g1
    refine ⟨h1, g5, ?_⟩
    cases hs : am_SH X o with
    | inl c => rw [hs] at g6; cases g6
    | inr q =>
      rw [hs] at g6
      simp only [Bool.and_eq_true, decide_eq_true_eq] at g6
      refine ⟨g6.1.1, hk _ _ _ _ _ g6.2 ρ _ _ _ (sx_r E ρ) hE hF hL ⟨⟨hE.1, _, rfl, ?_⟩, g4⟩ hI⟩
      show (Int32.ofInt (q.2 : Int)).toInt = ρ 0 + (q.2 : Int)
      rw [ii_t (by omega) (by omega), hE.2.1]
      omega
  case iaload  =>
    simp only [s_one, Bool.and_eq_true, decide_eq_true_eq] at h
    obtain ⟨h1, h2⟩ := h
    obtain ⟨i, r1, x, st1, g1, rfl, g3, g4⟩ := s_1_ok hS h2
    obtain ⟨o, r, st', g5, rfl, g6⟩ := s_a_ok g4 g1
    simp only [Bool.and_eq_true, decide_eq_true_eq] at g5
    obtain ⟨g7, g8⟩ := g5
    refine ⟨h1, g7, ?_⟩
    cases hs : am_SH X o with
    | inl c => rw [hs] at g8; cases g8
    | inr q =>
      rw [hs] at g8
      simp only [Bool.and_eq_true, decide_eq_true_eq] at g8
      obtain ⟨g9, g10, g11⟩ := g8
      have hb := sa_inB_ok hE g3.2 g10
      have hb1 : 0 ≤ x.toInt := hb.1
      have hb2 : x.toInt ≤ (q.2 : Int) - 1 := hb.2
      have h0 : 0 ≤ (sa_h E i).1 := by
        simp only [sa_inB, Bool.and_eq_true, decide_eq_true_eq] at g10
        exact g10.1
      refine ⟨g9, by rw [vp_in_iff]; omega, ?_⟩
      obtain ⟨ρ', q1, q2, q3⟩ := sa_fr_ok hE (sb_lg_ok hF (fun g hg => hG g hg σ hI.2) g3.2 (sb_ld_ok h0 (sa_h_ok hE g3.2) (hI.1.1 o q x.toNatClampNeg hs (by show x.toInt.toNat < q.2; omega))))
      exact hk _ _ _ _ _ g11 ρ' _ _ _ q1 q2 (sg_F_x q1 hF) (sg_L_x q1 hL) ⟨q3, sg_S_x q1 g6⟩ hI
  case baload  =>
    simp only [s_one, Bool.and_eq_true, decide_eq_true_eq] at h
    obtain ⟨h1, h2⟩ := h
    obtain ⟨i, r1, x, st1, g1, rfl, g3, g4⟩ := s_1_ok hS h2
    obtain ⟨o, r, st', g5, rfl, g6⟩ := s_a_ok g4 g1
    simp only [Bool.and_eq_true, decide_eq_true_eq] at g5
    obtain ⟨g7, g8⟩ := g5
    refine ⟨h1, g7, ?_⟩
    cases hs : am_SH X o with
    | inl c => rw [hs] at g8; cases g8
    | inr q =>
      rw [hs] at g8
      simp only [Bool.and_eq_true, decide_eq_true_eq] at g8
      obtain ⟨g9, g10, g11⟩ := g8
      have hb := sa_inB_ok hE g3.2 g10
      have hb1 : 0 ≤ x.toInt := hb.1
      have hb2 : x.toInt ≤ (q.2 : Int) - 1 := hb.2
      have h0 : 0 ≤ (sa_h E i).1 := by
        simp only [sa_inB, Bool.and_eq_true, decide_eq_true_eq] at g10
        exact g10.1
      refine ⟨g9, by rw [vp_in_iff]; omega, ?_⟩
      obtain ⟨ρ', q1, q2, q3⟩ := sa_fr_ok hE (sb_lg_ok hF (fun g hg => hG g hg σ hI.2) g3.2 (sb_ld_ok h0 (sa_h_ok hE g3.2) (hI.1.1 o q x.toNatClampNeg hs (by show x.toInt.toNat < q.2; omega))))
      exact hk _ _ _ _ _ g11 ρ' _ _ _ q1 q2 (sg_F_x q1 hF) (sg_L_x q1 hL) ⟨q3, sg_S_x q1 g6⟩ hI
  case laload  =>
    simp only [s_one, Bool.and_eq_true, decide_eq_true_eq] at h
    obtain ⟨h1, h2⟩ := h
    obtain ⟨i, r1, x, st1, g1, rfl, g3, g4⟩ := s_1_ok hS h2
    obtain ⟨o, r, st', g5, rfl, g6⟩ := s_a_ok g4 g1
    simp only [Bool.and_eq_true, decide_eq_true_eq] at g5
    obtain ⟨g7, g8⟩ := g5
    refine ⟨h1, g7, ?_⟩
    cases hs : am_SH X o with
    | inl c => rw [hs] at g8; cases g8
    | inr q =>
      rw [hs] at g8
      simp only [Bool.and_eq_true, decide_eq_true_eq] at g8
      obtain ⟨g9, g10, g11⟩ := g8
      have hb := sa_inB_ok hE g3.2 g10
      have hb1 : 0 ≤ x.toInt := hb.1
      have hb2 : x.toInt ≤ (q.2 : Int) - 1 := hb.2
      have h0 : 0 ≤ (sa_h E i).1 := by
        simp only [sa_inB, Bool.and_eq_true, decide_eq_true_eq] at g10
        exact g10.1
      refine ⟨g9, by rw [vp_in_iff]; omega, ?_⟩
      exact hk _ _ _ _ _ g11 ρ _ _ _ (sx_r E ρ) hE hF hL ⟨⟨_, rfl⟩, g6⟩ hI
  case iastore  =>
    simp only [s_one, Bool.and_eq_true, decide_eq_true_eq] at h
    obtain ⟨h1, h2⟩ := h
    obtain ⟨a, r1, y, st1, g1, rfl, g3, g4⟩ := s_1_ok hS h2
    obtain ⟨i, r2, x, st2, g5, rfl, g6, g7⟩ := s_1_ok g4 g1
    obtain ⟨o, r, st', g9, rfl, g8⟩ := s_a_ok g7 g5
    simp only [Bool.and_eq_true, decide_eq_true_eq] at g9
    obtain ⟨g10, g11⟩ := g9
    refine ⟨h1, g10, ?_⟩
    cases hs : am_SH X o with
    | inl c => rw [hs] at g11; cases g11
    | inr q =>
      rw [hs] at g11
      simp only [Bool.and_eq_true, decide_eq_true_eq] at g11
      obtain ⟨g12, g13, g16, g14, g15⟩ := g11
      have hb := sa_inB_ok hE g6.2 g13
      have hb1 : 0 ≤ x.toInt := hb.1
      have hb2 : x.toInt ≤ (q.2 : Int) - 1 := hb.2
      have hh := sa_h_ok hE g6.2
      have h0 : 0 ≤ (sa_h E i).1 := by
        simp only [sa_inB, Bool.and_eq_true, decide_eq_true_eq] at g13
        exact g13.1
      have hm : ∃ m ∈ M, m.1 = o ∧ m.2.1 ≤ x.toNatClampNeg ∧ x.toNatClampNeg < m.2.2 := by
        obtain ⟨m, m1, m2, m3, m4⟩ := s_mod_ok g16
        exact ⟨m, m1, m2, by show m.2.1 ≤ x.toInt.toNat; omega, by show x.toInt.toNat < m.2.2; omega⟩
      refine ⟨g12, by rw [vp_in_iff]; omega, ?_⟩
      exact hk _ _ _ _ _ g15 ρ _ _ _ (sx_r E ρ) hE (sg_F_arr hs hF) hL g8 (sI_arr hI hs (sb_st_ok h0 (sa_h_ok hE g6.2) (sa_h_ok hE g3.2) g14) hm)
  case bastore  =>
    simp only [s_one, Bool.and_eq_true, decide_eq_true_eq] at h
    obtain ⟨h1, h2⟩ := h
    obtain ⟨a, r1, y, st1, g1, rfl, g3, g4⟩ := s_1_ok hS h2
    obtain ⟨i, r2, x, st2, g5, rfl, g6, g7⟩ := s_1_ok g4 g1
    obtain ⟨o, r, st', g9, rfl, g8⟩ := s_a_ok g7 g5
    simp only [Bool.and_eq_true, decide_eq_true_eq] at g9
    obtain ⟨g10, g11⟩ := g9
    refine ⟨h1, g10, ?_⟩
    cases hs : am_SH X o with
    | inl c => rw [hs] at g11; cases g11
    | inr q =>
      rw [hs] at g11
      simp only [Bool.and_eq_true, decide_eq_true_eq] at g11
      obtain ⟨g12, g13, g16, g14, g15⟩ := g11
      have hb := sa_inB_ok hE g6.2 g13
      have hb1 : 0 ≤ x.toInt := hb.1
      have hb2 : x.toInt ≤ (q.2 : Int) - 1 := hb.2
      have hh := sa_h_ok hE g6.2
      have h0 : 0 ≤ (sa_h E i).1 := by
        simp only [sa_inB, Bool.and_eq_true, decide_eq_true_eq] at g13
        exact g13.1
      have hm : ∃ m ∈ M, m.1 = o ∧ m.2.1 ≤ x.toNatClampNeg ∧ x.toNatClampNeg < m.2.2 := by
        obtain ⟨m, m1, m2, m3, m4⟩ := s_mod_ok g16
        exact ⟨m, m1, m2, by show m.2.1 ≤ x.toInt.toNat; omega, by show x.toInt.toNat < m.2.2; omega⟩
      refine ⟨g12, by rw [vp_in_iff]; omega, ?_⟩
      refine hk _ _ _ _ _ g15 ρ _ _ _ (sx_r E ρ) hE (sg_F_arr hs hF) hL g8 (sI_arr hI hs (sb_st_ok h0 (sa_h_ok hE g6.2) ?_ g14) hm)
      by_cases hq : q.1 = 1
      · rw [if_pos hq, if_pos hq]
        exact ti_byte y
      · rw [if_neg hq, if_neg hq]
        exact ti_bool y
  case lastore  =>
    simp only [s_one, Bool.and_eq_true, decide_eq_true_eq] at h
    obtain ⟨h1, h2⟩ := h
    obtain ⟨r1, y, st1, g1, rfl, g4⟩ := s_l_ok hS h2
    obtain ⟨i, r2, x, st2, g5, rfl, g6, g7⟩ := s_1_ok g4 g1
    obtain ⟨o, r, st', g9, rfl, g8⟩ := s_a_ok g7 g5
    simp only [Bool.and_eq_true, decide_eq_true_eq] at g9
    obtain ⟨g10, g11⟩ := g9
    refine ⟨h1, g10, ?_⟩
    cases hs : am_SH X o with
    | inl c => rw [hs] at g11; cases g11
    | inr q =>
      rw [hs] at g11
      simp only [Bool.and_eq_true, decide_eq_true_eq] at g11
      obtain ⟨g12, g13, g16, g14, g15⟩ := g11
      have hb := sa_inB_ok hE g6.2 g13
      have hb1 : 0 ≤ x.toInt := hb.1
      have hb2 : x.toInt ≤ (q.2 : Int) - 1 := hb.2
      have hh := sa_h_ok hE g6.2
      have h0 : 0 ≤ (sa_h E i).1 := by
        simp only [sa_inB, Bool.and_eq_true, decide_eq_true_eq] at g13
        exact g13.1
      have hm : ∃ m ∈ M, m.1 = o ∧ m.2.1 ≤ x.toNatClampNeg ∧ x.toNatClampNeg < m.2.2 := by
        obtain ⟨m, m1, m2, m3, m4⟩ := s_mod_ok g16
        exact ⟨m, m1, m2, by show m.2.1 ≤ x.toInt.toNat; omega, by show x.toInt.toNat < m.2.2; omega⟩
      refine ⟨g12, by rw [vp_in_iff]; omega, ?_⟩
      exact hk _ _ _ _ _ g15 ρ _ _ _ (sx_r E ρ) hE hF hL g8 (sI_pl hI hm)
  case invokevirtual ix =>
    simp only [s_one, Bool.and_eq_true, decide_eq_true_eq] at h
    obtain ⟨h1, h2⟩ := h
    refine ⟨h1, ?_⟩
    cases hf : am_find (am_NT X) ix with
    | some w =>
      rw [hf] at h2
      exact s_nat_ok hE hF hS hI (fun E1 S1 hh ρ' st' τ q1 q2 qF q3 q4 => hk _ _ _ _ _ hh ρ' _ _ _ q1 q2 qF (sg_L_x q1 hL) q3 q4) h2
    | none =>
      rw [hf] at h2
      exact s_call_ok (K := fun st m τ => K (pc + 3) ls st m τ) hML hJ hE hF hS hI (fun E1 F1 S1 hh ρ' st' τ q1 q2 qF q3 q4 => hk _ _ _ _ _ hh ρ' _ _ _ q1 q2 qF (sg_L_x q1 hL) q3 q4) h2
  case invokestatic ix =>
    simp only [s_one, Bool.and_eq_true, decide_eq_true_eq] at h
    obtain ⟨h1, h2⟩ := h
    refine ⟨h1, ?_⟩
    cases hf : am_find (am_NT X) ix with
    | some w =>
      rw [hf] at h2
      exact s_nat_ok hE hF hS hI (fun E1 S1 hh ρ' st' τ q1 q2 qF q3 q4 => hk _ _ _ _ _ hh ρ' _ _ _ q1 q2 qF (sg_L_x q1 hL) q3 q4) h2
    | none =>
      rw [hf] at h2
      exact s_call_ok (K := fun st m τ => K (pc + 3) ls st m τ) hML hJ hE hF hS hI (fun E1 F1 S1 hh ρ' st' τ q1 q2 qF q3 q4 => hk _ _ _ _ _ hh ρ' _ _ _ q1 q2 qF (sg_L_x q1 hL) q3 q4) h2
  case invokespecial ix =>
    simp only [s_one, Bool.and_eq_true, decide_eq_true_eq] at h
    obtain ⟨h1, h2⟩ := h
    refine ⟨h1, ?_⟩
    cases hf : am_find (am_NT X) ix with
    | some w =>
      rw [hf] at h2
      exact s_nat_ok hE hF hS hI (fun E1 S1 hh ρ' st' τ q1 q2 qF q3 q4 => hk _ _ _ _ _ hh ρ' _ _ _ q1 q2 qF (sg_L_x q1 hL) q3 q4) h2
    | none =>
      rw [hf] at h2
      exact s_call_ok (K := fun st m τ => K (pc + 3) ls st m τ) hML hJ hE hF hS hI (fun E1 F1 S1 hh ρ' st' τ q1 q2 qF q3 q4 => hk _ _ _ _ _ hh ρ' _ _ _ q1 q2 qF (sg_L_x q1 hL) q3 q4) h2
  all_goals exact absurd h (by simp [s_one])
end
