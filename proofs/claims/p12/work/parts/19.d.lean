/-! THE SAFETY CHECKER: what each kind of reckoning gives -/
def so_ (E : sa_E) (ρ : Nat → Int) (r : sa_E × sa_V) (v : Value) : Prop := ∃ ρ', sx E ρ r.1 ρ' ∧ sg_E r.1 ρ' ∧ sg_V r.1 ρ' r.2 v
def sa_fr (E : sa_E) (b : Int × Int) : sa_E × sa_V := (E ++ [(b.1, b.2, false)], .inl (E.length, 0))
def sa_full : Int × Int := (-2147483648, 2147483647)
theorem sa_fr_ok {E : sa_E} {ρ : Nat → Int} {b : Int × Int} {x : Int32} (hE : sg_E E ρ) (h : b.1 ≤ x.toInt ∧ x.toInt ≤ b.2) : so_ E ρ (sa_fr E b) (.int x) := by
  refine ⟨fun i => if i = E.length then x.toInt else ρ i, ⟨by simp [sa_fr], fun i hi => if_neg (by omega)⟩, ⟨by simp [sa_fr], ?_, fun i q hq => ?_⟩, by simp [sa_fr], x, rfl, ?_⟩
  · show (if 0 = E.length then x.toInt else ρ 0) = 0
    rw [if_neg (by have := hE.1; omega)]
    exact hE.2.1
  · by_cases hi : i < E.length
    · simp only [sa_fr] at hq
      rw [List.getElem?_append_left hi] at hq
      show _ ≤ (if i = E.length then x.toInt else ρ i) ∧ (if i = E.length then x.toInt else ρ i) ≤ _ ∧ (_ → (if i = E.length then x.toInt else ρ i) ≠ 0)
      rw [if_neg (by omega)]
      exact hE.2.2 i q hq
    · by_cases he : i = E.length
      · subst he
        simp only [sa_fr] at hq
        rw [List.getElem?_append_right (Nat.le_refl _), Nat.sub_self] at hq
        cases hq
        have e : (fun i => if i = E.length then x.toInt else ρ i) E.length = x.toInt := if_pos rfl
        rw [e]
        exact ⟨h.1, h.2, fun q => by cases q⟩
      · simp only [sa_fr] at hq
        rw [List.getElem?_eq_none (by simp; omega)] at hq
        cases hq
  · show x.toInt = (if E.length = E.length then x.toInt else _) + 0
    rw [if_pos rfl]
    omega
theorem sa_full_ok {E : sa_E} {ρ : Nat → Int} (x : Int32) (hE : sg_E E ρ) : so_ E ρ (sa_fr E sa_full) (.int x) := by
  have l1 := ii_lo x
  have l2 := ii_hi x
  exact sa_fr_ok hE ⟨l1, by show x.toInt ≤ 2147483647; omega⟩
theorem so_r {E : sa_E} {ρ : Nat → Int} {a : sa_V} {v : Value} (hE : sg_E E ρ) (h : sg_V E ρ a v) : so_ E ρ (E, a) v := ⟨ρ, sx_r E ρ, hE, h⟩
theorem ti_add {a b : Int32} (h : -2147483648 ≤ a.toInt + b.toInt) (h2 : a.toInt + b.toInt ≤ 2147483647) : (a + b).toInt = a.toInt + b.toInt := by
  have e : a + b = Int32.ofInt (a.toInt + b.toInt) := by
    rw [← ii_add, ← ii_of a, ← ii_of b]
  rw [e, ii_t h (by omega)]
theorem ti_sub {a b : Int32} (h : -2147483648 ≤ a.toInt - b.toInt) (h2 : a.toInt - b.toInt ≤ 2147483647) : (a - b).toInt = a.toInt - b.toInt := by
  have e : a - b = Int32.ofInt (a.toInt - b.toInt) := by
    rw [← ii_sub, ← ii_of a, ← ii_of b]
  rw [e, ii_t h (by omega)]
theorem ti_mul {a b : Int32} (h : -2147483648 ≤ a.toInt * b.toInt) (h2 : a.toInt * b.toInt ≤ 2147483647) : (a * b).toInt = a.toInt * b.toInt := by
  have e : a * b = Int32.ofInt (a.toInt * b.toInt) := by
    rw [← ii_mul, ← ii_of a, ← ii_of b]
  rw [e, ii_t h (by omega)]
/-- what is known of two ints -/
def s2 (E : sa_E) (ρ : Nat → Int) (x y : Nat × Int) (a b : Int32) : Prop := (x.1 < E.length ∧ a.toInt = ρ x.1 + x.2) ∧ (y.1 < E.length ∧ b.toInt = ρ y.1 + y.2)
def sa_add (E : sa_E) (x y : Nat × Int) : sa_E × sa_V :=
  if y.1 = 0 ∧ -2147483648 ≤ (sa_h E x).1 + y.2 ∧ (sa_h E x).2 + y.2 ≤ 2147483647 then (E, .inl (x.1, x.2 + y.2))
  else if x.1 = 0 ∧ -2147483648 ≤ (sa_h E y).1 + x.2 ∧ (sa_h E y).2 + x.2 ≤ 2147483647 then (E, .inl (y.1, y.2 + x.2))
  else if -2147483648 ≤ (sa_h E x).1 + (sa_h E y).1 ∧ (sa_h E x).2 + (sa_h E y).2 ≤ 2147483647 then sa_fr E ((sa_h E x).1 + (sa_h E y).1, (sa_h E x).2 + (sa_h E y).2)
  else sa_fr E sa_full
theorem sa_add_ok {E : sa_E} {ρ : Nat → Int} {x y : Nat × Int} {a b : Int32} (hE : sg_E E ρ) (h : s2 E ρ x y a b) : so_ E ρ (sa_add E x y) (.int (a + b)) := by
  obtain ⟨⟨lx, hx⟩, ly, hy⟩ := h
  obtain ⟨x1, x2⟩ := sa_h_ok hE hx
  obtain ⟨y1, y2⟩ := sa_h_ok hE hy
  have h0 := hE.2.1
  unfold sa_add
  split
  · rename_i q
    obtain ⟨q1, q2, q3⟩ := q
    rw [q1, h0] at hy
    exact so_r hE ⟨lx, _, rfl, by rw [ti_add (by omega) (by omega)]; show _ = ρ x.1 + (x.2 + y.2); omega⟩
  · split
    · rename_i q
      obtain ⟨q1, q2, q3⟩ := q
      rw [q1, h0] at hx
      exact so_r hE ⟨ly, _, rfl, by rw [ti_add (by omega) (by omega)]; show _ = ρ y.1 + (y.2 + x.2); omega⟩
    · split
      · rename_i q
        obtain ⟨q1, q2⟩ := q
        refine sa_fr_ok hE ?_
        rw [ti_add (by omega) (by omega)]
        exact ⟨by show (sa_h E x).1 + (sa_h E y).1 ≤ _; omega, by show _ ≤ (sa_h E x).2 + (sa_h E y).2; omega⟩
      · exact sa_full_ok _ hE
def sa_sub (E : sa_E) (x y : Nat × Int) : sa_E × sa_V :=
  if y.1 = 0 ∧ -2147483648 ≤ (sa_h E x).1 - y.2 ∧ (sa_h E x).2 - y.2 ≤ 2147483647 then (E, .inl (x.1, x.2 - y.2))
  else if -2147483648 ≤ (sa_h E x).1 - (sa_h E y).2 ∧ (sa_h E x).2 - (sa_h E y).1 ≤ 2147483647 then sa_fr E ((sa_h E x).1 - (sa_h E y).2, (sa_h E x).2 - (sa_h E y).1)
  else sa_fr E sa_full
theorem sa_sub_ok {E : sa_E} {ρ : Nat → Int} {x y : Nat × Int} {a b : Int32} (hE : sg_E E ρ) (h : s2 E ρ x y a b) : so_ E ρ (sa_sub E x y) (.int (a - b)) := by
  obtain ⟨⟨lx, hx⟩, ly, hy⟩ := h
  obtain ⟨x1, x2⟩ := sa_h_ok hE hx
  obtain ⟨y1, y2⟩ := sa_h_ok hE hy
  have h0 := hE.2.1
  unfold sa_sub
  split
  · rename_i q
    obtain ⟨q1, q2, q3⟩ := q
    rw [q1, h0] at hy
    exact so_r hE ⟨lx, _, rfl, by rw [ti_sub (by omega) (by omega)]; show _ = ρ x.1 + (x.2 - y.2); omega⟩
  · split
    · rename_i q
      obtain ⟨q1, q2⟩ := q
      refine sa_fr_ok hE ?_
      rw [ti_sub (by omega) (by omega)]
      exact ⟨by show (sa_h E x).1 - (sa_h E y).2 ≤ _; omega, by show _ ≤ (sa_h E x).2 - (sa_h E y).1; omega⟩
    · exact sa_full_ok _ hE
def sa_mul (E : sa_E) (x y : Nat × Int) : sa_E × sa_V :=
  if 0 ≤ (sa_h E x).1 ∧ 0 ≤ (sa_h E y).1 ∧ (sa_h E x).2 * (sa_h E y).2 ≤ 2147483647 then sa_fr E (0, (sa_h E x).2 * (sa_h E y).2) else sa_fr E sa_full
theorem sa_mul_ok {E : sa_E} {ρ : Nat → Int} {x y : Nat × Int} {a b : Int32} (hE : sg_E E ρ) (h : s2 E ρ x y a b) : so_ E ρ (sa_mul E x y) (.int (a * b)) := by
  obtain ⟨⟨lx, hx⟩, ly, hy⟩ := h
  obtain ⟨x1, x2⟩ := sa_h_ok hE hx
  obtain ⟨y1, y2⟩ := sa_h_ok hE hy
  unfold sa_mul
  split
  · rename_i q
    obtain ⟨q1, q2, q3⟩ := q
    have m1 : 0 ≤ a.toInt * b.toInt := Int.mul_nonneg (by omega) (by omega)
    have m2 : a.toInt * b.toInt ≤ (sa_h E x).2 * (sa_h E y).2 := Int.mul_le_mul x2 y2 (by omega) (by omega)
    refine sa_fr_ok hE ?_
    rw [ti_mul (by omega) (by omega)]
    exact ⟨m1, m2⟩
  · exact sa_full_ok _ hE
theorem ti_nonneg {b : Int32} (h : 0 ≤ b.toInt) : b.toInt = (b.toBitVec.toNat : Int) := by
  show b.toBitVec.toInt = _
  have h : 0 ≤ b.toBitVec.toInt := h
  rw [BitVec.toInt_eq_toNat_cond] at h ⊢
  split at h
  · rename_i q; rw [if_pos q]
  · have := b.toBitVec.isLt
    omega
theorem ti_and {a b : Int32} (h : 0 ≤ b.toInt) : 0 ≤ (a &&& b).toInt ∧ (a &&& b).toInt ≤ b.toInt := by
  have e := ti_nonneg h
  have hb := ii_hi b
  have h1 : (a &&& b).toBitVec.toNat ≤ b.toBitVec.toNat := by
    rw [Int32.toBitVec_and, BitVec.toNat_and]
    exact Nat.and_le_right
  have h2 : (a &&& b).toInt = ((a &&& b).toBitVec.toNat : Int) := by
    show (a &&& b).toBitVec.toInt = _
    rw [BitVec.toInt_eq_toNat_cond, if_pos (by omega)]
  omega
theorem ti_and' {a b : Int32} (h : 0 ≤ a.toInt) : 0 ≤ (a &&& b).toInt ∧ (a &&& b).toInt ≤ a.toInt := by
  have e : a &&& b = b &&& a := Int32.and_comm a b
  rw [e]
  exact ti_and h
/-- both known: reckoned at once -/
def sa_cst (E : sa_E) (f : Int32 → Int32 → Int32) (x y : Nat × Int) (k : sa_E × sa_V) : sa_E × sa_V :=
  if (sa_h E x).1 = (sa_h E x).2 ∧ (sa_h E y).1 = (sa_h E y).2 then (E, .inl (0, (f (Int32.ofInt (sa_h E x).1) (Int32.ofInt (sa_h E y).1)).toInt)) else k
theorem sa_cst_ok {E : sa_E} {ρ : Nat → Int} {f : Int32 → Int32 → Int32} {x y : Nat × Int} {a b : Int32} {k : sa_E × sa_V} (hE : sg_E E ρ) (h : s2 E ρ x y a b) (hk : so_ E ρ k (.int (f a b))) : so_ E ρ (sa_cst E f x y k) (.int (f a b)) := by
  obtain ⟨⟨lx, hx⟩, ly, hy⟩ := h
  obtain ⟨x1, x2⟩ := sa_h_ok hE hx
  obtain ⟨y1, y2⟩ := sa_h_ok hE hy
  unfold sa_cst
  split
  · rename_i q
    obtain ⟨q1, q2⟩ := q
    have e1 : Int32.ofInt (sa_h E x).1 = a := by rw [show (sa_h E x).1 = a.toInt by omega, ← ii_of]
    have e2 : Int32.ofInt (sa_h E y).1 = b := by rw [show (sa_h E y).1 = b.toInt by omega, ← ii_of]
    rw [e1, e2]
    exact so_r hE ⟨hE.1, _, rfl, by show _ = ρ 0 + (f a b).toInt; rw [hE.2.1]; omega⟩
  · exact hk
def sa_and (E : sa_E) (x y : Nat × Int) : sa_E × sa_V := sa_cst E (fun a b => a &&& b) x y
  (if 0 ≤ (sa_h E y).1 then sa_fr E (0, (sa_h E y).2) else if 0 ≤ (sa_h E x).1 then sa_fr E (0, (sa_h E x).2) else sa_fr E sa_full)
theorem sa_and_ok {E : sa_E} {ρ : Nat → Int} {x y : Nat × Int} {a b : Int32} (hE : sg_E E ρ) (h : s2 E ρ x y a b) : so_ E ρ (sa_and E x y) (.int (a &&& b)) := by
  refine sa_cst_ok (f := fun a b => a &&& b) hE h ?_
  obtain ⟨⟨lx, hx⟩, ly, hy⟩ := h
  obtain ⟨x1, x2⟩ := sa_h_ok hE hx
  obtain ⟨y1, y2⟩ := sa_h_ok hE hy
  split
  · have := ti_and (a := a) (b := b) (by omega)
    exact sa_fr_ok hE ⟨this.1, by show _ ≤ (sa_h E y).2; omega⟩
  · split
    · have := ti_and' (a := a) (b := b) (by omega)
      exact sa_fr_ok hE ⟨this.1, by show _ ≤ (sa_h E x).2; omega⟩
    · exact sa_full_ok _ hE
def sa_shr (E : sa_E) (x y : Nat × Int) : sa_E × sa_V := sa_cst E (fun a b => a >>> (b &&& 31)) x y (sa_fr E sa_full)
theorem sa_shr_ok {E : sa_E} {ρ : Nat → Int} {x y : Nat × Int} {a b : Int32} (hE : sg_E E ρ) (h : s2 E ρ x y a b) : so_ E ρ (sa_shr E x y) (.int (a >>> (b &&& 31))) :=
  sa_cst_ok (f := fun a b => a >>> (b &&& 31)) hE h (sa_full_ok _ hE)
theorem ti_shl1 : ∀ n : Fin 31, ((1 : Int32) <<< (Int32.ofInt (n : Nat) &&& 31)).toInt = ((2 ^ (n : Nat) : Nat) : Int) := by decide
def sa_shl (E : sa_E) (x y : Nat × Int) : sa_E × sa_V :=
  if (sa_h E x).1 = 1 ∧ (sa_h E x).2 = 1 ∧ 0 ≤ (sa_h E y).1 ∧ (sa_h E y).2 ≤ 30 then sa_fr E (1, ((2 ^ (sa_h E y).2.toNat : Nat) : Int)) else sa_fr E sa_full
theorem sa_shl_ok {E : sa_E} {ρ : Nat → Int} {x y : Nat × Int} {a b : Int32} (hE : sg_E E ρ) (h : s2 E ρ x y a b) : so_ E ρ (sa_shl E x y) (.int (a <<< (b &&& 31))) := by
  obtain ⟨⟨lx, hx⟩, ly, hy⟩ := h
  obtain ⟨x1, x2⟩ := sa_h_ok hE hx
  obtain ⟨y1, y2⟩ := sa_h_ok hE hy
  unfold sa_shl
  split
  · rename_i q
    obtain ⟨q1, q2, q3, q4⟩ := q
    have ea : a = 1 := Int32.toInt_inj.mp (show a.toInt = 1 by omega)
    have eb : b = Int32.ofInt ((b.toInt.toNat : Nat) : Int) := by
      rw [Int.toNat_of_nonneg (by omega), ← ii_of]
    have h1 := ti_shl1 ⟨b.toInt.toNat, by omega⟩
    rw [ea, eb]
    refine sa_fr_ok hE ?_
    simp only at h1
    rw [h1]
    have h2 : 2 ^ b.toInt.toNat ≤ 2 ^ (sa_h E y).2.toNat := Nat.pow_le_pow_right (by decide) (by omega)
    have h3 : 1 ≤ 2 ^ b.toInt.toNat := Nat.one_le_two_pow
    exact ⟨by show (1 : Int) ≤ _; omega, by show _ ≤ ((2 ^ (sa_h E y).2.toNat : Nat) : Int); omega⟩
  · exact sa_full_ok _ hE
theorem ti_div {a b : Int32} (ha : 0 ≤ a.toInt) (hb : 0 < b.toInt) : (a / b).toInt = a.toInt / b.toInt := by
  have h1 := ii_hi a
  have h2 : a.toInt / b.toInt ≤ a.toInt := Int.ediv_le_self _ ha
  have h3 : 0 ≤ a.toInt / b.toInt := Int.ediv_nonneg ha (by omega)
  rw [Int32.toInt_div, Int.tdiv_eq_ediv_of_nonneg ha]
  exact Int.bmod_eq_of_le (by omega) (by omega)
def sa_div (E : sa_E) (x y : Nat × Int) : sa_E × sa_V :=
  if 0 ≤ (sa_h E x).1 ∧ y.1 = 0 ∧ 0 < y.2 then sa_fr E ((sa_h E x).1 / y.2, (sa_h E x).2 / y.2) else sa_fr E sa_full
theorem sa_div_ok {E : sa_E} {ρ : Nat → Int} {x y : Nat × Int} {a b : Int32} (hE : sg_E E ρ) (h : s2 E ρ x y a b) : so_ E ρ (sa_div E x y) (.int (a / b)) := by
  obtain ⟨⟨lx, hx⟩, ly, hy⟩ := h
  obtain ⟨x1, x2⟩ := sa_h_ok hE hx
  have h0 := hE.2.1
  unfold sa_div
  split
  · rename_i q
    obtain ⟨q1, q2, q3⟩ := q
    rw [q2, h0] at hy
    have e : b.toInt = y.2 := by omega
    refine sa_fr_ok hE ?_
    rw [ti_div (by omega) (by omega), e]
    exact ⟨Int.ediv_le_ediv q3 x1, Int.ediv_le_ediv q3 x2⟩
  · exact sa_full_ok _ hE
def sa_rem (E : sa_E) (x y : Nat × Int) : sa_E × sa_V :=
  if 0 ≤ (sa_h E x).1 ∧ y.1 = 0 ∧ 0 < y.2 then sa_fr E (0, y.2 - 1) else sa_fr E sa_full
theorem sa_rem_ok {E : sa_E} {ρ : Nat → Int} {x y : Nat × Int} {a b : Int32} (hE : sg_E E ρ) (h : s2 E ρ x y a b) : so_ E ρ (sa_rem E x y) (.int (a - a / b * b)) := by
  obtain ⟨⟨lx, hx⟩, ly, hy⟩ := h
  obtain ⟨x1, x2⟩ := sa_h_ok hE hx
  have h0 := hE.2.1
  unfold sa_rem
  split
  · rename_i q
    obtain ⟨q1, q2, q3⟩ := q
    rw [q2, h0] at hy
    have e : b.toInt = y.2 := by omega
    have a1 := ii_hi a
    have d1 : (a / b).toInt = a.toInt / y.2 := by rw [ti_div (by omega) (by omega), e]
    have d2 : 0 ≤ a.toInt / y.2 := Int.ediv_nonneg (by omega) (by omega)
    have d3 : a.toInt / y.2 * y.2 ≤ a.toInt := Int.ediv_mul_le _ (by omega)
    have d4 : 0 ≤ a.toInt / y.2 * y.2 := Int.mul_nonneg d2 (by omega)
    have d5 : a.toInt % y.2 = a.toInt - a.toInt / y.2 * y.2 := by rw [Int.emod_def, Int.mul_comm]
    have d6 := Int.emod_nonneg a.toInt (show y.2 ≠ 0 by omega)
    have d7 := Int.emod_lt_of_pos a.toInt q3
    have m1 : (a / b * b).toInt = a.toInt / y.2 * y.2 := by rw [ti_mul (by rw [d1, e]; omega) (by rw [d1, e]; omega), d1, e]
    refine sa_fr_ok hE ?_
    rw [ti_sub (by rw [m1]; omega) (by rw [m1]; omega), m1]
    exact ⟨by show (0 : Int) ≤ _; omega, by show _ ≤ y.2 - 1; omega⟩
  · exact sa_full_ok _ hE
def sa_max (E : sa_E) (x y : Nat × Int) : sa_E × sa_V := sa_fr E (if (sa_h E x).1 ≤ (sa_h E y).1 then (sa_h E y).1 else (sa_h E x).1, if (sa_h E x).2 ≤ (sa_h E y).2 then (sa_h E y).2 else (sa_h E x).2)
theorem sa_max_ok {E : sa_E} {ρ : Nat → Int} {x y : Nat × Int} {a b : Int32} (hE : sg_E E ρ) (h : s2 E ρ x y a b) : so_ E ρ (sa_max E x y) (.int (if a < b then b else a)) := by
  obtain ⟨⟨lx, hx⟩, ly, hy⟩ := h
  obtain ⟨x1, x2⟩ := sa_h_ok hE hx
  obtain ⟨y1, y2⟩ := sa_h_ok hE hy
  refine sa_fr_ok hE ?_
  have e : (if a < b then b else a).toInt = if a.toInt < b.toInt then b.toInt else a.toInt := by
    by_cases q : a < b
    · rw [if_pos q, if_pos (Int32.lt_iff_toInt_lt.mp q)]
    · rw [if_neg q, if_neg (fun z => q (Int32.lt_iff_toInt_lt.mpr z))]
  rw [e]
  constructor
  · show (if (sa_h E x).1 ≤ (sa_h E y).1 then (sa_h E y).1 else (sa_h E x).1) ≤ _
    split <;> split <;> omega
  · show _ ≤ (if (sa_h E x).2 ≤ (sa_h E y).2 then (sa_h E y).2 else (sa_h E x).2)
    split <;> split <;> omega
def sa_min (E : sa_E) (x y : Nat × Int) : sa_E × sa_V := sa_fr E (if (sa_h E x).1 ≤ (sa_h E y).1 then (sa_h E x).1 else (sa_h E y).1, if (sa_h E x).2 ≤ (sa_h E y).2 then (sa_h E x).2 else (sa_h E y).2)
theorem sa_min_ok {E : sa_E} {ρ : Nat → Int} {x y : Nat × Int} {a b : Int32} (hE : sg_E E ρ) (h : s2 E ρ x y a b) : so_ E ρ (sa_min E x y) (.int (if b < a then b else a)) := by
  obtain ⟨⟨lx, hx⟩, ly, hy⟩ := h
  obtain ⟨x1, x2⟩ := sa_h_ok hE hx
  obtain ⟨y1, y2⟩ := sa_h_ok hE hy
  refine sa_fr_ok hE ?_
  have e : (if b < a then b else a).toInt = if b.toInt < a.toInt then b.toInt else a.toInt := by
    by_cases q : b < a
    · rw [if_pos q, if_pos (Int32.lt_iff_toInt_lt.mp q)]
    · rw [if_neg q, if_neg (fun z => q (Int32.lt_iff_toInt_lt.mpr z))]
  rw [e]
  constructor
  · show (if (sa_h E x).1 ≤ (sa_h E y).1 then (sa_h E x).1 else (sa_h E y).1) ≤ _
    split <;> split <;> omega
  · show _ ≤ (if (sa_h E x).2 ≤ (sa_h E y).2 then (sa_h E x).2 else (sa_h E y).2)
    split <;> split <;> omega
/-! narrowed ints -/
theorem ti_byte (x : Int32) : -128 ≤ (vp_nar .byte x).toInt ∧ (vp_nar .byte x).toInt ≤ 127 := by
  have e : vp_nar .byte x = x.toInt8.toInt32 := rfl
  rw [e, Int8.toInt_toInt32]
  have h1 := Int8.le_toInt x.toInt8
  have h2 := Int8.toInt_lt x.toInt8
  omega
theorem ti_i2b (x : Int32) : -128 ≤ (x.toInt8.toInt32).toInt ∧ (x.toInt8.toInt32).toInt ≤ 127 := ti_byte x
theorem ti_01 {x : Int32} (h : 0 ≤ x.toInt) (h2 : x.toInt ≤ 1) : x = 0 ∨ x = 1 := by
  rcases Int.lt_or_le 0 x.toInt with q | q
  · exact Or.inr (Int32.toInt_inj.mp (show x.toInt = 1 by omega))
  · exact Or.inl (Int32.toInt_inj.mp (show x.toInt = 0 by omega))
theorem ti_nar {x : Int32} (h : 0 ≤ x.toInt) (h2 : x.toInt ≤ 1) : vp_nar .boolean x = x := by
  rcases ti_01 h h2 with e | e <;> subst e <;> rfl
theorem ti_bool (x : Int32) : 0 ≤ (vp_nar .boolean x).toInt ∧ (vp_nar .boolean x).toInt ≤ 1 := by
  have e : vp_nar .boolean x = x &&& 1 := rfl
  rw [e]
  exact ti_and (a := x) (b := 1) (by decide)
