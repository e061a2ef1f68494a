/-! THE SAFETY CHECKER: ints between bounds, numbers, longs. A method's word: from such arguments, memory in its bounds, it comes back with such an answer, memory in its bounds, only these slots changed. -/
/-- what an argument may be: an int between two bounds, number o, a long (true), anything that takes one place (false) -/
abbrev sa_P : Type := (Int × Int) ⊕ (Nat ⊕ Bool)
/-- a value: ghost i and an offset (ghost 0 is 0), number o, a long, anything that takes one place -/
abbrev sa_V : Type := (Nat × Int) ⊕ (Nat ⊕ Bool)
/-- the ghosts' bounds; true: not 0 -/
abbrev sa_E : Type := List (Int × Int × Bool)
/-- an answer, and what it says of the arguments -/
abbrev sa_R : Type := Option sa_P × List (Nat × Int × Int)
/-- what may change: number, from slot, to slot -/
abbrev sa_M : Type := List (Nat × Nat × Nat)
abbrev sa_A : Type := List sa_P × List sa_R × sa_M
/-- bounds of arrays (they repeat: slot k has those of k mod how many there are), of fields -/
abbrev sa_I : Type := (Nat → List (Int × Int)) × (Nat → Nat → Int × Int)
def sb_a (B : sa_I) (o k : Nat) : Int × Int := ((B.1 o)[k % (B.1 o).length]?).getD (-2147483648, 2147483647)
def sb_ok (B : sa_I) (SH : am_Sh) (σ : am_S) : Prop := (∀ o q k, SH o = .inr q → k < q.2 → (sb_a B o k).1 ≤ (σ.1 o k).toInt ∧ (σ.1 o k).toInt ≤ (sb_a B o k).2) ∧ (∀ o ci k, SH o = .inl ci → (B.2 o k).1 ≤ (σ.1 o k).toInt ∧ (σ.1 o k).toInt ≤ (B.2 o k).2)
def sb_fr (M : sa_M) (σ τ : am_S) : Prop := ∀ o k, (∀ m ∈ M, ¬ (m.1 = o ∧ m.2.1 ≤ k ∧ k < m.2.2)) → τ.1 o k = σ.1 o k ∧ τ.2 o k = σ.2 o k
theorem sb_fr_r (M : sa_M) (σ : am_S) : sb_fr M σ σ := fun _ _ _ => ⟨rfl, rfl⟩
theorem sb_fr_t {M : sa_M} {σ τ υ : am_S} (h : sb_fr M σ τ) (g : sb_fr M τ υ) : sb_fr M σ υ := fun o k q => ⟨(g o k q).1.trans (h o k q).1, (g o k q).2.trans (h o k q).2⟩
def sp_in (p : sa_P) (v : Value) : Prop := match p with
  | .inl q => ∃ x : Int32, v = .int x ∧ q.1 ≤ x.toInt ∧ x.toInt ≤ q.2
  | .inr (.inl o) => v = .ref o
  | .inr (.inr true) => ∃ y, v = .long y
  | .inr (.inr false) => v.category = 1
def sp_all : List sa_P → List Value → Prop
  | [], [] => True
  | p :: t, v :: t' => sp_in p v ∧ sp_all t t'
  | _, _ => False
def sp_ro (r : Option sa_P) (v : Option Value) : Prop := match r, v with
  | none, none => True
  | some p, some w => sp_in p w
  | _, _ => False
def sp_ret (rs : List sa_R) (as : List Value) (v : Option Value) : Prop := ∃ r ∈ rs, sp_ro r.1 v ∧ ∀ q ∈ r.2, ∃ x : Int32, as[q.1]? = some (.int x) ∧ q.2.1 ≤ x.toInt ∧ x.toInt ≤ q.2.2
/-- a method's word -/
def sp_w (J : am_S → Prop) (B : sa_I) (SH : am_Sh) (N : Nat) (sm : List sa_A) : am_Sp := fun as n σ post => n = N ∧ sb_ok B SH σ ∧ J σ ∧ ∃ a ∈ sm, sp_all a.1 as ∧ ∀ v τ, sb_ok B SH τ → J τ → sb_fr a.2.2 σ τ → sp_ret a.2.1 as v → post v τ
/-! what values and bounds mean -/
def sg_V (E : sa_E) (ρ : Nat → Int) (a : sa_V) (v : Value) : Prop := match a with
  | .inl q => q.1 < E.length ∧ ∃ x : Int32, v = .int x ∧ x.toInt = ρ q.1 + q.2
  | .inr (.inl o) => v = .ref o
  | .inr (.inr true) => ∃ y, v = .long y
  | .inr (.inr false) => v.category = 1
def sg_E (E : sa_E) (ρ : Nat → Int) : Prop := 0 < E.length ∧ ρ 0 = 0 ∧ ∀ i q, E[i]? = some q → q.1 ≤ ρ i ∧ ρ i ≤ q.2.1 ∧ (q.2.2 = true → ρ i ≠ 0)
def sg_L (E : sa_E) (ρ : Nat → Int) (L : List (Option sa_V)) (ls : List (Option Value)) : Prop := ls.length = L.length ∧ (∀ (k : Nat) (a : sa_V), L[k]? = some (some a) → ∃ v, ls[k]? = some (some v) ∧ sg_V E ρ a v) ∧ (∀ k : Nat, L[k]? = some none → ls[k]? = some none)
def sg_S (E : sa_E) (ρ : Nat → Int) : List sa_V → List Value → Prop
  | [], [] => True
  | a :: t, v :: t' => sg_V E ρ a v ∧ sg_S E ρ t t'
  | _, _ => False
def sx (E : sa_E) (ρ : Nat → Int) (E' : sa_E) (ρ' : Nat → Int) : Prop := E.length ≤ E'.length ∧ ∀ i, i < E.length → ρ' i = ρ i
theorem sx_r (E : sa_E) (ρ : Nat → Int) : sx E ρ E ρ := ⟨Nat.le_refl _, fun _ _ => rfl⟩
theorem sx_t {E E' E'' : sa_E} {ρ ρ' ρ'' : Nat → Int} (h : sx E ρ E' ρ') (g : sx E' ρ' E'' ρ'') : sx E ρ E'' ρ'' := ⟨Nat.le_trans h.1 g.1, fun i hi => (g.2 i (Nat.lt_of_lt_of_le hi h.1)).trans (h.2 i hi)⟩
theorem sx_l {E E' : sa_E} {ρ : Nat → Int} (h : E'.length = E.length) : sx E ρ E' ρ := ⟨by omega, fun _ _ => rfl⟩
theorem sg_V_x {E E' : sa_E} {ρ ρ' : Nat → Int} {a : sa_V} {v : Value} (hx : sx E ρ E' ρ') (h : sg_V E ρ a v) : sg_V E' ρ' a v := by
  rcases a with q | o | b
  · obtain ⟨h1, x, h2, h3⟩ := h
    exact ⟨Nat.lt_of_lt_of_le h1 hx.1, x, h2, by rw [hx.2 _ h1]; exact h3⟩
  · exact h
  · cases b <;> exact h
theorem sg_L_x {E E' : sa_E} {ρ ρ' : Nat → Int} {L : List (Option sa_V)} {ls : List (Option Value)} (hx : sx E ρ E' ρ') (h : sg_L E ρ L ls) : sg_L E' ρ' L ls :=
  ⟨h.1, fun k a hk => by obtain ⟨v, h1, h2⟩ := h.2.1 k a hk; exact ⟨v, h1, sg_V_x hx h2⟩, h.2.2⟩
theorem sg_S_x {E E' : sa_E} {ρ ρ' : Nat → Int} (hx : sx E ρ E' ρ') : ∀ {S : List sa_V} {st : List Value}, sg_S E ρ S st → sg_S E' ρ' S st
  | [], [], _ => trivial
  | a :: t, v :: t', h => ⟨sg_V_x hx h.1, sg_S_x hx h.2⟩
  | [], _ :: _, h => h.elim
  | _ :: _, [], h => h.elim
/-! bounds of a value -/
def sa_h (E : sa_E) (a : Nat × Int) : Int × Int := match E[a.1]? with
  | some q => (if -2147483648 ≤ q.1 + a.2 then q.1 + a.2 else -2147483648, if q.2.1 + a.2 ≤ 2147483647 then q.2.1 + a.2 else 2147483647)
  | none => (-2147483648, 2147483647)
theorem sa_h_ok {E : sa_E} {ρ : Nat → Int} {a : Nat × Int} {x : Int32} (hE : sg_E E ρ) (h : x.toInt = ρ a.1 + a.2) : (sa_h E a).1 ≤ x.toInt ∧ x.toInt ≤ (sa_h E a).2 := by
  have l1 := ii_lo x
  have l2 := ii_hi x
  unfold sa_h
  split
  · rename_i q hq
    obtain ⟨h1, h2, _⟩ := hE.2.2 _ _ hq
    constructor
    · show (if -2147483648 ≤ q.1 + a.2 then q.1 + a.2 else -2147483648) ≤ x.toInt
      split <;> omega
    · show x.toInt ≤ (if q.2.1 + a.2 ≤ 2147483647 then q.2.1 + a.2 else 2147483647)
      split <;> omega
  · exact ⟨l1, by show x.toInt ≤ 2147483647; omega⟩
def sa_inB (E : sa_E) (b : Int × Int) (a : Nat × Int) : Bool := decide (b.1 ≤ (sa_h E a).1) && decide ((sa_h E a).2 ≤ b.2)
theorem sa_inB_ok {E : sa_E} {ρ : Nat → Int} {b : Int × Int} {a : Nat × Int} {x : Int32} (hE : sg_E E ρ) (h : x.toInt = ρ a.1 + a.2) (hb : sa_inB E b a = true) : b.1 ≤ x.toInt ∧ x.toInt ≤ b.2 := by
  obtain ⟨h1, h2⟩ := sa_h_ok hE h
  simp only [sa_inB, Bool.and_eq_true, decide_eq_true_eq] at hb
  omega
def sa_inP (E : sa_E) (p : sa_P) (a : sa_V) : Bool := match p, a with
  | .inl q, .inl a => sa_inB E q a
  | .inr (.inl o), .inr (.inl o') => decide (o = o')
  | .inr (.inr true), .inr (.inr true) => true
  | .inr (.inr false), .inl _ => true
  | .inr (.inr false), .inr (.inl _) => true
  | .inr (.inr false), .inr (.inr false) => true
  | _, _ => false
theorem sa_inP_ok {E : sa_E} {ρ : Nat → Int} {p : sa_P} {a : sa_V} {v : Value} (hE : sg_E E ρ) (h : sg_V E ρ a v) (hp : sa_inP E p a = true) : sp_in p v := by
  rcases p with q | o | b <;> rcases a with a | o' | b'
  · obtain ⟨h1, x, h2, h3⟩ := h
    exact ⟨x, h2, sa_inB_ok hE h3 hp⟩
  · cases hp
  · cases b' <;> cases hp
  · cases hp
  · have e : o = o' := of_decide_eq_true hp
    subst e
    exact h
  · cases b' <;> cases hp
  · cases b
    · obtain ⟨h1, x, h2, h3⟩ := h
      subst h2
      rfl
    · cases hp
  · cases b
    · have e : v = .ref o' := h
      subst e
      rfl
    · cases hp
  · cases b <;> cases b' <;> first | exact h | cases hp
def sa_inPs (E : sa_E) : List sa_P → List sa_V → Bool
  | [], [] => true
  | p :: t, a :: t' => sa_inP E p a && sa_inPs E t t'
  | _, _ => false
theorem sa_inPs_ok {E : sa_E} {ρ : Nat → Int} (hE : sg_E E ρ) : ∀ {ps : List sa_P} {as : List sa_V} {vs : List Value}, sg_S E ρ as vs → sa_inPs E ps as = true → sp_all ps vs
  | [], [], [], _, _ => trivial
  | p :: ps, a :: as, v :: vs, h, hp => by
    simp only [sa_inPs, Bool.and_eq_true] at hp
    exact ⟨sa_inP_ok hE h.1 hp.1, sa_inPs_ok hE h.2 hp.2⟩
  | [], [], _ :: _, h, _ => h.elim
  | _ :: _, [], _, _, hp => by simp [sa_inPs] at hp
  | [], _ :: _, _, _, hp => by simp [sa_inPs] at hp
  | _ :: _, _ :: _, [], h, _ => h.elim
/-! a ghost's bounds narrowed -/
def sa_mx (a b : Int) : Int := if a ≤ b then b else a
def sa_mn (a b : Int) : Int := if a ≤ b then a else b
theorem sa_mx_le {a b z : Int} (h : a ≤ z) (g : b ≤ z) : sa_mx a b ≤ z := by unfold sa_mx; split <;> assumption
theorem sa_le_mn {a b z : Int} (h : z ≤ a) (g : z ≤ b) : z ≤ sa_mn a b := by unfold sa_mn; split <;> assumption
def sa_meet (E : sa_E) (i : Nat) (lo hi : Int) (nz : Bool) (k : sa_E → Bool) : Bool := match E[i]? with
  | some q => if sa_mx q.1 lo ≤ sa_mn q.2.1 hi then k (E.set i (sa_mx q.1 lo, sa_mn q.2.1 hi, q.2.2 || nz)) else true
  | none => false
theorem sa_meet_ok {E : sa_E} {ρ : Nat → Int} {i : Nat} {lo hi : Int} {nz : Bool} {k : sa_E → Bool} (hE : sg_E E ρ) (h1 : lo ≤ ρ i) (h2 : ρ i ≤ hi) (h3 : nz = true → ρ i ≠ 0) (h : sa_meet E i lo hi nz k = true) : ∃ E', k E' = true ∧ sg_E E' ρ ∧ E'.length = E.length := by
  unfold sa_meet at h
  split at h
  · rename_i q hq
    obtain ⟨a1, a2, a3⟩ := hE.2.2 _ _ hq
    by_cases hc : sa_mx q.1 lo ≤ sa_mn q.2.1 hi
    · rw [if_pos hc] at h
      refine ⟨_, h, ⟨by rw [List.length_set]; exact hE.1, hE.2.1, fun j p hp => ?_⟩, by rw [List.length_set]⟩
      by_cases hj : j = i
      · subst hj
        rw [List.getElem?_set_self (List.getElem?_eq_some_iff.mp hq).1] at hp
        cases hp
        refine ⟨sa_mx_le a1 h1, sa_le_mn a2 h2, fun hz => ?_⟩
        simp only [Bool.or_eq_true] at hz
        rcases hz with hz | hz
        · exact a3 hz
        · exact h3 hz
      · rw [List.getElem?_set_ne (Ne.symm hj)] at hp
        exact hE.2.2 j p hp
    · exact absurd (Int.le_trans (sa_mx_le a1 h1) (sa_le_mn a2 h2)) hc
  · cases h
/-- both were so: 0 alike, 1 not alike, 2 less, 3 not more -/
def sa_rel (op : Nat) (a b : Int) : Prop := match op with
  | 0 => a = b
  | 1 => a ≠ b
  | 2 => a < b
  | _ => a ≤ b
def sa_cmp (E : sa_E) (op : Nat) (x y : Nat × Int) (k : sa_E → Bool) : Bool := match op with
  | 0 => sa_meet E x.1 ((sa_h E y).1 - x.2) ((sa_h E y).2 - x.2) false (fun E1 => sa_meet E1 y.1 ((sa_h E x).1 - y.2) ((sa_h E x).2 - y.2) false k)
  | 1 => if (sa_h E y).1 = (sa_h E y).2 then sa_meet E x.1 (if (sa_h E x).1 = (sa_h E y).1 then (sa_h E x).1 + 1 - x.2 else (sa_h E x).1 - x.2) (if (sa_h E x).2 = (sa_h E y).1 then (sa_h E x).2 - 1 - x.2 else (sa_h E x).2 - x.2) (decide ((sa_h E y).1 = x.2)) k else k E
  | 2 => sa_meet E x.1 ((sa_h E x).1 - x.2) ((sa_h E y).2 - 1 - x.2) false (fun E1 => sa_meet E1 y.1 ((sa_h E x).1 + 1 - y.2) ((sa_h E y).2 - y.2) false k)
  | _ => sa_meet E x.1 ((sa_h E x).1 - x.2) ((sa_h E y).2 - x.2) false (fun E1 => sa_meet E1 y.1 ((sa_h E x).1 - y.2) ((sa_h E y).2 - y.2) false k)
theorem sa_cmp_ok {E : sa_E} {ρ : Nat → Int} {op : Nat} {x y : Nat × Int} {a b : Int32} {k : sa_E → Bool} (hE : sg_E E ρ) (hx : a.toInt = ρ x.1 + x.2) (hy : b.toInt = ρ y.1 + y.2) (hr : sa_rel op a.toInt b.toInt) (h : sa_cmp E op x y k = true) : ∃ E', k E' = true ∧ sg_E E' ρ ∧ E'.length = E.length := by
  obtain ⟨x1, x2⟩ := sa_h_ok hE hx
  obtain ⟨y1, y2⟩ := sa_h_ok hE hy
  unfold sa_cmp at h
  split at h
  · have hr : a.toInt = b.toInt := hr
    obtain ⟨E1, h1, h2, h3⟩ := sa_meet_ok hE (by omega) (by omega) (fun q => by cases q) h
    obtain ⟨E2, g1, g2, g3⟩ := sa_meet_ok h2 (by omega) (by omega) (fun q => by cases q) h1
    exact ⟨E2, g1, g2, g3.trans h3⟩
  · have hr : a.toInt ≠ b.toInt := hr
    split at h
    · refine sa_meet_ok hE ?_ ?_ (fun q => ?_) h
      · split <;> omega
      · split <;> omega
      · have := of_decide_eq_true q
        omega
    · exact ⟨E, h, hE, rfl⟩
  · have hr : a.toInt < b.toInt := hr
    obtain ⟨E1, h1, h2, h3⟩ := sa_meet_ok hE (by omega) (by omega) (fun q => by cases q) h
    obtain ⟨E2, g1, g2, g3⟩ := sa_meet_ok h2 (by omega) (by omega) (fun q => by cases q) h1
    exact ⟨E2, g1, g2, g3.trans h3⟩
  · rename_i n0 n1 n2
    have hr : a.toInt ≤ b.toInt := by
      unfold sa_rel at hr
      split at hr
      · omega
      · exact absurd rfl n1
      · omega
      · exact hr
    obtain ⟨E1, h1, h2, h3⟩ := sa_meet_ok hE (by omega) (by omega) (fun q => by cases q) h
    obtain ⟨E2, g1, g2, g3⟩ := sa_meet_ok h2 (by omega) (by omega) (fun q => by cases q) h1
    exact ⟨E2, g1, g2, g3.trans h3⟩
