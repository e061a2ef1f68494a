/-- a method's body keeps its word -/
def am_B (cc : ByteArray) (X : am_X) (maxL mc : Nat) (sp : am_Sp) : Prop := ∀ (n0 : Nat) (as : List Value) (σ : am_S) (post : Option Value → am_S → Prop) (AA : Nat → List (Option Value) → List Value → Nat → am_S → Prop), (∀ cuts f pc ls stk n τ, am_vc cc X (n0 + mc) post AA cuts f pc ls stk n τ → AA pc ls stk n τ) → sp as n0 σ post → (am_sl as).length ≤ maxL ∧ AA 0 (am_entry maxL as) [] n0 σ
theorem am_tg_eq {pc t : Nat} {off : Int} {k : Nat → Prop} (h : (pc : Int) + off = (t : Int)) : am_tg pc off k = k t := by
  unfold am_tg
  rw [h]
  simp
theorem fv_0 : ((0 : Fin 4) : Nat) = 0 := rfl
theorem fv_1 : ((1 : Fin 4) : Nat) = 1 := rfl
theorem fv_2 : ((2 : Fin 4) : Nat) = 2 := rfl
theorem fv_3 : ((3 : Fin 4) : Nat) = 3 := rfl
theorem fw_0 : ((0 : Fin 2) : Nat) = 0 := rfl
theorem fw_1 : ((1 : Fin 2) : Nat) = 1 := rfl
/-! ints as whole numbers: Int32.ofInt z -/
theorem ii_0 : (0 : Int32) = Int32.ofInt 0 := rfl
theorem ii_1 : (1 : Int32) = Int32.ofInt 1 := rfl
theorem ii_add (a b : Int) : Int32.ofInt a + Int32.ofInt b = Int32.ofInt (a + b) := (Int32.ofInt_add a b).symm
theorem ii_sub (a b : Int) : Int32.ofInt a - Int32.ofInt b = Int32.ofInt (a - b) := (Int32.ofInt_sub a b).symm
theorem ii_mul (a b : Int) : Int32.ofInt a * Int32.ofInt b = Int32.ofInt (a * b) := (Int32.ofInt_mul a b).symm
theorem ii_t {a : Int} (h : -2147483648 ≤ a) (h2 : a < 2147483648) : (Int32.ofInt a).toInt = a := Int32.toInt_ofInt_of_le (by omega) (by omega)
theorem ii_lt {a b : Int} (h : -2147483648 ≤ a) (h2 : a < 2147483648) (h3 : -2147483648 ≤ b) (h4 : b < 2147483648) : (Int32.ofInt a < Int32.ofInt b) = (a < b) := by
  rw [Int32.lt_iff_toInt_lt, ii_t h h2, ii_t h3 h4]
theorem ii_le {a b : Int} (h : -2147483648 ≤ a) (h2 : a < 2147483648) (h3 : -2147483648 ≤ b) (h4 : b < 2147483648) : (Int32.ofInt a ≤ Int32.ofInt b) = (a ≤ b) := by
  rw [Int32.le_iff_toInt_le, ii_t h h2, ii_t h3 h4]
theorem ii_eq {a b : Int} (h : -2147483648 ≤ a) (h2 : a < 2147483648) (h3 : -2147483648 ≤ b) (h4 : b < 2147483648) : (Int32.ofInt a = Int32.ofInt b) = (a = b) := by
  rw [← Int32.toInt_inj, ii_t h h2, ii_t h3 h4]
theorem ii_c {a : Int} (h : 0 ≤ a) (h2 : a < 2147483648) : (Int32.ofInt a).toNatClampNeg = a.toNat := by
  show (Int32.ofInt a).toInt.toNat = _
  rw [ii_t (by omega) h2]
theorem ii_in {a : Int} {n : Nat} (h : -2147483648 ≤ a) (h2 : a < 2147483648) : vp_in (Int32.ofInt a) n = (0 ≤ a ∧ a < (n : Int)) := by
  rw [vp_in_iff, ii_t h h2]
theorem ii_of (x : Int32) : x = Int32.ofInt x.toInt := (Int32.ofInt_toInt x).symm
theorem ii_lo (x : Int32) : -2147483648 ≤ x.toInt := Int32.le_toInt x
theorem ii_hi (x : Int32) : x.toInt < 2147483648 := Int32.toInt_lt x
theorem pi_s (σ : am_S) (o k : Nat) (x : Int32) : (am_pi σ o k x).1 o k = x := by simp [am_pi]
theorem pi_n (σ : am_S) (o k : Nat) (x : Int32) {o' k' : Nat} (h : ¬ (o' = o ∧ k' = k)) : (am_pi σ o k x).1 o' k' = σ.1 o' k' := by simp [am_pi, h]
theorem pi_2 (σ : am_S) (o k : Nat) (x : Int32) : (am_pi σ o k x).2 = σ.2 := rfl
theorem pl_1 (σ : am_S) (o k : Nat) (x : Int64) : (am_pl σ o k x).1 = σ.1 := rfl
theorem pl_s (σ : am_S) (o k : Nat) (x : Int64) : (am_pl σ o k x).2 o k = x := by simp [am_pl]
theorem pl_n (σ : am_S) (o k : Nat) (x : Int64) {o' k' : Nat} (h : ¬ (o' = o ∧ k' = k)) : (am_pl σ o k x).2 o' k' = σ.2 o' k' := by simp [am_pl, h]
/-! THE SAFETY CHECKER: ints between bounds, numbers, longs. A method's word: from such arguments, memory in its bounds, it comes back with such an answer, memory in its bounds, only these slots changed. -/
/-- what an argument may be: an int between two bounds, number o, a long (true), anything that takes one place (false) -/
abbrev sa_P : Type := (Int × Int) ⊕ (Nat ⊕ Bool)
/-- a value: ghost i and an offset (ghost 0 is 0), number o, a long, anything that takes one place -/
abbrev sa_V : Type := (Nat × Int) ⊕ (Nat ⊕ Bool)
/-- the ghosts' bounds; true: not 0 -/
abbrev sa_E : Type := List (Int × Int × Bool)
/-- an answer, and what it says of the arguments -/
abbrev sa_R : Type := Option sa_P × List (Nat × Int × Int)
/-- what may change: number, from slot, to slot -/
abbrev sa_M : Type := List (Nat × Nat × Nat)
abbrev sa_A : Type := List sa_P × List sa_R × sa_M
/-- bounds of arrays (they repeat: slot k has those of k mod how many there are), of fields -/
abbrev sa_I : Type := (Nat → List (Int × Int)) × (Nat → Nat → Int × Int)
def sb_a (B : sa_I) (o k : Nat) : Int × Int := ((B.1 o)[k % (B.1 o).length]?).getD (-2147483648, 2147483647)
def sb_ok (B : sa_I) (SH : am_Sh) (σ : am_S) : Prop := (∀ o q k, SH o = .inr q → k < q.2 → (sb_a B o k).1 ≤ (σ.1 o k).toInt ∧ (σ.1 o k).toInt ≤ (sb_a B o k).2) ∧ (∀ o ci k, SH o = .inl ci → (B.2 o k).1 ≤ (σ.1 o k).toInt ∧ (σ.1 o k).toInt ≤ (B.2 o k).2)
def sb_fr (M : sa_M) (σ τ : am_S) : Prop := ∀ o k, (∀ m ∈ M, ¬ (m.1 = o ∧ m.2.1 ≤ k ∧ k < m.2.2)) → τ.1 o k = σ.1 o k ∧ τ.2 o k = σ.2 o k
theorem sb_fr_r (M : sa_M) (σ : am_S) : sb_fr M σ σ := fun _ _ _ => ⟨rfl, rfl⟩
theorem sb_fr_t {M : sa_M} {σ τ υ : am_S} (h : sb_fr M σ τ) (g : sb_fr M τ υ) : sb_fr M σ υ := fun o k q => ⟨(g o k q).1.trans (h o k q).1, (g o k q).2.trans (h o k q).2⟩
def sp_in (p : sa_P) (v : Value) : Prop := match p with
  | .inl q => ∃ x : Int32, v = .int x ∧ q.1 ≤ x.toInt ∧ x.toInt ≤ q.2
  | .inr (.inl o) => v = .ref o
  | .inr (.inr true) => ∃ y, v = .long y
  | .inr (.inr false) => v.category = 1
def sp_all : List sa_P → List Value → Prop
  | [], [] => True
  | p :: t, v :: t' => sp_in p v ∧ sp_all t t'
  | _, _ => False
def sp_ro (r : Option sa_P) (v : Option Value) : Prop := match r, v with
  | none, none => True
  | some p, some w => sp_in p w
  | _, _ => False
def sp_ret (rs : List sa_R) (as : List Value) (v : Option Value) : Prop := ∃ r ∈ rs, sp_ro r.1 v ∧ ∀ q ∈ r.2, ∃ x : Int32, as[q.1]? = some (.int x) ∧ q.2.1 ≤ x.toInt ∧ x.toInt ≤ q.2.2
/-- a method's word -/
def sp_w (J : am_S → Prop) (B : sa_I) (SH : am_Sh) (N : Nat) (sm : List sa_A) : am_Sp := fun as n σ post => n = N ∧ sb_ok B SH σ ∧ J σ ∧ ∃ a ∈ sm, sp_all a.1 as ∧ ∀ v τ, sb_ok B SH τ → J τ → sb_fr a.2.2 σ τ → sp_ret a.2.1 as v → post v τ
/-! what values and bounds mean -/
def sg_V (E : sa_E) (ρ : Nat → Int) (a : sa_V) (v : Value) : Prop := match a with
  | .inl q => q.1 < E.length ∧ ∃ x : Int32, v = .int x ∧ x.toInt = ρ q.1 + q.2
  | .inr (.inl o) => v = .ref o
  | .inr (.inr true) => ∃ y, v = .long y
  | .inr (.inr false) => v.category = 1
def sg_E (E : sa_E) (ρ : Nat → Int) : Prop := 0 < E.length ∧ ρ 0 = 0 ∧ ∀ i q, E[i]? = some q → q.1 ≤ ρ i ∧ ρ i ≤ q.2.1 ∧ (q.2.2 = true → ρ i ≠ 0)
def sg_L (E : sa_E) (ρ : Nat → Int) (L : List (Option sa_V)) (ls : List (Option Value)) : Prop := ls.length = L.length ∧ (∀ (k : Nat) (a : sa_V), L[k]? = some (some a) → ∃ v, ls[k]? = some (some v) ∧ sg_V E ρ a v) ∧ (∀ k : Nat, L[k]? = some none → ls[k]? = some none)
def sg_S (E : sa_E) (ρ : Nat → Int) : List sa_V → List Value → Prop
  | [], [] => True
  | a :: t, v :: t' => sg_V E ρ a v ∧ sg_S E ρ t t'
  | _, _ => False
def sx (E : sa_E) (ρ : Nat → Int) (E' : sa_E) (ρ' : Nat → Int) : Prop := E.length ≤ E'.length ∧ ∀ i, i < E.length → ρ' i = ρ i
theorem sx_r (E : sa_E) (ρ : Nat → Int) : sx E ρ E ρ := ⟨Nat.le_refl _, fun _ _ => rfl⟩
theorem sx_t {E E' E'' : sa_E} {ρ ρ' ρ'' : Nat → Int} (h : sx E ρ E' ρ') (g : sx E' ρ' E'' ρ'') : sx E ρ E'' ρ'' := ⟨Nat.le_trans h.1 g.1, fun i hi => (g.2 i (Nat.lt_of_lt_of_le hi h.1)).trans (h.2 i hi)⟩
theorem sx_l {E E' : sa_E} {ρ : Nat → Int} (h : E'.length = E.length) : sx E ρ E' ρ := ⟨by omega, fun _ _ => rfl⟩
theorem sg_V_x {E E' : sa_E} {ρ ρ' : Nat → Int} {a : sa_V} {v : Value} (hx : sx E ρ E' ρ') (h : sg_V E ρ a v) : sg_V E' ρ' a v := by
  rcases a with q | o | b
  · obtain ⟨h1, x, h2, h3⟩ := h
    exact ⟨Nat.lt_of_lt_of_le h1 hx.1, x, h2, by rw [hx.2 _ h1]; exact h3⟩
  · exact h
  · cases b <;> exact h
theorem sg_L_x {E E' : sa_E} {ρ ρ' : Nat → Int} {L : List (Option sa_V)} {ls : List (Option Value)} (hx : sx E ρ E' ρ') (h : sg_L E ρ L ls) : sg_L E' ρ' L ls :=
  ⟨h.1, fun k a hk => by obtain ⟨v, h1, h2⟩ := h.2.1 k a hk; exact ⟨v, h1, sg_V_x hx h2⟩, h.2.2⟩
theorem sg_S_x {E E' : sa_E} {ρ ρ' : Nat → Int} (hx : sx E ρ E' ρ') : ∀ {S : List sa_V} {st : List Value}, sg_S E ρ S st → sg_S E' ρ' S st
  | [], [], _ => trivial
  | a :: t, v :: t', h => ⟨sg_V_x hx h.1, sg_S_x hx h.2⟩
  | [], _ :: _, h => h.elim
  | _ :: _, [], h => h.elim
/-! bounds of a value -/
def sa_h (E : sa_E) (a : Nat × Int) : Int × Int := match E[a.1]? with
  | some q => (if -2147483648 ≤ q.1 + a.2 then q.1 + a.2 else -2147483648, if q.2.1 + a.2 ≤ 2147483647 then q.2.1 + a.2 else 2147483647)
  | none => (-2147483648, 2147483647)
theorem sa_h_ok {E : sa_E} {ρ : Nat → Int} {a : Nat × Int} {x : Int32} (hE : sg_E E ρ) (h : x.toInt = ρ a.1 + a.2) : (sa_h E a).1 ≤ x.toInt ∧ x.toInt ≤ (sa_h E a).2 := by
  have l1 := ii_lo x
  have l2 := ii_hi x
  unfold sa_h
  split
  · rename_i q hq
    obtain ⟨h1, h2, _⟩ := hE.2.2 _ _ hq
    constructor
    · show (if -2147483648 ≤ q.1 + a.2 then q.1 + a.2 else -2147483648) ≤ x.toInt
      split <;> omega
    · show x.toInt ≤ (if q.2.1 + a.2 ≤ 2147483647 then q.2.1 + a.2 else 2147483647)
      split <;> omega
  · exact ⟨l1, by show x.toInt ≤ 2147483647; omega⟩
def sa_inB (E : sa_E) (b : Int × Int) (a : Nat × Int) : Bool := decide (b.1 ≤ (sa_h E a).1) && decide ((sa_h E a).2 ≤ b.2)
theorem sa_inB_ok {E : sa_E} {ρ : Nat → Int} {b : Int × Int} {a : Nat × Int} {x : Int32} (hE : sg_E E ρ) (h : x.toInt = ρ a.1 + a.2) (hb : sa_inB E b a = true) : b.1 ≤ x.toInt ∧ x.toInt ≤ b.2 := by
  obtain ⟨h1, h2⟩ := sa_h_ok hE h
  simp only [sa_inB, Bool.and_eq_true, decide_eq_true_eq] at hb
  omega
def sa_inP (E : sa_E) (p : sa_P) (a : sa_V) : Bool := match p, a with
  | .inl q, .inl a => sa_inB E q a
  | .inr (.inl o), .inr (.inl o') => decide (o = o')
  | .inr (.inr true), .inr (.inr true) => true
  | .inr (.inr false), .inl _ => true
  | .inr (.inr false), .inr (.inl _) => true
  | .inr (.inr false), .inr (.inr false) => true
  | _, _ => false
theorem sa_inP_ok {E : sa_E} {ρ : Nat → Int} {p : sa_P} {a : sa_V} {v : Value} (hE : sg_E E ρ) (h : sg_V E ρ a v) (hp : sa_inP E p a = true) : sp_in p v := by
  rcases p with q | o | b <;> rcases a with a | o' | b'
  · obtain ⟨h1, x, h2, h3⟩ := h
    exact ⟨x, h2, sa_inB_ok hE h3 hp⟩
  · cases hp
  · cases b' <;> cases hp
  · cases hp
  · have e : o = o' := of_decide_eq_true hp
    subst e
    exact h
  · cases b' <;> cases hp
  · cases b
    · obtain ⟨h1, x, h2, h3⟩ := h
      subst h2
      rfl
    · cases hp
  · cases b
    · have e : v = .ref o' := h
      subst e
      rfl
    · cases hp
  · cases b <;> cases b' <;> first | exact h | cases hp
def sa_inPs (E : sa_E) : List sa_P → List sa_V → Bool
  | [], [] => true
  | p :: t, a :: t' => sa_inP E p a && sa_inPs E t t'
  | _, _ => false
theorem sa_inPs_ok {E : sa_E} {ρ : Nat → Int} (hE : sg_E E ρ) : ∀ {ps : List sa_P} {as : List sa_V} {vs : List Value}, sg_S E ρ as vs → sa_inPs E ps as = true → sp_all ps vs
  | [], [], [], _, _ => trivial
  | p :: ps, a :: as, v :: vs, h, hp => by
    simp only [sa_inPs, Bool.and_eq_true] at hp
    exact ⟨sa_inP_ok hE h.1 hp.1, sa_inPs_ok hE h.2 hp.2⟩
  | [], [], _ :: _, h, _ => h.elim
  | _ :: _, [], _, _, hp => by simp [sa_inPs] at hp
  | [], _ :: _, _, _, hp => by simp [sa_inPs] at hp
  | _ :: _, _ :: _, [], h, _ => h.elim
/-! a ghost's bounds narrowed -/
def sa_mx (a b : Int) : Int := if a ≤ b then b else a
def sa_mn (a b : Int) : Int := if a ≤ b then a else b
theorem sa_mx_le {a b z : Int} (h : a ≤ z) (g : b ≤ z) : sa_mx a b ≤ z := by unfold sa_mx; split <;> assumption
theorem sa_le_mn {a b z : Int} (h : z ≤ a) (g : z ≤ b) : z ≤ sa_mn a b := by unfold sa_mn; split <;> assumption
def sa_meet (E : sa_E) (i : Nat) (lo hi : Int) (nz : Bool) (k : sa_E → Bool) : Bool := match E[i]? with
  | some q => if sa_mx q.1 lo ≤ sa_mn q.2.1 hi then k (E.set i (sa_mx q.1 lo, sa_mn q.2.1 hi, q.2.2 || nz)) else true
  | none => false
theorem sa_meet_ok {E : sa_E} {ρ : Nat → Int} {i : Nat} {lo hi : Int} {nz : Bool} {k : sa_E → Bool} (hE : sg_E E ρ) (h1 : lo ≤ ρ i) (h2 : ρ i ≤ hi) (h3 : nz = true → ρ i ≠ 0) (h : sa_meet E i lo hi nz k = true) : ∃ E', k E' = true ∧ sg_E E' ρ ∧ E'.length = E.length := by
  unfold sa_meet at h
  split at h
  · rename_i q hq
    obtain ⟨a1, a2, a3⟩ := hE.2.2 _ _ hq
    by_cases hc : sa_mx q.1 lo ≤ sa_mn q.2.1 hi
    · rw [if_pos hc] at h
      refine ⟨_, h, ⟨by rw [List.length_set]; exact hE.1, hE.2.1, fun j p hp => ?_⟩, by rw [List.length_set]⟩
      by_cases hj : j = i
      · subst hj
        rw [List.getElem?_set_self (List.getElem?_eq_some_iff.mp hq).1] at hp
        cases hp
        refine ⟨sa_mx_le a1 h1, sa_le_mn a2 h2, fun hz => ?_⟩
        simp only [Bool.or_eq_true] at hz
        rcases hz with hz | hz
        · exact a3 hz
        · exact h3 hz
      · rw [List.getElem?_set_ne (Ne.symm hj)] at hp
        exact hE.2.2 j p hp
    · exact absurd (Int.le_trans (sa_mx_le a1 h1) (sa_le_mn a2 h2)) hc
  · cases h
/-- both were so: 0 alike, 1 not alike, 2 less, 3 not more -/
def sa_rel (op : Nat) (a b : Int) : Prop := match op with
  | 0 => a = b
  | 1 => a ≠ b
  | 2 => a < b
  | _ => a ≤ b
def sa_cmp (E : sa_E) (op : Nat) (x y : Nat × Int) (k : sa_E → Bool) : Bool := match op with
  | 0 => sa_meet E x.1 ((sa_h E y).1 - x.2) ((sa_h E y).2 - x.2) false (fun E1 => sa_meet E1 y.1 ((sa_h E x).1 - y.2) ((sa_h E x).2 - y.2) false k)
  | 1 => if (sa_h E y).1 = (sa_h E y).2 then sa_meet E x.1 (if (sa_h E x).1 = (sa_h E y).1 then (sa_h E x).1 + 1 - x.2 else (sa_h E x).1 - x.2) (if (sa_h E x).2 = (sa_h E y).1 then (sa_h E x).2 - 1 - x.2 else (sa_h E x).2 - x.2) (decide ((sa_h E y).1 = x.2)) k else k E
  | 2 => sa_meet E x.1 ((sa_h E x).1 - x.2) ((sa_h E y).2 - 1 - x.2) false (fun E1 => sa_meet E1 y.1 ((sa_h E x).1 + 1 - y.2) ((sa_h E y).2 - y.2) false k)
  | _ => sa_meet E x.1 ((sa_h E x).1 - x.2) ((sa_h E y).2 - x.2) false (fun E1 => sa_meet E1 y.1 ((sa_h E x).1 - y.2) ((sa_h E y).2 - y.2) false k)
theorem sa_cmp_ok {E : sa_E} {ρ : Nat → Int} {op : Nat} {x y : Nat × Int} {a b : Int32} {k : sa_E → Bool} (hE : sg_E E ρ) (hx : a.toInt = ρ x.1 + x.2) (hy : b.toInt = ρ y.1 + y.2) (hr : sa_rel op a.toInt b.toInt) (h : sa_cmp E op x y k = true) : ∃ E', k E' = true ∧ sg_E E' ρ ∧ E'.length = E.length := by
  obtain ⟨x1, x2⟩ := sa_h_ok hE hx
  obtain ⟨y1, y2⟩ := sa_h_ok hE hy
  unfold sa_cmp at h
  split at h
  · have hr : a.toInt = b.toInt := hr
    obtain ⟨E1, h1, h2, h3⟩ := sa_meet_ok hE (by omega) (by omega) (fun q => by cases q) h
    obtain ⟨E2, g1, g2, g3⟩ := sa_meet_ok h2 (by omega) (by omega) (fun q => by cases q) h1
    exact ⟨E2, g1, g2, g3.trans h3⟩
  · have hr : a.toInt ≠ b.toInt := hr
    split at h
    · refine sa_meet_ok hE ?_ ?_ (fun q => ?_) h
      · split <;> omega
      · split <;> omega
      · have := of_decide_eq_true q
        omega
    · exact ⟨E, h, hE, rfl⟩
  · have hr : a.toInt < b.toInt := hr
    obtain ⟨E1, h1, h2, h3⟩ := sa_meet_ok hE (by omega) (by omega) (fun q => by cases q) h
    obtain ⟨E2, g1, g2, g3⟩ := sa_meet_ok h2 (by omega) (by omega) (fun q => by cases q) h1
    exact ⟨E2, g1, g2, g3.trans h3⟩
  · rename_i n0 n1 n2
    have hr : a.toInt ≤ b.toInt := by
      unfold sa_rel at hr
      split at hr
      · omega
      · exact absurd rfl n1
      · omega
      · exact hr
    obtain ⟨E1, h1, h2, h3⟩ := sa_meet_ok hE (by omega) (by omega) (fun q => by cases q) h
    obtain ⟨E2, g1, g2, g3⟩ := sa_meet_ok h2 (by omega) (by omega) (fun q => by cases q) h1
    exact ⟨E2, g1, g2, g3.trans h3⟩
/-! THE SAFETY CHECKER: what each kind of reckoning gives -/
def so_ (E : sa_E) (ρ : Nat → Int) (r : sa_E × sa_V) (v : Value) : Prop := ∃ ρ', sx E ρ r.1 ρ' ∧ sg_E r.1 ρ' ∧ sg_V r.1 ρ' r.2 v
def sa_fr (E : sa_E) (b : Int × Int) : sa_E × sa_V := (E ++ [(b.1, b.2, false)], .inl (E.length, 0))
def sa_full : Int × Int := (-2147483648, 2147483647)
theorem sa_fr_ok {E : sa_E} {ρ : Nat → Int} {b : Int × Int} {x : Int32} (hE : sg_E E ρ) (h : b.1 ≤ x.toInt ∧ x.toInt ≤ b.2) : so_ E ρ (sa_fr E b) (.int x) := by
  refine ⟨fun i => if i = E.length then x.toInt else ρ i, ⟨by simp [sa_fr], fun i hi => if_neg (by omega)⟩, ⟨by simp [sa_fr], ?_, fun i q hq => ?_⟩, by simp [sa_fr], x, rfl, ?_⟩
  · show (if 0 = E.length then x.toInt else ρ 0) = 0
    rw [if_neg (by have := hE.1; omega)]
    exact hE.2.1
  · by_cases hi : i < E.length
    · simp only [sa_fr] at hq
      rw [List.getElem?_append_left hi] at hq
      show _ ≤ (if i = E.length then x.toInt else ρ i) ∧ (if i = E.length then x.toInt else ρ i) ≤ _ ∧ (_ → (if i = E.length then x.toInt else ρ i) ≠ 0)
      rw [if_neg (by omega)]
      exact hE.2.2 i q hq
    · by_cases he : i = E.length
      · subst he
        simp only [sa_fr] at hq
        rw [List.getElem?_append_right (Nat.le_refl _), Nat.sub_self] at hq
        cases hq
        have e : (fun i => if i = E.length then x.toInt else ρ i) E.length = x.toInt := if_pos rfl
        rw [e]
        exact ⟨h.1, h.2, fun q => by cases q⟩
      · simp only [sa_fr] at hq
        rw [List.getElem?_eq_none (by simp; omega)] at hq
        cases hq
  · show x.toInt = (if E.length = E.length then x.toInt else _) + 0
    rw [if_pos rfl]
    omega
theorem sa_full_ok {E : sa_E} {ρ : Nat → Int} (x : Int32) (hE : sg_E E ρ) : so_ E ρ (sa_fr E sa_full) (.int x) := by
  have l1 := ii_lo x
  have l2 := ii_hi x
  exact sa_fr_ok hE ⟨l1, by show x.toInt ≤ 2147483647; omega⟩
theorem so_r {E : sa_E} {ρ : Nat → Int} {a : sa_V} {v : Value} (hE : sg_E E ρ) (h : sg_V E ρ a v) : so_ E ρ (E, a) v := ⟨ρ, sx_r E ρ, hE, h⟩
theorem ti_add {a b : Int32} (h : -2147483648 ≤ a.toInt + b.toInt) (h2 : a.toInt + b.toInt ≤ 2147483647) : (a + b).toInt = a.toInt + b.toInt := by
  have e : a + b = Int32.ofInt (a.toInt + b.toInt) := by
    rw [← ii_add, ← ii_of a, ← ii_of b]
  rw [e, ii_t h (by omega)]
theorem ti_sub {a b : Int32} (h : -2147483648 ≤ a.toInt - b.toInt) (h2 : a.toInt - b.toInt ≤ 2147483647) : (a - b).toInt = a.toInt - b.toInt := by
  have e : a - b = Int32.ofInt (a.toInt - b.toInt) := by
    rw [← ii_sub, ← ii_of a, ← ii_of b]
  rw [e, ii_t h (by omega)]
theorem ti_mul {a b : Int32} (h : -2147483648 ≤ a.toInt * b.toInt) (h2 : a.toInt * b.toInt ≤ 2147483647) : (a * b).toInt = a.toInt * b.toInt := by
  have e : a * b = Int32.ofInt (a.toInt * b.toInt) := by
    rw [← ii_mul, ← ii_of a, ← ii_of b]
  rw [e, ii_t h (by omega)]
/-- what is known of two ints -/
def s2 (E : sa_E) (ρ : Nat → Int) (x y : Nat × Int) (a b : Int32) : Prop := (x.1 < E.length ∧ a.toInt = ρ x.1 + x.2) ∧ (y.1 < E.length ∧ b.toInt = ρ y.1 + y.2)
def sa_add (E : sa_E) (x y : Nat × Int) : sa_E × sa_V :=
  if y.1 = 0 ∧ -2147483648 ≤ (sa_h E x).1 + y.2 ∧ (sa_h E x).2 + y.2 ≤ 2147483647 then (E, .inl (x.1, x.2 + y.2))
  else if x.1 = 0 ∧ -2147483648 ≤ (sa_h E y).1 + x.2 ∧ (sa_h E y).2 + x.2 ≤ 2147483647 then (E, .inl (y.1, y.2 + x.2))
  else if -2147483648 ≤ (sa_h E x).1 + (sa_h E y).1 ∧ (sa_h E x).2 + (sa_h E y).2 ≤ 2147483647 then sa_fr E ((sa_h E x).1 + (sa_h E y).1, (sa_h E x).2 + (sa_h E y).2)
  else sa_fr E sa_full
theorem sa_add_ok {E : sa_E} {ρ : Nat → Int} {x y : Nat × Int} {a b : Int32} (hE : sg_E E ρ) (h : s2 E ρ x y a b) : so_ E ρ (sa_add E x y) (.int (a + b)) := by
  obtain ⟨⟨lx, hx⟩, ly, hy⟩ := h
  obtain ⟨x1, x2⟩ := sa_h_ok hE hx
  obtain ⟨y1, y2⟩ := sa_h_ok hE hy
  have h0 := hE.2.1
  unfold sa_add
  split
  · rename_i q
    obtain ⟨q1, q2, q3⟩ := q
    rw [q1, h0] at hy
    exact so_r hE ⟨lx, _, rfl, by rw [ti_add (by omega) (by omega)]; show _ = ρ x.1 + (x.2 + y.2); omega⟩
  · split
    · rename_i q
      obtain ⟨q1, q2, q3⟩ := q
      rw [q1, h0] at hx
      exact so_r hE ⟨ly, _, rfl, by rw [ti_add (by omega) (by omega)]; show _ = ρ y.1 + (y.2 + x.2); omega⟩
    · split
      · rename_i q
        obtain ⟨q1, q2⟩ := q
        refine sa_fr_ok hE ?_
        rw [ti_add (by omega) (by omega)]
        exact ⟨by show (sa_h E x).1 + (sa_h E y).1 ≤ _; omega, by show _ ≤ (sa_h E x).2 + (sa_h E y).2; omega⟩
      · exact sa_full_ok _ hE
def sa_sub (E : sa_E) (x y : Nat × Int) : sa_E × sa_V :=
  if y.1 = 0 ∧ -2147483648 ≤ (sa_h E x).1 - y.2 ∧ (sa_h E x).2 - y.2 ≤ 2147483647 then (E, .inl (x.1, x.2 - y.2))
  else if -2147483648 ≤ (sa_h E x).1 - (sa_h E y).2 ∧ (sa_h E x).2 - (sa_h E y).1 ≤ 2147483647 then sa_fr E ((sa_h E x).1 - (sa_h E y).2, (sa_h E x).2 - (sa_h E y).1)
  else sa_fr E sa_full
theorem sa_sub_ok {E : sa_E} {ρ : Nat → Int} {x y : Nat × Int} {a b : Int32} (hE : sg_E E ρ) (h : s2 E ρ x y a b) : so_ E ρ (sa_sub E x y) (.int (a - b)) := by
  obtain ⟨⟨lx, hx⟩, ly, hy⟩ := h
  obtain ⟨x1, x2⟩ := sa_h_ok hE hx
  obtain ⟨y1, y2⟩ := sa_h_ok hE hy
  have h0 := hE.2.1
  unfold sa_sub
  split
  · rename_i q
    obtain ⟨q1, q2, q3⟩ := q
    rw [q1, h0] at hy
    exact so_r hE ⟨lx, _, rfl, by rw [ti_sub (by omega) (by omega)]; show _ = ρ x.1 + (x.2 - y.2); omega⟩
  · split
    · rename_i q
      obtain ⟨q1, q2⟩ := q
      refine sa_fr_ok hE ?_
      rw [ti_sub (by omega) (by omega)]
      exact ⟨by show (sa_h E x).1 - (sa_h E y).2 ≤ _; omega, by show _ ≤ (sa_h E x).2 - (sa_h E y).1; omega⟩
    · exact sa_full_ok _ hE
def sa_mul (E : sa_E) (x y : Nat × Int) : sa_E × sa_V :=
  if 0 ≤ (sa_h E x).1 ∧ 0 ≤ (sa_h E y).1 ∧ (sa_h E x).2 * (sa_h E y).2 ≤ 2147483647 then sa_fr E (0, (sa_h E x).2 * (sa_h E y).2) else sa_fr E sa_full
theorem sa_mul_ok {E : sa_E} {ρ : Nat → Int} {x y : Nat × Int} {a b : Int32} (hE : sg_E E ρ) (h : s2 E ρ x y a b) : so_ E ρ (sa_mul E x y) (.int (a * b)) := by
  obtain ⟨⟨lx, hx⟩, ly, hy⟩ := h
  obtain ⟨x1, x2⟩ := sa_h_ok hE hx
  obtain ⟨y1, y2⟩ := sa_h_ok hE hy
  unfold sa_mul
  split
  · rename_i q
    obtain ⟨q1, q2, q3⟩ := q
    have m1 : 0 ≤ a.toInt * b.toInt := Int.mul_nonneg (by omega) (by omega)
    have m2 : a.toInt * b.toInt ≤ (sa_h E x).2 * (sa_h E y).2 := Int.mul_le_mul x2 y2 (by omega) (by omega)
    refine sa_fr_ok hE ?_
    rw [ti_mul (by omega) (by omega)]
    exact ⟨m1, m2⟩
  · exact sa_full_ok _ hE
theorem ti_nonneg {b : Int32} (h : 0 ≤ b.toInt) : b.toInt = (b.toBitVec.toNat : Int) := by
  show b.toBitVec.toInt = _
  have h : 0 ≤ b.toBitVec.toInt := h
  rw [BitVec.toInt_eq_toNat_cond] at h ⊢
  split at h
  · rename_i q; rw [if_pos q]
  · have := b.toBitVec.isLt
    omega
theorem ti_and {a b : Int32} (h : 0 ≤ b.toInt) : 0 ≤ (a &&& b).toInt ∧ (a &&& b).toInt ≤ b.toInt := by
  have e := ti_nonneg h
  have hb := ii_hi b
  have h1 : (a &&& b).toBitVec.toNat ≤ b.toBitVec.toNat := by
    rw [Int32.toBitVec_and, BitVec.toNat_and]
    exact Nat.and_le_right
  have h2 : (a &&& b).toInt = ((a &&& b).toBitVec.toNat : Int) := by
    show (a &&& b).toBitVec.toInt = _
    rw [BitVec.toInt_eq_toNat_cond, if_pos (by omega)]
  omega
theorem ti_and' {a b : Int32} (h : 0 ≤ a.toInt) : 0 ≤ (a &&& b).toInt ∧ (a &&& b).toInt ≤ a.toInt := by
  have e : a &&& b = b &&& a := Int32.and_comm a b
  rw [e]
  exact ti_and h
/-- both known: reckoned at once -/
def sa_cst (E : sa_E) (f : Int32 → Int32 → Int32) (x y : Nat × Int) (k : sa_E × sa_V) : sa_E × sa_V :=
  if (sa_h E x).1 = (sa_h E x).2 ∧ (sa_h E y).1 = (sa_h E y).2 then (E, .inl (0, (f (Int32.ofInt (sa_h E x).1) (Int32.ofInt (sa_h E y).1)).toInt)) else k
theorem sa_cst_ok {E : sa_E} {ρ : Nat → Int} {f : Int32 → Int32 → Int32} {x y : Nat × Int} {a b : Int32} {k : sa_E × sa_V} (hE : sg_E E ρ) (h : s2 E ρ x y a b) (hk : so_ E ρ k (.int (f a b))) : so_ E ρ (sa_cst E f x y k) (.int (f a b)) := by
  obtain ⟨⟨lx, hx⟩, ly, hy⟩ := h
  obtain ⟨x1, x2⟩ := sa_h_ok hE hx
  obtain ⟨y1, y2⟩ := sa_h_ok hE hy
  unfold sa_cst
  split
  · rename_i q
    obtain ⟨q1, q2⟩ := q
    have e1 : Int32.ofInt (sa_h E x).1 = a := by rw [show (sa_h E x).1 = a.toInt by omega, ← ii_of]
    have e2 : Int32.ofInt (sa_h E y).1 = b := by rw [show (sa_h E y).1 = b.toInt by omega, ← ii_of]
    rw [e1, e2]
    exact so_r hE ⟨hE.1, _, rfl, by show _ = ρ 0 + (f a b).toInt; rw [hE.2.1]; omega⟩
  · exact hk
def sa_and (E : sa_E) (x y : Nat × Int) : sa_E × sa_V := sa_cst E (fun a b => a &&& b) x y
  (if 0 ≤ (sa_h E y).1 then sa_fr E (0, (sa_h E y).2) else if 0 ≤ (sa_h E x).1 then sa_fr E (0, (sa_h E x).2) else sa_fr E sa_full)
theorem sa_and_ok {E : sa_E} {ρ : Nat → Int} {x y : Nat × Int} {a b : Int32} (hE : sg_E E ρ) (h : s2 E ρ x y a b) : so_ E ρ (sa_and E x y) (.int (a &&& b)) := by
  refine sa_cst_ok (f := fun a b => a &&& b) hE h ?_
  obtain ⟨⟨lx, hx⟩, ly, hy⟩ := h
  obtain ⟨x1, x2⟩ := sa_h_ok hE hx
  obtain ⟨y1, y2⟩ := sa_h_ok hE hy
  split
  · have := ti_and (a := a) (b := b) (by omega)
    exact sa_fr_ok hE ⟨this.1, by show _ ≤ (sa_h E y).2; omega⟩
  · split
    · have := ti_and' (a := a) (b := b) (by omega)
      exact sa_fr_ok hE ⟨this.1, by show _ ≤ (sa_h E x).2; omega⟩
    · exact sa_full_ok _ hE
def sa_shr (E : sa_E) (x y : Nat × Int) : sa_E × sa_V := sa_cst E (fun a b => a >>> (b &&& 31)) x y (sa_fr E sa_full)
theorem sa_shr_ok {E : sa_E} {ρ : Nat → Int} {x y : Nat × Int} {a b : Int32} (hE : sg_E E ρ) (h : s2 E ρ x y a b) : so_ E ρ (sa_shr E x y) (.int (a >>> (b &&& 31))) :=
  sa_cst_ok (f := fun a b => a >>> (b &&& 31)) hE h (sa_full_ok _ hE)
theorem ti_shl1 : ∀ n : Fin 31, ((1 : Int32) <<< (Int32.ofInt (n : Nat) &&& 31)).toInt = ((2 ^ (n : Nat) : Nat) : Int) := by decide
def sa_shl (E : sa_E) (x y : Nat × Int) : sa_E × sa_V :=
  if (sa_h E x).1 = 1 ∧ (sa_h E x).2 = 1 ∧ 0 ≤ (sa_h E y).1 ∧ (sa_h E y).2 ≤ 30 then sa_fr E (1, ((2 ^ (sa_h E y).2.toNat : Nat) : Int)) else sa_fr E sa_full
theorem sa_shl_ok {E : sa_E} {ρ : Nat → Int} {x y : Nat × Int} {a b : Int32} (hE : sg_E E ρ) (h : s2 E ρ x y a b) : so_ E ρ (sa_shl E x y) (.int (a <<< (b &&& 31))) := by
  obtain ⟨⟨lx, hx⟩, ly, hy⟩ := h
  obtain ⟨x1, x2⟩ := sa_h_ok hE hx
  obtain ⟨y1, y2⟩ := sa_h_ok hE hy
  unfold sa_shl
  split
  · rename_i q
    obtain ⟨q1, q2, q3, q4⟩ := q
    have ea : a = 1 := Int32.toInt_inj.mp (show a.toInt = 1 by omega)
    have eb : b = Int32.ofInt ((b.toInt.toNat : Nat) : Int) := by
      rw [Int.toNat_of_nonneg (by omega), ← ii_of]
    have h1 := ti_shl1 ⟨b.toInt.toNat, by omega⟩
    rw [ea, eb]
    refine sa_fr_ok hE ?_
    simp only at h1
    rw [h1]
    have h2 : 2 ^ b.toInt.toNat ≤ 2 ^ (sa_h E y).2.toNat := Nat.pow_le_pow_right (by decide) (by omega)
    have h3 : 1 ≤ 2 ^ b.toInt.toNat := Nat.one_le_two_pow
    exact ⟨by show (1 : Int) ≤ _; omega, by show _ ≤ ((2 ^ (sa_h E y).2.toNat : Nat) : Int); omega⟩
  · exact sa_full_ok _ hE
theorem ti_div {a b : Int32} (ha : 0 ≤ a.toInt) (hb : 0 < b.toInt) : (a / b).toInt = a.toInt / b.toInt := by
  have h1 := ii_hi a
  have h2 : a.toInt / b.toInt ≤ a.toInt := Int.ediv_le_self _ ha
  have h3 : 0 ≤ a.toInt / b.toInt := Int.ediv_nonneg ha (by omega)
  rw [Int32.toInt_div, Int.tdiv_eq_ediv_of_nonneg ha]
  exact Int.bmod_eq_of_le (by omega) (by omega)
def sa_div (E : sa_E) (x y : Nat × Int) : sa_E × sa_V :=
  if 0 ≤ (sa_h E x).1 ∧ y.1 = 0 ∧ 0 < y.2 then sa_fr E ((sa_h E x).1 / y.2, (sa_h E x).2 / y.2) else sa_fr E sa_full
theorem sa_div_ok {E : sa_E} {ρ : Nat → Int} {x y : Nat × Int} {a b : Int32} (hE : sg_E E ρ) (h : s2 E ρ x y a b) : so_ E ρ (sa_div E x y) (.int (a / b)) := by
  obtain ⟨⟨lx, hx⟩, ly, hy⟩ := h
  obtain ⟨x1, x2⟩ := sa_h_ok hE hx
  have h0 := hE.2.1
  unfold sa_div
  split
  · rename_i q
    obtain ⟨q1, q2, q3⟩ := q
    rw [q2, h0] at hy
    have e : b.toInt = y.2 := by omega
    refine sa_fr_ok hE ?_
    rw [ti_div (by omega) (by omega), e]
    exact ⟨Int.ediv_le_ediv q3 x1, Int.ediv_le_ediv q3 x2⟩
  · exact sa_full_ok _ hE
def sa_rem (E : sa_E) (x y : Nat × Int) : sa_E × sa_V :=
  if 0 ≤ (sa_h E x).1 ∧ y.1 = 0 ∧ 0 < y.2 then sa_fr E (0, y.2 - 1) else sa_fr E sa_full
theorem sa_rem_ok {E : sa_E} {ρ : Nat → Int} {x y : Nat × Int} {a b : Int32} (hE : sg_E E ρ) (h : s2 E ρ x y a b) : so_ E ρ (sa_rem E x y) (.int (a - a / b * b)) := by
  obtain ⟨⟨lx, hx⟩, ly, hy⟩ := h
  obtain ⟨x1, x2⟩ := sa_h_ok hE hx
  have h0 := hE.2.1
  unfold sa_rem
  split
  · rename_i q
    obtain ⟨q1, q2, q3⟩ := q
    rw [q2, h0] at hy
    have e : b.toInt = y.2 := by omega
    have a1 := ii_hi a
    have d1 : (a / b).toInt = a.toInt / y.2 := by rw [ti_div (by omega) (by omega), e]
    have d2 : 0 ≤ a.toInt / y.2 := Int.ediv_nonneg (by omega) (by omega)
    have d3 : a.toInt / y.2 * y.2 ≤ a.toInt := Int.ediv_mul_le _ (by omega)
    have d4 : 0 ≤ a.toInt / y.2 * y.2 := Int.mul_nonneg d2 (by omega)
    have d5 : a.toInt % y.2 = a.toInt - a.toInt / y.2 * y.2 := by rw [Int.emod_def, Int.mul_comm]
    have d6 := Int.emod_nonneg a.toInt (show y.2 ≠ 0 by omega)
    have d7 := Int.emod_lt_of_pos a.toInt q3
    have m1 : (a / b * b).toInt = a.toInt / y.2 * y.2 := by rw [ti_mul (by rw [d1, e]; omega) (by rw [d1, e]; omega), d1, e]
    refine sa_fr_ok hE ?_
    rw [ti_sub (by rw [m1]; omega) (by rw [m1]; omega), m1]
    exact ⟨by show (0 : Int) ≤ _; omega, by show _ ≤ y.2 - 1; omega⟩
  · exact sa_full_ok _ hE
def sa_max (E : sa_E) (x y : Nat × Int) : sa_E × sa_V := sa_fr E (if (sa_h E x).1 ≤ (sa_h E y).1 then (sa_h E y).1 else (sa_h E x).1, if (sa_h E x).2 ≤ (sa_h E y).2 then (sa_h E y).2 else (sa_h E x).2)
theorem sa_max_ok {E : sa_E} {ρ : Nat → Int} {x y : Nat × Int} {a b : Int32} (hE : sg_E E ρ) (h : s2 E ρ x y a b) : so_ E ρ (sa_max E x y) (.int (if a < b then b else a)) := by
  obtain ⟨⟨lx, hx⟩, ly, hy⟩ := h
  obtain ⟨x1, x2⟩ := sa_h_ok hE hx
  obtain ⟨y1, y2⟩ := sa_h_ok hE hy
  refine sa_fr_ok hE ?_
  have e : (if a < b then b else a).toInt = if a.toInt < b.toInt then b.toInt else a.toInt := by
    by_cases q : a < b
    · rw [if_pos q, if_pos (Int32.lt_iff_toInt_lt.mp q)]
    · rw [if_neg q, if_neg (fun z => q (Int32.lt_iff_toInt_lt.mpr z))]
  rw [e]
  constructor
  · show (if (sa_h E x).1 ≤ (sa_h E y).1 then (sa_h E y).1 else (sa_h E x).1) ≤ _
    split <;> split <;> omega
  · show _ ≤ (if (sa_h E x).2 ≤ (sa_h E y).2 then (sa_h E y).2 else (sa_h E x).2)
    split <;> split <;> omega
def sa_min (E : sa_E) (x y : Nat × Int) : sa_E × sa_V := sa_fr E (if (sa_h E x).1 ≤ (sa_h E y).1 then (sa_h E x).1 else (sa_h E y).1, if (sa_h E x).2 ≤ (sa_h E y).2 then (sa_h E x).2 else (sa_h E y).2)
theorem sa_min_ok {E : sa_E} {ρ : Nat → Int} {x y : Nat × Int} {a b : Int32} (hE : sg_E E ρ) (h : s2 E ρ x y a b) : so_ E ρ (sa_min E x y) (.int (if b < a then b else a)) := by
  obtain ⟨⟨lx, hx⟩, ly, hy⟩ := h
  obtain ⟨x1, x2⟩ := sa_h_ok hE hx
  obtain ⟨y1, y2⟩ := sa_h_ok hE hy
  refine sa_fr_ok hE ?_
  have e : (if b < a then b else a).toInt = if b.toInt < a.toInt then b.toInt else a.toInt := by
    by_cases q : b < a
    · rw [if_pos q, if_pos (Int32.lt_iff_toInt_lt.mp q)]
    · rw [if_neg q, if_neg (fun z => q (Int32.lt_iff_toInt_lt.mpr z))]
  rw [e]
  constructor
  · show (if (sa_h E x).1 ≤ (sa_h E y).1 then (sa_h E x).1 else (sa_h E y).1) ≤ _
    split <;> split <;> omega
  · show _ ≤ (if (sa_h E x).2 ≤ (sa_h E y).2 then (sa_h E x).2 else (sa_h E y).2)
    split <;> split <;> omega
/-! narrowed ints -/
theorem ti_byte (x : Int32) : -128 ≤ (vp_nar .byte x).toInt ∧ (vp_nar .byte x).toInt ≤ 127 := by
  have e : vp_nar .byte x = x.toInt8.toInt32 := rfl
  rw [e, Int8.toInt_toInt32]
  have h1 := Int8.le_toInt x.toInt8
  have h2 := Int8.toInt_lt x.toInt8
  omega
theorem ti_i2b (x : Int32) : -128 ≤ (x.toInt8.toInt32).toInt ∧ (x.toInt8.toInt32).toInt ≤ 127 := ti_byte x
theorem ti_01 {x : Int32} (h : 0 ≤ x.toInt) (h2 : x.toInt ≤ 1) : x = 0 ∨ x = 1 := by
  rcases Int.lt_or_le 0 x.toInt with q | q
  · exact Or.inr (Int32.toInt_inj.mp (show x.toInt = 1 by omega))
  · exact Or.inl (Int32.toInt_inj.mp (show x.toInt = 0 by omega))
theorem ti_nar {x : Int32} (h : 0 ≤ x.toInt) (h2 : x.toInt ≤ 1) : vp_nar .boolean x = x := by
  rcases ti_01 h h2 with e | e <;> subst e <;> rfl
theorem ti_bool (x : Int32) : 0 ≤ (vp_nar .boolean x).toInt ∧ (vp_nar .boolean x).toInt ≤ 1 := by
  have e : vp_nar .boolean x = x &&& 1 := rfl
  rw [e]
  exact ti_and (a := x) (b := 1) (by decide)
