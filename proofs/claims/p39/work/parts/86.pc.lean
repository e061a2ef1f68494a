/-! THE REFERENCE'S READER: read. Printed from wip/am/chk/hand/rd.in. -/
def plM (s : Nat) : sa_M := [(60, s, s + 1), (61, s, s + 1), (66, s, s + 1), (67, 4 * s, 4 * s + 4), (68, 4 * s, 4 * s + 4)]
abbrev plI (s k : Nat) (σ τ : am_S) : Prop := sI BB SH (plM s) σ τ ∧ τ.1 60 s = Int32.ofInt 8 ∧ τ.1 61 s = Int32.ofInt 0 ∧ ∀ j, j < k → τ.1 67 (4 * s + j) = Int32.ofInt 0 ∧ τ.1 68 (4 * s + j) = Int32.ofInt 0
theorem plI_law {s k : Nat} {σ τ : am_S} (h : plI s k σ τ) (hs : s < 2) (hk : k < 4) : plI s (k + 1) σ (am_pi (am_pi τ 67 (4 * s + k) (Int32.ofInt 0)) 68 (4 * s + k) (Int32.ofInt 0)) := by
  obtain ⟨h1, h2, h3, h4⟩ := h
  refine ⟨sI_arr (q := (0, 8)) (sI_arr (q := (0, 8)) h1 rfl ?_ ⟨(67, 4 * s, 4 * s + 4), by unfold plM; simp, rfl, by show 4 * s ≤ 4 * s + k; omega, by show 4 * s + k < 4 * s + 4; omega⟩) rfl ?_ ⟨(68, 4 * s, 4 * s + 4), by unfold plM; simp, rfl, by show 4 * s ≤ 4 * s + k; omega, by show 4 * s + k < 4 * s + 4; omega⟩, ?_, ?_, fun j hj => ?_⟩
  · rw [sb_1 (q := (0, 260)) rfl]; exact ⟨by decide, by decide⟩
  · rw [sb_1 (q := (0, 260)) rfl]; exact ⟨by decide, by decide⟩
  · rw [pi_n _ _ _ _ (fun z => absurd z.1 (by decide)), pi_n _ _ _ _ (fun z => absurd z.1 (by decide))]; exact h2
  · rw [pi_n _ _ _ _ (fun z => absurd z.1 (by decide)), pi_n _ _ _ _ (fun z => absurd z.1 (by decide))]; exact h3
  · by_cases q : j = k
    · subst q
      refine ⟨?_, pi_s _ _ _ _⟩
      rw [pi_n _ _ _ _ (fun z => absurd z.1 (by decide)), pi_s]
    · obtain ⟨q1, q2⟩ := h4 j (by omega)
      refine ⟨?_, ?_⟩
      · rw [pi_n _ _ _ _ (fun z => absurd z.1 (by decide)), pi_n _ _ _ _ (fun z => by have := z.2; omega)]; exact q1
      · rw [pi_n _ _ _ _ (fun z => by have := z.2; omega), pi_n _ _ _ _ (fun z => absurd z.1 (by decide))]; exact q2
theorem Jpost_rK {S a b : Int} {σ τ : am_S} (h : rK S σ τ) (hS : 0 ≤ S ∧ S ≤ 1) (hp : Jpost σ (1 - S) a b) : Jpost τ (1 - S) a b := by
  obtain ⟨h1, h2, h3, h4, d, h5⟩ := hp
  refine ⟨h1, h2, h3, h4, d, ?_⟩
  rw [Jdep_cg (σ := σ) (fun i x y => ?_)]
  · exact h5
  · unfold cd
    rw [(h 74 i (by omega)).1]
theorem Jbr_rK {S : Int} {b : Nat} {σ τ : am_S} (h : rK S σ τ) (hS : 0 ≤ S ∧ S ≤ 1) (hj : Jbr σ (1 - S) b) : Jbr τ (1 - S) b := by
  obtain ⟨g0, g1, g2⟩ := hj
  have e : ∀ o, 69 ≤ o → o ≤ 73 → τ.1 o b = σ.1 o b := fun o q1 q2 => (h o b (by omega)).1
  refine ⟨g0, fun hn => ?_, ?_⟩
  · rw [e _ (by decide) (by decide)] at hn
    rw [e 70 (by decide) (by decide), e 71 (by decide) (by decide), e 72 (by decide) (by decide)]
    exact ⟨Jpost_rK h hS (g1 hn).1, Jpost_rK h hS (g1 hn).2⟩
  · rw [e 72 (by decide) (by decide), e 73 (by decide) (by decide)]
    exact Jpost_rK h hS g2
/-- what was told before still stands -/
theorem JJ_live {S : Int} {σ τ : am_S} (hS : 0 ≤ S ∧ S ≤ 1) (hJ : JJ σ) (hl : (σ.1 51 18).toInt = 1 - S) (h : rK S σ τ) (hc : Jcd τ) : JJ τ := by
  obtain ⟨⟨j1, j2⟩, j3⟩ := hJ
  have el : (τ.1 51 18).toInt = 1 - S := by rw [(h _ _ (by omega)).1]; exact hl
  refine ⟨⟨hc, ?_⟩, ?_⟩
  · rw [el]
    rw [hl] at j2
    intro k hk b h1 h2
    rw [(h 67 _ (by omega)).1] at h1
    rw [(h 68 _ (by omega)).1] at h2
    exact Jbr_rK h hS (j2 k hk b h1 h2)
  · unfold s_gd at j3 ⊢
    simp only at j3 ⊢
    rw [el]
    rw [hl] at j3
    rw [(h 60 _ (by omega)).1]
    exact j3
/-- what was told anew stands -/
theorem JJ_new {S : Int} {σ0 σ τ : am_S} (hS : 0 ≤ S ∧ S ≤ 1) (hI : rdI S σ0 σ) (hz : pF σ = 0) (hx : pX σ = 0) (he : ∀ o i, 60 ≤ o → o ≤ 75 → τ.1 o i = σ.1 o i) (hC : pC τ = pC σ) (hl : (τ.1 51 18).toInt = S) : JJ τ := by
  refine ⟨⟨fun i hi hc => ?_, ?_⟩, ?_⟩
  · rw [he _ _ (by decide) (by decide)] at hc
    rw [he _ _ (by decide) (by decide)]
    exact hI.2.2.1 i hi hc
  · rw [hl]
    intro k hk b h1 h2
    rw [he _ _ (by decide) (by decide)] at h1 h2
    exact (JbC_eq (fun o i a c => he o i (by omega) c) (by omega) (hI.2.2.2.1 k hk b h1 h2).2).1
  · unfold s_gd
    simp only
    rw [hl, he _ _ (by decide) (by decide)]
    have := hI.2.2.2.2.2.2.2.2 hz hx
    omega
def sX12_read : am_Sp := fun as n σ post => n = 92 ∧ sb_ok BB SH σ ∧ JJ σ ∧ as = [.ref 51] ∧ ∀ (x : Int32) (τ : am_S), sb_ok BB SH τ → JJ τ → (∀ o i, o < 51 → τ.1 o i = σ.1 o i ∧ τ.2 o i = σ.2 o i) → τ.1 51 2 = 0 → post (some (.int x)) τ
section
variable {σ0 : am_S} {post : Option Value → am_S → Prop} {AA : Nat → List (Option Value) → List Value → Nat → am_S → Prop}
abbrev cI' (σ0 σ : am_S) : Prop := ∀ o i, o < 51 → σ.1 o i = σ0.1 o i ∧ σ.2 o i = σ0.2 o i
def enM : sa_M := [(51, 49, 49 + 1), (51, 58, 58 + 1), (90, 0, 3)]
/-- what is changed before the first sentence -/
def rbM : sa_M := [(51, 2, 2 + 1), (53, 0, 2000), (51, 4, 4 + 1), (51, 10, 10 + 1), (54, 0, 403), (55, 0, 403), (56, 0, 403), (57, 0, 403), (51, 11, 11 + 1), (51, 12, 12 + 1), (51, 13, 13 + 1), (51, 15, 15 + 1), (51, 19, 19 + 1), (51, 20, 20 + 1), (51, 31, 31 + 1), (51, 37, 37 + 1)]
theorem rbM_n {o i : Nat} (h : o < 51 ∨ 60 ≤ o ∨ (o = 51 ∧ i = 18)) : ∀ m ∈ rbM, ¬ (m.1 = o ∧ m.2.1 ≤ i ∧ i < m.2.2) := by
  intro m hm hh
  simp only [rbM, List.mem_cons, List.not_mem_nil, or_false] at hm
  rcases hm with rfl | rfl | rfl | rfl | rfl | rfl | rfl | rfl | rfl | rfl | rfl | rfl | rfl | rfl | rfl | rfl <;> simp only at hh <;> omega
theorem sI_m {M M' : sa_M} {σ τ : am_S} (h : sI BB SH M σ τ) (hm : ∀ m ∈ M, m ∈ M') : sI BB SH M' σ τ := ⟨h.1, fr_m hm h.2⟩
theorem sI_t {M : sa_M} {σ τ υ : am_S} (h : sI BB SH M σ τ) (g : sI BB SH M τ υ) : sI BB SH M σ υ := ⟨g.1, sb_fr_t h.2 g.2⟩
theorem rb_f {σ τ : am_S} {k : Nat} {x : Int} (h : sI BB SH rbM σ τ) (hm : (51, k, k + 1) ∈ rbM) (hx : (BB.2 51 k).1 ≤ x ∧ x ≤ (BB.2 51 k).2) (hx2 : -2147483648 ≤ x ∧ x < 2147483648) : sI BB SH rbM σ (am_pi τ 51 k (Int32.ofInt x)) :=
  sI_fld (ci := 12) h rfl (by rw [ii_t hx2.1 hx2.2]; exact hx) ⟨_, hm, rfl, Nat.le_refl _, Nat.lt_succ_self _⟩
end