/-! THE REFERENCE'S READER: what stands between two sentences; a sentence. Printed from wip/am/chk/hand/to.in. -/
/-- the cells of the half that lives, and the class -/
abbrev kp (S : Int) (o i : Nat) : Prop := o < 51 ∨ (o = 51 ∧ i = 18) ∨ (o = 60 ∧ (i : Int) = 1 - S) ∨ ((o = 67 ∨ o = 68) ∧ 4 * (1 - S) ≤ (i : Int) ∧ (i : Int) < 4 * (1 - S) + 4) ∨ (69 ≤ o ∧ o ≤ 73 ∧ 130 * (1 - S) ≤ (i : Int) ∧ (i : Int) < 130 * (1 - S) + 130) ∨ ((o = 74 ∨ o = 75) ∧ 420 * (1 - S) ≤ (i : Int) ∧ (i : Int) < 420 * (1 - S) + 420)
def rK (S : Int) (σ τ : am_S) : Prop := ∀ o i, kp S o i → τ.1 o i = σ.1 o i ∧ (o < 51 → τ.2 o i = σ.2 o i)
theorem rK_t {S : Int} {σ τ υ : am_S} (h : rK S σ τ) (g : rK S τ υ) : rK S σ υ := fun o i q => ⟨(g o i q).1.trans (h o i q).1, fun z => ((g o i q).2 z).trans ((h o i q).2 z)⟩
theorem rK_fr {S : Int} {M : sa_M} {σ τ : am_S} (h : sb_fr M σ τ) (hM : ∀ o i, kp S o i → ∀ m ∈ M, ¬ (m.1 = o ∧ m.2.1 ≤ i ∧ i < m.2.2)) : rK S σ τ := fun o i q => ⟨(h o i (hM o i q)).1, fun _ => (h o i (hM o i q)).2⟩
/-- the laws told anew -/
def lwN (S : Int) (σ : am_S) : Prop := ∀ k : Nat, k < 4 → ∀ b : Nat, (σ.1 67 (4 * S.toNat + k)).toInt ≤ (b : Int) → (b : Int) < (σ.1 68 (4 * S.toNat + k)).toInt → (b : Int) < pB σ ∧ JbC σ S b
theorem JbC_eq {σ τ : am_S} {S : Int} {b : Nat} (h : ∀ o i, 69 ≤ o → o ≤ 75 → τ.1 o i = σ.1 o i) (hc : pC σ ≤ pC τ) (hj : JbC σ S b) : JbC τ S b := by
  obtain ⟨⟨g0, g1, g2⟩, g3⟩ := hj
  have ec : τ.1 74 = σ.1 74 := funext fun i => h _ i (by decide) (by decide)
  have e1 := h 69 b (by decide) (by decide)
  have e2 := h 70 b (by decide) (by decide)
  have e3 := h 71 b (by decide) (by decide)
  have e4 := h 72 b (by decide) (by decide)
  have e5 := h 73 b (by decide) (by decide)
  refine ⟨⟨g0, fun hn => ?_, ?_⟩, by rw [e5]; omega⟩
  · rw [e1] at hn
    rw [e2, e3, e4]
    exact ⟨Jpost_of ec (g1 hn).1, Jpost_of ec (g1 hn).2⟩
  · rw [e4, e5]; exact Jpost_of ec g2
abbrev rG (S : Int) (σ : am_S) : Prop := pF σ = 0 → pX σ = 0 → 1 ≤ (σ.1 60 S.toNat).toInt ∧ (σ.1 60 S.toNat).toInt ≤ 12
/-- between two sentences -/
abbrev rdI (S : Int) (σ0 σ : am_S) : Prop := sb_ok BB SH σ ∧ rK S σ0 σ ∧ Jcd σ ∧ lwN S σ ∧ (pS σ = S ∧ σ.1 51 2 = 0 ∧ pN σ = pP σ) ∧ (420 * S ≤ pC σ ∧ pC σ ≤ pT σ + 420 * S + 1) ∧ (130 * S ≤ pB σ ∧ pB σ ≤ 130 * S + 105) ∧ (pF σ = 0 → pO σ = 0 ∧ pC σ ≤ pT σ + 420 * S ∧ 4 * (pB σ - 130 * S) ≤ pT σ) ∧ rG S σ
def rdM (S : Int) : sa_M := tpM ++ [(60, S.toNat, S.toNat + 1), (66, 0, 2)]
theorem rdM_n {S : Int} {o i : Nat} (h1 : ¬ (o = 51 ∧ (i = 11 ∨ (13 ≤ i ∧ i < 13 + 4) ∨ i = 20))) (h2 : ¬ (62 ≤ o ∧ o ≤ 65) ∧ o ≠ 59 ∧ o ≠ 61 ∧ o ≠ 66) (h3 : ¬ (o = 60 ∧ i = S.toNat)) : ∀ m ∈ rdM S, ¬ (m.1 = o ∧ m.2.1 ≤ i ∧ i < m.2.2) := by
  intro m hm hh
  simp only [rdM, tpM, List.cons_append, List.nil_append, List.mem_cons, List.not_mem_nil, or_false] at hm
  rcases hm with rfl | rfl | rfl | rfl | rfl | rfl | rfl | rfl | rfl | rfl | rfl <;> simp only at hh <;> omega
theorem rdI_go {S : Int} {σ0 σ τ : am_S} (h : rdI S σ0 σ) (hS : 0 ≤ S ∧ S ≤ 1) (hB : sb_ok BB SH τ) (hf : sb_fr (rdM S) σ τ) (ht : pT σ ≤ pT τ) (hz : NZ σ τ) (hn : pN τ = pP τ) (hg : rG S τ) : rdI S σ0 τ := by
  obtain ⟨g1, g2, g3, g4, ⟨g5, g6, g7⟩, g8, g9, g10, g11⟩ := h
  have en : ∀ o i, 67 ≤ o → o ≤ 75 → τ.1 o i = σ.1 o i := fun o i q1 q2 => (hf o i (rdM_n (by omega) (by omega) (by omega))).1
  have ef : ∀ i, i ≠ 11 → ¬ (13 ≤ i ∧ i < 13 + 4) → i ≠ 20 → τ.1 51 i = σ.1 51 i := fun i q1 q2 q3 => (hf _ i (rdM_n (by omega) (by omega) (by omega))).1
  have eS : pS τ = pS σ := by unfold pS; rw [ef _ (by decide) (by decide) (by decide)]
  have eC : pC τ = pC σ := by unfold pC; rw [ef _ (by decide) (by decide) (by decide)]
  have eB : pB τ = pB σ := by unfold pB; rw [ef _ (by decide) (by decide) (by decide)]
  have eO : pO τ = pO σ := by unfold pO; rw [ef _ (by decide) (by decide) (by decide)]
  refine ⟨hB, rK_t g2 (rK_fr hf (fun o i q => rdM_n (by omega) (by omega) (by omega))), fun i hi hc => ?_, fun k hk b hb1 hb2 => ?_, ⟨by omega, by rw [ef _ (by decide) (by decide) (by decide)]; exact g6, hn⟩, by omega, by omega, fun z => ?_, hg⟩
  · rw [en _ _ (by decide) (by decide)] at hc
    rw [en _ _ (by decide) (by decide)]
    exact g3 i hi hc
  · rw [en _ _ (by decide) (by decide)] at hb1 hb2
    obtain ⟨q1, q2⟩ := g4 k hk b hb1 hb2
    exact ⟨by omega, JbC_eq (fun o i a c => en o i (by omega) c) (by omega) q2⟩
  · have z0 : pF σ = 0 := Classical.byContradiction (fun q => hz.1 q z)
    obtain ⟨q1, q2, q3⟩ := g10 z0
    omega
theorem rG_of {S : Int} {σ τ : am_S} (h : rG S σ) (hz : NZ σ τ) (e : τ.1 60 S.toNat = σ.1 60 S.toNat) : rG S τ := fun z1 z2 => by
  rw [e]
  exact h (Classical.byContradiction (fun q => hz.1 q z1)) (Classical.byContradiction (fun q => hz.2 q z2))
theorem rdI_TK {S : Int} {σ0 σ τ : am_S} (h : rdI S σ0 σ) (hS : 0 ≤ S ∧ S ≤ 1) (g : TK σ τ) : rdI S σ0 τ :=
  rdI_go h hS g.1.1 (fr_m (fun m hm => List.mem_append_left _ ((by decide : ∀ m ∈ TKm, m ∈ tpM) m hm)) g.1.2) g.2.1 g.2.2 (by rw [TK_N g, TK_P g]; exact h.2.2.2.2.1.2.2) (rG_of h.2.2.2.2.2.2.2.2 g.2.2 (TK_o g (fun z => absurd z.1 (by decide))))
theorem rdI_tp {S : Int} {σ0 σ τ : am_S} (h : rdI S σ0 σ) (hS : 0 ≤ S ∧ S ≤ 1) (g : tpR σ τ) : rdI S σ0 τ := by
  obtain ⟨a1, a2, a3, a4, a5⟩ := g
  have hn := h.2.2.2.2.1.2.2
  refine rdI_go h hS a1.1 (fr_m (fun m hm => List.mem_append_left _ hm) a1.2) a2 a3 (by omega) (rG_of h.2.2.2.2.2.2.2.2 a3 (a1.2 _ _ ?_).1)
  have q : ∀ m ∈ tpM, m.1 ≠ 60 := by decide
  exact fun m hm hh => q m hm hh.1
theorem rdI_at {S : Int} {σ0 σ : am_S} {o : Nat} {x : Int32} (h : rdI S σ0 σ) (hS : 0 ≤ S ∧ S ≤ 1) (ho : o = 60 ∧ (pF σ = 0 → pX σ = 0 → 1 ≤ x.toInt ∧ x.toInt ≤ 12) ∨ o = 66) : rdI S σ0 (am_pi σ o S.toNat x) ∧ pT (am_pi σ o S.toNat x) = pT σ ∧ pF (am_pi σ o S.toNat x) = pF σ := by
  have e : ∀ o' i, o' ≠ o → (am_pi σ o S.toNat x).1 o' i = σ.1 o' i := fun o' i q => pi_n _ _ _ _ (fun z => q z.1)
  have ho' : o = 60 ∨ o = 66 := by rcases ho with q | q; exact Or.inl q.1; exact Or.inr q
  have ef : ∀ i, (am_pi σ o S.toNat x).1 51 i = σ.1 51 i := fun i => e _ _ (by omega)
  have eT : pT (am_pi σ o S.toNat x) = pT σ := by unfold pT; rw [ef]
  have eF : pF (am_pi σ o S.toNat x) = pF σ := by unfold pF; rw [ef]
  have eX : pX (am_pi σ o S.toNat x) = pX σ := by unfold pX; rw [ef]
  have hI : sI BB SH (rdM S) σ (am_pi σ o S.toNat x) := by
    have x1 := ii_lo x
    have x2 := ii_hi x
    rcases ho' with rfl | rfl
    · refine sI_arr (q := (0, 2)) ⟨h.1, sb_fr_r _ _⟩ rfl (by rw [sb_1 (q := (-2147483648, 2147483647)) rfl]; exact ⟨x1, by show _ ≤ (2147483647 : Int); omega⟩) ⟨(_, S.toNat, S.toNat + 1), List.mem_append_right _ List.mem_cons_self, rfl, Nat.le_refl _, Nat.lt_succ_self _⟩
    · refine sI_arr (q := (0, 2)) ⟨h.1, sb_fr_r _ _⟩ rfl (by rw [sb_1 (q := (-2147483648, 2147483647)) rfl]; exact ⟨x1, by show _ ≤ (2147483647 : Int); omega⟩) ⟨(_, 0, 2), List.mem_append_right _ (List.mem_cons_of_mem _ List.mem_cons_self), rfl, Nat.zero_le _, by show S.toNat < 2; omega⟩
  refine ⟨rdI_go h hS hI.1 hI.2 (by omega) (NZ_of (ef _) (ef _)) ?_ ?_, eT, eF⟩
  · have : pP (am_pi σ o S.toNat x) = pP σ := by unfold pP pS; rw [ef, e _ _ (by omega)]
    rw [this]
    have : pN (am_pi σ o S.toNat x) = pN σ := by unfold pN; rw [ef]
    rw [this]
    exact h.2.2.2.2.1.2.2
  · rcases ho with ⟨rfl, q⟩ | rfl
    · intro z1 z2
      rw [pi_s]
      exact q (by omega) (by omega)
    · exact rG_of h.2.2.2.2.2.2.2.2 (NZ_of (ef _) (ef _)) (e _ _ (by decide))
theorem rdI_lwF {S : Int} {σ0 σ υ : am_S} (h : rdI S σ0 σ) (hS : 0 ≤ S ∧ S ≤ 1) (hl : lwF σ υ) (hB : sb_ok BB SH υ) (h1 : pB υ ≤ pB σ + 5) (h2 : pB σ ≤ 130 * S + 100) (h3 : pC υ ≤ pT υ + 420 * S + 1) (hF : pF υ = 0 → pO υ = 0 ∧ pC υ ≤ pT υ + 420 * S ∧ 4 * (pB υ - 130 * S) ≤ pT υ) : rdI S σ0 υ := by
  obtain ⟨g1, g2, g3, g4, ⟨g5, g6, g7⟩, g8, g9, g10, g11⟩ := h
  obtain ⟨l1, l2, l3, l4, l5, l6, l7, l8⟩ := id hl
  have tb := pT_b hB
  have hS' : S = 0 ∨ S = 1 := by omega
  have lA : ∀ o, lwA o = true ↔ (69 ≤ o ∧ o ≤ 73) := by
    intro o
    unfold lwA
    simp only [Bool.or_eq_true, beq_iff_eq]
    omega
  have en : ∀ o i, o ≠ 51 → ¬ (69 ≤ o ∧ o ≤ 76) → υ.1 o i = σ.1 o i := fun o i q1 q2 => l1 o i (by omega) (by omega) (by omega) (fun z => q1 z.1) (fun z => by have := (lA o).mp z.1; omega)
  have ef : ∀ i, lwK i = false → υ.1 51 i = σ.1 51 i := fun i q => l1 _ i (by decide) (by decide) (by decide) (fun z => by rw [q] at z; cases z.2) (fun z => absurd z.1 (by decide))
  have eS : pS υ = pS σ := lwF_S hl
  have ec : ∀ o i : Nat, (o = 74 ∨ o = 75) → ((i : Int) < pC σ ∨ pC υ ≤ (i : Int)) → υ.1 o i = σ.1 o i := by
    intro o i ho hi
    have q := l3 i hi
    rcases ho with rfl | rfl
    · exact Int32.toInt_inj.mp q.1
    · exact Int32.toInt_inj.mp q.2
  refine ⟨hB, rK_t g2 (fun o i q => ⟨?_, fun z => l2 o i (by omega)⟩), fun i hi hc => ?_, fun k hk b hb1 hb2 => ?_, ⟨by omega, by rw [ef _ (by decide)]; exact g6, ?_⟩, by omega, by omega, hF, rG_of g11 l7 (en _ _ (by decide) (by decide))⟩
  · rcases q with q | q | q | q | q | q
    · exact en o i (by omega) (by omega)
    · obtain ⟨rfl, rfl⟩ := q
      exact ef _ (by decide)
    · exact en o i (by omega) (by omega)
    · exact en o i (by omega) (by omega)
    · refine l1 o i (by omega) (by omega) (by omega) (fun z => by omega) (fun z => ?_)
      rcases hS' with rfl | rfl <;> omega
    · refine ec o i q.1 ?_
      rcases hS' with rfl | rfl <;> omega
  · by_cases q : (i : Int) < pC σ ∨ pC υ ≤ (i : Int)
    · rw [ec _ _ (Or.inl rfl) q] at hc
      rw [ec _ _ (Or.inr rfl) q]
      exact g3 i hi hc
    · exact l4 i (by omega) (by omega) hc
  · rw [en _ _ (by decide) (by decide)] at hb1 hb2
    obtain ⟨q1, q2⟩ := g4 k hk b hb1 hb2
    exact ⟨by omega, JbC_lw hl hS.1 q1 q2⟩
  · have a1 : pN υ = pN σ := by unfold pN; rw [ef _ (by decide)]
    have a2 : pP υ = pP σ := by unfold pP; rw [eS, en _ _ (by decide) (by decide)]
    omega
theorem lwS_o {υ : am_S} {k f : Int} {o i : Nat} (h : ¬ ((o = 67 ∨ o = 68) ∧ i = (4 * pS υ + k).toNat)) : (lwS υ k f).1 o i = υ.1 o i := by
  unfold lwS
  rw [pi_n _ _ _ _ (fun z => h ⟨Or.inr z.1, z.2⟩), pi_n _ _ _ _ (fun z => h ⟨Or.inl z.1, z.2⟩)]
theorem rdI_lwS {S : Int} {σ0 υ : am_S} {k f : Int} (h : rdI S σ0 υ) (hS : 0 ≤ S ∧ S ≤ 1) (hk : 0 ≤ k ∧ k ≤ 3) (hf : 0 ≤ f ∧ f ≤ pB υ) (hn : ∀ b : Nat, f ≤ (b : Int) → (b : Int) < pB υ → JbC υ S b) : rdI S σ0 (lwS υ k f) ∧ pT (lwS υ k f) = pT υ := by
  obtain ⟨g1, g2, g3, g4, ⟨g5, g6, g7⟩, g8, g9, g10, g11⟩ := h
  have bb := pB_b g1
  have hS' : S = 0 ∨ S = 1 := by omega
  have e : ∀ o i, o ≠ 67 → o ≠ 68 → (lwS υ k f).1 o i = υ.1 o i := fun o i q1 q2 => lwS_o (fun z => by omega)
  have eC : pC (lwS υ k f) = pC υ := by unfold pC; rw [e _ _ (by decide) (by decide)]
  have eB : pB (lwS υ k f) = pB υ := by unfold pB; rw [e _ _ (by decide) (by decide)]
  have eT : pT (lwS υ k f) = pT υ := by unfold pT; rw [e _ _ (by decide) (by decide)]
  have eF : pF (lwS υ k f) = pF υ := by unfold pF; rw [e _ _ (by decide) (by decide)]
  have eO : pO (lwS υ k f) = pO υ := by unfold pO; rw [e _ _ (by decide) (by decide)]
  have eS : pS (lwS υ k f) = pS υ := by unfold pS; rw [e _ _ (by decide) (by decide)]
  have eN : pN (lwS υ k f) = pN υ := by unfold pN; rw [e _ _ (by decide) (by decide)]
  have eP : pP (lwS υ k f) = pP υ := by unfold pP; rw [eS, e _ _ (by decide) (by decide)]
  have hI : sI BB SH [(67, 0, 8), (68, 0, 8)] υ (lwS υ k f) := by
    unfold lwS
    refine sI_arr (q := (0, 8)) (sI_arr (q := (0, 8)) ⟨g1, sb_fr_r _ _⟩ rfl ?_ ⟨_, List.mem_cons_self, rfl, Nat.zero_le _, ?_⟩) rfl ?_ ⟨_, List.mem_cons_of_mem _ List.mem_cons_self, rfl, Nat.zero_le _, ?_⟩
    · rw [sb_1 (q := (0, 260)) rfl, ii_t (by omega) (by omega)]; exact ⟨by show (0 : Int) ≤ _; omega, by show _ ≤ (260 : Int); omega⟩
    · show (4 * pS υ + k).toNat < 8; omega
    · rw [sb_1 (q := (0, 260)) rfl, ii_t (by omega) (by omega)]; exact ⟨by show (0 : Int) ≤ _; omega, by show _ ≤ (260 : Int); omega⟩
    · show (4 * pS υ + k).toNat < 8; omega
  refine ⟨⟨hI.1, rK_t g2 (fun o i q => ⟨lwS_o (fun z => ?_), fun _ => rfl⟩), fun i hi hc => ?_, fun k' hk' b hb1 hb2 => ?_, ⟨by omega, by rw [e _ _ (by decide) (by decide)]; exact g6, by omega⟩, by omega, by omega, fun z => ?_, rG_of g11 (NZ_of (e _ _ (by decide) (by decide)) (e _ _ (by decide) (by decide))) (e _ _ (by decide) (by decide))⟩, eT⟩
  · rcases hS' with rfl | rfl <;> omega
  · rw [e _ _ (by decide) (by decide)] at hc
    rw [e _ _ (by decide) (by decide)]
    exact g3 i hi hc
  · have tr : ∀ {b : Nat}, JbC υ S b → JbC (lwS υ k f) S b := fun q => JbC_eq (fun o i a c => e o i (by omega) (by omega)) (by omega) q
    by_cases q : k' = k.toNat
    · have ei : 4 * S.toNat + k' = (4 * pS υ + k).toNat := by omega
      rw [ei] at hb1 hb2
      have e1 : (lwS υ k f).1 67 (4 * pS υ + k).toNat = Int32.ofInt f := by unfold lwS; rw [pi_n _ _ _ _ (fun z => absurd z.1 (by decide)), pi_s]
      have e2 : (lwS υ k f).1 68 (4 * pS υ + k).toNat = Int32.ofInt (pB υ) := by unfold lwS; rw [pi_s]
      rw [e1, ii_t (by omega) (by omega)] at hb1
      rw [e2, ii_t (by omega) (by omega)] at hb2
      exact ⟨by omega, tr (hn b hb1 hb2)⟩
    · rw [lwS_o (fun z => by omega)] at hb1 hb2
      obtain ⟨q1, q2⟩ := g4 k' hk' b hb1 hb2
      exact ⟨by omega, tr q2⟩
  · rw [eF] at z
    obtain ⟨q1, q2, q3⟩ := g10 z
    omega
theorem rdI_law {S k : Int} {σ0 σ τ : am_S} (h : rdI S σ0 σ) (hS : 0 ≤ S ∧ S ≤ 1) (hk : 0 ≤ k ∧ k ≤ 3) (hC : pC σ ≤ pT σ + 420 * S) (hB4 : pB σ ≤ 130 * S + 100) (hB5 : pF σ = 0 → 4 * (pB σ - 130 * S) + 1 ≤ pT σ) (hR : tlR k σ τ) : rdI S σ0 τ ∧ pT σ ≤ pT τ ∧ NZ σ τ := by
  obtain ⟨υ, r1, r2, r3, r4, r5⟩ := hR
  have ht := r2.2.2.2.2.2.1
  have hz := r2.2.2.2.2.2.2.1
  have b0 := pB_b h.1
  have l8 := r2.2.2.2.2.2.2.2
  have hu : rdI S σ0 υ := rdI_lwF h hS r2 r1 r3 hB4 (by omega) (fun z => by
    have z0 : pF σ = 0 := Classical.byContradiction (fun q => hz.1 q z)
    have := hB5 z0
    rcases r5 with ⟨q, _⟩ | ⟨q1, q2, q3, q4, _⟩
    · exact absurd z q
    · exact ⟨q2, by omega, by omega⟩)
  rcases r5 with ⟨_, rfl⟩ | ⟨q1, q2, q3, q4, q5, rfl⟩
  · exact ⟨hu, ht, hz⟩
  · have eS : pS σ = S := h.2.2.2.2.1.1
    have w := rdI_lwS (k := k) (f := pB σ) hu hS hk (by omega) (by rw [eS] at q5; exact q5)
    exact ⟨w.1, by omega, NZ_t hz (NZ_of (lwS_o (fun z => by omega)) (lwS_o (fun z => by omega)))⟩
theorem dX12_tellOne_0 : decode cX12_tellOne 0 = .ok (.aload_n 0, 1) := dk_ok (by decide +kernel)
theorem dX12_tellOne_1 : decode cX12_tellOne 1 = .ok (.getfield 20, 3) := dk_ok (by decide +kernel)
theorem dX12_tellOne_4 : decode cX12_tellOne 4 = .ok (.aload_n 0, 1) := dk_ok (by decide +kernel)
theorem dX12_tellOne_5 : decode cX12_tellOne 5 = .ok (.getfield 194, 3) := dk_ok (by decide +kernel)
theorem dX12_tellOne_8 : decode cX12_tellOne 8 = .ok (.iaload, 1) := dk_ok (by decide +kernel)
theorem dX12_tellOne_9 : decode cX12_tellOne 9 = .ok (.lookupswitch 120 #[(20, 35), (21, 63), (26, 91)], 35) := dk_ok (by decide +kernel)
theorem dX12_tellOne_44 : decode cX12_tellOne 44 = .ok (.aload_n 0, 1) := dk_ok (by decide +kernel)
theorem dX12_tellOne_45 : decode cX12_tellOne 45 = .ok (.invokevirtual 212, 3) := dk_ok (by decide +kernel)
theorem dX12_tellOne_48 : decode cX12_tellOne 48 = .ok (.aload_n 0, 1) := dk_ok (by decide +kernel)
theorem dX12_tellOne_49 : decode cX12_tellOne 49 = .ok (.getfield 43, 3) := dk_ok (by decide +kernel)
theorem dX12_tellOne_52 : decode cX12_tellOne 52 = .ok (.aload_n 0, 1) := dk_ok (by decide +kernel)
theorem dX12_tellOne_53 : decode cX12_tellOne 53 = .ok (.getfield 224, 3) := dk_ok (by decide +kernel)
theorem dX12_tellOne_56 : decode cX12_tellOne 56 = .ok (.aload_n 0, 1) := dk_ok (by decide +kernel)
theorem dX12_tellOne_57 : decode cX12_tellOne 57 = .ok (.iconst 1, 1) := dk_ok (by decide +kernel)
theorem dX12_tellOne_58 : decode cX12_tellOne 58 = .ok (.bipush 12, 2) := dk_ok (by decide +kernel)
theorem dX12_tellOne_60 : decode cX12_tellOne 60 = .ok (.invokevirtual 253, 3) := dk_ok (by decide +kernel)
theorem dX12_tellOne_63 : decode cX12_tellOne 63 = .ok (.iastore, 1) := dk_ok (by decide +kernel)
theorem dX12_tellOne_64 : decode cX12_tellOne 64 = .ok (.aload_n 0, 1) := dk_ok (by decide +kernel)
theorem dX12_tellOne_65 : decode cX12_tellOne 65 = .ok (.iconst 4, 1) := dk_ok (by decide +kernel)
theorem dX12_tellOne_66 : decode cX12_tellOne 66 = .ok (.invokevirtual 257, 3) := dk_ok (by decide +kernel)
theorem dX12_tellOne_69 : decode cX12_tellOne 69 = .ok (.goto 113, 3) := dk_ok (by decide +kernel)
theorem dX12_tellOne_72 : decode cX12_tellOne 72 = .ok (.aload_n 0, 1) := dk_ok (by decide +kernel)
theorem dX12_tellOne_73 : decode cX12_tellOne 73 = .ok (.aload_n 0, 1) := dk_ok (by decide +kernel)
theorem dX12_tellOne_74 : decode cX12_tellOne 74 = .ok (.getfield 46, 3) := dk_ok (by decide +kernel)
theorem dX12_tellOne_77 : decode cX12_tellOne 77 = .ok (.aload_n 0, 1) := dk_ok (by decide +kernel)
theorem dX12_tellOne_78 : decode cX12_tellOne 78 = .ok (.getfield 224, 3) := dk_ok (by decide +kernel)
theorem dX12_tellOne_81 : decode cX12_tellOne 81 = .ok (.iaload, 1) := dk_ok (by decide +kernel)
theorem dX12_tellOne_82 : decode cX12_tellOne 82 = .ok (.iconst 5, 1) := dk_ok (by decide +kernel)
theorem dX12_tellOne_83 : decode cX12_tellOne 83 = .ok (.invokevirtual 260, 3) := dk_ok (by decide +kernel)
theorem dX12_tellOne_86 : decode cX12_tellOne 86 = .ok (.aload_n 0, 1) := dk_ok (by decide +kernel)
theorem dX12_tellOne_87 : decode cX12_tellOne 87 = .ok (.getfield 191, 3) := dk_ok (by decide +kernel)
theorem dX12_tellOne_90 : decode cX12_tellOne 90 = .ok (.ifCond .ne 92, 3) := dk_ok (by decide +kernel)
theorem dX12_tellOne_93 : decode cX12_tellOne 93 = .ok (.aload_n 0, 1) := dk_ok (by decide +kernel)
theorem dX12_tellOne_94 : decode cX12_tellOne 94 = .ok (.invokevirtual 263, 3) := dk_ok (by decide +kernel)
theorem dX12_tellOne_97 : decode cX12_tellOne 97 = .ok (.goto 85, 3) := dk_ok (by decide +kernel)
theorem dX12_tellOne_100 : decode cX12_tellOne 100 = .ok (.aload_n 0, 1) := dk_ok (by decide +kernel)
theorem dX12_tellOne_101 : decode cX12_tellOne 101 = .ok (.invokevirtual 212, 3) := dk_ok (by decide +kernel)
theorem dX12_tellOne_104 : decode cX12_tellOne 104 = .ok (.aload_n 0, 1) := dk_ok (by decide +kernel)
theorem dX12_tellOne_105 : decode cX12_tellOne 105 = .ok (.getfield 61, 3) := dk_ok (by decide +kernel)
theorem dX12_tellOne_108 : decode cX12_tellOne 108 = .ok (.aload_n 0, 1) := dk_ok (by decide +kernel)
theorem dX12_tellOne_109 : decode cX12_tellOne 109 = .ok (.getfield 224, 3) := dk_ok (by decide +kernel)
theorem dX12_tellOne_112 : decode cX12_tellOne 112 = .ok (.aload_n 0, 1) := dk_ok (by decide +kernel)
theorem dX12_tellOne_113 : decode cX12_tellOne 113 = .ok (.iconst 0, 1) := dk_ok (by decide +kernel)
theorem dX12_tellOne_114 : decode cX12_tellOne 114 = .ok (.sipush 9999, 3) := dk_ok (by decide +kernel)
theorem dX12_tellOne_117 : decode cX12_tellOne 117 = .ok (.invokevirtual 253, 3) := dk_ok (by decide +kernel)
theorem dX12_tellOne_120 : decode cX12_tellOne 120 = .ok (.iastore, 1) := dk_ok (by decide +kernel)
theorem dX12_tellOne_121 : decode cX12_tellOne 121 = .ok (.aload_n 0, 1) := dk_ok (by decide +kernel)
theorem dX12_tellOne_122 : decode cX12_tellOne 122 = .ok (.iconst 4, 1) := dk_ok (by decide +kernel)
theorem dX12_tellOne_123 : decode cX12_tellOne 123 = .ok (.invokevirtual 257, 3) := dk_ok (by decide +kernel)
theorem dX12_tellOne_126 : decode cX12_tellOne 126 = .ok (.goto 56, 3) := dk_ok (by decide +kernel)
theorem dX12_tellOne_129 : decode cX12_tellOne 129 = .ok (.aload_n 0, 1) := dk_ok (by decide +kernel)
theorem dX12_tellOne_130 : decode cX12_tellOne 130 = .ok (.getfield 20, 3) := dk_ok (by decide +kernel)
theorem dX12_tellOne_133 : decode cX12_tellOne 133 = .ok (.aload_n 0, 1) := dk_ok (by decide +kernel)
theorem dX12_tellOne_134 : decode cX12_tellOne 134 = .ok (.getfield 194, 3) := dk_ok (by decide +kernel)
theorem dX12_tellOne_137 : decode cX12_tellOne 137 = .ok (.iaload, 1) := dk_ok (by decide +kernel)
theorem dX12_tellOne_138 : decode cX12_tellOne 138 = .ok (.bipush 22, 2) := dk_ok (by decide +kernel)
theorem dX12_tellOne_140 : decode cX12_tellOne 140 = .ok (.isub, 1) := dk_ok (by decide +kernel)
theorem dX12_tellOne_141 : decode cX12_tellOne 141 = .ok (.istore_n 1, 1) := dk_ok (by decide +kernel)
theorem dX12_tellOne_142 : decode cX12_tellOne 142 = .ok (.iload_n 1, 1) := dk_ok (by decide +kernel)
theorem dX12_tellOne_143 : decode cX12_tellOne 143 = .ok (.ifCond .lt 17, 3) := dk_ok (by decide +kernel)
theorem dX12_tellOne_146 : decode cX12_tellOne 146 = .ok (.aload_n 0, 1) := dk_ok (by decide +kernel)
theorem dX12_tellOne_147 : decode cX12_tellOne 147 = .ok (.getfield 20, 3) := dk_ok (by decide +kernel)
theorem dX12_tellOne_150 : decode cX12_tellOne 150 = .ok (.aload_n 0, 1) := dk_ok (by decide +kernel)
theorem dX12_tellOne_151 : decode cX12_tellOne 151 = .ok (.getfield 194, 3) := dk_ok (by decide +kernel)
theorem dX12_tellOne_154 : decode cX12_tellOne 154 = .ok (.iaload, 1) := dk_ok (by decide +kernel)
theorem dX12_tellOne_155 : decode cX12_tellOne 155 = .ok (.bipush 25, 2) := dk_ok (by decide +kernel)
theorem dX12_tellOne_157 : decode cX12_tellOne 157 = .ok (.if_icmp .le 8, 3) := dk_ok (by decide +kernel)
theorem dX12_tellOne_160 : decode cX12_tellOne 160 = .ok (.aload_n 0, 1) := dk_ok (by decide +kernel)
theorem dX12_tellOne_161 : decode cX12_tellOne 161 = .ok (.iconst 1, 1) := dk_ok (by decide +kernel)
theorem dX12_tellOne_162 : decode cX12_tellOne 162 = .ok (.invokevirtual 206, 3) := dk_ok (by decide +kernel)
theorem dX12_tellOne_165 : decode cX12_tellOne 165 = .ok (.aload_n 0, 1) := dk_ok (by decide +kernel)
theorem dX12_tellOne_166 : decode cX12_tellOne 166 = .ok (.getfield 191, 3) := dk_ok (by decide +kernel)
theorem dX12_tellOne_169 : decode cX12_tellOne 169 = .ok (.ifCond .le 4, 3) := dk_ok (by decide +kernel)
theorem dX12_tellOne_172 : decode cX12_tellOne 172 = .ok (.return_, 1) := dk_ok (by decide +kernel)
theorem dX12_tellOne_173 : decode cX12_tellOne 173 = .ok (.aload_n 0, 1) := dk_ok (by decide +kernel)
theorem dX12_tellOne_174 : decode cX12_tellOne 174 = .ok (.invokevirtual 212, 3) := dk_ok (by decide +kernel)
theorem dX12_tellOne_177 : decode cX12_tellOne 177 = .ok (.aload_n 0, 1) := dk_ok (by decide +kernel)
theorem dX12_tellOne_178 : decode cX12_tellOne 178 = .ok (.iload_n 1, 1) := dk_ok (by decide +kernel)
theorem dX12_tellOne_179 : decode cX12_tellOne 179 = .ok (.invokevirtual 266, 3) := dk_ok (by decide +kernel)
theorem dX12_tellOne_182 : decode cX12_tellOne 182 = .ok (.return_, 1) := dk_ok (by decide +kernel)

def sX12_tellOne : am_Sp := fun as n σ post => n = 92 ∧ as = [.ref 51] ∧ ∃ (S : Int) (σ0 : am_S), (0 ≤ S ∧ S ≤ 1) ∧ rdI S σ0 σ ∧ pF σ = 0 ∧ ∀ τ, rdI S σ0 τ → (pT σ < pT τ ∨ pF τ ≠ 0) → post none τ