/-! THE REFERENCE'S READER: a term and where it lies. Printed from wip/am/chk/hand/tm.in. -/
theorem pB_b {σ : am_S} (h : sb_ok BB SH σ) : 0 ≤ pB σ ∧ pB σ ≤ 260 := h.2 51 12 31 rfl
def lwK (i : Nat) : Bool := exK i || i == 31
def lwA (o : Nat) : Bool := o == 69 || o == 70 || o == 71 || o == 72 || o == 73
/-- what the telling of a law may change -/
abbrev lwF (σ τ : am_S) : Prop := (∀ o i, o ≠ 74 → o ≠ 75 → o ≠ 76 → ¬ (o = 51 ∧ lwK i = true) → ¬ (lwA o = true ∧ pB σ ≤ (i : Int) ∧ (i : Int) ≤ pB τ) → τ.1 o i = σ.1 o i) ∧ (∀ o i, o ≠ 51 → τ.2 o i = σ.2 o i) ∧ (∀ i : Nat, ((i : Int) < pC σ ∨ pC τ ≤ (i : Int)) → cd τ i = cd σ i ∧ cI τ i = cI σ i) ∧ (∀ i : Nat, pC σ ≤ (i : Int) → (i : Int) < pC τ → cd τ i = 1 → 0 ≤ cI τ i ∧ cI τ i ≤ 8) ∧ pC σ ≤ pC τ ∧ pT σ ≤ pT τ ∧ NZ σ τ ∧ pB σ ≤ pB τ
theorem lwF_r (σ : am_S) : lwF σ σ := ⟨fun _ _ _ _ _ _ _ => rfl, fun _ _ _ => rfl, fun _ _ => ⟨rfl, rfl⟩, fun i a b => by omega, Int.le_refl _, Int.le_refl _, NZ_r σ, Int.le_refl _⟩
theorem lwF_t {σ τ υ : am_S} (h : lwF σ τ) (g : lwF τ υ) : lwF σ υ := by
  obtain ⟨h1, h2, h3, h4, h5, h6, h7, h8⟩ := h
  obtain ⟨g1, g2, g3, g4, g5, g6, g7, g8⟩ := g
  refine ⟨fun o i a b c d e => (g1 o i a b c d (fun z => e ⟨z.1, by omega, by omega⟩)).trans (h1 o i a b c d (fun z => e ⟨z.1, by omega, by omega⟩)), fun o i a => (g2 o i a).trans (h2 o i a), fun i q => ?_, fun i a b c => ?_, by omega, by omega, NZ_t h7 g7, by omega⟩
  · have a := g3 i (by omega)
    have b := h3 i (by omega)
    exact ⟨a.1.trans b.1, a.2.trans b.2⟩
  · by_cases q : (i : Int) < pC τ
    · have e := g3 i (Or.inl q)
      rw [e.1] at c
      rw [e.2]
      exact h4 i a q c
    · exact g4 i (by omega) b c
theorem exF_B {σ τ : am_S} (h : exF σ τ) : pB τ = pB σ := by unfold pB; rw [h.f1 _ _ (by decide) (by decide) (by decide) (by decide)]
theorem lwF_ex {σ τ : am_S} (h : exF σ τ) : lwF σ τ := ⟨fun o i a b c d _ => h.f1 o i a b c (fun z => d ⟨z.1, by unfold lwK; rw [z.2]; rfl⟩), h.f2, h.f3, h.f4, h.f5, h.f6, h.f7, by rw [exF_B h]; exact Int.le_refl _⟩
/-- a number more at the branch in hand -/
theorem lwF_at {σ : am_S} {o : Nat} {x : Int32} (ho : lwA o = true) (h0 : 0 ≤ pB σ) : lwF σ (am_pi σ o (pB σ).toNat x) ∧ (∀ k, (am_pi σ o (pB σ).toNat x).1 51 k = σ.1 51 k) ∧ (am_pi σ o (pB σ).toNat x).1 o (pB σ).toNat = x ∧ ∀ o' i, o' ≠ o → (am_pi σ o (pB σ).toNat x).1 o' i = σ.1 o' i := by
  have n : ∀ o', lwA o' = false → o' ≠ o := fun o' q z => by rw [z, ho] at q; cases q
  have ef : ∀ k, (am_pi σ o (pB σ).toNat x).1 51 k = σ.1 51 k := fun k => pi_n _ _ _ _ (fun z => n _ (by decide) z.1)
  have eB : pB (am_pi σ o (pB σ).toNat x) = pB σ := by unfold pB; rw [pi_n _ _ _ _ (fun z => n _ (by decide) z.1)]
  have eC : pC (am_pi σ o (pB σ).toNat x) = pC σ := by unfold pC; rw [ef]
  have eT : pT (am_pi σ o (pB σ).toNat x) = pT σ := by unfold pT; rw [ef]
  have eF : pF (am_pi σ o (pB σ).toNat x) = pF σ := by unfold pF; rw [ef]
  refine ⟨⟨fun o' i _ _ _ _ e => pi_n _ _ _ _ (fun z => ?_), fun _ _ _ => rfl, fun i _ => ⟨?_, ?_⟩, fun i a b => by omega, by omega, by omega, NZ_of (ef _) (ef _), by omega⟩, ef, pi_s _ _ _ _, fun o' i q => pi_n _ _ _ _ (fun z => q z.1)⟩
  · have b : i = (pB σ).toNat := z.2
    exact e ⟨by rw [z.1]; exact ho, by omega, by omega⟩
  · unfold cd; rw [pi_n _ _ _ _ (fun z => n _ (by decide) z.1)]
  · unfold cI; rw [pi_n _ _ _ _ (fun z => n _ (by decide) z.1)]
theorem lw_C {σ τ : am_S} (h : ∀ k, τ.1 51 k = σ.1 51 k) : pC τ = pC σ ∧ pT τ = pT σ ∧ pF τ = pF σ ∧ pO τ = pO σ ∧ pB τ = pB σ ∧ pW τ = pW σ := by
  unfold pC pT pF pO pB pW
  rw [h, h, h, h, h, h]
  exact ⟨rfl, rfl, rfl, rfl, rfl, rfl⟩
theorem at_ok {σ : am_S} {o : Nat} {x : Int} {q : Nat} {a b : Int} (h : sb_ok BB SH σ) (hb : pB σ ≤ 259) (hs : SH o = .inr (q, 260)) (hB : BB.1 o = [(a, b)]) (hx : a ≤ x ∧ x ≤ b) (hx2 : -2147483648 ≤ x ∧ x < 2147483648) : sb_ok BB SH (am_pi σ o (pB σ).toNat (Int32.ofInt x)) := by
  have b := pB_b h
  exact (sI_arr (M := [(o, 0, 260)]) (σ0 := σ) (q := (q, 260)) ⟨h, sb_fr_r _ _⟩ hs (by rw [sb_1 hB, ii_t hx2.1 hx2.2]; exact hx) ⟨_, List.mem_cons_self, rfl, Nat.zero_le _, by show (pB σ).toNat < 260; omega⟩).1
def tmS (σ : am_S) : am_S := am_pi (am_pi σ 73 (pB σ).toNat (Int32.ofInt (pC σ))) 51 31 (Int32.ofInt (pB σ + 1))
theorem tmS_ok {σ : am_S} (h : sb_ok BB SH σ) (hb : pB σ ≤ 259) : sb_ok BB SH (tmS σ) ∧ lwF σ (tmS σ) ∧ pB (tmS σ) = pB σ + 1 ∧ pC (tmS σ) = pC σ ∧ pT (tmS σ) = pT σ ∧ pF (tmS σ) = pF σ ∧ pO (tmS σ) = pO σ ∧ ((tmS σ).1 73 (pB σ).toNat).toInt = pC σ ∧ (∀ o i, o ≠ 73 → o ≠ 51 → (tmS σ).1 o i = σ.1 o i) ∧ (∀ i, cd (tmS σ) i = cd σ i) := by
  have b := pB_b h
  have c := pC_b h
  obtain ⟨σ1, e1⟩ : ∃ σ1, σ1 = am_pi σ 73 (pB σ).toNat (Int32.ofInt (pC σ)) := ⟨_, rfl⟩
  obtain ⟨l1, f1, c1, n1⟩ := lwF_at (σ := σ) (o := 73) (x := Int32.ofInt (pC σ)) rfl b.1
  rw [← e1] at l1 f1 c1 n1
  obtain ⟨eC, eT, eF, eO, eB, eW⟩ := lw_C f1
  have et : tmS σ = am_pi σ1 51 31 (Int32.ofInt (pB σ + 1)) := by unfold tmS; rw [e1]
  have hB1 : sb_ok BB SH σ1 := by
    rw [e1]
    exact at_ok (a := 0) (b := 840) (q := 0) h hb rfl rfl ⟨by omega, by omega⟩ (by omega)
  have ep : pB (tmS σ) = pB σ + 1 := by rw [et]; unfold pB; rw [pi_s, ii_t (by unfold pB at *; omega) (by unfold pB at *; omega)]
  have en : ∀ k, k ≠ 31 → (tmS σ).1 51 k = σ.1 51 k := fun k q => by rw [et, pi_n _ _ _ _ (fun z => q z.2), f1]
  have ec : pC (tmS σ) = pC σ := by unfold pC; rw [en _ (by decide)]
  have eT' : pT (tmS σ) = pT σ := by unfold pT; rw [en _ (by decide)]
  have eF' : pF (tmS σ) = pF σ := by unfold pF; rw [en _ (by decide)]
  have eO' : pO (tmS σ) = pO σ := by unfold pO; rw [en _ (by decide)]
  have ea : ∀ o i, o ≠ 73 → o ≠ 51 → (tmS σ).1 o i = σ.1 o i := fun o i q r => by rw [et, pi_n _ _ _ _ (fun z => r z.1), n1 o i q]
  have ecd : ∀ i, cd (tmS σ) i = cd σ i := fun i => by unfold cd; rw [ea _ _ (by decide) (by decide)]
  have ecI : ∀ i, cI (tmS σ) i = cI σ i := fun i => by unfold cI; rw [ea _ _ (by decide) (by decide)]
  refine ⟨by rw [et]; exact (sI_fld (M := [(51, 31, 31 + 1)]) (σ0 := σ1) (k := 31) (x := Int32.ofInt (pB σ + 1)) (ci := 12) ⟨hB1, sb_fr_r _ _⟩ rfl (by rw [ii_t (by omega) (by omega)]; exact ⟨by show (0 : Int) ≤ _; omega, by show _ ≤ (260 : Int); omega⟩) ⟨_, List.mem_cons_self, rfl, by decide, by decide⟩).1, ⟨fun o i a a2 a3 a4 a5 => ?_, fun _ _ _ => rfl, fun i _ => ⟨ecd i, ecI i⟩, fun i q1 q2 => by omega, by omega, by omega, NZ_of (en _ (by decide)) (en _ (by decide)), by omega⟩, ep, ec, eT', eF', eO', ?_, ea, ecd⟩
  · by_cases q : o = 51
    · subst q
      exact en i (fun z => a4 ⟨rfl, by rw [z]; decide⟩)
    · rw [et, pi_n _ _ _ _ (fun z => q z.1)]
      exact l1.1 o i a a2 a3 a4 (fun z => a5 ⟨z.1, by omega, by omega⟩)
  · rw [et, pi_n _ _ _ _ (fun z => absurd z.1 (by decide)), c1, ii_t (by omega) (by omega)]
/-- what term does -/
abbrev tmR (σ τ : am_S) : Prop := sb_ok BB SH τ ∧ lwF σ τ ∧ pB τ = pB σ + 1 ∧ (τ.1 72 (pB σ).toNat).toInt = pC σ ∧ (τ.1 73 (pB σ).toNat).toInt = pC τ ∧ (∀ o i, (o = 69 ∨ o = 70 ∨ o = 71) → τ.1 o i = σ.1 o i) ∧ (pF σ ≠ 0 → pC τ = pC σ) ∧ (pF σ = 0 → pC τ - pC σ ≤ pT τ - pT σ + 1) ∧ (pF τ = 0 → pO τ = 0 ∧ pT σ < pT τ ∧ pC τ - pC σ ≤ pT τ - pT σ ∧ Jdep τ (pC σ).toNat (pC τ - pC σ).toNat = some 1)
theorem dX12_term_0 : decode cX12_term 0 = .ok (.aload_n 0, 1) := dk_ok (by decide +kernel)
theorem dX12_term_1 : decode cX12_term 1 = .ok (.getfield 80, 3) := dk_ok (by decide +kernel)
theorem dX12_term_4 : decode cX12_term 4 = .ok (.aload_n 0, 1) := dk_ok (by decide +kernel)
theorem dX12_term_5 : decode cX12_term 5 = .ok (.getfield 230, 3) := dk_ok (by decide +kernel)
theorem dX12_term_8 : decode cX12_term 8 = .ok (.aload_n 0, 1) := dk_ok (by decide +kernel)
theorem dX12_term_9 : decode cX12_term 9 = .ok (.getfield 233, 3) := dk_ok (by decide +kernel)
theorem dX12_term_12 : decode cX12_term 12 = .ok (.iastore, 1) := dk_ok (by decide +kernel)
theorem dX12_term_13 : decode cX12_term 13 = .ok (.aload_n 0, 1) := dk_ok (by decide +kernel)
theorem dX12_term_14 : decode cX12_term 14 = .ok (.getfield 191, 3) := dk_ok (by decide +kernel)
theorem dX12_term_17 : decode cX12_term 17 = .ok (.ifCond .ne 7, 3) := dk_ok (by decide +kernel)
theorem dX12_term_20 : decode cX12_term 20 = .ok (.aload_n 0, 1) := dk_ok (by decide +kernel)
theorem dX12_term_21 : decode cX12_term 21 = .ok (.invokevirtual 269, 3) := dk_ok (by decide +kernel)
theorem dX12_term_24 : decode cX12_term 24 = .ok (.aload_n 0, 1) := dk_ok (by decide +kernel)
theorem dX12_term_25 : decode cX12_term 25 = .ok (.getfield 83, 3) := dk_ok (by decide +kernel)
theorem dX12_term_28 : decode cX12_term 28 = .ok (.aload_n 0, 1) := dk_ok (by decide +kernel)
theorem dX12_term_29 : decode cX12_term 29 = .ok (.getfield 230, 3) := dk_ok (by decide +kernel)
theorem dX12_term_32 : decode cX12_term 32 = .ok (.aload_n 0, 1) := dk_ok (by decide +kernel)
theorem dX12_term_33 : decode cX12_term 33 = .ok (.getfield 233, 3) := dk_ok (by decide +kernel)
theorem dX12_term_36 : decode cX12_term 36 = .ok (.iastore, 1) := dk_ok (by decide +kernel)
theorem dX12_term_37 : decode cX12_term 37 = .ok (.aload_n 0, 1) := dk_ok (by decide +kernel)
theorem dX12_term_38 : decode cX12_term 38 = .ok (.dup, 1) := dk_ok (by decide +kernel)
theorem dX12_term_39 : decode cX12_term 39 = .ok (.getfield 230, 3) := dk_ok (by decide +kernel)
theorem dX12_term_42 : decode cX12_term 42 = .ok (.iconst 1, 1) := dk_ok (by decide +kernel)
theorem dX12_term_43 : decode cX12_term 43 = .ok (.iadd, 1) := dk_ok (by decide +kernel)
theorem dX12_term_44 : decode cX12_term 44 = .ok (.putfield 230, 3) := dk_ok (by decide +kernel)
theorem dX12_term_47 : decode cX12_term 47 = .ok (.return_, 1) := dk_ok (by decide +kernel)

def sX12_term : am_Sp := fun as n σ post => n = 92 ∧ sb_ok BB SH σ ∧ pB σ ≤ 259 ∧ (pF σ = 0 → pO σ = 0 ∧ pC σ ≤ pT σ + 420) ∧ as = [.ref 51] ∧ ∀ τ, tmR σ τ → post none τ