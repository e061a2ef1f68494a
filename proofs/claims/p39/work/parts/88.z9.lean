/-! THE REFERENCE'S SENTENCES: numbers; what is held for wrong. Printed from wip/am/chk/hand/s3.in. -/
/-- what it holds for wrongly told, as far as it counts -/
def rU (b : Nat → Int) (Z : Nat) (σ : am_S) (s : ST) (u : UT) : Prop := ∀ t, s = .inl t → pX σ = u.1 ∧ (u.1 ≠ 0 → pXp σ = u.2 ∧ u.2 < tP b Z t)
theorem wX_X {σ τ : am_S} (h : wX σ τ) : pX τ = pX σ ∧ pXp τ = pXp σ := ⟨by unfold pX; rw [h.1], by unfold pXp; rw [h.2]⟩
theorem tP_le {b : Nat → Int} {Z t : Nat} : ∀ {t' : Nat}, (∀ i, i < t' → tK b Z i ≠ 0) → t ≤ t' → tP b Z t ≤ tP b Z t'
  | 0, _, h => by rw [show t = 0 by omega]; exact Int.le_refl _
  | t' + 1, h1, h => by
    by_cases q : t = t' + 1
    · rw [q]; exact Int.le_refl _
    · have := tP_le (t := t) (t' := t') (fun i hi => h1 i (by omega)) (by omega)
      have := tP_lt (h1 t' (Nat.lt_succ_self _))
      omega
theorem rU_m {b : Nat → Int} {Z : Nat} {σ τ : am_S} {s s' : ST} {u : UT} (h : rU b Z σ s u) (w : wX σ τ) (hs : rST b Z τ s') (hl : ∀ t', s' = .inl t' → ∃ t, s = .inl t ∧ t ≤ t') : rU b Z τ s' u := by
  intro t' e'
  obtain ⟨t, e, l⟩ := hl t' e'
  obtain ⟨h1, h2⟩ := h t e
  obtain ⟨w1, w2⟩ := wX_X w
  subst e'
  refine ⟨w1.trans h1, fun z => ?_⟩
  obtain ⟨h3, h4⟩ := h2 z
  have := tP_le hs.2.1.2 l
  exact ⟨w2.trans h3, by omega⟩
/-- something wrong is noted -/
theorem wr_g {b : Nat → Int} {Z tok : Nat} {σ : am_S} {u : UT} {k : Int} (v : wVR b Z σ) (ht : tok ≤ 400 ∧ ∀ i, i < tok → tK b Z i ≠ 0) (hf : pF σ = 0) (hk : 1 ≤ k ∧ k ≤ 9) (e1 : pX σ = u.1) (e2 : u.1 ≠ 0 → pXp σ = u.2 ∧ (u.2 < tP b Z tok ∨ u = (k, tP b Z tok))) : pX (wrS k tok σ) = (nt u k (tP b Z tok)).1 ∧ pXp (wrS k tok σ) = (nt u k (tP b Z tok)).2 ∨ u.1 ≠ 0 ∧ wrS k tok σ = σ ∧ nt u k (tP b Z tok) = u := by
  obtain ⟨_, c2, _⟩ := v.2 tok ht.1 ht.2
  have pb := tP_b (b := b) (j := tok) v.1
  have ep : (σ.1 55 tok).toInt = tP b Z tok := by rw [c2]; exact ii_t (by omega) (by omega)
  by_cases q : u.1 = 0
  · left
    unfold wrS nt
    rw [if_pos q, if_pos ⟨hf, Or.inl (e1.trans q)⟩]
    refine ⟨?_, ?_⟩
    · unfold pX; rw [pi_n _ _ _ _ (by decide), pi_s, ii_t (by omega) (by omega)]
    · unfold pXp; rw [pi_s]; exact ep
  · right
    obtain ⟨e3, e4⟩ := e2 q
    refine ⟨q, ?_, by unfold nt; rw [if_neg q]⟩
    unfold wrS
    rw [if_neg]
    rintro ⟨_, z | z⟩
    · omega
    · apply z
      rw [ep]
      rcases e4 with e4 | e4
      · left; omega
      · right
        rw [e4] at e1 e3
        have e1 : pX σ = k := e1
        have e3 : pXp σ = tP b Z tok := e3
        omega
theorem wr_fr {b : Nat → Int} {Z tok : Nat} {σ : am_S} {s : ST} {k : Int} (h : rST b Z σ s) : rST b Z (wrS k tok σ) s := by
  unfold wrS
  split
  · exact rST_fr h (fun o i a c => by rw [pi_n _ _ _ _ (fun z => by omega), pi_n _ _ _ _ (fun z => by omega)]) (fun _ => rfl) (by rw [pi_n _ _ _ _ (by decide), pi_n _ _ _ _ (by decide)]) (by rw [pi_n _ _ _ _ (by decide), pi_n _ _ _ _ (by decide)]) (by rw [pi_n _ _ _ _ (by decide), pi_n _ _ _ _ (by decide)])
  · exact h
theorem spQ_u0 {b : Nat → Int} {Z : Nat} {x y : Int} {s : ST} {u : UT} (h : (spQ b Z x y s u).2.1.1 = 0) : u.1 = 0 := by
  cases s with
  | inr q => exact h
  | inl t =>
    have h : (if tK b Z t = 2 then (if t = 400 then _ else _) else _ : ST × UT × Int).2.1.1 = 0 := h
    split at h
    · split at h
      · exact h
      · have h : (if tV b Z t < x ∨ y < tV b Z t then nt u 5 (tP b Z t) else u).1 = 0 := h
        split at h
        · unfold nt at h
          split at h
          · cases h
          · exact h
        · exact h
    · exact h
/-- a number, as the reference reads it -/
theorem rQ_bo {b : Nat → Int} {Z : Nat} {σ : am_S} {s : ST} {u : UT} {x y : Int} (hB : sb_ok BB SH σ) (hs : rST b Z σ s) (hu : rU b Z σ s u) : rST b Z (boS x y σ) (spQ b Z x y s u).1 ∧ rU b Z (boS x y σ) (spQ b Z x y s u).1 (spQ b Z x y s u).2.1 ∧ ∀ t', (spQ b Z x y s u).1 = .inl t' → (spQ b Z x y s u).2.1.1 = 0 → boV x σ = (spQ b Z x y s u).2.2 := by
  cases s with
  | inr q =>
    have hz : pF σ ≠ 0 := by obtain ⟨h1, h2, h3⟩ := hs.2; omega
    have e : boS x y σ = σ := by
      unfold boS
      rw [if_neg (fun z => hz z.1), failS_z hz]
    rw [e]
    exact ⟨hs, fun t z => (by cases z), fun t z => (by cases z)⟩
  | inl t =>
    obtain ⟨ek, hz⟩ := is_kd hs
    by_cases k2 : tK b Z t = 2
    · have ev := vl_of hs.1 hs.2 k2
      obtain ⟨h1, h2⟩ := hu t rfl
      have t4 := hs.2.1
      have eT : (pT σ).toNat = t := by rw [hs.2.2.1]; omega
      have eq : spQ b Z x y (.inl t) u = (if t = 400 then (.inr (2, tP b Z t), u, x) else (.inl (t + 1), (if tV b Z t < x ∨ y < tV b Z t then nt u 5 (tP b Z t) else u), (if tV b Z t < x ∨ y < tV b Z t then x else tV b Z t))) := by show (if tK b Z t = 2 then _ else _) = _; rw [if_pos k2]
      have ebv : boV x σ = tV b Z t := by unfold boV; rw [if_pos ⟨hz, ek.trans k2⟩, ev]
      obtain ⟨τ, eτ⟩ : ∃ τ, τ = (if vlT σ < x ∨ y < vlT σ then wrS 5 (pT σ).toNat σ else σ) := ⟨_, rfl⟩
      have es : boS x y σ = goS τ := by unfold boS; rw [if_pos ⟨hz, ek.trans k2⟩, ← eτ]
      rw [ev, eT] at eτ
      have hτ : sb_ok BB SH τ ∧ rST b Z τ (.inl t) ∧ pX τ = (if tV b Z t < x ∨ y < tV b Z t then nt u 5 (tP b Z t) else u).1 ∧ ((if tV b Z t < x ∨ y < tV b Z t then nt u 5 (tP b Z t) else u).1 ≠ 0 → pXp τ = (if tV b Z t < x ∨ y < tV b Z t then nt u 5 (tP b Z t) else u).2 ∧ (if tV b Z t < x ∨ y < tV b Z t then nt u 5 (tP b Z t) else u).2 ≤ tP b Z t) := by
        by_cases w : tV b Z t < x ∨ y < tV b Z t
        · rw [if_pos w] at eτ ⊢
          refine ⟨by rw [eτ]; exact (wrS_ok hB ⟨by decide, by decide⟩).1.1.1, by rw [eτ]; exact wr_fr hs, ?_⟩
          rcases wr_g (k := 5) hs.1 t4 hz ⟨by decide, by decide⟩ h1 (fun z => ⟨(h2 z).1, Or.inl (h2 z).2⟩) with ⟨g1, g2⟩ | ⟨g0, g1, g2⟩
          · rw [eτ]
            refine ⟨g1, fun _ => ⟨g2, ?_⟩⟩
            unfold nt
            split
            · exact Int.le_refl _
            · rename_i q
              have := (h2 q).2
              omega
          · rw [eτ, g1, g2]
            exact ⟨h1, fun z => ⟨(h2 z).1, by have := (h2 z).2; omega⟩⟩
        · rw [if_neg w] at eτ ⊢
          rw [eτ]
          exact ⟨hB, hs, h1, fun z => ⟨(h2 z).1, by have := (h2 z).2; omega⟩⟩
      obtain ⟨b1, b2, b3, b4⟩ := hτ
      obtain ⟨v2, g⟩ := goS_t b1 b2.1 b2.2 (by omega : tK b Z t ≠ 0)
      rw [es, eq]
      rcases g with ⟨g1, g2, g3⟩ | ⟨g1, g2⟩
      · rw [if_pos g1]
        exact ⟨⟨v2, ⟨by show (1 : Int) ≤ 2; decide, by show (2 : Int) ≤ 2; decide⟩, g2, g3⟩, fun t z => (by cases z), fun t z => (by cases z)⟩
      · rw [if_neg (by omega)]
        refine ⟨⟨v2, g2⟩, fun t' e' => ?_, fun t' e' z => ?_⟩
        · injection e' with e'
          subst e'
          obtain ⟨w1, w2⟩ := wX_X (wX_g (σ := τ))
          have := tP_lt (b := b) (Z := Z) (j := t) (by omega)
          exact ⟨w1.trans b3, fun z => ⟨w2.trans (b4 z).1, by have := (b4 z).2; show _ < tP b Z (t + 1); exact Int.lt_of_le_of_lt this (by assumption)⟩⟩
        · rw [ebv]
          have z : (if tV b Z t < x ∨ y < tV b Z t then nt u 5 (tP b Z t) else u).1 = 0 := z
          show tV b Z t = (if tV b Z t < x ∨ y < tV b Z t then x else tV b Z t)
          by_cases w : tV b Z t < x ∨ y < tV b Z t
          · exfalso
            rw [if_pos w] at z
            unfold nt at z
            split at z
            · cases z
            · contradiction
          · rw [if_neg w]
    · have eq : spQ b Z x y (.inl t) u = (.inr (1, tP b Z t), u, x) := by show (if tK b Z t = 2 then _ else _) = _; rw [if_neg k2]
      have es : boS x y σ = failS 1 σ := by unfold boS; rw [if_neg (fun z => k2 (ek.symm.trans z.2))]
      rw [es, eq]
      exact ⟨rST_fail hB ⟨by decide, by decide⟩ hs, fun t z => (by cases z), fun t z => (by cases z)⟩
