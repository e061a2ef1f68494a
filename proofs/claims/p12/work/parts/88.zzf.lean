/-! QUERIES, both: what they may change. Printed from wip/am/chk/hand/q0.in. -/
def cfqB (o i : Nat) : Prop := o = 25 ∨ o = 26 ∨ o = 34 ∨ o = 40 ∨ o = 41 ∨ o = 42 ∨ o = 45 ∨ o = 46 ∨ o = 50 ∨ (o = 39 ∧ (i = 3 ∨ i = 4))
def cfq (σ τ : am_S) : Prop := ((∀ o i, ¬ cfqB o i → τ.1 o i = σ.1 o i) ∧ τ.2 = σ.2) ∧ (sb_ok BB SH σ → sb_ok BB SH τ)
theorem cfq_r (σ : am_S) : cfq σ σ := ⟨⟨fun _ _ _ => rfl, rfl⟩, id⟩
theorem cfq_t {σ τ υ : am_S} (h : cfq σ τ) (g : cfq τ υ) : cfq σ υ := ⟨⟨fun o i a => (g.1.1 o i a).trans (h.1.1 o i a), g.1.2.trans h.1.2⟩, fun q => g.2 (h.2 q)⟩
theorem cfq_c {σ τ : am_S} (h : cfr σ τ) : cfq σ τ := by
  refine ⟨⟨fun o i a => h.1 o i (fun z => a (Or.inl z)) (fun z => a (Or.inr (Or.inl z))), h.2⟩, fun q => ⟨fun o p k hs hk => ?_, fun o ci k hs => ?_⟩⟩
  · by_cases c1 : o = 25
    · rw [c1]; exact sb_full rfl _
    · by_cases c2 : o = 26
      · rw [c2]; exact sb_full rfl _
      · rw [h.1 o k c1 c2]
        exact q.1 o p k hs hk
  · rw [h.1 o k (fun z => by rw [z] at hs; cases hs) (fun z => by rw [z] at hs; cases hs)]
    exact q.2 o ci k hs
theorem cfq_m {σ τ : am_S} {d : DR} (h : cfq σ τ) : mC d τ 31 = mC d σ 31 := by
  rw [← aC_0, ← aC_0]
  exact aC_cg (fun i _ => h.1.1 32 _ (by unfold cfqB; omega))
theorem cfq_T {σ τ : am_S} {d : DR} (h : cfq σ τ) (g : tC σ d) : tC τ d := tC_q g (fun o i q => h.1.1 o i (by unfold cfqB; omega))
def rfqB (o i : Nat) : Prop := (76 ≤ o ∧ o ≤ 78) ∨ o = 80 ∨ (82 ≤ o ∧ o ≤ 87) ∨ (o = 51 ∧ (i = 44 ∨ i = 47 ∨ i = 48 ∨ i = 54))
def rfq (σ τ : am_S) : Prop := ((∀ o i, ¬ rfqB o i → τ.1 o i = σ.1 o i) ∧ τ.2 = σ.2) ∧ (sb_ok BB SH σ → sb_ok BB SH τ)
theorem rfq_r (σ : am_S) : rfq σ σ := ⟨⟨fun _ _ _ => rfl, rfl⟩, id⟩
theorem rfq_t {σ τ υ : am_S} (h : rfq σ τ) (g : rfq τ υ) : rfq σ υ := ⟨⟨fun o i a => (g.1.1 o i a).trans (h.1.1 o i a), g.1.2.trans h.1.2⟩, fun q => g.2 (h.2 q)⟩
theorem rfq_b {σ τ : am_S} (h : rfb σ τ) : rfq σ τ := ⟨⟨fun o i a => h.1.1 o i (fun z => a (by unfold rfqB; omega)) (fun z => a (by unfold rfqB; omega)) (fun z => a (by unfold rfqB; omega)) (fun z => a (by unfold rfqB; omega)) (fun z => a (by unfold rfqB; omega)), h.1.2⟩, fun q => sb_rfb q h⟩
theorem rfq_f {σ τ : am_S} (h : rfr σ τ) : rfq σ τ := rfq_b (rfb_m (rfm_c h))
theorem rfq_y {σ : am_S} {S : Nat} : rfq σ (cpyR S σ) := ⟨⟨fun o i a => cpyR_n (fun z => a (by unfold rfqB; omega)) (fun z => a (by unfold rfqB; omega)) (fun z => a (by unfold rfqB; omega)), rfl⟩, fun q => (cpyR_I q).1⟩
theorem rfq_m {σ τ : am_S} (h : rfq σ τ) : mR τ 79 = mR σ 79 := mR_cg (fun i => h.1.1 79 i (by unfold rfqB; omega))
theorem rfq_T {σ τ : am_S} {d : DR} {S : Nat} (h : rfq σ τ) (g : tR σ d S) : tR τ d S := tR_fr g (fun o i q => h.1.1 o i (by unfold rfqB; omega))