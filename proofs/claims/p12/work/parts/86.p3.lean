/-! comesOut. Printed from wip/am/chk/hand/co.in. -/
def stop (st w : Int) : Prop := w = 6 ∨ st ≠ 0 ∧ (w = 8 ∨ w = 9)
/-- what comesOut does: j codes more, as many signs less -/
def coR (st : Int) (σ τ : am_S) : Prop := ∃ j : Nat, pW τ = pW σ - (j : Int) ∧ 0 ≤ pW τ ∧ pC τ = pC σ + (j : Int) ∧ (∀ i : Nat, pC σ ≤ (i : Int) → (i : Int) < pC τ → 2 ≤ cd τ i ∧ cd τ i ≤ 5) ∧ (∀ i : Nat, ((i : Int) < pC σ ∨ pC τ ≤ (i : Int)) → cd τ i = cd σ i ∧ cI τ i = cI σ i) ∧ (∀ i : Nat, pW τ ≤ (i : Int) → (i : Int) < pW σ → ¬ stop st (sw σ i)) ∧ (∀ o i, o ≠ 74 → o ≠ 75 → ¬ (o = 51 ∧ (i = 37 ∨ i = 41)) → τ.1 o i = σ.1 o i) ∧ τ.2 = σ.2
theorem coR_r {st : Int} {σ : am_S} (h : sb_ok BB SH σ) : coR st σ σ := ⟨0, by omega, (pW_b h).1, by omega, fun i h1 h2 => by omega, fun i _ => ⟨rfl, rfl⟩, fun i h1 h2 => by omega, fun _ _ _ _ _ => rfl, rfl⟩
theorem coR_sw {st : Int} {σ τ : am_S} (h : coR st σ τ) (i : Nat) : sw τ i = sw σ i := by
  obtain ⟨j, _, _, _, _, _, _, h7, _⟩ := h
  unfold sw
  rw [h7 _ _ (by decide) (by decide) (by rintro ⟨q, _⟩; exact absurd q (by decide))]
def wtS (σ : am_S) : am_S := am_pi σ 51 41 (Int32.ofInt (pW σ - 1))
theorem wtS_ok {σ : am_S} (h : sb_ok BB SH σ) (hw : 0 < pW σ) : sb_ok BB SH (wtS σ) := by
  have hb := pW_b h
  exact (sI_fld (M := [(51, 41, 41 + 1)]) (σ0 := σ) (k := 41) (x := Int32.ofInt (pW σ - 1)) (ci := 12) ⟨h, sb_fr_r _ _⟩ rfl (by rw [ii_t (by omega) (by omega)]; exact ⟨by show (0 : Int) ≤ _; omega, by show _ ≤ (64 : Int); omega⟩) ⟨_, List.mem_cons_self, rfl, by decide, by decide⟩).1
theorem wtS_C (σ : am_S) : pC (wtS σ) = pC σ := by
  unfold pC wtS
  rw [pi_n _ _ _ _ (by decide)]
theorem coR_step {st : Int} {σ τ : am_S} {k : Int} (h : coR st σ τ) (hσ : sb_ok BB SH σ) (hτ : sb_ok BB SH τ) (hw : 0 < pW τ) (hc : pC σ + pW σ ≤ 840) (hk : 2 ≤ k ∧ k ≤ 5) (hs : ¬ stop st (sw τ (pW τ - 1).toNat)) : coR st σ (emS (wtS τ) k 0) ∧ sb_ok BB SH (emS (wtS τ) k 0) ∧ pW (emS (wtS τ) k 0) = pW τ - 1 := by
  have hs' : ¬ stop st (sw σ (pW τ - 1).toNat) := by rw [← coR_sw h]; exact hs
  obtain ⟨j, h1, h2, h3, h4, h5, h6, h7, h8⟩ := h
  have cb := pC_b hτ
  have cb0 := pC_b hσ
  have wb := pW_b hτ
  have hC := wtS_C τ
  have hok := wtS_ok hτ hw
  have hlt : pC (wtS τ) ≤ 839 := by omega
  have eC : pC (emS (wtS τ) k 0) = pC τ + 1 := by rw [emS_C ⟨by omega, hlt⟩, hC]
  have eW : pW (emS (wtS τ) k 0) = pW τ - 1 := by
    show ((emS (wtS τ) k 0).1 51 41).toInt = _
    rw [emS_o (by decide) (by decide) (by decide)]
    unfold wtS
    rw [pi_s, ii_t (by omega) (by omega)]
  have ecd : ∀ i, cd (wtS τ) i = cd τ i := fun i => by unfold cd wtS; rw [pi_n _ _ _ _ (fun z => absurd z.1 (by decide))]
  have ecI : ∀ i, cI (wtS τ) i = cI τ i := fun i => by unfold cI wtS; rw [pi_n _ _ _ _ (fun z => absurd z.1 (by decide))]
  refine ⟨⟨j + 1, by omega, by omega, by omega, fun i g1 g2 => ?_, fun i g1 => ?_, fun i g1 g2 => ?_, fun o i n1 n2 n3 => ?_, ?_⟩, emS_ok hok ⟨by omega, by omega⟩ hlt, eW⟩
  · rw [emS_c ⟨by omega, by omega⟩, ecd, hC]
    by_cases q : i = (pC τ).toNat
    · rw [if_pos q]; exact hk
    · rw [if_neg q]; exact h4 i g1 (by omega)
  · rw [emS_c ⟨by omega, by omega⟩, emS_i ⟨by omega, by omega⟩, ecd, ecI, hC, if_neg (by omega), if_neg (by omega)]
    exact h5 i (by omega)
  · by_cases q : (i : Int) = pW τ - 1
    · have e : i = (pW τ - 1).toNat := by omega
      rw [e]; exact hs'
    · exact h6 i (by omega) g2
  · rw [emS_o n1 n2 (fun z => n3 ⟨z.1, Or.inl z.2⟩)]
    unfold wtS
    rw [pi_n _ _ _ _ (fun z => n3 ⟨z.1, Or.inr z.2⟩)]
    exact h7 o i n1 n2 n3
  · exact h8
def sX12_comesOut : am_Sp := fun as n σ post => n = 92 ∧ sb_ok BB SH σ ∧ pC σ + pW σ ≤ 840 ∧ ∃ s : Int, (0 ≤ s ∧ s ≤ 1) ∧ as = [.ref 51, .int (Int32.ofInt s)] ∧ ∀ τ, sb_ok BB SH τ → coR s σ τ → (pW τ = 0 ∨ 0 < pW τ ∧ stop s (sw τ (pW τ - 1).toNat)) → post none τ