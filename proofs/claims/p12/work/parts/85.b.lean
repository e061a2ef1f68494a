/-! the reference newly made keeps the bounds; its laws can be reckoned -/
/-- the numbers below n are in their bounds -/
def sb_lo (B : sa_I) (n : Nat) (σ : am_S) : Prop := (∀ o q k, o < n → SH o = .inr q → k < q.2 → (sb_a B o k).1 ≤ (σ.1 o k).toInt ∧ (σ.1 o k).toInt ≤ (sb_a B o k).2) ∧ (∀ o c k, o < n → SH o = .inl c → (B.2 o k).1 ≤ (σ.1 o k).toInt ∧ (σ.1 o k).toInt ≤ (B.2 o k).2)
theorem SH_big {o : Nat} (h : 92 ≤ o) : SH o = .inr (0, 0) := by
  unfold SH
  rw [List.getD_eq_getElem?_getD, List.getElem?_eq_none (show SHl.length ≤ o from Nat.le_trans (by decide) h)]
  rfl
theorem BF_big {o k : Nat} (h : 63 ≤ k) : B0.2 o k = ((-2147483648 : Int), (2147483647 : Int)) := by
  show (if (o = 51 ∧ k = 18) ∨ (o = 51 ∧ k = 2) ∨ (o = 0 ∧ k = 1) then ((0 : Int), (0 : Int)) else BB.2 o k) = _
  rw [if_neg (by omega)]
  show (match am_find BFl o with
  | some l => l.getD k ((-2147483648 : Int), (2147483647 : Int))
  | none => ((-2147483648 : Int), (2147483647 : Int))) = _
  cases hf : am_find BFl o with
  | none => rfl
  | some l =>
    have hl : l.length ≤ 63 := by
      have q : ∀ z ∈ BFl, z.2.length ≤ 63 := by decide
      exact q _ (am_find_mem hf)
    show l.getD k ((-2147483648 : Int), (2147483647 : Int)) = _
    rw [List.getD_eq_getElem?_getD, List.getElem?_eq_none (by omega)]
    rfl
theorem ini_f : (List.range 63).all (fun k => decide ((B0.2 51 k).1 ≤ ((am_find iniV k).getD 0).toInt ∧ ((am_find iniV k).getD 0).toInt ≤ (B0.2 51 k).2)) = true := by decide +kernel
theorem ini_a : (List.range 92).all (fun o => decide (o ≤ 51) || decide ((B0.1 o).length = 1) && decide ((sb_a B0 o 0).1 ≤ 0 ∧ 0 ≤ (sb_a B0 o 0).2)) = true := by decide +kernel
theorem ini_ok {σ : am_S} (h : sb_lo B0 51 σ) : sb_ok B0 SH (iniF iniV 92 σ) := by
  refine ⟨fun o q k hs hk => ?_, fun o ci k hs => ?_⟩
  · by_cases h1 : o < 51
    · have e : (iniF iniV 92 σ).1 o k = σ.1 o k := by
        simp only [iniF]
        rw [if_neg (by omega), if_neg (by omega)]
      rw [e]
      exact h.1 o q k h1 hs hk
    · by_cases h2 : o = 51
      · subst h2; cases hs
      · by_cases h3 : o < 92
        · have e : (iniF iniV 92 σ).1 o k = 0 := by
            simp only [iniF]
            rw [if_neg h2, if_pos (by omega)]
          rw [e]
          have q1 := List.all_eq_true.mp ini_a o (List.mem_range.mpr h3)
          simp only [Bool.or_eq_true, Bool.and_eq_true, decide_eq_true_eq] at q1
          rcases q1 with q1 | ⟨q1, q2⟩
          · omega
          · have e2 : sb_a B0 o k = sb_a B0 o 0 := by
              unfold sb_a
              rw [q1, Nat.mod_one, Nat.mod_one]
            rw [e2]
            exact q2
        · rw [SH_big (by omega)] at hs
          cases hs
          exact absurd hk (Nat.not_lt_zero _)
  · by_cases h1 : o < 51
    · have e : (iniF iniV 92 σ).1 o k = σ.1 o k := by
        simp only [iniF]
        rw [if_neg (by omega), if_neg (by omega)]
      rw [e]
      exact h.2 o ci k h1 hs
    · by_cases h2 : o = 51
      · subst h2
        by_cases hk : k < 63
        · have q1 := of_decide_eq_true (List.all_eq_true.mp ini_f k (List.mem_range.mpr hk))
          exact q1
        · rw [BF_big (by omega)]
          have l1 := ii_lo ((iniF iniV 92 σ).1 51 k)
          have l2 := ii_hi ((iniF iniV 92 σ).1 51 k)
          exact ⟨l1, by show _ ≤ (2147483647 : Int); omega⟩
      · by_cases h3 : o < 92
        · exfalso
          have q1 : ∀ o, o < 92 → ¬ o ≤ 51 → (SH o).isLeft = false := by decide +kernel
          have := q1 o h3 (by omega)
          rw [hs] at this
          cases this
        · rw [SH_big (by omega)] at hs
          cases hs
theorem ini_B {τ : am_S} (h : sb_ok B0 SH τ) : sb_ok BB SH τ ∧ JJ τ := by
  have hF : ∀ o k, (BB.2 o k).1 ≤ (B0.2 o k).1 ∧ (B0.2 o k).2 ≤ (BB.2 o k).2 := by
    intro o k
    show _ ≤ (if (o = 51 ∧ k = 18) ∨ (o = 51 ∧ k = 2) ∨ (o = 0 ∧ k = 1) then ((0 : Int), (0 : Int)) else BB.2 o k).1 ∧ (if (o = 51 ∧ k = 18) ∨ (o = 51 ∧ k = 2) ∨ (o = 0 ∧ k = 1) then ((0 : Int), (0 : Int)) else BB.2 o k).2 ≤ _
    split
    · rename_i q
      rcases q with ⟨rfl, rfl⟩ | ⟨rfl, rfl⟩ | ⟨rfl, rfl⟩ <;> exact ⟨by decide, by decide⟩
    · exact ⟨Int.le_refl _, Int.le_refl _⟩
  have hA : ∀ o k, (sb_a BB o k).1 ≤ (sb_a B0 o k).1 ∧ (sb_a B0 o k).2 ≤ (sb_a BB o k).2 := by
    intro o k
    by_cases q : o = 67 ∨ o = 68 ∨ o = 74
    · have e : sb_a B0 o k = (0, 0) := sb_1 (B := B0) (by show (if _ then _ else _) = _; rw [if_pos q])
      rw [e]
      rcases q with rfl | rfl | rfl
      · rw [sb_1 (q := (0, 260)) rfl]; exact ⟨by decide, by decide⟩
      · rw [sb_1 (q := (0, 260)) rfl]; exact ⟨by decide, by decide⟩
      · rw [sb_1 (q := (0, 5)) rfl]; exact ⟨by decide, by decide⟩
    · by_cases q2 : o = 60
      · subst q2
        rw [show sb_a B0 60 k = (0, 12) from sb_1 (B := B0) (q := (0, 12)) rfl]
        have e : sb_a BB 60 k = (-2147483648, 2147483647) := by
          unfold sb_a
          have : BB.1 60 = [(-2147483648, 2147483647)] := rfl
          rw [this]
          simp [Nat.mod_one]
        rw [e]
        exact ⟨by decide, by decide⟩
      · have e : sb_a B0 o k = sb_a BB o k := by
          unfold sb_a
          have : B0.1 o = BB.1 o := by show (if o = 67 ∨ o = 68 ∨ o = 74 then _ else if o = 60 then _ else BB.1 o) = _; rw [if_neg q, if_neg q2]
          rw [this]
        rw [e]
        exact ⟨Int.le_refl _, Int.le_refl _⟩
  have z : ∀ o, (o = 67 ∨ o = 68 ∨ o = 74) → ∀ k, k < (match SH o with
    | .inr q => q.2
    | .inl _ => 0) → (τ.1 o k).toInt = 0 := by
    intro o ho k hk
    have e : sb_a B0 o k = (0, 0) := sb_1 (B := B0) (by show (if _ then _ else _) = _; rw [if_pos ho])
    cases hs : SH o with
    | inl c => rw [hs] at hk; exact absurd hk (Nat.not_lt_zero _)
    | inr q =>
      rw [hs] at hk
      have := h.1 o q k hs hk
      rw [e] at this
      have h1 : (0 : Int) ≤ (τ.1 o k).toInt := this.1
      have h2 : (τ.1 o k).toInt ≤ 0 := this.2
      omega
  refine ⟨⟨fun o q k hs hk => ?_, fun o ci k hs => ?_⟩, ⟨fun i hi hc => ?_, fun k hk b h1 h2 => ?_⟩, ?_⟩
  · have h1 := h.1 o q k hs hk
    have h2 := hA o k
    omega
  · have h1 := h.2 o ci k hs
    have h2 := hF o k
    omega
  · rw [z 74 (by decide) i hi] at hc
    omega
  · exfalso
    have hl := h.2 51 12 18 rfl
    have hl1 : (0 : Int) ≤ (τ.1 51 18).toInt := hl.1
    have hl2 : (τ.1 51 18).toInt ≤ 0 := hl.2
    rw [z 68 (by decide) _ (by show 4 * (τ.1 51 18).toInt.toNat + k < 8; omega)] at h2
    rw [z 67 (by decide) _ (by show 4 * (τ.1 51 18).toInt.toNat + k < 8; omega)] at h1
    omega
  · have hl := h.2 51 12 18 rfl
    have hl1 : (0 : Int) ≤ (τ.1 51 18).toInt := hl.1
    have hl2 : (τ.1 51 18).toInt ≤ 0 := hl.2
    have hs := h.1 60 (0, 2) (τ.1 51 18).toInt.toNat rfl (by show (τ.1 51 18).toInt.toNat < 2; omega)
    rw [sb_1 (q := (0, 12)) rfl] at hs
    exact hs
theorem ini_TP {τ : am_S} (h : sb_ok B0 SH τ) : τ.1 0 1 = τ.1 51 2 := by
  have h1 : 0 ≤ (τ.1 0 1).toInt ∧ (τ.1 0 1).toInt ≤ 0 := h.2 0 11 1 rfl
  have h2 : 0 ≤ (τ.1 51 2).toInt ∧ (τ.1 51 2).toInt ≤ 0 := h.2 51 12 2 rfl
  exact Int32.toInt_inj.mp (by omega)