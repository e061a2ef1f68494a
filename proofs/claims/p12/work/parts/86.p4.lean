/-! THE REFERENCE'S READER: a term. Printed from wip/am/chk/hand/xp.in. -/
/-- the signs that wait: how many are open, and what stands behind the last of these -/
def scan (σ : am_S) : Nat → Option (Nat × Nat)
  | 0 => some (0, 0)
  | n + 1 => match scan σ n with
    | none => none
    | some (o, l) => if sw σ n = 6 then some (o + 1, 0) else if sw σ n = 8 ∨ sw σ n = 9 then (if l = 0 then some (o, 1) else none) else if l ≤ 1 then some (o, l + 2) else none
theorem scan_of {σ τ : am_S} : ∀ {n : Nat}, (∀ i, i < n → sw τ i = sw σ i) → scan τ n = scan σ n
  | 0, _ => rfl
  | n + 1, h => by simp only [scan, scan_of (fun i hi => h i (Nat.lt_succ_of_lt hi)), h n (Nat.lt_succ_self n)]
theorem scan_s {σ : am_S} {n o l : Nat} (h : scan σ (n + 1) = some (o, l)) : ∃ o' l', scan σ n = some (o', l') ∧ ((sw σ n = 6 ∧ o = o' + 1 ∧ l = 0) ∨ (sw σ n ≠ 6 ∧ (sw σ n = 8 ∨ sw σ n = 9) ∧ l' = 0 ∧ o = o' ∧ l = 1) ∨ (sw σ n ≠ 6 ∧ ¬ (sw σ n = 8 ∨ sw σ n = 9) ∧ l' ≤ 1 ∧ o = o' ∧ l = l' + 2)) := by
  simp only [scan] at h
  split at h
  · cases h
  · rename_i o' l' he
    refine ⟨o', l', he, ?_⟩
    split at h
    · cases h; exact Or.inl ⟨(by assumption), rfl, rfl⟩
    · split at h
      · split at h
        · cases h; exact Or.inr (Or.inl ⟨(by assumption), (by assumption), (by assumption), rfl, rfl⟩)
        · cases h
      · split at h
        · cases h; exact Or.inr (Or.inr ⟨(by assumption), (by assumption), (by assumption), rfl, rfl⟩)
        · cases h
theorem scan_b {σ : am_S} : ∀ {n o l : Nat}, scan σ n = some (o, l) → o ≤ n ∧ n ≤ 3 * o + (l + 1) / 2 ∧ l ≤ 3
  | 0, o, l, h => by simp only [scan, Option.some.injEq, Prod.mk.injEq] at h; omega
  | n + 1, o, l, h => by
    obtain ⟨o', l', he, hh⟩ := scan_s h
    have := scan_b he
    omega
theorem scan_no {σ : am_S} : ∀ {n k o l : Nat}, scan σ n = some (o, l) → k ≤ n → (∀ i, k ≤ i → i < n → sw σ i ≠ 6) → ∃ l', scan σ k = some (o, l')
  | 0, k, o, l, h, hk, _ => ⟨l, by rw [show k = 0 by omega]; exact h⟩
  | n + 1, k, o, l, h, hk, hh => by
    by_cases e : k = n + 1
    · subst e; exact ⟨l, h⟩
    · obtain ⟨o', l', he, hc⟩ := scan_s h
      have h6 := hh n (by omega) (by omega)
      have eo : o = o' := by omega
      subst eo
      exact scan_no he (by omega) (fun i a b => hh i a (by omega))
theorem Jdep_cg {σ τ : am_S} {f : Nat} : ∀ {n : Nat}, (∀ i, f ≤ i → i < f + n → cd τ i = cd σ i) → Jdep τ f n = Jdep σ f n
  | 0, _ => rfl
  | n + 1, h => by
    have e : (τ.1 74 (f + n)).toInt = (σ.1 74 (f + n)).toInt := h (f + n) (by omega) (by omega)
    have e2 : Jdep τ f n = Jdep σ f n := Jdep_cg (fun i a b => h i a (by omega))
    simp only [Jdep]
    rw [e2, e]
theorem Jdep_down {σ : am_S} {f n d : Nat} (h : Jdep σ f n = some d) : ∀ j : Nat, j + 1 ≤ d → (∀ i, f + n ≤ i → i < f + n + j → 2 ≤ cd σ i) → Jdep σ f (n + j) = some (d - j)
  | 0, _, _ => h
  | j + 1, hj, hh => by
    have e : ¬ (σ.1 74 (f + (n + j))).toInt < 2 := by have := hh (f + n + j) (by omega) (by omega); unfold cd at this; rw [← Nat.add_assoc]; omega
    show Jdep σ f (n + j + 1) = _
    simp only [Jdep, Jdep_down h j (by omega) (fun i a b => hh i a (by omega)), if_neg e]
    rw [if_pos (by omega)]
    congr 1
def exK (i : Nat) : Bool := i == 37 || i == 41 || i == 12 || i == 11 || (decide (13 ≤ i) && decide (i < 13 + 4))
/-- what a term may change -/
abbrev exF (σ τ : am_S) : Prop := (∀ o i, o ≠ 74 → o ≠ 75 → o ≠ 76 → ¬ (o = 51 ∧ exK i = true) → τ.1 o i = σ.1 o i) ∧ (∀ o i, o ≠ 51 → τ.2 o i = σ.2 o i) ∧ (∀ i : Nat, ((i : Int) < pC σ ∨ pC τ ≤ (i : Int)) → cd τ i = cd σ i ∧ cI τ i = cI σ i) ∧ (∀ i : Nat, pC σ ≤ (i : Int) → (i : Int) < pC τ → cd τ i = 1 → 0 ≤ cI τ i ∧ cI τ i ≤ 8) ∧ (pC σ ≤ pC τ) ∧ (pT σ ≤ pT τ) ∧ (NZ σ τ)
theorem exF.f1 {σ τ : am_S} (h : exF σ τ) : ∀ o i, o ≠ 74 → o ≠ 75 → o ≠ 76 → ¬ (o = 51 ∧ exK i = true) → τ.1 o i = σ.1 o i := h.1
theorem exF.f2 {σ τ : am_S} (h : exF σ τ) : ∀ o i, o ≠ 51 → τ.2 o i = σ.2 o i := h.2.1
theorem exF.f3 {σ τ : am_S} (h : exF σ τ) : ∀ i : Nat, ((i : Int) < pC σ ∨ pC τ ≤ (i : Int)) → cd τ i = cd σ i ∧ cI τ i = cI σ i := h.2.2.1
theorem exF.f4 {σ τ : am_S} (h : exF σ τ) : ∀ i : Nat, pC σ ≤ (i : Int) → (i : Int) < pC τ → cd τ i = 1 → 0 ≤ cI τ i ∧ cI τ i ≤ 8 := h.2.2.2.1
theorem exF.f5 {σ τ : am_S} (h : exF σ τ) : pC σ ≤ pC τ := h.2.2.2.2.1
theorem exF.f6 {σ τ : am_S} (h : exF σ τ) : pT σ ≤ pT τ := h.2.2.2.2.2.1
theorem exF.f7 {σ τ : am_S} (h : exF σ τ) : NZ σ τ := h.2.2.2.2.2.2
theorem exF_r (σ : am_S) : exF σ σ := ⟨fun _ _ _ _ _ _ => rfl, fun _ _ _ => rfl, fun _ _ => ⟨rfl, rfl⟩, fun i a b => by omega, Int.le_refl _, Int.le_refl _, NZ_r σ⟩
theorem exF_t {σ τ υ : am_S} (h : exF σ τ) (g : exF τ υ) : exF σ υ := ⟨fun o i a b c d => (g.f1 o i a b c d).trans (h.f1 o i a b c d), fun o i a => (g.f2 o i a).trans (h.f2 o i a), fun i q => by
    have h5 := h.f5
    have g5 := g.f5
    have a := g.f3 i (by omega)
    have b := h.f3 i (by omega)
    exact ⟨a.1.trans b.1, a.2.trans b.2⟩, fun i a b c => by
    by_cases q : (i : Int) < pC τ
    · have e := g.f3 i (Or.inl q)
      rw [e.1] at c
      rw [e.2]
      exact h.f4 i a q c
    · exact g.f4 i (by omega) b c, Int.le_trans h.f5 g.f5, Int.le_trans h.f6 g.f6, NZ_t h.f7 g.f7⟩
theorem TK_k {σ τ : am_S} (h : TK σ τ) {i : Nat} (hn : ¬ (i = 11 ∨ 13 ≤ i ∧ i < 13 + 4)) : τ.1 51 i = σ.1 51 i := TK_o h (by omega)
theorem TK_C {σ τ : am_S} (h : TK σ τ) : pC τ = pC σ := by unfold pC; rw [TK_k h (by decide)]
theorem TK_W {σ τ : am_S} (h : TK σ τ) : pW τ = pW σ := by unfold pW; rw [TK_k h (by decide)]
theorem TK_O {σ τ : am_S} (h : TK σ τ) : pO τ = pO σ := by unfold pO; rw [TK_k h (by decide)]
theorem TK_c {σ τ : am_S} (h : TK σ τ) (i : Nat) : cd τ i = cd σ i := by unfold cd; rw [TK_o h (fun z => absurd z.1 (by decide))]
theorem TK_I {σ τ : am_S} (h : TK σ τ) (i : Nat) : cI τ i = cI σ i := by unfold cI; rw [TK_o h (fun z => absurd z.1 (by decide))]
theorem TK_s {σ τ : am_S} (h : TK σ τ) (i : Nat) : sw τ i = sw σ i := by unfold sw; rw [TK_o h (fun z => absurd z.1 (by decide))]
theorem exF_TK {σ τ : am_S} (h : TK σ τ) : exF σ τ := ⟨fun o i _ _ _ d => TK_o h (fun q => d ⟨q.1, by unfold exK; simp only [Bool.or_eq_true, beq_iff_eq, Bool.and_eq_true, decide_eq_true_eq]; omega⟩), fun o i a => TK_2 h a, fun i _ => ⟨TK_c h i, TK_I h i⟩, fun i a b => by rw [TK_C h] at b; omega, by rw [TK_C h]; exact Int.le_refl _, h.2.1, h.2.2⟩
/-- while a term is read: oo stands in open; o are open in the row, l behind the last; d: 1 when a number has come; e: what t has on the codes -/
abbrev exI (σ0 σ : am_S) (oo o l : Nat) (d e : Int) : Prop := (sb_ok BB SH σ) ∧ (pO σ = (oo : Int)) ∧ (scan σ (pW σ).toNat = some (o, l)) ∧ (∃ n : Nat, Jdep σ (pC σ0).toNat (pC σ - pC σ0).toNat = some n ∧ (n : Int) = pW σ - (o : Int) + d) ∧ ((pC σ - pC σ0) + (pW σ - (o : Int)) + e ≤ pT σ - pT σ0) ∧ (exF σ0 σ)
theorem exI.hB {σ0 σ : am_S} {oo o l : Nat} {d e : Int} (h : exI σ0 σ oo o l d e) : sb_ok BB SH σ := h.1
theorem exI.hO {σ0 σ : am_S} {oo o l : Nat} {d e : Int} (h : exI σ0 σ oo o l d e) : pO σ = (oo : Int) := h.2.1
theorem exI.hS {σ0 σ : am_S} {oo o l : Nat} {d e : Int} (h : exI σ0 σ oo o l d e) : scan σ (pW σ).toNat = some (o, l) := h.2.2.1
theorem exI.hD {σ0 σ : am_S} {oo o l : Nat} {d e : Int} (h : exI σ0 σ oo o l d e) : ∃ n : Nat, Jdep σ (pC σ0).toNat (pC σ - pC σ0).toNat = some n ∧ (n : Int) = pW σ - (o : Int) + d := h.2.2.2.1
theorem exI.hT {σ0 σ : am_S} {oo o l : Nat} {d e : Int} (h : exI σ0 σ oo o l d e) : (pC σ - pC σ0) + (pW σ - (o : Int)) + e ≤ pT σ - pT σ0 := h.2.2.2.2.1
theorem exI.hF {σ0 σ : am_S} {oo o l : Nat} {d e : Int} (h : exI σ0 σ oo o l d e) : exF σ0 σ := h.2.2.2.2.2
/-- behind a term -/
abbrev exR (σ τ : am_S) : Prop := (sb_ok BB SH τ) ∧ (exF σ τ) ∧ (pC τ - pC σ ≤ pT τ - pT σ + 1) ∧ (pF τ = 0 → pO τ = 0 ∧ pT σ < pT τ ∧ pC τ - pC σ ≤ pT τ - pT σ ∧ Jdep τ (pC σ).toNat (pC τ - pC σ).toNat = some 1)
theorem exR.r1 {σ τ : am_S} (h : exR σ τ) : sb_ok BB SH τ := h.1
theorem exR.r2 {σ τ : am_S} (h : exR σ τ) : exF σ τ := h.2.1
theorem exR.r3 {σ τ : am_S} (h : exR σ τ) : pC τ - pC σ ≤ pT τ - pT σ + 1 := h.2.2.1
theorem exR.r4 {σ τ : am_S} (h : exR σ τ) : pF τ = 0 → pO τ = 0 ∧ pT σ < pT τ ∧ pC τ - pC σ ≤ pT τ - pT σ ∧ Jdep τ (pC σ).toNat (pC τ - pC σ).toNat = some 1 := h.2.2.2
theorem exI_w {σ0 σ : am_S} {oo o l : Nat} {d e : Int} (h : exI σ0 σ oo o l d e) : (o : Int) ≤ pW σ ∧ pW σ ≤ 3 * (o : Int) + 2 ∧ 0 ≤ pW σ := by
  have hb := scan_b h.hS
  have := pW_b h.hB
  omega
theorem exI_fin {σ0 σ : am_S} {oo o l : Nat} {d e : Int} (h : exI σ0 σ oo o l d e) (he : -1 ≤ e) (hf : pF σ ≠ 0) : exR σ0 σ := by
  have := exI_w h
  have := h.hT
  exact ⟨h.hB, h.hF, by omega, fun q => absurd q hf⟩
theorem exI_m {σ0 σ : am_S} {oo o l : Nat} {d e e' : Int} (h : exI σ0 σ oo o l d e) (he : e' ≤ e) : exI σ0 σ oo o l d e' := ⟨h.hB, h.hO, h.hS, h.hD, by have := h.hT; omega, h.hF⟩
theorem exI_TK {σ0 σ τ : am_S} {oo o l : Nat} {d e : Int} (h : exI σ0 σ oo o l d e) (g : TK σ τ) : exI σ0 τ oo o l d (e + (pT τ - pT σ)) := by
  refine ⟨g.1.1, by rw [TK_O g]; exact h.hO, by rw [TK_W g, scan_of (fun i _ => TK_s g i)]; exact h.hS, ?_, by have := h.hT; rw [TK_C g, TK_W g]; omega, exF_t h.hF (exF_TK g)⟩
  obtain ⟨n, h1, h2⟩ := h.hD
  refine ⟨n, ?_, by rw [TK_W g]; exact h2⟩
  rw [TK_C g, Jdep_cg (fun i _ _ => TK_c g i)]
  exact h1
theorem emS_W {σ : am_S} {k v : Int} : pW (emS σ k v) = pW σ := by unfold pW; rw [emS_o (by decide) (by decide) (by decide)]
theorem emS_O {σ : am_S} {k v : Int} : pO (emS σ k v) = pO σ := by unfold pO; rw [emS_o (by decide) (by decide) (by decide)]
theorem emS_T {σ : am_S} {k v : Int} : pT (emS σ k v) = pT σ := by unfold pT; rw [emS_o (by decide) (by decide) (by decide)]
theorem emS_F {σ : am_S} {k v : Int} : pF (emS σ k v) = pF σ := by unfold pF; rw [emS_o (by decide) (by decide) (by decide)]
theorem emS_s {σ : am_S} {k v : Int} (i : Nat) : sw (emS σ k v) i = sw σ i := by unfold sw; rw [emS_o (by decide) (by decide) (fun z => absurd z.1 (by decide))]
theorem exF_em {σ : am_S} {k v : Int} (hB : sb_ok BB SH σ) (hc : pC σ ≤ 839) (hk : k = 0 ∨ k = 1 ∧ 0 ≤ v ∧ v ≤ 8) (hv : -2147483648 ≤ v ∧ v < 2147483648) : exF σ (emS σ k v) := by
  have c := pC_b hB
  refine ⟨fun o i a b _ d => emS_o a b (fun z => d ⟨z.1, by rw [z.2]; decide⟩), fun _ _ _ => rfl, fun i q => ?_, fun i a b q => ?_, by rw [emS_C ⟨c.1, hc⟩]; omega, by rw [emS_T]; exact Int.le_refl _, NZ_of (emS_o (by decide) (by decide) (by decide)) (emS_o (by decide) (by decide) (by decide))⟩
  · rw [emS_C ⟨c.1, hc⟩] at q
    rw [emS_c ⟨by omega, by omega⟩, emS_i hv, if_neg (by omega), if_neg (by omega)]
    exact ⟨rfl, rfl⟩
  · rw [emS_C ⟨c.1, hc⟩] at b
    rw [emS_c ⟨by omega, by omega⟩, if_pos (by omega)] at q
    rw [emS_i hv, if_pos (by omega)]
    omega
theorem exI_em {σ0 σ : am_S} {oo o l : Nat} {e k v : Int} (h : exI σ0 σ oo o l 0 e) (hc : pC σ ≤ 839) (h0 : 0 ≤ pC σ0) (hk : k = 0 ∨ k = 1 ∧ 0 ≤ v ∧ v ≤ 8) (hv : -2147483648 ≤ v ∧ v < 2147483648) : exI σ0 (emS σ k v) oo o l 1 (e - 1) := by
  have c := pC_b h.hB
  have f5 := h.hF.f5
  refine ⟨emS_ok h.hB ⟨by omega, by omega⟩ hc, by rw [emS_O]; exact h.hO, by rw [emS_W, scan_of (fun i _ => emS_s i)]; exact h.hS, ?_, by have := h.hT; rw [emS_C ⟨c.1, hc⟩, emS_W, emS_T]; omega, exF_t h.hF (exF_em h.hB hc hk hv)⟩
  obtain ⟨n, h1, h2⟩ := h.hD
  refine ⟨n + 1, ?_, by rw [emS_W]; omega⟩
  rw [emS_C ⟨c.1, hc⟩, show (pC σ + 1 - pC σ0).toNat = (pC σ - pC σ0).toNat + 1 by omega]
  have e0 : Jdep (emS σ k v) (pC σ0).toNat (pC σ - pC σ0).toNat = some n := by
    rw [Jdep_cg (σ := σ) (fun i a b => by rw [emS_c ⟨by omega, by omega⟩, if_neg (by omega)])]
    exact h1
  have e1 : ((emS σ k v).1 74 ((pC σ0).toNat + (pC σ - pC σ0).toNat)).toInt < 2 := by
    have := emS_c (σ := σ) (v := v) (k := k) ⟨by omega, by omega⟩ ((pC σ0).toNat + (pC σ - pC σ0).toNat)
    rw [if_pos (by omega)] at this
    unfold cd at this
    rw [this]; omega
  simp only [Jdep, e0, if_pos e1]
theorem exF_co {st : Int} {σ τ : am_S} (h : coR st σ τ) : exF σ τ := by
  obtain ⟨j, h1, h2, h3, h4, h5, h6, h7, h8⟩ := h
  refine ⟨fun o i a b _ d => h7 o i a b (fun z => d ⟨z.1, by rcases z.2 with q | q <;> (rw [q]; decide)⟩), fun o i _ => by rw [h8], h5, fun i a b c => by have := h4 i a b; omega, by omega, ?_, ?_⟩
  · unfold pT; rw [h7 _ _ (by decide) (by decide) (by decide)]; exact Int.le_refl _
  · exact NZ_of (h7 _ _ (by decide) (by decide) (by decide)) (h7 _ _ (by decide) (by decide) (by decide))
theorem exI_co {st : Int} {σ0 σ τ : am_S} {oo o l : Nat} {e : Int} (h : exI σ0 σ oo o l 1 e) (h0 : 0 ≤ pC σ0) (g : coR st σ τ) (hB : sb_ok BB SH τ) (hs : pW τ = 0 ∨ 0 < pW τ ∧ stop st (sw τ (pW τ - 1).toNat)) : ∃ l', exI σ0 τ oo o l' 1 e ∧ (st = 0 → l' = 0 ∧ (0 < pW τ → sw τ (pW τ - 1).toNat = 6)) ∧ l' ≤ 1 ∧ pF τ = pF σ ∧ pT τ = pT σ ∧ (∀ i, τ.1 54 i = σ.1 54 i) := by
  have hF := exF_co g
  have hsw := coR_sw g
  have f5 := h.hF.f5
  obtain ⟨j, h1, h2, h3, h4, h5, h6, h7, h8⟩ := g
  have hno : ∀ i, (pW τ).toNat ≤ i → i < (pW σ).toNat → sw σ i ≠ 6 := fun i a b q => h6 i (by omega) (by omega) (Or.inl q)
  obtain ⟨l', hl⟩ := scan_no h.hS (k := (pW τ).toNat) (by omega) hno
  have hsc : scan τ (pW τ).toNat = some (o, l') := by rw [scan_of (fun i _ => hsw i)]; exact hl
  have eO : pO τ = pO σ := by unfold pO; rw [h7 _ _ (by decide) (by decide) (by decide)]
  have eT : pT τ = pT σ := by unfold pT; rw [h7 _ _ (by decide) (by decide) (by decide)]
  have eF : pF τ = pF σ := by unfold pF; rw [h7 _ _ (by decide) (by decide) (by decide)]
  have hb := scan_b hsc
  have hb0 := scan_b h.hS
  have wb := pW_b h.hB
  have hl2 : (st = 0 → l' = 0 ∧ (0 < pW τ → sw τ (pW τ - 1).toNat = 6)) ∧ l' ≤ 1 := by
    rcases hs with hs | ⟨hs1, hs2⟩
    · rw [hs] at hsc
      have := hsc
      simp only [scan, Int.toNat_zero, Option.some.injEq, Prod.mk.injEq] at this
      exact ⟨fun _ => ⟨by omega, fun q => by omega⟩, by omega⟩
    · have e1 : (pW τ).toNat = (pW τ - 1).toNat + 1 := by omega
      rw [e1] at hsc
      obtain ⟨o', l2, _, hc⟩ := scan_s hsc
      rcases hs2 with q | ⟨q1, q2⟩
      · exact ⟨fun _ => ⟨by omega, fun _ => q⟩, by omega⟩
      · exact ⟨fun q => absurd q q1, by omega⟩
  refine ⟨l', ⟨hB, by rw [eO]; exact h.hO, hsc, ?_, by have := h.hT; rw [eT]; omega, exF_t h.hF hF⟩, hl2.1, hl2.2, eF, eT, fun i => h7 _ _ (by decide) (by decide) (fun z => absurd z.1 (by decide))⟩
  obtain ⟨n, d1, d2⟩ := h.hD
  refine ⟨n - j, ?_, by omega⟩
  rw [show (pC τ - pC σ0).toNat = (pC σ - pC σ0).toNat + j by omega]
  have cb := pC_b h.hB
  refine Jdep_down ?_ j (by omega) (fun i a b => (h4 i (by omega) (by omega)).1)
  rw [Jdep_cg (fun i a b => (h5 i (by omega)).1)]
  exact d1
theorem exF_fld {σ : am_S} {k : Nat} {x : Int32} (h : k = 12 ∨ k = 41) : exF σ (am_pi σ 51 k x) ∧ pC (am_pi σ 51 k x) = pC σ ∧ pT (am_pi σ 51 k x) = pT σ ∧ pF (am_pi σ 51 k x) = pF σ := by
  have eC : pC (am_pi σ 51 k x) = pC σ := by unfold pC; rw [pi_n _ _ _ _ (by omega)]
  have eT : pT (am_pi σ 51 k x) = pT σ := by unfold pT; rw [pi_n _ _ _ _ (by omega)]
  have eF : pF (am_pi σ 51 k x) = pF σ := by unfold pF; rw [pi_n _ _ _ _ (by omega)]
  refine ⟨⟨fun o i _ _ _ d => pi_n _ _ _ _ (fun z => d ⟨z.1, by rw [z.2]; rcases h with q | q <;> (rw [q]; decide)⟩), fun _ _ _ => rfl, fun i _ => ⟨?_, ?_⟩, fun i a b => by omega, by omega, by omega, NZ_of (pi_n _ _ _ _ (by omega)) (pi_n _ _ _ _ (by omega))⟩, eC, eT, eF⟩
  · unfold cd; rw [pi_n _ _ _ _ (fun z => absurd z.1 (by decide))]
  · unfold cI; rw [pi_n _ _ _ _ (fun z => absurd z.1 (by decide))]
theorem fld_ok {σ : am_S} {k : Nat} {x : Int} (h : sb_ok BB SH σ) (hk : k = 12 ∧ (0 ≤ x ∧ x ≤ 7) ∨ k = 41 ∧ (0 ≤ x ∧ x ≤ 64)) : sb_ok BB SH (am_pi σ 51 k (Int32.ofInt x)) := by
  rcases hk with ⟨rfl, hx⟩ | ⟨rfl, hx⟩
  · exact (sI_fld (M := [(51, 12, 12 + 1)]) (σ0 := σ) (k := 12) (x := Int32.ofInt x) (ci := 12) ⟨h, sb_fr_r _ _⟩ rfl (by rw [ii_t (by omega) (by omega)]; exact hx) ⟨_, List.mem_cons_self, rfl, by decide, by decide⟩).1
  · exact (sI_fld (M := [(51, 41, 41 + 1)]) (σ0 := σ) (k := 41) (x := Int32.ofInt x) (ci := 12) ⟨h, sb_fr_r _ _⟩ rfl (by rw [ii_t (by omega) (by omega)]; exact hx) ⟨_, List.mem_cons_self, rfl, by decide, by decide⟩).1
theorem exI_o {σ0 σ : am_S} {oo o l : Nat} {d e : Int} (h : exI σ0 σ oo o l d e) (x : Nat) (hx : x ≤ 7) : exI σ0 (am_pi σ 51 12 (Int32.ofInt (x : Int))) x o l d e := by
  obtain ⟨f, eC, eT, eF⟩ := exF_fld (σ := σ) (x := Int32.ofInt (x : Int)) (k := 12) (Or.inl rfl)
  have eW : pW (am_pi σ 51 12 (Int32.ofInt (x : Int))) = pW σ := by unfold pW; rw [pi_n _ _ _ _ (by decide)]
  refine ⟨fld_ok h.hB (Or.inl ⟨rfl, by omega, by omega⟩), by unfold pO; rw [pi_s, ii_t (by omega) (by omega)], ?_, ?_, by rw [eC, eT, eW]; exact h.hT, exF_t h.hF f⟩
  · rw [eW, scan_of (σ := σ) (fun i _ => by unfold sw; rw [pi_n _ _ _ _ (fun z => absurd z.1 (by decide))])]
    exact h.hS
  · obtain ⟨n, h1, h2⟩ := h.hD
    refine ⟨n, ?_, by rw [eW]; exact h2⟩
    rw [eC, Jdep_cg (σ := σ) (fun i _ _ => by unfold cd; rw [pi_n _ _ _ _ (fun z => absurd z.1 (by decide))])]
    exact h1
/-- a sign more that waits -/
def psS (σ : am_S) (k : Int) : am_S := am_pi (am_pi σ 76 (pW σ).toNat (Int32.ofInt k)) 51 41 (Int32.ofInt (pW σ + 1))
theorem exI_ps {σ0 σ : am_S} {oo o l o' l' : Nat} {d d' e e' k : Int} (h : exI σ0 σ oo o l d e) (ho : o ≤ 7) (hk : -2147483648 ≤ k ∧ k < 2147483648) (hc : (k = 6 ∧ o' = o + 1 ∧ l' = 0 ∧ d' = d ∧ e' = e) ∨ (k ≠ 6 ∧ (k = 8 ∨ k = 9) ∧ l = 0 ∧ o' = o ∧ l' = 1 ∧ d' = d - 1 ∧ e' = e - 1) ∨ (k ≠ 6 ∧ ¬ (k = 8 ∨ k = 9) ∧ l ≤ 1 ∧ o' = o ∧ l' = l + 2 ∧ d' = d - 1 ∧ e' = e - 1)) : exI σ0 (psS σ k) oo o' l' d' e' := by
  have w := exI_w h
  have wb := pW_b h.hB
  obtain ⟨σ1, e1⟩ : ∃ σ1, σ1 = am_pi σ 76 (pW σ).toNat (Int32.ofInt k) := ⟨_, rfl⟩
  have hB1 : sb_ok BB SH σ1 := by
    rw [e1]
    exact (sI_arr (M := [(76, 0, 64)]) (σ0 := σ) (q := (0, 64)) ⟨h.hB, sb_fr_r _ _⟩ rfl (by
      have e : sb_a BB 76 (pW σ).toNat = (-2147483648, 2147483647) := sb_1 rfl
      rw [e]
      exact ⟨ii_lo _, by have := ii_hi (Int32.ofInt k); show _ ≤ (2147483647 : Int); omega⟩) ⟨_, List.mem_cons_self, rfl, Nat.zero_le _, by show (pW σ).toNat < 64; omega⟩).1
  have f1 : exF σ σ1 := by
    rw [e1]
    exact ⟨fun o i _ _ c _ => pi_n _ _ _ _ (fun z => c z.1), fun _ _ _ => rfl, fun i _ => ⟨by unfold cd; rw [pi_n _ _ _ _ (fun z => absurd z.1 (by decide))], by unfold cI; rw [pi_n _ _ _ _ (fun z => absurd z.1 (by decide))]⟩, fun i a b => by
      have : pC (am_pi σ 76 (pW σ).toNat (Int32.ofInt k)) = pC σ := by unfold pC; rw [pi_n _ _ _ _ (fun z => absurd z.1 (by decide))]
      omega, by unfold pC; rw [pi_n _ _ _ _ (fun z => absurd z.1 (by decide))]; exact Int.le_refl _, by unfold pT; rw [pi_n _ _ _ _ (fun z => absurd z.1 (by decide))]; exact Int.le_refl _, NZ_of (pi_n _ _ _ _ (fun z => absurd z.1 (by decide))) (pi_n _ _ _ _ (fun z => absurd z.1 (by decide)))⟩
  have ef : ∀ i, σ1.1 51 i = σ.1 51 i := fun i => by rw [e1]; exact pi_n _ _ _ _ (fun z => absurd z.1 (by decide))
  have es : psS σ k = am_pi σ1 51 41 (Int32.ofInt (pW σ + 1)) := by unfold psS; rw [e1]
  obtain ⟨f, eC, eT, eF⟩ := exF_fld (σ := σ1) (x := Int32.ofInt (pW σ + 1)) (k := 41) (Or.inr rfl)
  rw [← es] at f eC eT eF
  have eC1 : pC σ1 = pC σ := by unfold pC; rw [ef]
  have eT1 : pT σ1 = pT σ := by unfold pT; rw [ef]
  have eW : pW (psS σ k) = pW σ + 1 := by rw [es]; unfold pW; rw [pi_s, ii_t (by unfold pW at *; omega) (by unfold pW at *; omega)]
  have esw : ∀ i, sw (psS σ k) i = if i = (pW σ).toNat then k else sw σ i := fun i => by
    rw [es]; unfold sw
    rw [pi_n _ _ _ _ (fun z => absurd z.1 (by decide)), e1]
    by_cases q : i = (pW σ).toNat
    · rw [if_pos q, q, pi_s, ii_t hk.1 hk.2]
    · rw [if_neg q, pi_n _ _ _ _ (fun z => q z.2)]
  have ecd : ∀ i, cd (psS σ k) i = cd σ i := fun i => by
    rw [es]; unfold cd
    rw [pi_n _ _ _ _ (fun z => absurd z.1 (by decide)), e1, pi_n _ _ _ _ (fun z => absurd z.1 (by decide))]
  have hb := scan_b h.hS
  refine ⟨by rw [es]; exact fld_ok hB1 (Or.inr ⟨rfl, by omega, by omega⟩), ?_, ?_, ?_, by have := h.hT; rw [eC, eT, eW, eC1, eT1]; omega, exF_t h.hF (exF_t f1 f)⟩
  · rw [es]; unfold pO; rw [pi_n _ _ _ _ (by decide), ef]; exact h.hO
  · rw [eW, show (pW σ + 1).toNat = (pW σ).toNat + 1 by omega]
    have e0 : scan (psS σ k) (pW σ).toNat = some (o, l) := by
      rw [scan_of (σ := σ) (fun i hi => by rw [esw, if_neg (by omega)])]
      exact h.hS
    simp only [scan, e0, esw, if_pos]
    rcases hc with ⟨a, b, c, _⟩ | ⟨a, b, c, q, r, _⟩ | ⟨a, b, c, q, r, _⟩
    · rw [if_pos a, b, c]
    · rw [if_neg a, if_pos b, if_pos c, q, r]
    · rw [if_neg a, if_neg b, if_pos c, q, r]
  · obtain ⟨n, h1, h2⟩ := h.hD
    refine ⟨n, ?_, by rw [eW]; omega⟩
    rw [eC, eC1, Jdep_cg (fun i _ _ => ecd i)]
    exact h1
theorem exI_po {σ0 σ : am_S} {oo o l : Nat} {d e : Int} (h : exI σ0 σ oo o l d e) (hw : 0 < pW σ) (h6 : sw σ (pW σ - 1).toNat = 6) : ∃ l' o', o = o' + 1 ∧ exI σ0 (wtS σ) oo o' l' d e := by
  have hs := h.hS
  rw [show (pW σ).toNat = (pW σ - 1).toNat + 1 by omega] at hs
  obtain ⟨o', l', he, hc⟩ := scan_s hs
  have eo : o = o' + 1 := by omega
  obtain ⟨f, eC, eT, eF⟩ := exF_fld (σ := σ) (x := Int32.ofInt (pW σ - 1)) (k := 41) (Or.inr rfl)
  have wb := pW_b h.hB
  have eW : pW (wtS σ) = pW σ - 1 := by
    show ((am_pi σ 51 41 (Int32.ofInt (pW σ - 1))).1 51 41).toInt = _
    rw [pi_s, ii_t (by omega) (by omega)]
  have eC : pC (wtS σ) = pC σ := eC
  have eT : pT (wtS σ) = pT σ := eT
  have f : exF σ (wtS σ) := f
  refine ⟨l', o', eo, ⟨wtS_ok h.hB hw, ?_, ?_, ?_, by have := h.hT; rw [eC, eT, eW]; omega, exF_t h.hF f⟩⟩
  · unfold pO wtS; rw [pi_n _ _ _ _ (by decide)]; exact h.hO
  · rw [eW, scan_of (σ := σ) (fun i _ => by unfold sw wtS; rw [pi_n _ _ _ _ (fun z => absurd z.1 (by decide))])]
    exact he
  · obtain ⟨n, h1, h2⟩ := h.hD
    refine ⟨n, ?_, by rw [eW]; omega⟩
    rw [eC, Jdep_cg (σ := σ) (fun i _ _ => by unfold cd wtS; rw [pi_n _ _ _ _ (fun z => absurd z.1 (by decide))])]
    exact h1
theorem exI_end {σ0 σ : am_S} {oo o l : Nat} {e : Int} (h : exI σ0 σ oo o l 1 e) (h0 : 0 ≤ pC σ0) (he : 0 ≤ e) (h6 : 0 < pW σ → sw σ (pW σ - 1).toNat = 6) (hz : pF σ = 0 → oo = o ∧ o = 0) : exR σ0 σ := by
  have w := exI_w h
  have := h.hT
  refine ⟨h.hB, h.hF, by omega, fun q => ?_⟩
  obtain ⟨z1, z2⟩ := hz q
  have hs := h.hS
  have w0 : pW σ = 0 := by
    apply Classical.byContradiction
    intro hn
    have h6 := h6 (by omega)
    rw [show (pW σ).toNat = (pW σ - 1).toNat + 1 by omega] at hs
    obtain ⟨o', l', _, hc⟩ := scan_s hs
    omega
  obtain ⟨n, d1, d2⟩ := h.hD
  have hn := Jdep_le d1
  have ho := h.hO
  have en : n = 1 := by omega
  exact ⟨by omega, by omega, by omega, by rw [← en]; exact d1⟩
