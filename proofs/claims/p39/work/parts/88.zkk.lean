/-! TOLD LAWS CAN BE RECKONED. Printed from wip/am/chk/hand/jk.in. -/
theorem kvc_app {a b : List (Int × Int)} (h : kvc a) (g : kvc b) : kvc (a ++ b) := fun p hp => by
  rcases List.mem_append.mp hp with q | q
  · exact h p q
  · exact g p q
theorem kvc_1 {k v : Int} (h : k = 0 ∨ (k = 1 ∧ 0 ≤ v ∧ v ≤ 8) ∨ (2 ≤ k ∧ k ≤ 5)) : kvc [(k, v)] := fun p hp => by
  have e := List.mem_singleton.mp hp
  subst e
  exact h
theorem kvc_nil : kvc [] := fun _ h => absurd h List.not_mem_nil
theorem kvc_F (s : Bool) : ∀ (W : List Int) (c : List (Int × Int)), kvc c → kvc (syF s W c).2
  | [], c, h => h
  | w :: W, c, h => by
    simp only [syF]
    split
    · exact h
    · refine kvc_F s W _ (kvc_app h (kvc_1 (Or.inr (Or.inr ?_))))
      unfold syO
      repeat' split
      all_goals decide
theorem kvc_S {K V : Nat → Int} {q : SY} (h : kvc q.2.2.2.2) : kvc (syS K V q).2.2.2.2 := by
  obtain ⟨m, t, W, d, c⟩ := q
  have h : kvc c := h
  match m with
  | 0 =>
    simp only [syS]
    split
    · split
      · exact kvc_nil
      · exact h
    · split
      · split
        · exact kvc_nil
        · exact kvc_app h (kvc_1 (Or.inl rfl))
      · split
        · split
          · exact kvc_nil
          · exact kvc_app h (kvc_1 (Or.inr (Or.inl ⟨rfl, by omega, by omega⟩)))
        · exact kvc_nil
  | 1 =>
    simp only [syS]
    split
    · split
      · exact kvc_nil
      · exact kvc_F _ _ _ h
    · split
      · split
        · exact kvc_nil
        · exact kvc_F _ _ _ h
      · split
        · exact kvc_nil
        · exact kvc_F _ _ _ h
  | m + 2 => exact h
theorem kvc_I {K V : Nat → Int} : ∀ (n : Nat) (q : SY), kvc q.2.2.2.2 → kvc (syI K V n q).2.2.2.2
  | 0, _, h => h
  | n + 1, q, h => kvc_I n _ (kvc_S h)
theorem kvc_E {b : Nat → Int} {Z : Nat} {s : ST} : kvc (spE b Z s).2 := by
  cases s with
  | inr q => exact kvc_nil
  | inl t =>
    have hN : kvc (syE (tK b Z) (tV b Z) t).2.2.2.2 := by
      unfold syE
      generalize 900 = n
      exact kvc_I n _ kvc_nil
    rw [spE_l]
    revert hN
    generalize syE (tK b Z) (tV b Z) t = r
    intro hN
    by_cases q : r.1 = 2
    · rw [if_pos q]; exact hN
    · rw [if_neg q]; exact kvc_nil
/-- a branch's, a law's codes can be reckoned -/
def brk (br : BR) : Prop := (wfc br.1 ∧ wfc br.2.1 ∧ wfc br.2.2) ∧ kvc br.1 ∧ kvc br.2.1 ∧ kvc br.2.2
theorem brk_B {b : Nat → Int} {Z t' : Nat} {s : ST} (h : (spB b Z s).1 = .inl t') : brk (spB b Z s).2 := by
  have h : stT b Z 29 (spE b Z (stT b Z 28 (spE b Z (stT b Z 13 (spE b Z (stT b Z 27 s)).1)).1)).1 = .inl t' := h
  obtain ⟨t1, e1, _⟩ := stT_s h
  obtain ⟨t2, e2⟩ := spE_s e1
  obtain ⟨t3, e3, _⟩ := stT_s e2
  obtain ⟨t4, e4⟩ := spE_s e3
  obtain ⟨t5, e5, _⟩ := stT_s e4
  exact ⟨⟨wfc_E e5, wfc_E e3, wfc_E e1⟩, kvc_E, kvc_E, kvc_E⟩
def lwk (w : LW) : Prop := (∀ br ∈ w.1, brk br) ∧ wfc w.2 ∧ kvc w.2
theorem lwk_L {b : Nat → Int} {Z : Nat} : ∀ (n : Nat) (s : ST) (a : List BR) (t' : Nat), (∀ br ∈ a, brk br) → (spL b Z n s a).1 = .inl t' → lwk (spL b Z n s a).2 := by
  have fin : ∀ (n t : Nat) (a : List BR) (t' : Nat), tK b Z t ≠ 27 → (∀ br ∈ a, brk br) → (spL b Z n (.inl t) a).1 = .inl t' → lwk (spL b Z n (.inl t) a).2 := fun n t a t' q ha h => by
    have e1 := spL_u (b := b) (Z := Z) (n := n) (s := .inl t) (a := a) (fun t0 e => by injection e with e; subst e; exact q)
    have e2 := spL_w (b := b) (Z := Z) (n := n) (s := .inl t) (a := a) (fun t0 e => by injection e with e; subst e; exact q)
    rw [e1] at h
    rw [e2]
    have w := wfc_E h
    have k := kvc_E (b := b) (Z := Z) (s := .inl t)
    revert w k
    generalize (spE b Z (.inl t)).2 = c
    intro w k
    exact ⟨ha, w, k⟩
  intro n
  induction n with
  | zero =>
    intro s a t' ha h
    cases s with
    | inr q =>
      have h : (.inr q : ST) = .inl t' := h
      cases h
    | inl t =>
      by_cases q : tK b Z t = 27
      · simp only [spL] at h
        rw [if_pos q] at h
        cases h
      · exact fin 0 t a t' q ha h
  | succ n ih =>
    intro s a t' ha h
    cases s with
    | inr q =>
      have h : (.inr q : ST) = .inl t' := h
      cases h
    | inl t =>
      by_cases q : tK b Z t = 27
      · simp only [spL] at h ⊢
        rw [if_pos q] at h ⊢
        refine ih _ _ t' (fun br hb => ?_) h
        rcases List.mem_append.mp hb with w | w
        · exact ha br w
        · have e := List.mem_singleton.mp w
          subst e
          cases e2 : (spB b Z (.inl t)).1 with
          | inl t2 => exact brk_B e2
          | inr q2 =>
            rw [e2] at h
            cases n with
            | zero =>
              have h : (.inr q2 : ST) = .inl t' := h
              cases h
            | succ n =>
              have h : (.inr q2 : ST) = .inl t' := h
              cases h
      · exact fin (n + 1) t a t' q ha h
theorem lwk_W {b : Nat → Int} {Z t' : Nat} {s : ST} (h : (spW b Z s).1 = .inl t') : lwk (spW b Z s).2 := lwk_L 4 _ [] t' (fun _ h => absurd h List.not_mem_nil) h
/-- the people's widths -/
def wdB (d : DR) : Prop := ∀ i, i < d.2.2.1.length → 1 ≤ (d.2.2.1.getD i pr0).2.2.1 ∧ (d.2.2.1.getD i pr0).2.2.1 ≤ 9
theorem wdB_O {b : Nat → Int} {Z t : Nat} {u : UT} {d : DR} (hd : wdB d) : wdB (spO b Z t u d).2.2 := by
  by_cases k1 : tK b Z t = 20
  · rw [spO, if_pos k1]
    exact hd
  · by_cases k2 : tK b Z t = 21
    · rw [spO, if_neg k1, if_pos k2]
      by_cases k5 : d.2.2.1.length = 5
      · rw [if_pos k5]; exact hd
      · rw [if_neg k5]
        intro i hi
        have hi : i < (d.2.2.1 ++ [(spP b Z (d.2.2.1.map (fun p => p.1)) (stT b Z 21 (.inl t)) u).2.2]).length := hi
        show 1 ≤ ((d.2.2.1 ++ [(spP b Z (d.2.2.1.map (fun p => p.1)) (stT b Z 21 (.inl t)) u).2.2]).getD i pr0).2.2.1 ∧ ((d.2.2.1 ++ [(spP b Z (d.2.2.1.map (fun p => p.1)) (stT b Z 21 (.inl t)) u).2.2]).getD i pr0).2.2.1 ≤ 9
        rw [List.length_append] at hi
        have hi : i < d.2.2.1.length + 1 := hi
        by_cases w : i = d.2.2.1.length
        · subst w
          rw [List.getD_eq_getElem?_getD, List.getElem?_append_right (Nat.le_refl _), Nat.sub_self]
          exact spQ_b (by decide) _ _
        · have hl : i < d.2.2.1.length := by omega
          rw [List.getD_eq_getElem?_getD, List.getElem?_append_left hl, ← List.getD_eq_getElem?_getD]
          exact hd i hl
    · by_cases k3 : 22 ≤ tK b Z t ∧ tK b Z t ≤ 25
      · rw [spO, if_neg k1, if_neg k2, if_pos k3]
        exact hd
      · by_cases k4 : tK b Z t = 26
        · rw [spO, if_neg k1, if_neg k2, if_neg k3, if_pos k4]
          exact hd
        · rw [spO, if_neg k1, if_neg k2, if_neg k3, if_neg k4]
          exact hd
/-- all told laws can be reckoned; widths are widths -/
def drk (d : DR) : Prop := (∀ k w, d.2.2.2 k = some w → lwk w) ∧ wdB d
theorem drk_O {b : Nat → Int} {Z t t' : Nat} {u : UT} {d : DR} (hd : drk d) (h : (spO b Z t u d).1 = .inl t') : drk (spO b Z t u d).2.2 := by
  refine ⟨?_, wdB_O hd.2⟩
  replace hd := hd.1
  by_cases k1 : tK b Z t = 20
  · rw [spO, if_pos k1]
    exact hd
  · by_cases k2 : tK b Z t = 21
    · rw [spO, if_neg k1, if_pos k2]
      by_cases k5 : d.2.2.1.length = 5
      · rw [if_pos k5]; exact hd
      · rw [if_neg k5]; exact hd
    · by_cases k3 : 22 ≤ tK b Z t ∧ tK b Z t ≤ 25
      · rw [spO, if_neg k1, if_neg k2, if_pos k3] at h ⊢
        intro k w hw
        have hw : (if (k : Int) = tK b Z t - 22 then some (spW b Z (stT b Z (tK b Z t) (.inl t))).2 else d.2.2.2 k) = some w := hw
        by_cases q : (k : Int) = tK b Z t - 22
        · rw [if_pos q] at hw
          injection hw with hw
          rw [← hw]
          have h : stT b Z 4 (spW b Z (stT b Z (tK b Z t) (.inl t))).1 = .inl t' := h
          obtain ⟨t2, e2, _⟩ := stT_s h
          exact lwk_W e2
        · rw [if_neg q] at hw
          exact hd k w hw
      · by_cases k4 : tK b Z t = 26
        · rw [spO, if_neg k1, if_neg k2, if_neg k3, if_pos k4]
          exact hd
        · rw [spO, if_neg k1, if_neg k2, if_neg k3, if_neg k4]
          exact hd
theorem drk_A {b : Nat → Int} {Z : Nat} : ∀ (n t t' : Nat) (u : UT) (d : DR), drk d → (spA b Z n (.inl t) u d).1 = .inl t' → drk (spA b Z n (.inl t) u d).2.2
  | 0, t, t', u, d, hd, _ => hd
  | n + 1, t, t', u, d, hd, h => by
    by_cases q : tK b Z t = 0
    · rw [spA, if_pos q]
      exact hd
    · rw [spA, if_neg q] at h ⊢
      have ho := fun t2 => drk_O (b := b) (Z := Z) (t := t) (t' := t2) (u := u) hd
      revert h ho
      generalize (spO b Z t u d).1 = s'
      generalize (spO b Z t u d).2.1 = u'
      generalize (spO b Z t u d).2.2 = d'
      intro h ho
      cases s' with
      | inl t2 => exact drk_A n t2 t' u' d' (ho t2 rfl) h
      | inr q2 =>
        cases n with
        | zero =>
          have h : (.inr q2 : ST) = .inl t' := h
          cases h
        | succ n =>
          have h : (.inr q2 : ST) = .inl t' := h
          cases h
theorem drk_0 : drk dr0 := ⟨fun k w h => (by cases h), fun i hi => absurd hi (Nat.not_lt_zero _)⟩
