/-! BOTH: what a text without a fault leaves, what stands when both are newly made. Printed from wip/am/chk/hand/rv.in. -/
/-- a draft's first moment -/
def bg0 (d : DR) : MO := fun i => if i < 5 then (if i < dP d then Int32.ofInt (d.2.2.1.getD i pr0).2.1 else Int32.ofInt (-1)) else if i < 10 then Int32.ofInt (-2) else Int32.ofInt 0
theorem bg0_9 {τ : am_S} {d : DR} (h : bg9k τ d) : mR τ 79 = bg0 d := funext fun i => by
  unfold mR
  by_cases q : i < 51
  · rw [if_pos q]
    exact h i q
  · rw [if_neg q]
    unfold bg0
    rw [if_neg (by omega), if_neg (by omega)]
theorem bg0_ok {d : DR} (hd : dOK d) (h : ∀ i, i < dP d → 0 ≤ (d.2.2.1.getD i pr0).2.1 ∧ (d.2.2.1.getD i pr0).2.1 < d.1) : mOK d (bg0 d) := by
  obtain ⟨⟨_, h12⟩, hP, _⟩ := hd
  refine ⟨fun p hp => ⟨?_, Or.inl ?_⟩, fun c hc => Or.inl ?_, ?_⟩
  · have := h p hp
    unfold bg0
    rw [if_pos (by omega), if_pos hp, ii_t (by omega) (by omega)]
    exact this
  · unfold bg0
    rw [if_neg (by omega), if_pos (by omega)]
  · unfold bg0
    rw [if_neg (by omega), if_neg (by omega)]
  · unfold bg0
    rw [if_neg (by omega), if_neg (by omega), ii_t (by omega) (by omega)]
    omega
theorem cpv {f g : Nat → Int32} {m k : Nat} (h : k < m) : va_cpy f g 0 0 m k = f k := by
  unfold va_cpy
  rw [if_pos ⟨Nat.zero_le _, by omega⟩, Nat.sub_zero, Nat.zero_add]
theorem rcF_o {τ : am_S} {o i : Nat} (h1 : ¬ o = 35) (h2 : ¬ o = 47) (h3 : ¬ o = 32) : (rcF τ).1 o i = (beT τ).1 o i := by
  unfold rcF
  rw [pi_n _ _ _ _ (fun z => h2 z.1), pi_n _ _ _ _ (fun z => h1 z.1), pi_n _ _ _ _ (fun z => h1 z.1), bgK_n h3]
theorem beT_20 (τ : am_S) : (beT τ).1 20 0 = τ.1 3 0 ∧ (beT τ).1 20 1 = τ.1 3 1 ∧ (beT τ).1 20 2 = τ.1 3 2 := ⟨rfl, rfl, rfl⟩
theorem beT_p (τ : am_S) {k : Nat} (h : k < 5) : (beT τ).1 27 k = τ.1 10 k ∧ (beT τ).1 28 k = τ.1 11 k ∧ (beT τ).1 29 k = τ.1 12 k ∧ (beT τ).1 30 k = τ.1 13 k :=
  ⟨cpv (f := τ.1 10) h, cpv (f := τ.1 11) h, cpv (f := τ.1 12) h, cpv (f := τ.1 13) h⟩
theorem beT_l (τ : am_S) {k : Nat} (h : k < 408) : (beT τ).1 22 k = τ.1 5 k ∧ (beT τ).1 23 k = τ.1 6 k := ⟨cpv (f := τ.1 5) h, cpv (f := τ.1 6) h⟩
theorem beT_s (τ : am_S) {k : Nat} (h : k < 4) : (beT τ).1 24 k = τ.1 7 k := cpv (f := τ.1 7) h
theorem tC_new {τ : am_S} {d : DR} (h : cD8 τ d) : tC (rcF τ) d ∧ dOK d := by
  obtain ⟨⟨⟨a1, a2⟩, ⟨b1, b2⟩, ⟨q1, q2, q3⟩, l1, l2⟩, h8, hO, hK⟩ := h
  refine ⟨⟨⟨?_, ?_, ?_⟩, fun p hp => ?_, fun k hk => ?_⟩, a2, q2, hK⟩
  · rw [rcF_o (by decide) (by decide) (by decide), (beT_20 τ).1]; exact a1
  · rw [rcF_o (by decide) (by decide) (by decide), (beT_20 τ).2.1]; exact q1
  · rw [rcF_o (by decide) (by decide) (by decide), (beT_20 τ).2.2]; exact b1
  · have hp5 : p < 5 := by
      have : p < d.2.2.1.length := hp
      omega
    obtain ⟨e1, e2, e3, e4⟩ := beT_p τ hp5
    obtain ⟨f0, f1, f2, f3, f4⟩ := q3 p hp
    rw [rcF_o (by decide) (by decide) (by decide), rcF_o (by decide) (by decide) (by decide), rcF_o (by decide) (by decide) (by decide), e2, e3, e4]
    exact ⟨f2, f3, f4⟩
  · obtain ⟨a, g1, ⟨g2, g3⟩, g4⟩ := l2 k hk
    have ea : ((a.toNat : Nat) : Int) = a := by omega
    obtain ⟨c, ec⟩ : ∃ c : List (Int × Int), c = (match d.2.2.2 k with | some w => cLw a w | none => dfl k) := ⟨_, rfl⟩
    have g3 : a + (c.length : Int) ≤ lS τ := by rw [ec]; exact g3
    have g4 : ∀ i : Nat, i < c.length → τ.1 5 (a.toNat + i) = Int32.ofInt (c.getD i (0, 0)).1 ∧ τ.1 6 (a.toNat + i) = Int32.ofInt (c.getD i (0, 0)).2 := by rw [ec]; exact g4
    have kc : cKt (rcF τ) a.toNat c := ⟨by omega, fun i hi => by
      obtain ⟨e1, e2⟩ := beT_l τ (k := a.toNat + i) (by omega)
      rw [rcF_o (by decide) (by decide) (by decide), rcF_o (by decide) (by decide) (by decide), e1, e2]
      exact g4 i hi⟩
    refine ⟨a.toNat, ?_, ?_⟩
    · rw [rcF_o (by decide) (by decide) (by decide), beT_s τ hk, g1, ea]
    · rw [ec] at kc
      rw [ea]
      exact kc
theorem mC_new {τ : am_S} {d : DR} (h : cD8 τ d) : mC d (rcF τ) 31 = bg0 d := funext fun i => by
  obtain ⟨⟨_, _, ⟨q1, q2, q3⟩, _, _⟩, _⟩ := h
  have hP : dP d ≤ 5 := q2
  have c : ∀ j, j < 40 → (rcF τ).1 (31 + 1) j = if 3 ≤ j ∧ j < 3 + 5 then (beT τ).1 27 (j - 3) else if 8 ≤ j ∧ j < 8 + 5 then Int32.ofInt (-2) else Int32.ofInt 0 := fun j hj => by
    unfold rcF
    rw [pi_n _ _ _ _ (fun z => absurd z.1 (by decide)), pi_n _ _ _ _ (fun z => absurd z.1 (by decide)), pi_n _ _ _ _ (fun z => absurd z.1 (by decide))]
    exact bgK_c hj
  unfold mC oC bg0
  by_cases p1 : dP d ≤ i ∧ i < 5
  · rw [if_pos p1, if_pos p1.2, if_neg (by omega)]
  · rw [if_neg p1]
    by_cases p2 : i < 25
    · rw [if_pos p2, c _ (by omega)]
      by_cases p3 : i < 5
      · rw [if_pos p3, if_pos (by omega), if_pos (by omega), show 3 + i - 3 = i by omega, (beT_p τ p3).1]
        exact (q3 i (show i < dP d by omega)).2.1
      · rw [if_neg p3, if_neg (by omega)]
        by_cases p4 : i < 10
        · rw [if_pos p4, if_pos (by omega)]
        · rw [if_neg p4, if_neg (by omega)]
    · rw [if_neg p2, if_neg (show ¬ i < 5 by omega), if_neg (show ¬ i < 10 by omega), c 2 (by omega), c 0 (by omega), c 1 (by omega)]
      rw [if_neg (show ¬ (3 ≤ 2 ∧ 2 < 3 + 5) by omega), if_neg (show ¬ (8 ≤ 2 ∧ 2 < 8 + 5) by omega), if_neg (show ¬ (3 ≤ 0 ∧ 0 < 3 + 5) by omega), if_neg (show ¬ (8 ≤ 0 ∧ 0 < 8 + 5) by omega), if_neg (show ¬ (3 ≤ 1 ∧ 1 < 3 + 5) by omega), if_neg (show ¬ (8 ≤ 1 ∧ 1 < 8 + 5) by omega), bt_0, if_neg (show ¬ false = true by decide)]
      by_cases p3 : i < 37
      · rw [if_pos p3]
      · rw [if_neg p3]
        by_cases p4 : i < 49
        · rw [if_pos p4, c _ (by omega), if_neg (by omega), if_neg (by omega)]
        · rw [if_neg p4]
          by_cases p5 : i = 49
          · rw [if_pos p5]
          · rw [if_neg p5]
            by_cases p6 : i = 50
            · rw [if_pos p6]
            · rw [if_neg p6]
              by_cases p7 : i = 51
              · rw [if_pos p7]; decide
              · rw [if_neg p7]
theorem dO_in {b : Nat → Int} {Z : Nat} (h : (spR b Z).1 = 0) (hO : dO (spR b Z).2.2) (hn : ∀ q : Int × Int, (spA b Z 402 (.inl 0) (0, -1) dr0).1 = .inr q → q.1 ≠ 0) : ∀ i, i < dP (spR b Z).2.2 → 0 ≤ ((spR b Z).2.2.2.2.1.getD i pr0).2.1 ∧ ((spR b Z).2.2.2.2.1.getD i pr0).2.1 < (spR b Z).2.2.1 := by
  intro i hi
  refine ⟨(hO i hi).1, ?_⟩
  revert h hi
  unfold spR
  generalize spA b Z 402 (.inl 0) (0, -1) dr0 = x at *
  obtain ⟨s, u, d⟩ := x
  cases s with
  | inr q =>
    intro h _
    exact absurd h (hn q rfl)
  | inl t =>
    show (if u.1 ≠ 0 then (u.1, u.2, d) else if d.2.2.1.all (fun p => decide (p.2.1 < d.1)) = true then ((0, -1, d) : Int × Int × DR) else (6, tP b Z t, d)).1 = 0 → i < dP (if u.1 ≠ 0 then (u.1, u.2, d) else if d.2.2.1.all (fun p => decide (p.2.1 < d.1)) = true then ((0, -1, d) : Int × Int × DR) else (6, tP b Z t, d)).2.2 → ((if u.1 ≠ 0 then (u.1, u.2, d) else if d.2.2.1.all (fun p => decide (p.2.1 < d.1)) = true then ((0, -1, d) : Int × Int × DR) else (6, tP b Z t, d)).2.2.2.2.1.getD i pr0).2.1 < (if u.1 ≠ 0 then (u.1, u.2, d) else if d.2.2.1.all (fun p => decide (p.2.1 < d.1)) = true then ((0, -1, d) : Int × Int × DR) else (6, tP b Z t, d)).2.2.1
    by_cases q : u.1 ≠ 0
    · rw [if_pos q]
      intro h _
      exact absurd h q
    · rw [if_neg q]
      by_cases w : d.2.2.1.all (fun p => decide (p.2.1 < d.1)) = true
      · rw [if_pos w]
        intro _ hi
        have hi : i < d.2.2.1.length := hi
        rw [List.all_eq_true] at w
        show (d.2.2.1.getD i pr0).2.1 < d.1
        have m : d.2.2.1.getD i pr0 ∈ d.2.2.1 := by
          rw [List.getD_eq_getElem?_getD, List.getElem?_eq_getElem hi]
          exact List.getElem_mem hi
        exact of_decide_eq_true (w _ m)
      · rw [if_neg w]
        intro h _
        have h : (6 : Int) = 0 := h
        omega
/-- both go on from a draft -/
theorem RW_new {υ : am_S} {d : DR} {S nx : Nat} (hC : tC υ d) (hR : tR υ d S) (hd : dOK d) (hb : ∀ i, i < dP d → 0 ≤ (d.2.2.1.getD i pr0).2.1 ∧ (d.2.2.1.getD i pr0).2.1 < d.1) (h1 : mC d υ 31 = bg0 d) (h2 : mR υ 79 = bg0 d) (hn : nx < 40) (c1 : υ.1 35 2 = Int32.ofInt (nx : Int)) (c2 : υ.1 35 3 = Int32.ofInt 0) (c3 : υ.1 35 4 = Int32.ofInt 0) (c4 : υ.1 47 3 = Int32.ofInt 0) (r1 : υ.1 51 49 = Int32.ofInt 0) (r2 : υ.1 51 58 = Int32.ofInt 0) (r3 : ∀ i, i < 3 → υ.1 90 i = Int32.ofInt 0) : RWd υ d S nx 0 := by
  refine ⟨⟨hC, hR, hd⟩, ⟨h1.trans h2.symm, by rw [h2]; exact bg0_ok hd hb⟩, ⟨hn, by omega, c1, c2, r1⟩, fun j hj => absurd hj (Nat.not_lt_zero _), fun s hs => Or.inl ⟨r3 s hs, ?_⟩, 0, by decide, c4, r2, fun i hi => absurd hi (Nat.not_lt_zero _), by rw [c3]; decide⟩
  rw [c3]
  exact bt_0 s
/-- both newly made -/
theorem RW_ini {τ τ1 : am_S} (t : T51 τ1) (h3 : ∀ o k, o < 51 → τ.1 o k = τ1.1 o k ∧ τ.2 o k = τ1.2 o k) (n : NM τ) (l : τ.1 51 18 = Int32.ofInt 0) (u : τ.1 51 49 = Int32.ofInt 0) (s : τ.1 51 58 = Int32.ofInt 0) : RWd τ dr0 0 0 0 := by
  obtain ⟨t1, t2, t3⟩ := t
  obtain ⟨n1, ⟨n2, n3, n4⟩, n5, n6⟩ := n
  have c : ∀ o k, o < 51 → ¬ o = 32 → τ.1 o k = look Q11 o k := fun o k a b => (h3 o k a).1.trans (t1 o k a b)
  have hd : dOK dr0 := ⟨by decide, by decide, drk_0⟩
  have hP : dP dr0 = 0 := rfl
  refine RW_new (d := dr0) ⟨⟨?_, ?_, ?_⟩, fun p hp => absurd hp (Nat.not_lt_zero _), fun k hk => ?_⟩ ⟨⟨by decide, l⟩, ⟨n2, n3, n4⟩, fun p hp => absurd hp (Nat.not_lt_zero _), fun k hk => ?_⟩ hd (fun i hi => absurd hi (Nat.not_lt_zero _)) (funext fun i => ?_) (bg0_9 (fun i hi => ?_)) (by decide) ?_ ?_ ?_ ?_ u s n6
  · rw [c 20 0 (by decide) (by decide)]; decide +kernel
  · rw [c 20 1 (by decide) (by decide)]; decide +kernel
  · rw [c 20 2 (by decide) (by decide)]; decide +kernel
  · have hk4 : k = 0 ∨ k = 1 ∨ k = 2 ∨ k = 3 := by omega
    have w : ∀ (k a : Nat), look Q11 24 k = Int32.ofInt (a : Int) → a + 2 ≤ 408 → (dfl k).length = 2 → (∀ i, i < 2 → look Q11 22 (a + i) = Int32.ofInt ((dfl k).getD i (0, 0)).1 ∧ look Q11 23 (a + i) = Int32.ofInt ((dfl k).getD i (0, 0)).2) → ∃ a : Nat, τ.1 24 k = Int32.ofInt (a : Int) ∧ cKt τ a (dfl k) := fun k a e1 e2 e3 e4 => ⟨a, (c 24 k (by decide) (by decide)).trans e1, by rw [e3]; exact e2, fun i hi => by
      rw [e3] at hi
      rw [c 22 _ (by decide) (by decide), c 23 _ (by decide) (by decide)]
      exact e4 i hi⟩
    rcases hk4 with rfl | rfl | rfl | rfl
    · exact w 0 0 (by decide +kernel) (by decide) (by decide) (by decide +kernel)
    · exact w 1 4 (by decide +kernel) (by decide) (by decide) (by decide +kernel)
    · exact w 2 2 (by decide +kernel) (by decide) (by decide) (by decide +kernel)
    · exact w 3 4 (by decide +kernel) (by decide) (by decide) (by decide +kernel)
  · show τ.1 67 (4 * ((0 : Nat) : Int).toNat + k) = Int32.ofInt 0 ∧ τ.1 68 (4 * ((0 : Nat) : Int).toNat + k) = Int32.ofInt 0
    rw [show 4 * ((0 : Nat) : Int).toNat + k = k by omega]
    exact n5 k hk
  · have cc : ∀ k, k < 40 → τ.1 (31 + 1) k = Int32.ofInt (c0w k) := fun k hk => (h3 32 k (by decide)).1.trans (t2 k hk)
    have z2 : c0w 2 = 0 := by decide
    have z0 : c0w 0 = 0 := by decide
    have z1 : c0w 1 = 0 := by decide
    have zz : ∀ k, k < 40 → c0w k = if 8 ≤ k ∧ k < 13 then -2 else 0 := by decide
    unfold mC oC bg0
    rw [hP]
    by_cases p1 : 0 ≤ i ∧ i < 5
    · rw [if_pos p1, if_pos p1.2, if_neg (by omega)]
    · rw [if_neg p1, if_neg (show ¬ i < 5 by omega)]
      by_cases p2 : i < 25
      · rw [if_pos p2, cc _ (by omega), zz _ (by omega)]
        by_cases p4 : i < 10
        · rw [if_pos p4, if_pos (by omega)]
        · rw [if_neg p4, if_neg (by omega)]
      · rw [if_neg p2, if_neg (show ¬ i < 10 by omega), cc 2 (by omega), cc 0 (by omega), cc 1 (by omega), z2, z0, z1, bt_0, if_neg (show ¬ false = true by decide)]
        by_cases p3 : i < 37
        · rw [if_pos p3]
        · rw [if_neg p3]
          by_cases p4 : i < 49
          · rw [if_pos p4, cc _ (by omega), zz _ (by omega), if_neg (by omega)]
          · rw [if_neg p4]
            by_cases p5 : i = 49
            · rw [if_pos p5]
            · rw [if_neg p5]
              by_cases p6 : i = 50
              · rw [if_pos p6]
              · rw [if_neg p6]
                by_cases p7 : i = 51
                · rw [if_pos p7]; decide
                · rw [if_neg p7]
  · rw [n1 i hi]
    show (if i < 5 then Int32.ofInt (-1) else if i < 10 then Int32.ofInt (-2) else Int32.ofInt 0) = if i < 5 then (if i < 0 then Int32.ofInt (dr0.2.2.1.getD i pr0).2.1 else Int32.ofInt (-1)) else if i < 10 then Int32.ofInt (-2) else Int32.ofInt 0
    rw [if_neg (Nat.not_lt_zero i)]
  · rw [c 35 2 (by decide) (by decide)]; decide +kernel
  · rw [c 35 3 (by decide) (by decide)]; decide +kernel
  · rw [c 35 4 (by decide) (by decide)]; decide +kernel
  · rw [c 47 3 (by decide) (by decide)]; decide +kernel
/-! a half's town out of what was read -/
theorem rLo_lim {S B hi : Int} {σ : am_S} {k : Nat} {a : Option LW} (h : rLo S B hi σ k a) (hS : 0 ≤ S ∧ S ≤ 1) (hB : B ≤ 260) (hk : k < 4) (j : Jlw σ S) : rLo S (130 * S + 130) (420 * S + 420) σ k a := by
  cases a with
  | none => exact h
  | some w =>
    obtain ⟨f, ⟨f1, f2⟩, ⟨g1, g2⟩, h1, h2⟩ := h
    have t1 : (σ.1 67 (4 * S.toNat + k)).toInt = (f : Int) := by rw [g1, ii_t (by omega) (by omega)]
    have t2 : (σ.1 68 (4 * S.toNat + k)).toInt = (f : Int) + (w.1.length : Int) + 1 := by rw [g2, ii_t (by omega) (by omega)]
    have jb : ∀ i, i ≤ w.1.length → Jbr σ S (f + i) := fun i hi => j k hk (f + i) (by rw [t1]; omega) (by rw [t2]; omega)
    have jl := (jb w.1.length (Nat.le_refl _)).1.2
    refine ⟨f, ⟨f1, by omega⟩, ⟨g1, g2⟩, fun i hi => ?_, ?_⟩
    · obtain ⟨r0, ⟨r1, _⟩, r2⟩ := h1 i hi
      exact ⟨r0, ⟨r1, (jb i (by omega)).2.2.2.2.1⟩, r2⟩
    · obtain ⟨r0, ⟨r1, _⟩, r2⟩ := h2
      exact ⟨r0, ⟨r1, (jb w.1.length (Nat.le_refl _)).2.2.2.2.1⟩, r2⟩
theorem tR_rD {υ : am_S} {d : DR} (h : rD (pS υ) υ d (0, -1)) (hb : sb_ok BB SH υ) (hJ : JJ υ) (hl : pS υ = (υ.1 51 18).toInt) : tR υ d (pS υ).toNat := by
  obtain ⟨⟨⟨q1, q2, q3⟩, q4⟩, r, l⟩ := h
  have b19 : 0 ≤ (υ.1 51 19).toInt ∧ (υ.1 51 19).toInt ≤ 1 := hb.2 51 12 19 rfl
  have b31 : 0 ≤ (υ.1 51 31).toInt ∧ (υ.1 51 31).toInt ≤ 260 := hb.2 51 12 31 rfl
  have hp : pS υ = (υ.1 51 19).toInt := rfl
  have hS : 0 ≤ pS υ ∧ pS υ ≤ 1 := by rw [hp]; exact b19
  have hc : (((pS υ).toNat : Nat) : Int) = pS υ := by omega
  obtain ⟨r1, r2⟩ := r rfl
  refine ⟨⟨by omega, ?_⟩, ⟨r1, ?_, r2⟩, fun p hp => ?_, fun k hk => ?_⟩
  · rw [hc, hl]
    exact ii_of _
  · have : υ.1 61 (pS υ).toNat = Int32.ofInt (υ.1 61 (pS υ).toNat).toInt := ii_of _
    rw [this]
    exact congrArg Int32.ofInt q1
  · obtain ⟨e0, e1, e2, e3, e4⟩ := q4 rfl p hp
    exact ⟨e2, e3, e4⟩
  · rw [hc]
    have j := hJ.1.2
    rw [← hl] at j
    exact rLo_lim (l k hk) hS (show pB υ ≤ 260 from b31.2) hk j
theorem tR_keep {τ υ : am_S} {d : DR} {S : Nat} (g : tR τ d S) (hP : dP d ≤ 5) (h1 : rH (1 - (S : Int)) τ υ) (h2 : rK (1 - (S : Int)) τ υ) : tR υ d S := by
  obtain ⟨⟨a1, a2⟩, ⟨b1, b2, b3⟩, c, l⟩ := g
  refine ⟨⟨a1, ?_⟩, ⟨?_, ?_, ?_⟩, fun p hp => ?_, fun k hk => ?_⟩
  · rw [(h2 51 18 (Or.inr (Or.inl ⟨rfl, rfl⟩))).1]; exact a2
  · rw [(h2 60 S (Or.inr (Or.inr (Or.inl ⟨rfl, by omega⟩)))).1]; exact b1
  · rw [h1 61 S (Or.inl ⟨Or.inl rfl, by omega⟩)]; exact b2
  · rw [h1 66 S (Or.inl ⟨Or.inr rfl, by omega⟩)]; exact b3
  · rw [h1 63 _ (Or.inr ⟨by decide, by decide, by omega⟩), h1 64 _ (Or.inr ⟨by decide, by decide, by omega⟩), h1 65 _ (Or.inr ⟨by decide, by decide, by omega⟩)]
    exact c p hp
  · have lA : ∀ o, lwA o = true → (69 ≤ o ∧ o ≤ 73) := by
      intro o
      unfold lwA
      simp only [Bool.or_eq_true, beq_iff_eq]
      omega
    refine rLo_cg (l k hk) (Int.le_refl _) (Int.le_refl _) (h2 67 _ ?_).1 (h2 68 _ ?_).1 (fun o b ho u v => (h2 o b ?_).1) (fun i u v => ⟨?_, ?_⟩)
    · exact Or.inr (Or.inr (Or.inr (Or.inl ⟨Or.inl rfl, by omega, by omega⟩)))
    · exact Or.inr (Or.inr (Or.inr (Or.inl ⟨Or.inr rfl, by omega, by omega⟩)))
    · have := lA o ho
      exact Or.inr (Or.inr (Or.inr (Or.inr (Or.inl ⟨by omega, by omega, by omega, by omega⟩))))
    · unfold cd
      rw [(h2 74 i (Or.inr (Or.inr (Or.inr (Or.inr (Or.inr ⟨Or.inl rfl, by omega, by omega⟩)))))).1]
    · unfold cI
      rw [(h2 75 i (Or.inr (Or.inr (Or.inr (Or.inr (Or.inr ⟨Or.inr rfl, by omega, by omega⟩)))))).1]
