/-! BOTH: what a text without a fault leaves, what stands when both are newly made. Printed from wip/am/chk/hand/rv.in. -/
/-- a draft's first moment -/
def bg0 (d : DR) : MO := fun i => if i < 5 then (if i < dP d then Int32.ofInt (d.2.2.1.getD i pr0).2.1 else Int32.ofInt (-1)) else if i < 10 then Int32.ofInt (-2) else Int32.ofInt 0
theorem bg0_9 {τ : am_S} {d : DR} (h : bg9k τ d) : mR τ 79 = bg0 d := funext fun i => by
  unfold mR
  by_cases q : i < 51
  · rw [if_pos q]
    exact h i q
  · rw [if_neg q]
    unfold bg0
    rw [if_neg (by omega), if_neg (by omega)]
theorem bg0_ok {d : DR} (hd : dOK d) (h : ∀ i, i < dP d → 0 ≤ (d.2.2.1.getD i pr0).2.1 ∧ (d.2.2.1.getD i pr0).2.1 < d.1) : mOK d (bg0 d) := by
  obtain ⟨⟨_, h12⟩, hP, _⟩ := hd
  refine ⟨fun p hp => ⟨?_, Or.inl ?_⟩, fun c hc => Or.inl ?_, ?_⟩
  · have := h p hp
    unfold bg0
    rw [if_pos (by omega), if_pos hp, ii_t (by omega) (by omega)]
    exact this
  · unfold bg0
    rw [if_neg (by omega), if_pos (by omega)]
  · unfold bg0
    rw [if_neg (by omega), if_neg (by omega)]
  · unfold bg0
    rw [if_neg (by omega), if_neg (by omega), ii_t (by omega) (by omega)]
    omega
theorem cpv {f g : Nat → Int32} {m k : Nat} (h : k < m) : va_cpy f g 0 0 m k = f k := by
  unfold va_cpy
  rw [if_pos ⟨Nat.zero_le _, by omega⟩, Nat.sub_zero, Nat.zero_add]
theorem rcF_o {τ : am_S} {o i : Nat} (h1 : ¬ o = 35) (h2 : ¬ o = 47) (h3 : ¬ o = 32) : (rcF τ).1 o i = (beT τ).1 o i := by
  unfold rcF
  rw [pi_n _ _ _ _ (fun z => h2 z.1), pi_n _ _ _ _ (fun z => h1 z.1), pi_n _ _ _ _ (fun z => h1 z.1), bgK_n h3]
theorem beT_20 (τ : am_S) : (beT τ).1 20 0 = τ.1 3 0 ∧ (beT τ).1 20 1 = τ.1 3 1 ∧ (beT τ).1 20 2 = τ.1 3 2 := ⟨rfl, rfl, rfl⟩
theorem beT_p (τ : am_S) {k : Nat} (h : k < 5) : (beT τ).1 27 k = τ.1 10 k ∧ (beT τ).1 28 k = τ.1 11 k ∧ (beT τ).1 29 k = τ.1 12 k ∧ (beT τ).1 30 k = τ.1 13 k :=
  ⟨cpv (f := τ.1 10) h, cpv (f := τ.1 11) h, cpv (f := τ.1 12) h, cpv (f := τ.1 13) h⟩
theorem beT_l (τ : am_S) {k : Nat} (h : k < 408) : (beT τ).1 22 k = τ.1 5 k ∧ (beT τ).1 23 k = τ.1 6 k := ⟨cpv (f := τ.1 5) h, cpv (f := τ.1 6) h⟩
theorem beT_s (τ : am_S) {k : Nat} (h : k < 4) : (beT τ).1 24 k = τ.1 7 k := cpv (f := τ.1 7) h
theorem tC_new {τ : am_S} {d : DR} (h : cD8 τ d) : tC (rcF τ) d ∧ dOK d := by
  obtain ⟨⟨⟨a1, a2⟩, ⟨b1, b2⟩, ⟨q1, q2, q3⟩, l1, l2⟩, h8, hO, hK⟩ := h
  refine ⟨⟨⟨?_, ?_, ?_⟩, fun p hp => ?_, fun k hk => ?_⟩, a2, q2, hK⟩
  · rw [rcF_o (by decide) (by decide) (by decide), (beT_20 τ).1]; exact a1
  · rw [rcF_o (by decide) (by decide) (by decide), (beT_20 τ).2.1]; exact q1
  · rw [rcF_o (by decide) (by decide) (by decide), (beT_20 τ).2.2]; exact b1
  · have hp5 : p < 5 := by
      have : p < d.2.2.1.length := hp
      omega
    obtain ⟨e1, e2, e3, e4⟩ := beT_p τ hp5
    obtain ⟨f0, f1, f2, f3, f4⟩ := q3 p hp
    rw [rcF_o (by decide) (by decide) (by decide), rcF_o (by decide) (by decide) (by decide), rcF_o (by decide) (by decide) (by decide), e2, e3, e4]
    exact ⟨f2, f3, f4⟩
  · obtain ⟨a, g1, ⟨g2, g3⟩, g4⟩ := l2 k hk
    have ea : ((a.toNat : Nat) : Int) = a := by omega
    obtain ⟨c, ec⟩ : ∃ c : List (Int × Int), c = (match d.2.2.2 k with | some w => cLw a w | none => dfl k) := ⟨_, rfl⟩
    have g3 : a + (c.length : Int) ≤ lS τ := by rw [ec]; exact g3
    have g4 : ∀ i : Nat, i < c.length → τ.1 5 (a.toNat + i) = Int32.ofInt (c.getD i (0, 0)).1 ∧ τ.1 6 (a.toNat + i) = Int32.ofInt (c.getD i (0, 0)).2 := by rw [ec]; exact g4
    have kc : cKt (rcF τ) a.toNat c := ⟨by omega, fun i hi => by
      obtain ⟨e1, e2⟩ := beT_l τ (k := a.toNat + i) (by omega)
      rw [rcF_o (by decide) (by decide) (by decide), rcF_o (by decide) (by decide) (by decide), e1, e2]
      exact g4 i hi⟩
    refine ⟨a.toNat, ?_, ?_⟩
    · rw [rcF_o (by decide) (by decide) (by decide), beT_s τ hk, g1, ea]
    · rw [ec] at kc
      rw [ea]
      exact kc
theorem mC_new {τ : am_S} {d : DR} (h : cD8 τ d) : mC d (rcF τ) 31 = bg0 d := funext fun i => by
  obtain ⟨⟨_, _, ⟨q1, q2, q3⟩, _, _⟩, _⟩ := h
  have hP : dP d ≤ 5 := q2
  have c : ∀ j, j < 40 → (rcF τ).1 (31 + 1) j = if 3 ≤ j ∧ j < 3 + 5 then (beT τ).1 27 (j - 3) else if 8 ≤ j ∧ j < 8 + 5 then Int32.ofInt (-2) else Int32.ofInt 0 := fun j hj => by
    unfold rcF
    rw [pi_n _ _ _ _ (fun z => absurd z.1 (by decide)), pi_n _ _ _ _ (fun z => absurd z.1 (by decide)), pi_n _ _ _ _ (fun z => absurd z.1 (by decide))]
    exact bgK_c hj
  unfold mC oC bg0
  by_cases p1 : dP d ≤ i ∧ i < 5
  · rw [if_pos p1, if_pos p1.2, if_neg (by omega)]
  · rw [if_neg p1]
    by_cases p2 : i < 25
    · rw [if_pos p2, c _ (by omega)]
      by_cases p3 : i < 5
      · rw [if_pos p3, if_pos (by omega), if_pos (by omega), show 3 + i - 3 = i by omega, (beT_p τ p3).1]
        exact (q3 i (show i < dP d by omega)).2.1
      · rw [if_neg p3, if_neg (by omega)]
        by_cases p4 : i < 10
        · rw [if_pos p4, if_pos (by omega)]
        · rw [if_neg p4, if_neg (by omega)]
    · rw [if_neg p2, if_neg (show ¬ i < 5 by omega), if_neg (show ¬ i < 10 by omega), c 2 (by omega), c 0 (by omega), c 1 (by omega)]
      rw [if_neg (show ¬ (3 ≤ 2 ∧ 2 < 3 + 5) by omega), if_neg (show ¬ (8 ≤ 2 ∧ 2 < 8 + 5) by omega), if_neg (show ¬ (3 ≤ 0 ∧ 0 < 3 + 5) by omega), if_neg (show ¬ (8 ≤ 0 ∧ 0 < 8 + 5) by omega), if_neg (show ¬ (3 ≤ 1 ∧ 1 < 3 + 5) by omega), if_neg (show ¬ (8 ≤ 1 ∧ 1 < 8 + 5) by omega), bt_0, if_neg (show ¬ false = true by decide)]
      by_cases p3 : i < 37
      · rw [if_pos p3]
      · rw [if_neg p3]
        by_cases p4 : i < 49
        · rw [if_pos p4, c _ (by omega), if_neg (by omega), if_neg (by omega)]
        · rw [if_neg p4]
          by_cases p5 : i = 49
          · rw [if_pos p5]
          · rw [if_neg p5]
            by_cases p6 : i = 50
            · rw [if_pos p6]
            · rw [if_neg p6]
              by_cases p7 : i = 51
              · rw [if_pos p7]; decide
              · rw [if_neg p7]
theorem dO_in {b : Nat → Int} {Z : Nat} (h : (spR b Z).1 = 0) (hO : dO (spR b Z).2.2) (hn : ∀ q : Int × Int, (spA b Z 402 (.inl 0) (0, -1) dr0).1 = .inr q → q.1 ≠ 0) : ∀ i, i < dP (spR b Z).2.2 → 0 ≤ ((spR b Z).2.2.2.2.1.getD i pr0).2.1 ∧ ((spR b Z).2.2.2.2.1.getD i pr0).2.1 < (spR b Z).2.2.1 := by
  intro i hi
  refine ⟨(hO i hi).1, ?_⟩
  revert h hi
  unfold spR
  generalize spA b Z 402 (.inl 0) (0, -1) dr0 = x at *
  obtain ⟨s, u, d⟩ := x
  cases s with
  | inr q =>
    intro h _
    exact absurd h (hn q rfl)
  | inl t =>
    show (if u.1 ≠ 0 then (u.1, u.2, d) else if d.2.2.1.all (fun p => decide (p.2.1 < d.1)) = true then ((0, -1, d) : Int × Int × DR) else (6, tP b Z t, d)).1 = 0 → i < dP (if u.1 ≠ 0 then (u.1, u.2, d) else if d.2.2.1.all (fun p => decide (p.2.1 < d.1)) = true then ((0, -1, d) : Int × Int × DR) else (6, tP b Z t, d)).2.2 → ((if u.1 ≠ 0 then (u.1, u.2, d) else if d.2.2.1.all (fun p => decide (p.2.1 < d.1)) = true then ((0, -1, d) : Int × Int × DR) else (6, tP b Z t, d)).2.2.2.2.1.getD i pr0).2.1 < (if u.1 ≠ 0 then (u.1, u.2, d) else if d.2.2.1.all (fun p => decide (p.2.1 < d.1)) = true then ((0, -1, d) : Int × Int × DR) else (6, tP b Z t, d)).2.2.1
    by_cases q : u.1 ≠ 0
    · rw [if_pos q]
      intro h _
      exact absurd h q
    · rw [if_neg q]
      by_cases w : d.2.2.1.all (fun p => decide (p.2.1 < d.1)) = true
      · rw [if_pos w]
        intro _ hi
        have hi : i < d.2.2.1.length := hi
        rw [List.all_eq_true] at w
        show (d.2.2.1.getD i pr0).2.1 < d.1
        have m : d.2.2.1.getD i pr0 ∈ d.2.2.1 := by
          rw [List.getD_eq_getElem?_getD, List.getElem?_eq_getElem hi]
          exact List.getElem_mem hi
        exact of_decide_eq_true (w _ m)
      · rw [if_neg w]
        intro h _
        have h : (6 : Int) = 0 := h
        omega
/-- both go on from a draft -/
theorem RW_new {υ : am_S} {d : DR} {S nx : Nat} (hC : tC υ d) (hR : tR υ d S) (hd : dOK d) (hb : ∀ i, i < dP d → 0 ≤ (d.2.2.1.getD i pr0).2.1 ∧ (d.2.2.1.getD i pr0).2.1 < d.1) (h1 : mC d υ 31 = bg0 d) (h2 : mR υ 79 = bg0 d) (hn : nx < 40) (c1 : υ.1 35 2 = Int32.ofInt (nx : Int)) (c2 : υ.1 35 3 = Int32.ofInt 0) (c3 : υ.1 35 4 = Int32.ofInt 0) (c4 : υ.1 47 3 = Int32.ofInt 0) (r1 : υ.1 51 49 = Int32.ofInt 0) (r2 : υ.1 51 58 = Int32.ofInt 0) (r3 : ∀ i, i < 3 → υ.1 90 i = Int32.ofInt 0) : RWd υ d S nx 0 := by
  refine ⟨⟨hC, hR, hd⟩, ⟨h1.trans h2.symm, by rw [h2]; exact bg0_ok hd hb⟩, ⟨hn, by omega, c1, c2, r1⟩, fun j hj => absurd hj (Nat.not_lt_zero _), fun s hs => Or.inl ⟨r3 s hs, ?_⟩, 0, by decide, c4, r2, fun i hi => absurd hi (Nat.not_lt_zero _), by rw [c3]; decide⟩
  rw [c3]
  exact bt_0 s
/-- both newly made -/
theorem RW_ini {τ τ1 : am_S} (t : T51 τ1) (h3 : ∀ o k, o < 51 → τ.1 o k = τ1.1 o k ∧ τ.2 o k = τ1.2 o k) (n : NM τ) (l : τ.1 51 18 = Int32.ofInt 0) (u : τ.1 51 49 = Int32.ofInt 0) (s : τ.1 51 58 = Int32.ofInt 0) : RWd τ dr0 0 0 0 := by
  obtain ⟨t1, t2, t3⟩ := t
  obtain ⟨n1, ⟨n2, n3, n4⟩, n5, n6⟩ := n
  have c : ∀ o k, o < 51 → ¬ o = 32 → τ.1 o k = look Q11 o k := fun o k a b => (h3 o k a).1.trans (t1 o k a b)
  have hd : dOK dr0 := ⟨by decide, by decide, drk_0⟩
  have hP : dP dr0 = 0 := rfl
  refine RW_new (d := dr0) ⟨⟨?_, ?_, ?_⟩, fun p hp => absurd hp (Nat.not_lt_zero _), fun k hk => ?_⟩ ⟨⟨by decide, l⟩, ⟨n2, n3, n4⟩, fun p hp => absurd hp (Nat.not_lt_zero _), fun k hk => ?_⟩ hd (fun i hi => absurd hi (Nat.not_lt_zero _)) (funext fun i => ?_) (bg0_9 (fun i hi => ?_)) (by decide) ?_ ?_ ?_ ?_ u s n6
  · rw [c 20 0 (by decide) (by decide)]; decide +kernel
  · rw [c 20 1 (by decide) (by decide)]; decide +kernel
  · rw [c 20 2 (by decide) (by decide)]; decide +kernel
  · have hk4 : k = 0 ∨ k = 1 ∨ k = 2 ∨ k = 3 := by omega
    have w : ∀ (k a : Nat), look Q11 24 k = Int32.ofInt (a : Int) → a + 2 ≤ 408 → (dfl k).length = 2 → (∀ i, i < 2 → look Q11 22 (a + i) = Int32.ofInt ((dfl k).getD i (0, 0)).1 ∧ look Q11 23 (a + i) = Int32.ofInt ((dfl k).getD i (0, 0)).2) → ∃ a : Nat, τ.1 24 k = Int32.ofInt (a : Int) ∧ cKt τ a (dfl k) := fun k a e1 e2 e3 e4 => ⟨a, (c 24 k (by decide) (by decide)).trans e1, by rw [e3]; exact e2, fun i hi => by
      rw [e3] at hi
      rw [c 22 _ (by decide) (by decide), c 23 _ (by decide) (by decide)]
      exact e4 i hi⟩
    rcases hk4 with rfl | rfl | rfl | rfl
    · exact w 0 0 (by decide +kernel) (by decide) (by decide) (by decide +kernel)
    · exact w 1 4 (by decide +kernel) (by decide) (by decide) (by decide +kernel)
    · exact w 2 2 (by decide +kernel) (by decide) (by decide) (by decide +kernel)
    · exact w 3 4 (by decide +kernel) (by decide) (by decide) (by decide +kernel)
  · show τ.1 67 (4 * ((0 : Nat) : Int).toNat + k) = Int32.ofInt 0 ∧ τ.1 68 (4 * ((0 : Nat) : Int).toNat + k) = Int32.ofInt 0
    rw [show 4 * ((0 : Nat) : Int).toNat + k = k by omega]
    exact n5 k hk
  · have cc : ∀ k, k < 40 → τ.1 (31 + 1) k = Int32.ofInt (c0w k) := fun k hk => (h3 32 k (by decide)).1.trans (t2 k hk)
    have z2 : c0w 2 = 0 := by decide
    have z0 : c0w 0 = 0 := by decide
    have z1 : c0w 1 = 0 := by decide
    have zz : ∀ k, k < 40 → c0w k = if 8 ≤ k ∧ k < 13 then -2 else 0 := by decide
    unfold mC oC bg0
    rw [hP]
    by_cases p1 : 0 ≤ i ∧ i < 5
    · rw [if_pos p1, if_pos p1.2, if_neg (by omega)]
    · rw [if_neg p1, if_neg (show ¬ i < 5 by omega)]
      by_cases p2 : i < 25
      · rw [if_pos p2, cc _ (by omega), zz _ (by omega)]
        by_cases p4 : i < 10
        · rw [if_pos p4, if_pos (by omega)]
        · rw [if_neg p4, if_neg (by omega)]
      · rw [if_neg p2, if_neg (show ¬ i < 10 by omega), cc 2 (by omega), cc 0 (by omega), cc 1 (by omega), z2, z0, z1, bt_0, if_neg (show ¬ false = true by decide)]
        by_cases p3 : i < 37
        · rw [if_pos p3]
        · rw [if_neg p3]
          by_cases p4 : i < 49
          · rw [if_pos p4, cc _ (by omega), zz _ (by omega), if_neg (by omega)]
          · rw [if_neg p4]
            by_cases p5 : i = 49
            · rw [if_pos p5]
            · rw [if_neg p5]
              by_cases p6 : i = 50
              · rw [if_pos p6]
              · rw [if_neg p6]
                by_cases p7 : i = 51
                · rw [if_pos p7]; decide
                · rw [if_neg p7]
  · rw [n1 i hi]
    show (if i < 5 then Int32.ofInt (-1) else if i < 10 then Int32.ofInt (-2) else Int32.ofInt 0) = if i < 5 then (if i < 0 then Int32.ofInt (dr0.2.2.1.getD i pr0).2.1 else Int32.ofInt (-1)) else if i < 10 then Int32.ofInt (-2) else Int32.ofInt 0
    rw [if_neg (Nat.not_lt_zero i)]
  · rw [c 35 2 (by decide) (by decide)]; decide +kernel
  · rw [c 35 3 (by decide) (by decide)]; decide +kernel
  · rw [c 35 4 (by decide) (by decide)]; decide +kernel
  · rw [c 47 3 (by decide) (by decide)]; decide +kernel
/-! a half's town out of what was read -/
theorem rLo_lim {S B hi : Int} {σ : am_S} {k : Nat} {a : Option LW} (h : rLo S B hi σ k a) (hS : 0 ≤ S ∧ S ≤ 1) (hB : B ≤ 260) (hk : k < 4) (j : Jlw σ S) : rLo S (130 * S + 130) (420 * S + 420) σ k a := by
  cases a with
  | none => exact h
  | some w =>
    obtain ⟨f, ⟨f1, f2⟩, ⟨g1, g2⟩, h1, h2⟩ := h
    have t1 : (σ.1 67 (4 * S.toNat + k)).toInt = (f : Int) := by rw [g1, ii_t (by omega) (by omega)]
    have t2 : (σ.1 68 (4 * S.toNat + k)).toInt = (f : Int) + (w.1.length : Int) + 1 := by rw [g2, ii_t (by omega) (by omega)]
    have jb : ∀ i, i ≤ w.1.length → Jbr σ S (f + i) := fun i hi => j k hk (f + i) (by rw [t1]; omega) (by rw [t2]; omega)
    have jl := (jb w.1.length (Nat.le_refl _)).1.2
    refine ⟨f, ⟨f1, by omega⟩, ⟨g1, g2⟩, fun i hi => ?_, ?_⟩
    · obtain ⟨r0, ⟨r1, _⟩, r2⟩ := h1 i hi
      exact ⟨r0, ⟨r1, (jb i (by omega)).2.2.2.2.1⟩, r2⟩
    · obtain ⟨r0, ⟨r1, _⟩, r2⟩ := h2
      exact ⟨r0, ⟨r1, (jb w.1.length (Nat.le_refl _)).2.2.2.2.1⟩, r2⟩
theorem tR_rD {υ : am_S} {d : DR} (h : rD (pS υ) υ d (0, -1)) (hb : sb_ok BB SH υ) (hJ : JJ υ) (hl : pS υ = (υ.1 51 18).toInt) : tR υ d (pS υ).toNat := by
  obtain ⟨⟨⟨q1, q2, q3⟩, q4⟩, r, l⟩ := h
  have b19 : 0 ≤ (υ.1 51 19).toInt ∧ (υ.1 51 19).toInt ≤ 1 := hb.2 51 12 19 rfl
  have b31 : 0 ≤ (υ.1 51 31).toInt ∧ (υ.1 51 31).toInt ≤ 260 := hb.2 51 12 31 rfl
  have hp : pS υ = (υ.1 51 19).toInt := rfl
  have hS : 0 ≤ pS υ ∧ pS υ ≤ 1 := by rw [hp]; exact b19
  have hc : (((pS υ).toNat : Nat) : Int) = pS υ := by omega
  obtain ⟨r1, r2⟩ := r rfl
  refine ⟨⟨by omega, ?_⟩, ⟨r1, ?_, r2⟩, fun p hp => ?_, fun k hk => ?_⟩
  · rw [hc, hl]
    exact ii_of _
  · have : υ.1 61 (pS υ).toNat = Int32.ofInt (υ.1 61 (pS υ).toNat).toInt := ii_of _
    rw [this]
    exact congrArg Int32.ofInt q1
  · obtain ⟨e0, e1, e2, e3, e4⟩ := q4 rfl p hp
    exact ⟨e2, e3, e4⟩
  · rw [hc]
    have j := hJ.1.2
    rw [← hl] at j
    exact rLo_lim (l k hk) hS (show pB υ ≤ 260 from b31.2) hk j
theorem tR_keep {τ υ : am_S} {d : DR} {S : Nat} (g : tR τ d S) (hP : dP d ≤ 5) (h1 : rH (1 - (S : Int)) τ υ) (h2 : rK (1 - (S : Int)) τ υ) : tR υ d S := by
  obtain ⟨⟨a1, a2⟩, ⟨b1, b2, b3⟩, c, l⟩ := g
  refine ⟨⟨a1, ?_⟩, ⟨?_, ?_, ?_⟩, fun p hp => ?_, fun k hk => ?_⟩
  · rw [(h2 51 18 (Or.inr (Or.inl ⟨rfl, rfl⟩))).1]; exact a2
  · rw [(h2 60 S (Or.inr (Or.inr (Or.inl ⟨rfl, by omega⟩)))).1]; exact b1
  · rw [h1 61 S (Or.inl ⟨Or.inl rfl, by omega⟩)]; exact b2
  · rw [h1 66 S (Or.inl ⟨Or.inr rfl, by omega⟩)]; exact b3
  · rw [h1 63 _ (Or.inr ⟨by decide, by decide, by omega⟩), h1 64 _ (Or.inr ⟨by decide, by decide, by omega⟩), h1 65 _ (Or.inr ⟨by decide, by decide, by omega⟩)]
    exact c p hp
  · have lA : ∀ o, lwA o = true → (69 ≤ o ∧ o ≤ 73) := by
      intro o
      unfold lwA
      simp only [Bool.or_eq_true, beq_iff_eq]
      omega
    refine rLo_cg (l k hk) (Int.le_refl _) (Int.le_refl _) (h2 67 _ ?_).1 (h2 68 _ ?_).1 (fun o b ho u v => (h2 o b ?_).1) (fun i u v => ⟨?_, ?_⟩)
    · exact Or.inr (Or.inr (Or.inr (Or.inl ⟨Or.inl rfl, by omega, by omega⟩)))
    · exact Or.inr (Or.inr (Or.inr (Or.inl ⟨Or.inr rfl, by omega, by omega⟩)))
    · have := lA o ho
      exact Or.inr (Or.inr (Or.inr (Or.inr (Or.inl ⟨by omega, by omega, by omega, by omega⟩))))
    · unfold cd
      rw [(h2 74 i (Or.inr (Or.inr (Or.inr (Or.inr (Or.inr ⟨Or.inl rfl, by omega, by omega⟩)))))).1]
    · unfold cI
      rw [(h2 75 i (Or.inr (Or.inr (Or.inr (Or.inr (Or.inr ⟨Or.inr rfl, by omega, by omega⟩)))))).1]
/-! BOTH: what is done, side by side. Printed from wip/am/chk/hand/rq.in. -/
/-! bounds -/
theorem sb_full {o k : Nat} (h : BB.1 o = [(-2147483648, 2147483647)]) (x : Int32) : (sb_a BB o k).1 ≤ x.toInt ∧ x.toInt ≤ (sb_a BB o k).2 := by
  rw [sb_1 h]
  exact ⟨ii_lo x, by have := ii_hi x; show x.toInt ≤ 2147483647; omega⟩
theorem sb36 {x j : Nat} : sb_a BB 36 (40 * x + j) = sb_a BB 32 j := by
  show ((BB.1 32)[(40 * x + j) % (BB.1 32).length]?).getD (-2147483648, 2147483647) = ((BB.1 32)[j % (BB.1 32).length]?).getD (-2147483648, 2147483647)
  have l : (BB.1 32).length = 40 := by decide
  rw [l, show (40 * x + j) % 40 = j % 40 by omega]
def rmM : sa_M := [(36, 0, 1600), (35, 2, 4)]
theorem rmC_I {σ : am_S} {nx un : Nat} (h : sb_ok BB SH σ) (hn : nx < 40) (hu : un ≤ 40) : sI BB SH rmM σ (rmC nx un σ) := by
  unfold rmC
  have i : sI BB SH rmM σ (cpX 32 36 0 (40 * nx) 40 σ) := by
    refine cpX_I (q := (0, 40)) (q2 := (0, 1600)) ⟨h, sb_fr_r _ _⟩ rfl rfl (by decide) (fun j hj => ?_) ⟨_, List.mem_cons_self, rfl, Nat.zero_le _, by show 40 * nx + 40 ≤ 1600; omega⟩
    rw [sb36, Nat.zero_add]
    exact ⟨Int.le_refl _, Int.le_refl _⟩
  refine sI_fld (ci := 7) (sI_fld (ci := 7) i rfl ?_ ⟨_, List.mem_cons_of_mem _ List.mem_cons_self, rfl, Nat.le_refl _, by decide⟩) rfl ?_ ⟨_, List.mem_cons_of_mem _ List.mem_cons_self, rfl, by decide, by decide⟩
  · rw [ii_t (by split <;> omega) (by split <;> omega)]
    show (0 : Int) ≤ _ ∧ _ ≤ (39 : Int)
    split <;> omega
  · rw [ii_t (by split <;> omega) (by split <;> omega)]
    show (-2147483648 : Int) ≤ _ ∧ _ ≤ (2147483647 : Int)
    split <;> omega
theorem sb32_a : ∀ k, k < 40 → (3 ≤ k ∧ k < 8) → sb_a BB 32 k = (-2147483648, 2147483646) := by decide
theorem sb32_b : ∀ k, k < 40 → ¬ (3 ≤ k ∧ k < 8) → sb_a BB 32 k = (-2147483648, 2147483647) := by decide
theorem sb_cfm {ρ τ : am_S} {d : DR} (h : sb_ok BB SH ρ) (ht : cfm d 31 ρ τ) (hd : dOK d) (hM : mOK d (mC d τ 31)) : sb_ok BB SH τ := by
  have hP := hd.2.1
  have hR := hd.1
  refine ⟨fun o q k hs hk => ?_, fun o ci k hs => ?_⟩
  · by_cases c1 : o = 25
    · rw [c1]; exact sb_full rfl _
    · by_cases c2 : o = 26
      · rw [c2]; exact sb_full rfl _
      · by_cases c3 : o = 31 + 1
        · subst c3
          have hq : q = (0, 40) := by
            have : SH 32 = .inr (0, 40) := rfl
            have hs : SH 32 = .inr q := hs
            rw [this] at hs
            injection hs with hs
            exact hs.symm
          rw [hq] at hk
          have hk : k < 40 := hk
          by_cases w : 3 ≤ k ∧ k < 8
          · rw [sb32_a k hk w]
            by_cases w2 : k < dP d + 3
            · have hb := (hM.1 (k - 3) (by omega)).1
              have e : mC d τ 31 (k - 3) = τ.1 (31 + 1) k := by
                have := mC_p (d := d) (σ := τ) (o := 31) (k := k - 3) (by omega)
                rw [show 3 + (k - 3) = k by omega] at this
                exact this.symm
              rw [e] at hb
              exact ⟨by show (-2147483648 : Int) ≤ _; omega, by show _ ≤ (2147483646 : Int); omega⟩
            · rw [ht.2 k (by omega) w.2]
              have := h.1 (31 + 1) (0, 40) k rfl hk
              have e2 : sb_a BB (31 + 1) k = (-2147483648, 2147483646) := sb32_a k hk w
              rw [e2] at this
              exact this
          · rw [sb32_b k hk w]
            exact ⟨ii_lo _, by have := ii_hi (τ.1 (31 + 1) k); show _ ≤ (2147483647 : Int); omega⟩
        · rw [ht.1.1 o k c1 c2 c3]
          exact h.1 o q k hs hk
  · have c1 : ¬ o = 25 := fun z => by rw [z] at hs; cases hs
    have c2 : ¬ o = 26 := fun z => by rw [z] at hs; cases hs
    have c3 : ¬ o = 31 + 1 := fun z => by rw [z] at hs; cases hs
    rw [ht.1.1 o k c1 c2 c3]
    exact h.2 o ci k hs
theorem by_b {ρ τ : am_S} (h : sb_ok BB SH ρ) (g : τ.1 51 44 = ρ.1 51 44 ∨ τ.1 51 44 = Int32.ofInt 0 ∨ τ.1 51 44 = Int32.ofInt 1) : (BB.2 51 44).1 ≤ (τ.1 51 44).toInt ∧ (τ.1 51 44).toInt ≤ (BB.2 51 44).2 := by
  rcases g with g | g | g
  · rw [g]; exact h.2 51 12 44 rfl
  · rw [g]; decide
  · rw [g]; decide
theorem sb_rfb {ρ τ : am_S} (h : sb_ok BB SH ρ) (ht : rfb ρ τ) : sb_ok BB SH τ := by
  refine ⟨fun o q k hs hk => ?_, fun o ci k hs => ?_⟩
  · by_cases c1 : o = 77
    · rw [c1]; exact sb_full rfl _
    · by_cases c2 : o = 78
      · rw [c2]; exact sb_full rfl _
      · by_cases c3 : o = 80
        · rw [c3]; exact sb_full rfl _
        · by_cases c4 : o = 82
          · rw [c4]; exact sb_full rfl _
          · rw [ht.1.1 o k c1 c2 c3 c4 (fun z => by rw [z.1] at hs; cases hs)]
            exact h.1 o q k hs hk
  · have c1 : ¬ o = 77 := fun z => by rw [z] at hs; cases hs
    have c2 : ¬ o = 78 := fun z => by rw [z] at hs; cases hs
    have c3 : ¬ o = 80 := fun z => by rw [z] at hs; cases hs
    have c4 : ¬ o = 82 := fun z => by rw [z] at hs; cases hs
    by_cases c5 : o = 51 ∧ k = 44
    · obtain ⟨rfl, rfl⟩ := c5
      exact by_b h ht.2
    · rw [ht.1.1 o k c1 c2 c3 c4 c5]
      exact h.2 o ci k hs
theorem rfb_m {σ τ : am_S} (h : rfm σ τ) : rfb σ τ := ⟨⟨fun o i a b c _ e => h.1.1 o i a b c e, h.1.2⟩, h.2⟩
def rcM : sa_M := [(79, 0, 51), (81, 0, 2040), (51, 49, 50)]
theorem rcR_I {σ : am_S} {u : Nat} (h : sb_ok BB SH σ) (hu : u ≤ 40) : sI BB SH rcM σ (rcR u σ) := by
  have h39 := u39_b hu
  have f81 : ∀ {c sp dp m : Nat} {τ : am_S} {q : Nat × Nat}, sI BB SH rcM σ τ → SH c = .inr q → sp + m ≤ q.2 → dp + m ≤ 2040 → BB.1 c = [(-2147483648, 2147483647)] → sI BB SH rcM σ (cpX c 81 sp dp m τ) := fun i hc h1 h2 hb =>
    cpX_I (q2 := (0, 2040)) i hc rfl h1 (fun j _ => by rw [sb_1 hb, sb_1 (show BB.1 81 = [(-2147483648, 2147483647)] from rfl)]; exact ⟨Int.le_refl _, Int.le_refl _⟩) ⟨_, List.mem_cons_of_mem _ List.mem_cons_self, rfl, Nat.zero_le _, h2⟩
  have i0 : sI BB SH rcM σ (shR u σ) := by
    unfold shR
    split
    · exact sI_fld (ci := 12) (f81 (q := (0, 2040)) ⟨h, sb_fr_r _ _⟩ rfl (by decide) (by decide) rfl) rfl ⟨by decide, by decide⟩ ⟨(51, 49, 50), by decide, rfl, by decide, by decide⟩
    · exact ⟨h, sb_fr_r _ _⟩
  unfold rcR
  refine cpX_I (q := (0, 51)) (q2 := (0, 51)) (sI_fld (ci := 12) (f81 (q := (0, 51)) i0 rfl (by decide) (by omega) rfl) rfl ?_ ⟨(51, 49, 50), by decide, rfl, by decide, by decide⟩) rfl rfl (by decide) (fun j _ => ?_) ⟨_, List.mem_cons_self, rfl, Nat.zero_le _, by decide⟩
  · rw [ii_t (by omega) (by omega)]
    show (0 : Int) ≤ _ ∧ _ ≤ (40 : Int)
    omega
  · rw [sb_1 (show BB.1 80 = [(-2147483648, 2147483647)] from rfl), sb_1 (show BB.1 79 = [(-2147483648, 2147483647)] from rfl)]
    exact ⟨Int.le_refl _, Int.le_refl _⟩
def cyM : sa_M := [(80, 0, 51), (51, 47, 48), (51, 48, 49)]
theorem cpyR_I {σ : am_S} {S : Nat} (h : sb_ok BB SH σ) : sI BB SH cyM σ (cpyR S σ) := by
  unfold cpyR
  refine sI_fld (ci := 12) (sI_fld (ci := 12) (cpX_I (q := (0, 51)) (q2 := (0, 51)) ⟨h, sb_fr_r _ _⟩ rfl rfl (by decide) (fun j _ => ?_) ⟨_, List.mem_cons_self, rfl, Nat.zero_le _, by decide⟩) rfl ?_ ⟨(51, 47, 48), by decide, rfl, by decide, by decide⟩) rfl ⟨by decide, by decide⟩ ⟨(51, 48, 49), by decide, rfl, by decide, by decide⟩
  · rw [sb_1 (show BB.1 80 = [(-2147483648, 2147483647)] from rfl), sb_1 (show BB.1 79 = [(-2147483648, 2147483647)] from rfl)]
    exact ⟨Int.le_refl _, Int.le_refl _⟩
  · exact ⟨ii_lo _, by have := ii_hi (σ.1 66 S); show _ ≤ (2147483647 : Int); omega⟩
theorem JJ_o {σ τ : am_S} (hJ : JJ σ) (h : ∀ o i, (o = 60 ∨ (67 ≤ o ∧ o ≤ 75)) ∨ (o = 51 ∧ i = 18) → τ.1 o i = σ.1 o i) : JJ τ :=
  JJ_of (fun o ho => funext fun i => h o i (by simp only [Jsup, List.mem_cons, List.not_mem_nil, or_false] at ho; omega)) (h 51 18 (by omega)) hJ
theorem rcR_n {u : Nat} {σ : am_S} {o i : Nat} (h1 : ¬ o = 79) (h2 : ¬ o = 81) (h3 : ¬ (o = 51 ∧ i = 49)) : (rcR u σ).1 o i = σ.1 o i := by
  unfold rcR shR
  rw [cpX_n (fun z => h1 z.1), pi_n _ _ _ _ h3, cpX_n (fun z => h2 z.1)]
  split
  · rw [pi_n _ _ _ _ h3, cpX_n (fun z => h2 z.1)]
  · rfl
theorem rcR_2 {u : Nat} {σ : am_S} : (rcR u σ).2 = σ.2 := by
  unfold rcR shR
  split <;> rfl
theorem rmC_r {nx un : Nat} {σ : am_S} {o i : Nat} (h1 : ¬ o = 36) (h2 : ¬ (o = 35 ∧ (i = 2 ∨ i = 3))) : (rmC nx un σ).1 o i = σ.1 o i := by
  unfold rmC
  rw [pi_n _ _ _ _ (fun z => h2 ⟨z.1, by omega⟩), pi_n _ _ _ _ (fun z => h2 ⟨z.1, by omega⟩), cpX_n (fun z => h1 z.1)]
/-! SEND -/
def seM (m : MO) (p : Nat) (g : Int) : MO := if g = -2 then um (um m (5 + p) (Int32.ofInt g)) (10 + p) (Int32.ofInt 0) else um m (5 + p) (Int32.ofInt g)
theorem seC_r {nx un p : Nat} {g : Int} {σ : am_S} {o i : Nat} (h : ¬ o = 32) : (seC nx un p g σ).1 o i = (rmC nx un σ).1 o i := by
  unfold seC
  split
  · rw [pi_n _ _ _ _ (fun z => h z.1), pi_n _ _ _ _ (fun z => h z.1)]
  · rw [pi_n _ _ _ _ (fun z => h z.1)]
theorem seC_2 {nx un p : Nat} {g : Int} {σ : am_S} : (seC nx un p g σ).2 = σ.2 := by
  unfold seC
  split <;> rfl
theorem seC_m {d : DR} {nx un p : Nat} {g : Int} {σ : am_S} (hP : dP d ≤ 5) (hp : p < dP d) : mC d (seC nx un p g σ) 31 = seM (mC d σ 31) p g := by
  unfold seC seM
  by_cases q : g = -2
  · rw [if_pos q, if_pos q]
    have e := mC_u (d := d) (σ := am_pi (rmC nx un σ) 32 (8 + p) (Int32.ofInt g)) (o := 31) (k := 10 + p) (j := 13 + p) (v := Int32.ofInt 0) hP (by omega)
    have f := mC_u (d := d) (σ := rmC nx un σ) (o := 31) (k := 5 + p) (j := 8 + p) (v := Int32.ofInt g) hP (by omega)
    have e : mC d (am_pi (am_pi (rmC nx un σ) 32 (8 + p) (Int32.ofInt g)) 32 (13 + p) (Int32.ofInt 0)) 31 = _ := e
    have f : mC d (am_pi (rmC nx un σ) 32 (8 + p) (Int32.ofInt g)) 31 = _ := f
    rw [e, f, rmC_m]
  · rw [if_neg q, if_neg q]
    have f := mC_u (d := d) (σ := rmC nx un σ) (o := 31) (k := 5 + p) (j := 8 + p) (v := Int32.ofInt g) hP (by omega)
    have f : mC d (am_pi (rmC nx un σ) 32 (8 + p) (Int32.ofInt g)) 31 = _ := f
    rw [f, rmC_m]
theorem sgR_n {S p : Nat} {g : Int} {σ : am_S} {o i : Nat} (h : ¬ o = 80) (h2 : ¬ (o = 51 ∧ (i = 47 ∨ i = 48))) : (sgR S p g σ).1 o i = σ.1 o i := by
  unfold sgR
  split
  · rw [pi_n _ _ _ _ (fun z => h z.1), pi_n _ _ _ _ (fun z => h z.1), cpyR_n (fun z => h z.1) (fun z => h2 ⟨z.1, Or.inl z.2⟩) (fun z => h2 ⟨z.1, Or.inr z.2⟩)]
  · rw [pi_n _ _ _ _ (fun z => h z.1), cpyR_n (fun z => h z.1) (fun z => h2 ⟨z.1, Or.inl z.2⟩) (fun z => h2 ⟨z.1, Or.inr z.2⟩)]
theorem sgR_2 {S p : Nat} {g : Int} {σ : am_S} : (sgR S p g σ).2 = σ.2 := by
  unfold sgR
  split <;> rfl
theorem sgR_m {S p : Nat} {g : Int} {σ : am_S} (hp : p < 5) : mR (sgR S p g σ) 80 = seM (mR σ 79) p g := by
  unfold sgR seM
  by_cases q : g = -2
  · rw [if_pos q, if_pos q, mR_u (by omega), mR_u (by omega), cpyR_m]
  · rw [if_neg q, if_neg q, mR_u (by omega), cpyR_m]
theorem seM_ok {d : DR} {m : MO} {p : Nat} {c : Int} (hM : mOK d m) (hd : dOK d) (hp : p < dP d) (hc : c = -1 ∨ (0 ≤ c ∧ c < d.1)) : mOK d (seM m p (gS m p c)) := by
  have hR := hd.1
  have hP := hd.2.1
  unfold seM gS
  by_cases q : c = -1 ∨ Int32.ofInt c = m p
  · rw [if_pos q, if_pos rfl]
    exact mOK_mu (mOK_g hM hd hp (Or.inl rfl)) hd (by omega)
  · have q1 : ¬ c = -1 := fun z => q (Or.inl z)
    rw [if_neg q, if_neg (show ¬ c = -2 by omega)]
    refine mOK_g hM hd hp (Or.inr ⟨?_, fun z => q (Or.inr z)⟩)
    rw [ii_t (by omega) (by omega)]
    omega
theorem sgR_sb {S p : Nat} {g : Int} {σ : am_S} (h : sb_ok BB SH σ) : sb_ok BB SH (sgR S p g σ) := by
  have c := (cpyR_I (S := S) h).1
  have e : rfm (cpyR S σ) (sgR S p g σ) := by
    unfold sgR
    split
    · exact rfm_t rfm_pi rfm_pi
    · exact rfm_pi
  exact sb_rfb c (rfb_m e)
theorem seC_sb {d : DR} {nx un p : Nat} {g : Int} {σ : am_S} (h : sb_ok BB SH σ) (hn : nx < 40) (hu : un ≤ 40) (hd : dOK d) (hp : p < dP d) (hM : mOK d (seM (mC d σ 31) p g)) : sb_ok BB SH (seC nx un p g σ) := by
  have c := (rmC_I h hn hu).1
  have e : cfm d 31 (rmC nx un σ) (seC nx un p g σ) := by
    unfold seC
    split
    · exact cfm_t (cfm_pi (o := 31) (by omega)) (cfm_pi (o := 31) (by omega))
    · exact cfm_pi (o := 31) (by omega)
  exact sb_cfm c e hd (by rw [seC_m hd.2.1 hp]; exact hM)
/-- something was done on both sides -/
theorem RW_both {σ τ υ ρ : am_S} {d : DR} {S nx un : Nat} (g : RWd σ d S nx un) (h1 : ∀ o i, ¬ o = 25 → ¬ o = 26 → ¬ o = 32 → τ.1 o i = (rmC nx un σ).1 o i) (h2 : ∀ o i, ¬ o = 77 → ¬ o = 78 → ¬ o = 80 → ¬ o = 82 → ¬ (o = 51 ∧ (i = 44 ∨ i = 47 ∨ i = 48)) → ρ.1 o i = τ.1 o i) (h3 : υ = rcR un ρ) (hm : mC d τ 31 = mR ρ 80) (hk : mOK d (mR ρ 80)) : RWd υ d S (if nx + 1 < 40 then nx + 1 else 0) (if un + 1 < 40 then un + 1 else 40) := by
  subst h3
  have all : ∀ o i, (¬ o = 25 ∧ ¬ o = 26 ∧ ¬ o = 32 ∧ ¬ o = 36 ∧ ¬ (o = 35 ∧ (i = 2 ∨ i = 3))) → (¬ o = 77 ∧ ¬ o = 78 ∧ ¬ o = 79 ∧ ¬ o = 80 ∧ ¬ o = 81 ∧ ¬ o = 82 ∧ ¬ (o = 51 ∧ (i = 44 ∨ i = 47 ∨ i = 48 ∨ i = 49))) → (rcR un ρ).1 o i = σ.1 o i := fun o i a b => by
    rw [rcR_n b.2.2.1 b.2.2.2.2.1 (fun z => b.2.2.2.2.2.2 ⟨z.1, by omega⟩), h2 o i b.1 b.2.1 b.2.2.2.1 b.2.2.2.2.2.1 (fun z => b.2.2.2.2.2.2 ⟨z.1, by omega⟩), h1 o i a.1 a.2.1 a.2.2.1, rmC_r a.2.2.2.1 a.2.2.2.2]
  refine RW_do (σR := ρ) g (fun o i q => all o i (by omega) (by omega)) (fun o i q => all o i (by omega) (by omega)) (fun o i q => all o i (by omega) (by omega)) (fun o i q => ?_) (fun o i _ => rfl) (fun i => ?_) (fun i => ?_) ?_ hk
  · rw [rcR_n (by omega) (by omega) (by omega), h2 o i (by omega) (by omega) (by omega) (by omega) (by omega), h1 o i (by omega) (by omega) (by omega)]
  · rw [h2 79 i (by decide) (by decide) (by decide) (by decide) (fun z => absurd z.1 (by decide)), h1 79 i (by decide) (by decide) (by decide), rmC_r (by decide) (fun z => absurd z.1 (by decide))]
  · rw [h2 81 i (by decide) (by decide) (by decide) (by decide) (fun z => absurd z.1 (by decide)), h1 81 i (by decide) (by decide) (by decide), rmC_r (by decide) (fun z => absurd z.1 (by decide))]
  · rw [← hm, ← aC_0, ← aC_0]
    refine aC_cg (fun i _ => ?_)
    rw [rcR_n (by decide) (by decide) (fun z => absurd z.1 (by decide)), h2 32 _ (by decide) (by decide) (by decide) (by decide) (fun z => absurd z.1 (by decide))]
/-- the reference stands as it stood -/
theorem kR_of {σ τ : am_S} {d : DR} {S nx un : Nat} (g : RWd σ d S nx un) (h : ∀ o i, 51 ≤ o → τ.1 o i = σ.1 o i) : kR τ d S un ∧ mR τ 79 = mR σ 79 := by
  have e : mR τ 79 = mR σ 79 := mR_cg (fun i => h 79 i (by decide))
  refine ⟨⟨tR_fr g.1.2.1 (fun o i q => h o i (by omega)), g.1.2.2, by rw [e]; exact g.2.1.2, g.2.2.1.2.1, ?_⟩, e⟩
  rw [h 51 49 (by decide)]
  exact g.2.2.1.2.2.2.2
theorem kC_of {σ : am_S} {d : DR} {S nx un : Nat} (g : RWd σ d S nx un) : kC σ d nx un := ⟨g.1.1, g.1.2.2, by rw [g.2.1.1]; exact g.2.1.2, g.2.2.1.1, g.2.2.1.2.1, g.2.2.1.2.2.1, g.2.2.1.2.2.2.1⟩
/-! MEND -/
theorem meC_r {nx un r : Nat} {σ : am_S} {o i : Nat} (h : ¬ o = 32) : (meC nx un r σ).1 o i = (rmC nx un σ).1 o i := pi_n _ _ _ _ (fun z => h z.1)
theorem meC_m {d : DR} {nx un r : Nat} {σ : am_S} (hP : dP d ≤ 5) (hr : r < 12) : mC d (meC nx un r σ) 31 = um (mC d σ 31) (25 + r) (Int32.ofInt 0) := by
  have e := mC_an (d := d) (σ := rmC nx un σ) (o := 31) (r := r) hP hr
  rw [rmC_m] at e
  exact e
def mgR (S r : Nat) (σ : am_S) : am_S := am_pi (cpyR S σ) 80 (25 + r) (Int32.ofInt 0)
theorem mgR_n {S r : Nat} {σ : am_S} {o i : Nat} (h : ¬ o = 80) (h2 : ¬ (o = 51 ∧ (i = 47 ∨ i = 48))) : (mgR S r σ).1 o i = σ.1 o i := by
  unfold mgR
  rw [pi_n _ _ _ _ (fun z => h z.1), cpyR_n (fun z => h z.1) (fun z => h2 ⟨z.1, Or.inl z.2⟩) (fun z => h2 ⟨z.1, Or.inr z.2⟩)]
theorem mgR_m {S r : Nat} {σ : am_S} (hr : r < 12) : mR (mgR S r σ) 80 = um (mR σ 79) (25 + r) (Int32.ofInt 0) := by
  unfold mgR
  rw [mR_u (by omega), cpyR_m]
/-! UNDO -/
theorem bbC_r {nx un : Nat} {σ : am_S} {o i : Nat} (h1 : ¬ o = 32) (h2 : ¬ (o = 35 ∧ (i = 2 ∨ i = 3))) : (bbC nx un σ).1 o i = σ.1 o i := by
  unfold bbC
  rw [cpX_n (fun z => h1 z.1), pi_n _ _ _ _ (fun z => h2 ⟨z.1, by omega⟩), pi_n _ _ _ _ (fun z => h2 ⟨z.1, by omega⟩)]
theorem udR_r {u : Nat} {σ : am_S} {o i : Nat} (h1 : ¬ o = 79) (h2 : ¬ (o = 51 ∧ i = 49)) : (udR u σ).1 o i = σ.1 o i := by
  unfold udR
  rw [cpX_n (fun z => h1 z.1), pi_n _ _ _ _ h2]
def bbM : sa_M := [(32, 0, 40), (35, 2, 4)]
theorem bbC_I {σ : am_S} {nx un : Nat} (h : sb_ok BB SH σ) (hn : nx < 40) (hu : un ≤ 40) : sI BB SH bbM σ (bbC nx un σ) := by
  unfold bbC
  have hx : (if 0 < nx then nx - 1 else 39) < 40 := by split <;> omega
  revert hx
  generalize (if 0 < nx then nx - 1 else 39) = x
  intro hx
  refine cpX_I (q := (0, 1600)) (q2 := (0, 40)) (sI_fld (ci := 7) (sI_fld (ci := 7) ⟨h, sb_fr_r _ _⟩ rfl ?_ ⟨_, List.mem_cons_of_mem _ List.mem_cons_self, rfl, Nat.le_refl _, by decide⟩) rfl ?_ ⟨_, List.mem_cons_of_mem _ List.mem_cons_self, rfl, by decide, by decide⟩) rfl rfl (by show 40 * x + 40 ≤ 1600; omega) (fun j hj => ?_) ⟨_, List.mem_cons_self, rfl, Nat.zero_le _, by decide⟩
  · rw [ii_t (by omega) (by omega)]
    show (0 : Int) ≤ _ ∧ _ ≤ (39 : Int)
    omega
  · rw [ii_t (by omega) (by omega)]
    show (-2147483648 : Int) ≤ _ ∧ _ ≤ (2147483647 : Int)
    omega
  · rw [sb36, Nat.zero_add]
    exact ⟨Int.le_refl _, Int.le_refl _⟩
def udM : sa_M := [(79, 0, 51), (51, 49, 50)]
theorem udR_I {σ : am_S} {u : Nat} (h : sb_ok BB SH σ) (h0 : 0 < u) (hu : u ≤ 40) : sI BB SH udM σ (udR u σ) := by
  unfold udR
  refine cpX_I (q := (0, 2040)) (q2 := (0, 51)) (sI_fld (ci := 12) ⟨h, sb_fr_r _ _⟩ rfl ?_ ⟨_, List.mem_cons_of_mem _ List.mem_cons_self, rfl, Nat.le_refl _, by decide⟩) rfl rfl (by show 51 * (u - 1) + 51 ≤ 2040; omega) (fun j _ => ?_) ⟨_, List.mem_cons_self, rfl, Nat.zero_le _, by decide⟩
  · rw [ii_t (by omega) (by omega)]
    show (0 : Int) ≤ _ ∧ _ ≤ (40 : Int)
    omega
  · rw [sb_1 (show BB.1 81 = [(-2147483648, 2147483647)] from rfl), sb_1 (show BB.1 79 = [(-2147483648, 2147483647)] from rfl)]
    exact ⟨Int.le_refl _, Int.le_refl _⟩
theorem cpX_e {A B : am_S} {c d sp dp m i : Nat} (h1 : ∀ i, A.1 c i = B.1 c i) (h2 : ∀ i, A.1 d i = B.1 d i) : (cpX c d sp dp m A).1 d i = (cpX c d sp dp m B).1 d i := by
  show (if d = d then va_cpy (A.1 c) (A.1 d) sp dp m i else A.1 d i) = (if d = d then va_cpy (B.1 c) (B.1 d) sp dp m i else B.1 d i)
  rw [show A.1 c = B.1 c from funext h1, show A.1 d = B.1 d from funext h2]
/-! TELL, HOLD, RESTORE: bounds -/
def tdM : sa_M := [(48, 0, 20), (49, 0, 20), (47, 3, 4)]
def teM : sa_M := [(88, 0, 20), (89, 0, 20), (51, 58, 59)]
theorem tdC_sb {σ : am_S} {s : Nat} {c a : Int32} (h : sb_ok BB SH σ) (hs : s < 20) (ha : 0 ≤ a.toInt ∧ a.toInt ≤ 1) : sI BB SH tdM σ (tdC s c a σ) := by
  unfold tdC
  refine sI_fld (ci := 6) (sI_arr (q := (2, 20)) (sI_arr (q := (0, 20)) ⟨h, sb_fr_r _ _⟩ rfl (sb_full rfl _) ⟨_, List.mem_cons_self, rfl, Nat.zero_le _, hs⟩) rfl ?_ ⟨_, List.mem_cons_of_mem _ List.mem_cons_self, rfl, Nat.zero_le _, hs⟩) rfl ?_ ⟨(47, 3, 4), by decide, rfl, by decide, by decide⟩
  · rw [sb_1 (q := (0, 1)) rfl]; exact ha
  · rw [ii_t (by omega) (by omega)]; exact ⟨by show (-2147483648 : Int) ≤ _; omega, by show _ ≤ (2147483647 : Int); omega⟩
theorem tdR_sb {σ : am_S} {s : Nat} {c a : Int32} (h : sb_ok BB SH σ) (hs : s < 20) (ha : 0 ≤ a.toInt ∧ a.toInt ≤ 1) : sI BB SH teM σ (tdR s c a σ) := by
  unfold tdR
  refine sI_fld (ci := 12) (sI_arr (q := (2, 20)) (sI_arr (q := (0, 20)) ⟨h, sb_fr_r _ _⟩ rfl (sb_full rfl _) ⟨_, List.mem_cons_self, rfl, Nat.zero_le _, hs⟩) rfl ?_ ⟨_, List.mem_cons_of_mem _ List.mem_cons_self, rfl, Nat.zero_le _, hs⟩) rfl ?_ ⟨(51, 58, 59), by decide, rfl, by decide, by decide⟩
  · rw [sb_1 (q := (0, 1)) rfl]; exact ha
  · rw [ii_t (by omega) (by omega)]; exact ⟨by show (0 : Int) ≤ _; omega, by show _ ≤ (20 : Int); omega⟩
theorem tdC_r {σ : am_S} {s : Nat} {c a : Int32} {o i : Nat} (h1 : ¬ o = 48) (h2 : ¬ o = 49) (h3 : ¬ (o = 47 ∧ i = 3)) : (tdC s c a σ).1 o i = σ.1 o i := by
  unfold tdC
  rw [pi_n _ _ _ _ h3, pi_n _ _ _ _ (fun z => h2 z.1), pi_n _ _ _ _ (fun z => h1 z.1)]
theorem tdR_r {σ : am_S} {s : Nat} {c a : Int32} {o i : Nat} (h1 : ¬ o = 88) (h2 : ¬ o = 89) (h3 : ¬ (o = 51 ∧ i = 58)) : (tdR s c a σ).1 o i = σ.1 o i := by
  unfold tdR
  rw [pi_n _ _ _ _ h3, pi_n _ _ _ _ (fun z => h2 z.1), pi_n _ _ _ _ (fun z => h1 z.1)]
theorem nar01 {a : Int32} (h : 0 ≤ a.toInt ∧ a.toInt ≤ 1) : vp_nar .boolean a = a := by
  have e : a = Int32.ofInt a.toInt := ii_of _
  have q : a.toInt = 0 ∨ a.toInt = 1 := by omega
  rcases q with q | q
  · rw [e, q]; exact nb_0
  · rw [e, q]; exact nb_1
def hcM : sa_M := [(37, 0, 120), (35, 4, 5)]
def hrM : sa_M := [(91, 0, 153), (90, 0, 3)]
theorem sb37 {x j : Nat} : sb_a BB 37 (40 * x + j) = sb_a BB 32 j := by
  show ((BB.1 32)[(40 * x + j) % (BB.1 32).length]?).getD (-2147483648, 2147483647) = ((BB.1 32)[j % (BB.1 32).length]?).getD (-2147483648, 2147483647)
  have l : (BB.1 32).length = 40 := by decide
  rw [l, show (40 * x + j) % 40 = j % 40 by omega]
theorem hoC_sb {σ : am_S} {s : Nat} (h : sb_ok BB SH σ) (hs : s < 3) : sI BB SH hcM σ (hoC s σ) := by
  unfold hoC
  refine sI_fld (ci := 7) (cpX_I (q := (0, 40)) (q2 := (0, 120)) ⟨h, sb_fr_r _ _⟩ rfl rfl (by decide) (fun j _ => ?_) ⟨_, List.mem_cons_self, rfl, Nat.zero_le _, by show 40 * s + 40 ≤ 120; omega⟩) rfl ⟨ii_lo _, ?_⟩ ⟨(35, 4, 5), by decide, rfl, by decide, by decide⟩
  · rw [sb37, Nat.zero_add]
    exact ⟨Int.le_refl _, Int.le_refl _⟩
  · have := ii_hi (σ.1 35 4 ||| (Int32.ofInt 1 <<< (Int32.ofInt (s : Int) &&& 31)))
    show _ ≤ (2147483647 : Int)
    omega
theorem hoR_sb {σ : am_S} {s : Nat} (h : sb_ok BB SH σ) (hs : s < 3) : sI BB SH hrM σ (hoR s σ) := by
  unfold hoR
  refine cpX_I (q := (0, 51)) (q2 := (0, 153)) (sI_arr (q := (2, 3)) ⟨h, sb_fr_r _ _⟩ rfl (by rw [sb_1 (q := (0, 1)) rfl]; exact ⟨by decide, by decide⟩) ⟨(90, 0, 3), by decide, rfl, Nat.zero_le _, hs⟩) rfl rfl (by decide) (fun j _ => ?_) ⟨_, List.mem_cons_self, rfl, Nat.zero_le _, by show 51 * s + 51 ≤ 153; omega⟩
  rw [sb_1 (show BB.1 79 = [(-2147483648, 2147483647)] from rfl), sb_1 (show BB.1 91 = [(-2147483648, 2147483647)] from rfl)]
  exact ⟨Int.le_refl _, Int.le_refl _⟩
theorem hoC_r {σ : am_S} {s o i : Nat} (h1 : ¬ o = 37) (h2 : ¬ (o = 35 ∧ i = 4)) : (hoC s σ).1 o i = σ.1 o i := by
  unfold hoC
  rw [pi_n _ _ _ _ h2, cpX_n (fun z => h1 z.1)]
theorem hoR_r {σ : am_S} {s o i : Nat} (h1 : ¬ o = 91) (h2 : ¬ o = 90) : (hoR s σ).1 o i = σ.1 o i := by
  unfold hoR
  rw [cpX_n (fun z => h1 z.1), pi_n _ _ _ _ (fun z => h2 z.1)]
def gcM : sa_M := [(32, 0, 40), (35, 3, 4)]
def grM : sa_M := [(79, 0, 51), (51, 49, 50)]
theorem reC_sb {σ : am_S} {s : Nat} (h : sb_ok BB SH σ) (hs : s < 3) : sI BB SH gcM σ (reC s σ) := by
  unfold reC
  refine sI_fld (ci := 7) (cpX_I (q := (0, 120)) (q2 := (0, 40)) ⟨h, sb_fr_r _ _⟩ rfl rfl (by show 40 * s + 40 ≤ 120; omega) (fun j _ => ?_) ⟨_, List.mem_cons_self, rfl, Nat.zero_le _, by decide⟩) rfl ⟨by decide, by decide⟩ ⟨(35, 3, 4), by decide, rfl, by decide, by decide⟩
  rw [sb37, Nat.zero_add]
  exact ⟨Int.le_refl _, Int.le_refl _⟩
theorem reR_sb {σ : am_S} {s : Nat} (h : sb_ok BB SH σ) (hs : s < 3) : sI BB SH grM σ (reR s σ) := by
  unfold reR
  refine sI_fld (ci := 12) (cpX_I (q := (0, 153)) (q2 := (0, 51)) ⟨h, sb_fr_r _ _⟩ rfl rfl (by show 51 * s + 51 ≤ 153; omega) (fun j _ => ?_) ⟨_, List.mem_cons_self, rfl, Nat.zero_le _, by decide⟩) rfl ⟨by decide, by decide⟩ ⟨(51, 49, 50), by decide, rfl, by decide, by decide⟩
  rw [sb_1 (show BB.1 91 = [(-2147483648, 2147483647)] from rfl), sb_1 (show BB.1 79 = [(-2147483648, 2147483647)] from rfl)]
  exact ⟨Int.le_refl _, Int.le_refl _⟩
theorem reC_r {σ : am_S} {s o i : Nat} (h1 : ¬ o = 32) (h2 : ¬ (o = 35 ∧ i = 3)) : (reC s σ).1 o i = σ.1 o i := by
  unfold reC
  rw [pi_n _ _ _ _ h2, cpX_n (fun z => h1 z.1)]
theorem reR_r {σ : am_S} {s o i : Nat} (h1 : ¬ o = 79) (h2 : ¬ (o = 51 ∧ i = 49)) : (reR s σ).1 o i = σ.1 o i := by
  unfold reR
  rw [pi_n _ _ _ _ h2, cpX_n (fun z => h1 z.1)]
/-! QUERIES, both: what they may change. Printed from wip/am/chk/hand/q0.in. -/
def cfqB (o i : Nat) : Prop := o = 25 ∨ o = 26 ∨ o = 34 ∨ o = 40 ∨ o = 41 ∨ o = 42 ∨ o = 45 ∨ o = 46 ∨ o = 50 ∨ (o = 39 ∧ (i = 3 ∨ i = 4))
def cfq (σ τ : am_S) : Prop := ((∀ o i, ¬ cfqB o i → τ.1 o i = σ.1 o i) ∧ τ.2 = σ.2) ∧ (sb_ok BB SH σ → sb_ok BB SH τ)
def rfqB (o i : Nat) : Prop := (76 ≤ o ∧ o ≤ 78) ∨ o = 80 ∨ (82 ≤ o ∧ o ≤ 87) ∨ (o = 51 ∧ (i = 44 ∨ i = 47 ∨ i = 48 ∨ i = 54))
def rfq (σ τ : am_S) : Prop := ((∀ o i, ¬ rfqB o i → τ.1 o i = σ.1 o i) ∧ τ.2 = σ.2) ∧ (sb_ok BB SH σ → sb_ok BB SH τ)
theorem RWq_n {o i : Nat} (h : RWq o i) : ¬ cfqB o i ∧ ¬ rfqB o i := by
  unfold RWq RWo RWf at h
  simp only [List.mem_cons, List.not_mem_nil, or_false, Prod.mk.injEq] at h
  unfold cfqB rfqB
  omega
theorem RWd_q {σ τ : am_S} {d : DR} {S nx un : Nat} (g : RWd σ d S nx un) (h : cfq σ τ) : RWd τ d S nx un := RWd_cg g (fun o i q => h.1.1 o i (RWq_n q).1)
theorem RWd_f {σ τ : am_S} {d : DR} {S nx un : Nat} (g : RWd σ d S nx un) (h : rfq σ τ) : RWd τ d S nx un := RWd_cg g (fun o i q => h.1.1 o i (RWq_n q).2)
/-! LOOKING AHEAD: the other row of the class; WAITS, CROWD, DRIEST, both. Printed from wip/am/chk/hand/q4.in (mkq4.py). -/
/-- who comes first by b, among the first -/
def agB (b : Nat → Nat → Bool) : Nat → Nat
  | 0 => 0
  | k + 1 => if b k (agB b k) = true then k else agB b k
theorem agB_s (b : Nat → Nat → Bool) (k : Nat) : agB b (k + 1) = if b k (agB b k) = true then k else agB b k := rfl
theorem agB_1 (b : Nat → Nat → Bool) : agB b 1 = 0 := by
  rw [agB_s]
  split <;> rfl
theorem agB_lt (b : Nat → Nat → Bool) : ∀ k, 0 < k → agB b k < k
  | 0, h => absurd h (Nat.lt_irrefl _)
  | 1, _ => by rw [agB_1]; exact Nat.zero_lt_one
  | k + 2, _ => by
    have ih := agB_lt b (k + 1) (Nat.succ_pos _)
    rw [agB_s]
    split <;> omega
def rbB (b : Nat → Nat → Bool) (k : Nat) : Int32 := if k = 0 then Int32.ofInt (-2) else Int32.ofInt ((agB b k : Nat) : Int)
theorem rbB_0 (b : Nat → Nat → Bool) : rbB b 0 = Int32.ofInt (-2) := if_pos rfl
theorem rbB_p (b : Nat → Nat → Bool) {k : Nat} (h : 0 < k) : rbB b k = Int32.ofInt ((agB b k : Nat) : Int) := if_neg (by omega)
/-- how many -/
def cnN (f : Nat → Bool) : Nat → Nat
  | 0 => 0
  | k + 1 => if f k = true then cnN f k + 1 else cnN f k
theorem cnN_s {f : Nat → Bool} {k : Nat} : cnN f (k + 1) = if f k = true then cnN f k + 1 else cnN f k := rfl
theorem cnN_le {f : Nat → Bool} : ∀ k, cnN f k ≤ k
  | 0 => Nat.le_refl _
  | k + 1 => by
    have := cnN_le (f := f) k
    rw [cnN_s]
    split <;> omega
/-! HOW MANY BITS, both. Printed from wip/am/chk/hand/q9b.in (mkq10.py). -/
def usr (x : Int32) (n : Int) : Int32 := (x.toUInt32 >>> ((Int32.ofInt n).toUInt32 &&& Int32.toUInt32 31)).toInt32
def jb1 (x : Int32) : Int32 := x - (usr x 1 &&& Int32.ofInt 1431655765)
def jb2 (x : Int32) : Int32 := (x &&& Int32.ofInt 858993459) + (usr x 2 &&& Int32.ofInt 858993459)
def jb3 (x : Int32) : Int32 := (x + usr x 4) &&& Int32.ofInt 252645135
def jb4 (x : Int32) : Int32 := x + usr x 8
def jb5 (x : Int32) : Int32 := x + usr x 16
def jbc (x : Int32) : Int32 := jb5 (jb4 (jb3 (jb2 (jb1 x)))) &&& Int32.ofInt 63
theorem jb_tab : ∀ a, a < 64 → ∀ b, b < 64 → jbc (Int32.ofNat (64 * a + b)) = Int32.ofInt ((cnN (bitAt (Int32.ofNat (64 * a + b))) 12 : Nat) : Int) := by decide +kernel
theorem jb_ok {x : Int32} (h : ∀ j, 12 ≤ j → j < 32 → bitAt x j = false) : jbc x = Int32.ofInt ((cnN (bitAt x) 12 : Nat) : Int) := by
  have hx : x.toBitVec.toNat < 2 ^ 12 := Nat.lt_pow_two_of_testBit _ (fun i hi => by
    by_cases q : i < 32
    · exact h i hi q
    · exact BitVec.getLsbD_of_ge x.toBitVec i (by omega))
  have hx : x.toBitVec.toNat < 4096 := hx
  have e : x = Int32.ofNat x.toBitVec.toNat := Int32.toBitVec_inj.mp (BitVec.eq_of_toNat_eq (by
    show x.toBitVec.toNat = (BitVec.ofNat 32 x.toBitVec.toNat).toNat
    rw [BitVec.toNat_ofNat, Nat.mod_eq_of_lt x.toBitVec.isLt]))
  have t := jb_tab (x.toBitVec.toNat / 64) (by omega) (x.toBitVec.toNat % 64) (by omega)
  rw [show 64 * (x.toBitVec.toNat / 64) + x.toBitVec.toNat % 64 = x.toBitVec.toNat by omega, ← e] at t
  exact t
def sJ6_bitCount_0f7a4 : am_Sp := fun as n σ post => n = 92 ∧ ∃ x : Int32, as = [.int x] ∧ post (some (.int (jbc x))) σ
def xJ6_bitCount_0f7a4 : am_X := (SH, KF, (some .int), FT_J6, PT_J6, CT_J6, KT_J6, LT_J6, NT_J6, [])
theorem xJ6_bitCount_0f7a4_SH : am_SH xJ6_bitCount_0f7a4 = SH := rfl
theorem xJ6_bitCount_0f7a4_KF : am_KF xJ6_bitCount_0f7a4 = KF := rfl
theorem xJ6_bitCount_0f7a4_rt : am_rt xJ6_bitCount_0f7a4 = (some .int) := rfl
theorem xJ6_bitCount_0f7a4_FT : am_FT xJ6_bitCount_0f7a4 = FT_J6 := rfl
theorem xJ6_bitCount_0f7a4_PT : am_PT xJ6_bitCount_0f7a4 = PT_J6 := rfl
theorem xJ6_bitCount_0f7a4_CT : am_CT xJ6_bitCount_0f7a4 = CT_J6 := rfl
theorem xJ6_bitCount_0f7a4_KT : am_KT xJ6_bitCount_0f7a4 = KT_J6 := rfl
theorem xJ6_bitCount_0f7a4_LT : am_LT xJ6_bitCount_0f7a4 = LT_J6 := rfl
theorem xJ6_bitCount_0f7a4_NT : am_NT xJ6_bitCount_0f7a4 = NT_J6 := rfl

set_option maxRecDepth 100000 in
theorem pJ6_bitCount_0f7a4 : am_B cJ6_bitCount_0f7a4 xJ6_bitCount_0f7a4 1 0 sJ6_bitCount_0f7a4 := by
  intro n0 as σ post AA hA h
  obtain ⟨rfl, x, rfl, h⟩ := h
  refine ⟨by simp [am_sl, Value.category], ?_⟩
  show AA 0 [some (.int x)] [] 92 σ
  have at41 : ∀ y : Int32, post (some (.int (jb5 y &&& Int32.ofInt 63))) σ → AA 41 [some (.int y)] [] 92 σ := fun y k => by
    refine hA [] 12 _ _ _ _ _ ?_
    try simp only [dJ6_bitCount_0f7a4_0, dJ6_bitCount_0f7a4_1, dJ6_bitCount_0f7a4_2, dJ6_bitCount_0f7a4_3, dJ6_bitCount_0f7a4_4, KT_J6, dJ6_bitCount_0f7a4_7, dJ6_bitCount_0f7a4_8, dJ6_bitCount_0f7a4_9, dJ6_bitCount_0f7a4_10, dJ6_bitCount_0f7a4_11, dJ6_bitCount_0f7a4_14, dJ6_bitCount_0f7a4_15, dJ6_bitCount_0f7a4_16, dJ6_bitCount_0f7a4_17, dJ6_bitCount_0f7a4_18, dJ6_bitCount_0f7a4_21, dJ6_bitCount_0f7a4_22, dJ6_bitCount_0f7a4_23, dJ6_bitCount_0f7a4_24, dJ6_bitCount_0f7a4_25, dJ6_bitCount_0f7a4_26, dJ6_bitCount_0f7a4_27, dJ6_bitCount_0f7a4_28, dJ6_bitCount_0f7a4_29, dJ6_bitCount_0f7a4_32, dJ6_bitCount_0f7a4_33, dJ6_bitCount_0f7a4_34, dJ6_bitCount_0f7a4_35, dJ6_bitCount_0f7a4_36, dJ6_bitCount_0f7a4_38, dJ6_bitCount_0f7a4_39, dJ6_bitCount_0f7a4_40, dJ6_bitCount_0f7a4_41, dJ6_bitCount_0f7a4_42, dJ6_bitCount_0f7a4_43, dJ6_bitCount_0f7a4_45, dJ6_bitCount_0f7a4_46, dJ6_bitCount_0f7a4_47, dJ6_bitCount_0f7a4_48, dJ6_bitCount_0f7a4_49, dJ6_bitCount_0f7a4_51, dJ6_bitCount_0f7a4_52, xJ6_bitCount_0f7a4_SH, xJ6_bitCount_0f7a4_KF, xJ6_bitCount_0f7a4_rt, xJ6_bitCount_0f7a4_FT, xJ6_bitCount_0f7a4_PT, xJ6_bitCount_0f7a4_CT, xJ6_bitCount_0f7a4_KT, xJ6_bitCount_0f7a4_LT, xJ6_bitCount_0f7a4_NT, o_bipush, o_iadd, o_iand, o_iconst, o_iload_n, o_ireturn, o_istore_n, o_isub, o_iushr, o_ldc_w, am_ty, am_vc, am_opt, am_cl, am_find, am_ldi, am_ldl, am_lda, am_v, am_1, am_1l, am_1a, am_2, am_2l, am_ix, am_ri, am_arr, am_pf, am_rc, am_mask, am_lg, am_av, am_nat, fv_0, fv_1, fv_2, fv_3, fw_0, fw_1, List.getElem?_cons_zero, List.getElem?_cons_succ, List.set_cons_zero, List.set_cons_succ, List.length_cons, List.length_nil, List.take_succ_cons, List.take_zero, List.drop_succ_cons, List.drop_zero, List.reverse_cons, List.reverse_nil, List.nil_append, List.cons_append, List.append_nil, List.map_cons, List.map_nil, List.sum_cons, List.sum_nil, Value.category, Option.toList_some, Option.toList_none, Nat.reduceAdd, Nat.reduceLT, Nat.reduceLeDiff, Nat.reduceEqDiff, Nat.reduceSub, Nat.add_zero, Nat.le_refl, Nat.zero_le, Int.reduceNeg, Int.reduceLE, Int.reduceLT, true_and, and_true, and_self, if_true, if_false, ite_true, ite_false, eq_self_iff_true, reduceIte, reduceCtorEq, not_false_eq_true, not_true_eq_false, or_true, true_or, or_false, false_or, Nat.lt_irrefl, Nat.zero_lt_succ]
    exact k
  have at34 : ∀ y : Int32, post (some (.int (jb5 (jb4 y) &&& Int32.ofInt 63))) σ → AA 34 [some (.int y)] [] 92 σ := fun y k => by
    have k := at41 _ k
    refine hA [(41, 1)] 10 _ _ _ _ _ ?_
    try simp only [dJ6_bitCount_0f7a4_0, dJ6_bitCount_0f7a4_1, dJ6_bitCount_0f7a4_2, dJ6_bitCount_0f7a4_3, dJ6_bitCount_0f7a4_4, KT_J6, dJ6_bitCount_0f7a4_7, dJ6_bitCount_0f7a4_8, dJ6_bitCount_0f7a4_9, dJ6_bitCount_0f7a4_10, dJ6_bitCount_0f7a4_11, dJ6_bitCount_0f7a4_14, dJ6_bitCount_0f7a4_15, dJ6_bitCount_0f7a4_16, dJ6_bitCount_0f7a4_17, dJ6_bitCount_0f7a4_18, dJ6_bitCount_0f7a4_21, dJ6_bitCount_0f7a4_22, dJ6_bitCount_0f7a4_23, dJ6_bitCount_0f7a4_24, dJ6_bitCount_0f7a4_25, dJ6_bitCount_0f7a4_26, dJ6_bitCount_0f7a4_27, dJ6_bitCount_0f7a4_28, dJ6_bitCount_0f7a4_29, dJ6_bitCount_0f7a4_32, dJ6_bitCount_0f7a4_33, dJ6_bitCount_0f7a4_34, dJ6_bitCount_0f7a4_35, dJ6_bitCount_0f7a4_36, dJ6_bitCount_0f7a4_38, dJ6_bitCount_0f7a4_39, dJ6_bitCount_0f7a4_40, dJ6_bitCount_0f7a4_41, dJ6_bitCount_0f7a4_42, dJ6_bitCount_0f7a4_43, dJ6_bitCount_0f7a4_45, dJ6_bitCount_0f7a4_46, dJ6_bitCount_0f7a4_47, dJ6_bitCount_0f7a4_48, dJ6_bitCount_0f7a4_49, dJ6_bitCount_0f7a4_51, dJ6_bitCount_0f7a4_52, xJ6_bitCount_0f7a4_SH, xJ6_bitCount_0f7a4_KF, xJ6_bitCount_0f7a4_rt, xJ6_bitCount_0f7a4_FT, xJ6_bitCount_0f7a4_PT, xJ6_bitCount_0f7a4_CT, xJ6_bitCount_0f7a4_KT, xJ6_bitCount_0f7a4_LT, xJ6_bitCount_0f7a4_NT, o_bipush, o_iadd, o_iand, o_iconst, o_iload_n, o_ireturn, o_istore_n, o_isub, o_iushr, o_ldc_w, am_ty, am_vc, am_opt, am_cl, am_find, am_ldi, am_ldl, am_lda, am_v, am_1, am_1l, am_1a, am_2, am_2l, am_ix, am_ri, am_arr, am_pf, am_rc, am_mask, am_lg, am_av, am_nat, fv_0, fv_1, fv_2, fv_3, fw_0, fw_1, List.getElem?_cons_zero, List.getElem?_cons_succ, List.set_cons_zero, List.set_cons_succ, List.length_cons, List.length_nil, List.take_succ_cons, List.take_zero, List.drop_succ_cons, List.drop_zero, List.reverse_cons, List.reverse_nil, List.nil_append, List.cons_append, List.append_nil, List.map_cons, List.map_nil, List.sum_cons, List.sum_nil, Value.category, Option.toList_some, Option.toList_none, Nat.reduceAdd, Nat.reduceLT, Nat.reduceLeDiff, Nat.reduceEqDiff, Nat.reduceSub, Nat.add_zero, Nat.le_refl, Nat.zero_le, Int.reduceNeg, Int.reduceLE, Int.reduceLT, true_and, and_true, and_self, if_true, if_false, ite_true, ite_false, eq_self_iff_true, reduceIte, reduceCtorEq, not_false_eq_true, not_true_eq_false, or_true, true_or, or_false, false_or, Nat.lt_irrefl, Nat.zero_lt_succ]
    exact k
  have at24 : ∀ y : Int32, post (some (.int (jb5 (jb4 (jb3 y)) &&& Int32.ofInt 63))) σ → AA 24 [some (.int y)] [] 92 σ := fun y k => by
    have k := at34 _ k
    refine hA [(34, 1)] 12 _ _ _ _ _ ?_
    try simp only [dJ6_bitCount_0f7a4_0, dJ6_bitCount_0f7a4_1, dJ6_bitCount_0f7a4_2, dJ6_bitCount_0f7a4_3, dJ6_bitCount_0f7a4_4, KT_J6, dJ6_bitCount_0f7a4_7, dJ6_bitCount_0f7a4_8, dJ6_bitCount_0f7a4_9, dJ6_bitCount_0f7a4_10, dJ6_bitCount_0f7a4_11, dJ6_bitCount_0f7a4_14, dJ6_bitCount_0f7a4_15, dJ6_bitCount_0f7a4_16, dJ6_bitCount_0f7a4_17, dJ6_bitCount_0f7a4_18, dJ6_bitCount_0f7a4_21, dJ6_bitCount_0f7a4_22, dJ6_bitCount_0f7a4_23, dJ6_bitCount_0f7a4_24, dJ6_bitCount_0f7a4_25, dJ6_bitCount_0f7a4_26, dJ6_bitCount_0f7a4_27, dJ6_bitCount_0f7a4_28, dJ6_bitCount_0f7a4_29, dJ6_bitCount_0f7a4_32, dJ6_bitCount_0f7a4_33, dJ6_bitCount_0f7a4_34, dJ6_bitCount_0f7a4_35, dJ6_bitCount_0f7a4_36, dJ6_bitCount_0f7a4_38, dJ6_bitCount_0f7a4_39, dJ6_bitCount_0f7a4_40, dJ6_bitCount_0f7a4_41, dJ6_bitCount_0f7a4_42, dJ6_bitCount_0f7a4_43, dJ6_bitCount_0f7a4_45, dJ6_bitCount_0f7a4_46, dJ6_bitCount_0f7a4_47, dJ6_bitCount_0f7a4_48, dJ6_bitCount_0f7a4_49, dJ6_bitCount_0f7a4_51, dJ6_bitCount_0f7a4_52, xJ6_bitCount_0f7a4_SH, xJ6_bitCount_0f7a4_KF, xJ6_bitCount_0f7a4_rt, xJ6_bitCount_0f7a4_FT, xJ6_bitCount_0f7a4_PT, xJ6_bitCount_0f7a4_CT, xJ6_bitCount_0f7a4_KT, xJ6_bitCount_0f7a4_LT, xJ6_bitCount_0f7a4_NT, o_bipush, o_iadd, o_iand, o_iconst, o_iload_n, o_ireturn, o_istore_n, o_isub, o_iushr, o_ldc_w, am_ty, am_vc, am_opt, am_cl, am_find, am_ldi, am_ldl, am_lda, am_v, am_1, am_1l, am_1a, am_2, am_2l, am_ix, am_ri, am_arr, am_pf, am_rc, am_mask, am_lg, am_av, am_nat, fv_0, fv_1, fv_2, fv_3, fw_0, fw_1, List.getElem?_cons_zero, List.getElem?_cons_succ, List.set_cons_zero, List.set_cons_succ, List.length_cons, List.length_nil, List.take_succ_cons, List.take_zero, List.drop_succ_cons, List.drop_zero, List.reverse_cons, List.reverse_nil, List.nil_append, List.cons_append, List.append_nil, List.map_cons, List.map_nil, List.sum_cons, List.sum_nil, Value.category, Option.toList_some, Option.toList_none, Nat.reduceAdd, Nat.reduceLT, Nat.reduceLeDiff, Nat.reduceEqDiff, Nat.reduceSub, Nat.add_zero, Nat.le_refl, Nat.zero_le, Int.reduceNeg, Int.reduceLE, Int.reduceLT, true_and, and_true, and_self, if_true, if_false, ite_true, ite_false, eq_self_iff_true, reduceIte, reduceCtorEq, not_false_eq_true, not_true_eq_false, or_true, true_or, or_false, false_or, Nat.lt_irrefl, Nat.zero_lt_succ]
    exact k
  have at10 : ∀ y : Int32, post (some (.int (jb5 (jb4 (jb3 (jb2 y))) &&& Int32.ofInt 63))) σ → AA 10 [some (.int y)] [] 92 σ := fun y k => by
    have k := at24 _ k
    refine hA [(24, 1)] 14 _ _ _ _ _ ?_
    try simp only [dJ6_bitCount_0f7a4_0, dJ6_bitCount_0f7a4_1, dJ6_bitCount_0f7a4_2, dJ6_bitCount_0f7a4_3, dJ6_bitCount_0f7a4_4, KT_J6, dJ6_bitCount_0f7a4_7, dJ6_bitCount_0f7a4_8, dJ6_bitCount_0f7a4_9, dJ6_bitCount_0f7a4_10, dJ6_bitCount_0f7a4_11, dJ6_bitCount_0f7a4_14, dJ6_bitCount_0f7a4_15, dJ6_bitCount_0f7a4_16, dJ6_bitCount_0f7a4_17, dJ6_bitCount_0f7a4_18, dJ6_bitCount_0f7a4_21, dJ6_bitCount_0f7a4_22, dJ6_bitCount_0f7a4_23, dJ6_bitCount_0f7a4_24, dJ6_bitCount_0f7a4_25, dJ6_bitCount_0f7a4_26, dJ6_bitCount_0f7a4_27, dJ6_bitCount_0f7a4_28, dJ6_bitCount_0f7a4_29, dJ6_bitCount_0f7a4_32, dJ6_bitCount_0f7a4_33, dJ6_bitCount_0f7a4_34, dJ6_bitCount_0f7a4_35, dJ6_bitCount_0f7a4_36, dJ6_bitCount_0f7a4_38, dJ6_bitCount_0f7a4_39, dJ6_bitCount_0f7a4_40, dJ6_bitCount_0f7a4_41, dJ6_bitCount_0f7a4_42, dJ6_bitCount_0f7a4_43, dJ6_bitCount_0f7a4_45, dJ6_bitCount_0f7a4_46, dJ6_bitCount_0f7a4_47, dJ6_bitCount_0f7a4_48, dJ6_bitCount_0f7a4_49, dJ6_bitCount_0f7a4_51, dJ6_bitCount_0f7a4_52, xJ6_bitCount_0f7a4_SH, xJ6_bitCount_0f7a4_KF, xJ6_bitCount_0f7a4_rt, xJ6_bitCount_0f7a4_FT, xJ6_bitCount_0f7a4_PT, xJ6_bitCount_0f7a4_CT, xJ6_bitCount_0f7a4_KT, xJ6_bitCount_0f7a4_LT, xJ6_bitCount_0f7a4_NT, o_bipush, o_iadd, o_iand, o_iconst, o_iload_n, o_ireturn, o_istore_n, o_isub, o_iushr, o_ldc_w, am_ty, am_vc, am_opt, am_cl, am_find, am_ldi, am_ldl, am_lda, am_v, am_1, am_1l, am_1a, am_2, am_2l, am_ix, am_ri, am_arr, am_pf, am_rc, am_mask, am_lg, am_av, am_nat, fv_0, fv_1, fv_2, fv_3, fw_0, fw_1, List.getElem?_cons_zero, List.getElem?_cons_succ, List.set_cons_zero, List.set_cons_succ, List.length_cons, List.length_nil, List.take_succ_cons, List.take_zero, List.drop_succ_cons, List.drop_zero, List.reverse_cons, List.reverse_nil, List.nil_append, List.cons_append, List.append_nil, List.map_cons, List.map_nil, List.sum_cons, List.sum_nil, Value.category, Option.toList_some, Option.toList_none, Nat.reduceAdd, Nat.reduceLT, Nat.reduceLeDiff, Nat.reduceEqDiff, Nat.reduceSub, Nat.add_zero, Nat.le_refl, Nat.zero_le, Int.reduceNeg, Int.reduceLE, Int.reduceLT, true_and, and_true, and_self, if_true, if_false, ite_true, ite_false, eq_self_iff_true, reduceIte, reduceCtorEq, not_false_eq_true, not_true_eq_false, or_true, true_or, or_false, false_or, Nat.lt_irrefl, Nat.zero_lt_succ]
    exact k
  have k := at10 _ h
  refine hA [(10, 1)] 12 _ _ _ _ _ ?_
  try simp only [dJ6_bitCount_0f7a4_0, dJ6_bitCount_0f7a4_1, dJ6_bitCount_0f7a4_2, dJ6_bitCount_0f7a4_3, dJ6_bitCount_0f7a4_4, KT_J6, dJ6_bitCount_0f7a4_7, dJ6_bitCount_0f7a4_8, dJ6_bitCount_0f7a4_9, dJ6_bitCount_0f7a4_10, dJ6_bitCount_0f7a4_11, dJ6_bitCount_0f7a4_14, dJ6_bitCount_0f7a4_15, dJ6_bitCount_0f7a4_16, dJ6_bitCount_0f7a4_17, dJ6_bitCount_0f7a4_18, dJ6_bitCount_0f7a4_21, dJ6_bitCount_0f7a4_22, dJ6_bitCount_0f7a4_23, dJ6_bitCount_0f7a4_24, dJ6_bitCount_0f7a4_25, dJ6_bitCount_0f7a4_26, dJ6_bitCount_0f7a4_27, dJ6_bitCount_0f7a4_28, dJ6_bitCount_0f7a4_29, dJ6_bitCount_0f7a4_32, dJ6_bitCount_0f7a4_33, dJ6_bitCount_0f7a4_34, dJ6_bitCount_0f7a4_35, dJ6_bitCount_0f7a4_36, dJ6_bitCount_0f7a4_38, dJ6_bitCount_0f7a4_39, dJ6_bitCount_0f7a4_40, dJ6_bitCount_0f7a4_41, dJ6_bitCount_0f7a4_42, dJ6_bitCount_0f7a4_43, dJ6_bitCount_0f7a4_45, dJ6_bitCount_0f7a4_46, dJ6_bitCount_0f7a4_47, dJ6_bitCount_0f7a4_48, dJ6_bitCount_0f7a4_49, dJ6_bitCount_0f7a4_51, dJ6_bitCount_0f7a4_52, xJ6_bitCount_0f7a4_SH, xJ6_bitCount_0f7a4_KF, xJ6_bitCount_0f7a4_rt, xJ6_bitCount_0f7a4_FT, xJ6_bitCount_0f7a4_PT, xJ6_bitCount_0f7a4_CT, xJ6_bitCount_0f7a4_KT, xJ6_bitCount_0f7a4_LT, xJ6_bitCount_0f7a4_NT, o_bipush, o_iadd, o_iand, o_iconst, o_iload_n, o_ireturn, o_istore_n, o_isub, o_iushr, o_ldc_w, am_ty, am_vc, am_opt, am_cl, am_find, am_ldi, am_ldl, am_lda, am_v, am_1, am_1l, am_1a, am_2, am_2l, am_ix, am_ri, am_arr, am_pf, am_rc, am_mask, am_lg, am_av, am_nat, fv_0, fv_1, fv_2, fv_3, fw_0, fw_1, List.getElem?_cons_zero, List.getElem?_cons_succ, List.set_cons_zero, List.set_cons_succ, List.length_cons, List.length_nil, List.take_succ_cons, List.take_zero, List.drop_succ_cons, List.drop_zero, List.reverse_cons, List.reverse_nil, List.nil_append, List.cons_append, List.append_nil, List.map_cons, List.map_nil, List.sum_cons, List.sum_nil, Value.category, Option.toList_some, Option.toList_none, Nat.reduceAdd, Nat.reduceLT, Nat.reduceLeDiff, Nat.reduceEqDiff, Nat.reduceSub, Nat.add_zero, Nat.le_refl, Nat.zero_le, Int.reduceNeg, Int.reduceLE, Int.reduceLT, true_and, and_true, and_self, if_true, if_false, ite_true, ite_false, eq_self_iff_true, reduceIte, reduceCtorEq, not_false_eq_true, not_true_eq_false, or_true, true_or, or_false, false_or, Nat.lt_irrefl, Nat.zero_lt_succ]
  exact k
theorem mJ6_bitCount_0f7a4 (l : Launch) : am_M l TB NB vwCl SH KF yJ6_bitCount_0f7a4 cJ6_bitCount_0f7a4 1 (some .int) 2 0 0 sJ6_bitCount_0f7a4 := by
  refine am_M.of xJ6_bitCount_0f7a4 (by decide +kernel) TB_good GF rfl rfl rfl (by decide) ⟨FT_J6_ok, PT_J6_ok _, CT_J6_ok, KT_J6_ok, LT_J6_ok, NT_J6_ok, ?_⟩ pJ6_bitCount_0f7a4
  exact fun _ h => absurd h List.not_mem_nil

def sX12_bitsM : am_Sp := fun as n σ post => n = 92 ∧ ∃ x : Int32, as = [.int x] ∧ post (some (.int (Int32.ofInt ((cnN (bitAt x) 12 : Nat) : Int)))) σ
def xX12_bitsM : am_X := (SH, KF, (some .int), FT_X12, PT_X12, CT_X12, KT_X12, LT_X12, NT_X12, [])
theorem xX12_bitsM_SH : am_SH xX12_bitsM = SH := rfl
theorem xX12_bitsM_KF : am_KF xX12_bitsM = KF := rfl
theorem xX12_bitsM_rt : am_rt xX12_bitsM = (some .int) := rfl
theorem xX12_bitsM_FT : am_FT xX12_bitsM = FT_X12 := rfl
theorem xX12_bitsM_PT : am_PT xX12_bitsM = PT_X12 := rfl
theorem xX12_bitsM_CT : am_CT xX12_bitsM = CT_X12 := rfl
theorem xX12_bitsM_KT : am_KT xX12_bitsM = KT_X12 := rfl
theorem xX12_bitsM_LT : am_LT xX12_bitsM = LT_X12 := rfl
theorem xX12_bitsM_NT : am_NT xX12_bitsM = NT_X12 := rfl
theorem xX12_bitsM_t7 (k : Nat → Prop) : am_tg 7 (17) k = k 24 := am_tg_eq (by decide)
theorem xX12_bitsM_t21 (k : Nat → Prop) : am_tg 21 (-17) k = k 4 := am_tg_eq (by decide)

set_option maxRecDepth 100000 in
theorem bi_loop {post : Option Value → am_S → Prop} {AA : Nat → List (Option Value) → List Value → Nat → am_S → Prop} (hA : ∀ cuts f pc ls stk n τ, am_vc cX12_bits xX12_bitsM (92 + 0) post AA cuts f pc ls stk n τ → AA pc ls stk n τ) {x : Int32} {σ : am_S} (h : post (some (.int (Int32.ofInt ((cnN (bitAt x) 12 : Nat) : Int)))) σ) : ∀ k : Nat, k ≤ 12 → AA 4 [some (.int x), some (.int (Int32.ofInt ((cnN (bitAt x) k : Nat) : Int))), some (.int (Int32.ofInt (k : Int)))] [] 92 σ := by
  refine am_up 12 fun k hk ih => ?_
  have hy := cnN_le (f := bitAt x) k
  have es := cnN_s (f := bitAt x) (k := k)
  have fin : k = 12 → post (some (.int (Int32.ofInt ((cnN (bitAt x) k : Nat) : Int)))) σ := fun q => by rw [q]; exact h
  have at10 : k < 12 → AA 10 [some (.int x), some (.int (Int32.ofInt ((cnN (bitAt x) k : Nat) : Int))), some (.int (Int32.ofInt (k : Int)))] [] 92 σ := fun q => by
    have ih := ih q
    rw [es] at ih
    generalize cnN (bitAt x) k = c at ih hy ⊢
    have at18 : AA 18 [some (.int x), some (.int (Int32.ofInt ((if bitAt x k = true then c + 1 else c : Nat) : Int))), some (.int (Int32.ofInt (k : Int)))] [] 92 σ := by
      refine hA [(4, 3)] 6 _ _ _ _ _ ?_
      try simp only [dX12_bits_0, dX12_bits_1, dX12_bits_2, dX12_bits_3, dX12_bits_4, dX12_bits_5, dX12_bits_7, xX12_bitsM_t7, dX12_bits_10, dX12_bits_11, dX12_bits_12, dX12_bits_13, dX12_bits_14, dX12_bits_15, dX12_bits_16, dX12_bits_17, dX12_bits_18, dX12_bits_21, xX12_bitsM_t21, dX12_bits_24, dX12_bits_25, xX12_bitsM_SH, xX12_bitsM_KF, xX12_bitsM_rt, xX12_bitsM_FT, xX12_bitsM_PT, xX12_bitsM_CT, xX12_bitsM_KT, xX12_bitsM_LT, xX12_bitsM_NT, o_bipush, o_goto, o_iadd, o_iand, o_iconst, o_if_icmp_ge, o_iinc, o_iload_n, o_ireturn, o_ishr, o_istore_n, am_ty, am_vc, am_opt, am_cl, am_find, am_ldi, am_ldl, am_lda, am_v, am_1, am_1l, am_1a, am_2, am_2l, am_ix, am_ri, am_arr, am_pf, am_rc, am_mask, am_lg, am_av, am_nat, fv_0, fv_1, fv_2, fv_3, fw_0, fw_1, List.getElem?_cons_zero, List.getElem?_cons_succ, List.set_cons_zero, List.set_cons_succ, List.length_cons, List.length_nil, List.take_succ_cons, List.take_zero, List.drop_succ_cons, List.drop_zero, List.reverse_cons, List.reverse_nil, List.nil_append, List.cons_append, List.append_nil, List.map_cons, List.map_nil, List.sum_cons, List.sum_nil, Value.category, Option.toList_some, Option.toList_none, Nat.reduceAdd, Nat.reduceLT, Nat.reduceLeDiff, Nat.reduceEqDiff, Nat.reduceSub, Nat.add_zero, Nat.le_refl, Nat.zero_le, Int.reduceNeg, Int.reduceLE, Int.reduceLT, true_and, and_true, and_self, if_true, if_false, ite_true, ite_false, eq_self_iff_true, reduceIte, reduceCtorEq, not_false_eq_true, not_true_eq_false, or_true, true_or, or_false, false_or, Nat.lt_irrefl, Nat.zero_lt_succ]
      try simp (disch := omega) only [ii_0, ii_1, ii_t, ii_add, ii_sub, ii_mul, ii_lt, ii_le, ii_eq, ij_in, ii_c, Int.toNat_natCast, Int.toNat_zero, Int.reduceToNat, Int.reduceEq, Int.reduceNe, Int.reduceLE, Int.reduceLT, Int.reduceAdd, Int.reduceSub, Int.reduceMul, Int.reduceNeg, Nat.reduceLT, Nat.reduceAdd, Nat.reduceMul, not_false_eq_true, not_true_eq_false, true_and, and_true, and_self, false_and, and_false, true_implies, false_implies, implies_true, forall_const, if_true, if_false, ite_true, ite_false, reduceIte, eq_self_iff_true, Int.natCast_nonneg, Int.zero_add, Int.add_zero, pi_s, pi_n, ik_s]
      exact ih
    refine hA [(18, 3)] 12 _ _ _ _ _ ?_
    try simp only [dX12_bits_0, dX12_bits_1, dX12_bits_2, dX12_bits_3, dX12_bits_4, dX12_bits_5, dX12_bits_7, xX12_bitsM_t7, dX12_bits_10, dX12_bits_11, dX12_bits_12, dX12_bits_13, dX12_bits_14, dX12_bits_15, dX12_bits_16, dX12_bits_17, dX12_bits_18, dX12_bits_21, xX12_bitsM_t21, dX12_bits_24, dX12_bits_25, xX12_bitsM_SH, xX12_bitsM_KF, xX12_bitsM_rt, xX12_bitsM_FT, xX12_bitsM_PT, xX12_bitsM_CT, xX12_bitsM_KT, xX12_bitsM_LT, xX12_bitsM_NT, o_bipush, o_goto, o_iadd, o_iand, o_iconst, o_if_icmp_ge, o_iinc, o_iload_n, o_ireturn, o_ishr, o_istore_n, am_ty, am_vc, am_opt, am_cl, am_find, am_ldi, am_ldl, am_lda, am_v, am_1, am_1l, am_1a, am_2, am_2l, am_ix, am_ri, am_arr, am_pf, am_rc, am_mask, am_lg, am_av, am_nat, fv_0, fv_1, fv_2, fv_3, fw_0, fw_1, List.getElem?_cons_zero, List.getElem?_cons_succ, List.set_cons_zero, List.set_cons_succ, List.length_cons, List.length_nil, List.take_succ_cons, List.take_zero, List.drop_succ_cons, List.drop_zero, List.reverse_cons, List.reverse_nil, List.nil_append, List.cons_append, List.append_nil, List.map_cons, List.map_nil, List.sum_cons, List.sum_nil, Value.category, Option.toList_some, Option.toList_none, Nat.reduceAdd, Nat.reduceLT, Nat.reduceLeDiff, Nat.reduceEqDiff, Nat.reduceSub, Nat.add_zero, Nat.le_refl, Nat.zero_le, Int.reduceNeg, Int.reduceLE, Int.reduceLT, true_and, and_true, and_self, if_true, if_false, ite_true, ite_false, eq_self_iff_true, reduceIte, reduceCtorEq, not_false_eq_true, not_true_eq_false, or_true, true_or, or_false, false_or, Nat.lt_irrefl, Nat.zero_lt_succ]
    rw [bt_s x (show k < 32 by omega)]
    by_cases w : bitAt x k = true
    · rw [if_pos w, show ((c + 1 : Nat) : Int) = (c : Int) + 1 by omega] at at18
      rw [if_pos w]
      try simp (disch := omega) only [ii_0, ii_1, ii_t, ii_add, ii_sub, ii_mul, ii_lt, ii_le, ii_eq, ij_in, ii_c, Int.toNat_natCast, Int.toNat_zero, Int.reduceToNat, Int.reduceEq, Int.reduceNe, Int.reduceLE, Int.reduceLT, Int.reduceAdd, Int.reduceSub, Int.reduceMul, Int.reduceNeg, Nat.reduceLT, Nat.reduceAdd, Nat.reduceMul, not_false_eq_true, not_true_eq_false, true_and, and_true, and_self, false_and, and_false, true_implies, false_implies, implies_true, forall_const, if_true, if_false, ite_true, ite_false, reduceIte, eq_self_iff_true, Int.natCast_nonneg, Int.zero_add, Int.add_zero, pi_s, pi_n]
      exact at18
    · rw [if_neg w] at at18
      rw [if_neg w]
      simp (disch := omega) only [ii_add, Int.add_zero]
      exact at18
  refine hA [(10, 3)] 8 _ _ _ _ _ ?_
  try simp only [dX12_bits_0, dX12_bits_1, dX12_bits_2, dX12_bits_3, dX12_bits_4, dX12_bits_5, dX12_bits_7, xX12_bitsM_t7, dX12_bits_10, dX12_bits_11, dX12_bits_12, dX12_bits_13, dX12_bits_14, dX12_bits_15, dX12_bits_16, dX12_bits_17, dX12_bits_18, dX12_bits_21, xX12_bitsM_t21, dX12_bits_24, dX12_bits_25, xX12_bitsM_SH, xX12_bitsM_KF, xX12_bitsM_rt, xX12_bitsM_FT, xX12_bitsM_PT, xX12_bitsM_CT, xX12_bitsM_KT, xX12_bitsM_LT, xX12_bitsM_NT, o_bipush, o_goto, o_iadd, o_iand, o_iconst, o_if_icmp_ge, o_iinc, o_iload_n, o_ireturn, o_ishr, o_istore_n, am_ty, am_vc, am_opt, am_cl, am_find, am_ldi, am_ldl, am_lda, am_v, am_1, am_1l, am_1a, am_2, am_2l, am_ix, am_ri, am_arr, am_pf, am_rc, am_mask, am_lg, am_av, am_nat, fv_0, fv_1, fv_2, fv_3, fw_0, fw_1, List.getElem?_cons_zero, List.getElem?_cons_succ, List.set_cons_zero, List.set_cons_succ, List.length_cons, List.length_nil, List.take_succ_cons, List.take_zero, List.drop_succ_cons, List.drop_zero, List.reverse_cons, List.reverse_nil, List.nil_append, List.cons_append, List.append_nil, List.map_cons, List.map_nil, List.sum_cons, List.sum_nil, Value.category, Option.toList_some, Option.toList_none, Nat.reduceAdd, Nat.reduceLT, Nat.reduceLeDiff, Nat.reduceEqDiff, Nat.reduceSub, Nat.add_zero, Nat.le_refl, Nat.zero_le, Int.reduceNeg, Int.reduceLE, Int.reduceLT, true_and, and_true, and_self, if_true, if_false, ite_true, ite_false, eq_self_iff_true, reduceIte, reduceCtorEq, not_false_eq_true, not_true_eq_false, or_true, true_or, or_false, false_or, Nat.lt_irrefl, Nat.zero_lt_succ]
  try simp (disch := omega) only [ii_0, ii_1, ii_t, ii_add, ii_sub, ii_mul, ii_lt, ii_le, ii_eq, ij_in, ii_c, Int.toNat_natCast, Int.toNat_zero, Int.reduceToNat, Int.reduceEq, Int.reduceNe, Int.reduceLE, Int.reduceLT, Int.reduceAdd, Int.reduceSub, Int.reduceMul, Int.reduceNeg, Nat.reduceLT, Nat.reduceAdd, Nat.reduceMul, not_false_eq_true, not_true_eq_false, true_and, and_true, and_self, false_and, and_false, true_implies, false_implies, implies_true, forall_const, if_true, if_false, ite_true, ite_false, reduceIte, eq_self_iff_true, Int.natCast_nonneg, Int.zero_add, Int.add_zero, pi_s, pi_n]
  exact ⟨fun q => fin (by omega), fun q => at10 (by omega)⟩
set_option maxRecDepth 100000 in
theorem ptX12_bitsM : am_B cX12_bits xX12_bitsM 3 0 sX12_bitsM := by
  intro n0 as σ post AA hA h
  obtain ⟨rfl, x, rfl, h⟩ := h
  refine ⟨by simp [am_sl, Value.category], ?_⟩
  show AA 0 [some (.int x), none, none] [] 92 σ
  have k := bi_loop hA h 0 (Nat.zero_le _)
  refine hA [(4, 3)] 8 _ _ _ _ _ ?_
  try simp only [dX12_bits_0, dX12_bits_1, dX12_bits_2, dX12_bits_3, dX12_bits_4, dX12_bits_5, dX12_bits_7, xX12_bitsM_t7, dX12_bits_10, dX12_bits_11, dX12_bits_12, dX12_bits_13, dX12_bits_14, dX12_bits_15, dX12_bits_16, dX12_bits_17, dX12_bits_18, dX12_bits_21, xX12_bitsM_t21, dX12_bits_24, dX12_bits_25, xX12_bitsM_SH, xX12_bitsM_KF, xX12_bitsM_rt, xX12_bitsM_FT, xX12_bitsM_PT, xX12_bitsM_CT, xX12_bitsM_KT, xX12_bitsM_LT, xX12_bitsM_NT, o_bipush, o_goto, o_iadd, o_iand, o_iconst, o_if_icmp_ge, o_iinc, o_iload_n, o_ireturn, o_ishr, o_istore_n, am_ty, am_vc, am_opt, am_cl, am_find, am_ldi, am_ldl, am_lda, am_v, am_1, am_1l, am_1a, am_2, am_2l, am_ix, am_ri, am_arr, am_pf, am_rc, am_mask, am_lg, am_av, am_nat, fv_0, fv_1, fv_2, fv_3, fw_0, fw_1, List.getElem?_cons_zero, List.getElem?_cons_succ, List.set_cons_zero, List.set_cons_succ, List.length_cons, List.length_nil, List.take_succ_cons, List.take_zero, List.drop_succ_cons, List.drop_zero, List.reverse_cons, List.reverse_nil, List.nil_append, List.cons_append, List.append_nil, List.map_cons, List.map_nil, List.sum_cons, List.sum_nil, Value.category, Option.toList_some, Option.toList_none, Nat.reduceAdd, Nat.reduceLT, Nat.reduceLeDiff, Nat.reduceEqDiff, Nat.reduceSub, Nat.add_zero, Nat.le_refl, Nat.zero_le, Int.reduceNeg, Int.reduceLE, Int.reduceLT, true_and, and_true, and_self, if_true, if_false, ite_true, ite_false, eq_self_iff_true, reduceIte, reduceCtorEq, not_false_eq_true, not_true_eq_false, or_true, true_or, or_false, false_or, Nat.lt_irrefl, Nat.zero_lt_succ]
  exact k
theorem mX12_bitsM (l : Launch) : am_M l TB NB vwCl SH KF yX12_bits cX12_bits 3 (some .int) 2 0 0 sX12_bitsM := by
  refine am_M.of xX12_bitsM (by decide +kernel) TB_good GF rfl rfl rfl (by decide) ⟨FT_X12_ok, PT_X12_ok _, CT_X12_ok, KT_X12_ok, LT_X12_ok, NT_X12_ok, ?_⟩ ptX12_bitsM
  exact fun _ h => absurd h List.not_mem_nil

theorem cnN_cut {f : Nat → Bool} {n : Nat} : ∀ k, n ≤ k → (∀ j, n ≤ j → j < k → f j = false) → cnN f k = cnN f n
  | 0, h, _ => by rw [show n = 0 by omega]
  | k + 1, h, g => by
    by_cases q : n = k + 1
    · rw [q]
    · rw [cnN_s, if_neg (by rw [g k (by omega) (Nat.lt_succ_self k)]; decide)]
      exact cnN_cut k (by omega) (fun j a b => g j a (by omega))
theorem cnN_cg {f g : Nat → Bool} : ∀ k, (∀ j, j < k → f j = g j) → cnN f k = cnN g k
  | 0, _ => rfl
  | k + 1, h => by rw [cnN_s, cnN_s, h k (Nat.lt_succ_self k), cnN_cg k (fun j hj => h j (by omega))]
