/-! BOTH: the town, the moment, what is remembered and held, alike. Printed from wip/am/chk/hand/rw.in. -/
def aC (d : DR) (σ : am_S) (o b : Nat) : MO := oC (dP d) (fun i => σ.1 o (b + i))
def aR (σ : am_S) (o b : Nat) : MO := fun i => if i < 51 then σ.1 o (b + i) else Int32.ofInt 0
theorem aC_0 {d : DR} {σ : am_S} : aC d σ 32 0 = mC d σ 31 := by
  unfold aC mC
  rw [show (fun i => σ.1 32 (0 + i)) = σ.1 (31 + 1) from funext fun i => by rw [Nat.zero_add]]
theorem aR_0 {σ : am_S} {o : Nat} : aR σ o 0 = mR σ o := funext fun i => by
  unfold aR mR
  rw [Nat.zero_add]
theorem oC_cg {P : Nat} {c c' : Nat → Int32} (h : ∀ i, i < 40 → c i = c' i) : oC P c = oC P c' := funext fun i => by
  unfold oC
  by_cases q1 : P ≤ i ∧ i < 5
  · rw [if_pos q1, if_pos q1]
  · rw [if_neg q1, if_neg q1]
    by_cases q2 : i < 25
    · rw [if_pos q2, if_pos q2, h _ (by omega)]
    · rw [if_neg q2, if_neg q2, h 2 (by omega)]
      by_cases q3 : i < 37
      · rw [if_pos q3, if_pos q3]
      · rw [if_neg q3, if_neg q3]
        by_cases q4 : i < 49
        · rw [if_pos q4, if_pos q4, h _ (by omega)]
        · rw [if_neg q4, if_neg q4, h 0 (by omega), h 1 (by omega)]
theorem aC_cg {d : DR} {σ τ : am_S} {o o' b b' : Nat} (h : ∀ i, i < 40 → τ.1 o' (b' + i) = σ.1 o (b + i)) : aC d τ o' b' = aC d σ o b := oC_cg (fun i hi => h i hi)
theorem aR_cg {σ τ : am_S} {o o' b b' : Nat} (h : ∀ i, i < 51 → τ.1 o' (b' + i) = σ.1 o (b + i)) : aR τ o' b' = aR σ o b := funext fun i => by
  unfold aR
  by_cases q : i < 51
  · rw [if_pos q, if_pos q, h i q]
  · rw [if_neg q, if_neg q]
/-- the row of the ring where what was remembered as j-th lies -/
def rgJ (nx un j : Nat) : Nat := (nx + 40 - un + j) % 40
def RWh (σ : am_S) (d : DR) (nx un : Nat) : Prop := ∀ j, j < un → aC d σ 36 (40 * rgJ nx un j) = aR σ 81 (51 * j) ∧ mOK d (aR σ 81 (51 * j))
def RWl (σ : am_S) (d : DR) : Prop := ∀ s, s < 3 → (σ.1 90 s = Int32.ofInt 0 ∧ bitAt (σ.1 35 4) s = false) ∨ (σ.1 90 s = Int32.ofInt 1 ∧ bitAt (σ.1 35 4) s = true ∧ aC d σ 37 (40 * s) = aR σ 91 (51 * s) ∧ mOK d (aR σ 91 (51 * s)))
def RWn (σ : am_S) (d : DR) : Prop := mC d σ 31 = mR σ 79 ∧ mOK d (mR σ 79)
def RWc (σ : am_S) (nx un : Nat) : Prop := nx < 40 ∧ un ≤ 40 ∧ σ.1 35 2 = Int32.ofInt (nx : Int) ∧ σ.1 35 3 = Int32.ofInt (un : Int) ∧ σ.1 51 49 = Int32.ofInt (un : Int)
def RWt (σ : am_S) : Prop := ∃ s : Nat, s ≤ 20 ∧ σ.1 47 3 = Int32.ofInt (s : Int) ∧ σ.1 51 58 = Int32.ofInt (s : Int) ∧ (∀ i, i < s → σ.1 88 i = σ.1 48 i ∧ σ.1 89 i = σ.1 49 i) ∧ σ.1 35 4 &&& Int32.ofInt (-8) = Int32.ofInt 0
def RWd (σ : am_S) (d : DR) (S nx un : Nat) : Prop := (tC σ d ∧ tR σ d S ∧ dOK d) ∧ RWn σ d ∧ RWc σ nx un ∧ RWh σ d nx un ∧ RWl σ d ∧ RWt σ
def RWo : List Nat := [22, 23, 24, 28, 29, 30, 32, 36, 37, 48, 49, 60, 61, 63, 64, 65, 66, 67, 68, 69, 70, 71, 72, 73, 74, 75, 79, 81, 88, 89, 90, 91]
def RWf : List (Nat × Nat) := [(20, 0), (20, 1), (20, 2), (35, 2), (35, 3), (35, 4), (47, 3), (51, 18), (51, 49), (51, 58)]
def RWq (o i : Nat) : Prop := o ∈ RWo ∨ (o, i) ∈ RWf
theorem RWq_C {o i : Nat} (h : (o = 20 ∧ i < 3) ∨ (22 ≤ o ∧ o ≤ 24) ∨ (28 ≤ o ∧ o ≤ 30)) : RWq o i := by
  rcases h with ⟨rfl, h⟩ | h | h
  · have q : i = 0 ∨ i = 1 ∨ i = 2 := by omega
    rcases q with rfl | rfl | rfl <;> exact Or.inr (by decide)
  · have q : o = 22 ∨ o = 23 ∨ o = 24 := by omega
    rcases q with rfl | rfl | rfl <;> exact Or.inl (by decide)
  · have q : o = 28 ∨ o = 29 ∨ o = 30 := by omega
    rcases q with rfl | rfl | rfl <;> exact Or.inl (by decide)
theorem RWq_R {o i : Nat} (h : (o = 51 ∧ i = 18) ∨ (60 ≤ o ∧ o ≤ 61) ∨ (63 ≤ o ∧ o ≤ 75)) : RWq o i := by
  rcases h with ⟨rfl, rfl⟩ | h | h
  · exact Or.inr (by decide)
  · have q : o = 60 ∨ o = 61 := by omega
    rcases q with rfl | rfl <;> exact Or.inl (by decide)
  · have q : o = 63 ∨ o = 64 ∨ o = 65 ∨ o = 66 ∨ o = 67 ∨ o = 68 ∨ o = 69 ∨ o = 70 ∨ o = 71 ∨ o = 72 ∨ o = 73 ∨ o = 74 ∨ o = 75 := by omega
    rcases q with rfl | rfl | rfl | rfl | rfl | rfl | rfl | rfl | rfl | rfl | rfl | rfl | rfl <;> exact Or.inl (by decide)
/-- the class's town, whose slots 3 and on aren't spoken of -/
theorem tC_q {σ τ : am_S} {d : DR} (g : tC σ d) (h : ∀ o i, (o = 20 ∧ i < 3) ∨ (22 ≤ o ∧ o ≤ 24) ∨ (28 ≤ o ∧ o ≤ 30) → τ.1 o i = σ.1 o i) : tC τ d := by
  obtain ⟨⟨a1, a2, a3⟩, b, c⟩ := g
  refine ⟨⟨?_, ?_, ?_⟩, fun p hp => ?_, fun k hk => ?_⟩
  · rw [h 20 0 (by omega)]; exact a1
  · rw [h 20 1 (by omega)]; exact a2
  · rw [h 20 2 (by omega)]; exact a3
  · rw [h 28 p (by omega), h 29 p (by omega), h 30 p (by omega)]; exact b p hp
  · obtain ⟨a, e1, e2, e3⟩ := c k hk
    refine ⟨a, by rw [h 24 k (by omega)]; exact e1, e2, fun i hi => ?_⟩
    rw [h 22 _ (by omega), h 23 _ (by omega)]
    exact e3 i hi
theorem RWn_cg {σ τ : am_S} {d : DR} (g : RWn σ d) (h : ∀ o i, o = 32 ∨ o = 79 → τ.1 o i = σ.1 o i) : RWn τ d := by
  obtain ⟨b1, b2⟩ := g
  have e79 : mR τ 79 = mR σ 79 := mR_cg (fun i => h 79 i (Or.inr rfl))
  have e32 : mC d τ 31 = mC d σ 31 := by
    rw [← aC_0, ← aC_0]
    exact aC_cg (fun i _ => h 32 _ (Or.inl rfl))
  exact ⟨by rw [e32, e79]; exact b1, by rw [e79]; exact b2⟩
theorem RWc_cg {σ τ : am_S} {nx un : Nat} (g : RWc σ nx un) (h : ∀ o i, (o = 35 ∧ (i = 2 ∨ i = 3)) ∨ (o = 51 ∧ i = 49) → τ.1 o i = σ.1 o i) : RWc τ nx un := by
  obtain ⟨c1, c2, c3, c4, c5⟩ := g
  refine ⟨c1, c2, ?_, ?_, ?_⟩
  · rw [h 35 2 (by omega)]; exact c3
  · rw [h 35 3 (by omega)]; exact c4
  · rw [h 51 49 (by omega)]; exact c5
theorem RWh_cg {σ τ : am_S} {d : DR} {nx un : Nat} (g : RWh σ d nx un) (h : ∀ o i, o = 36 ∨ o = 81 → τ.1 o i = σ.1 o i) : RWh τ d nx un := fun j hj => by
  have e81 : aR τ 81 (51 * j) = aR σ 81 (51 * j) := aR_cg (fun i _ => h 81 _ (Or.inr rfl))
  have e36 : aC d τ 36 (40 * rgJ nx un j) = aC d σ 36 (40 * rgJ nx un j) := aC_cg (fun i _ => h 36 _ (Or.inl rfl))
  rw [e36, e81]
  exact g j hj
theorem RWl_cg {σ τ : am_S} {d : DR} (g : RWl σ d) (h : ∀ o i, (o = 37 ∨ o = 90 ∨ o = 91 ∨ (o = 35 ∧ i = 4)) → τ.1 o i = σ.1 o i) : RWl τ d := fun i hi => by
  have e37 : aC d τ 37 (40 * i) = aC d σ 37 (40 * i) := aC_cg (fun k _ => h 37 _ (by omega))
  have e91 : aR τ 91 (51 * i) = aR σ 91 (51 * i) := aR_cg (fun k _ => h 91 _ (by omega))
  rw [h 90 i (by omega), h 35 4 (by omega), e37, e91]
  exact g i hi
theorem RWt_cg {σ τ : am_S} (g : RWt σ) (h : ∀ o i, (o = 47 ∧ i = 3) ∨ (o = 51 ∧ i = 58) ∨ (48 ≤ o ∧ o ≤ 49 ∨ 88 ≤ o ∧ o ≤ 89) ∨ (o = 35 ∧ i = 4) → τ.1 o i = σ.1 o i) : RWt τ := by
  obtain ⟨s, t1, t2, t3, t4, t5⟩ := g
  refine ⟨s, t1, (h 47 3 (by omega)).trans t2, (h 51 58 (by omega)).trans t3, fun i hi => ?_, by rw [h 35 4 (by omega)]; exact t5⟩
  rw [h 88 i (by omega), h 48 i (by omega), h 89 i (by omega), h 49 i (by omega)]
  exact t4 i hi
/-- the moment, the shelf, what is held -/
def RWr (o i : Nat) : Prop := (o = 32 ∨ o = 36 ∨ o = 37 ∨ o = 79 ∨ o = 81 ∨ o = 90 ∨ o = 91) ∨ (o = 35 ∧ (i = 2 ∨ i = 3 ∨ i = 4)) ∨ (o = 51 ∧ i = 49)
theorem RWr_q {o i : Nat} (h : RWr o i) : RWq o i := by
  rcases h with h | ⟨rfl, h⟩ | ⟨rfl, rfl⟩
  · rcases h with rfl | rfl | rfl | rfl | rfl | rfl | rfl <;> exact Or.inl (by decide)
  · rcases h with rfl | rfl | rfl <;> exact Or.inr (by decide)
  · exact Or.inr (by decide)
theorem RWd_c2 {σ τ : am_S} {d : DR} {S nx un : Nat} (g : RWd σ d S nx un) (n1 : tC τ d) (n2 : tR τ d S) (h : ∀ o i, RWr o i → τ.1 o i = σ.1 o i) (t : RWt τ) : RWd τ d S nx un :=
  ⟨⟨n1, n2, g.1.2.2⟩, RWn_cg g.2.1 (fun o i q => h o i (by unfold RWr; omega)), RWc_cg g.2.2.1 (fun o i q => h o i (by unfold RWr; omega)), RWh_cg g.2.2.2.1 (fun o i q => h o i (by unfold RWr; omega)), RWl_cg g.2.2.2.2.1 (fun o i q => h o i (by unfold RWr; omega)), t⟩
theorem RWq_t {o i : Nat} (h : (o = 47 ∧ i = 3) ∨ (o = 51 ∧ i = 58) ∨ (48 ≤ o ∧ o ≤ 49 ∨ 88 ≤ o ∧ o ≤ 89) ∨ (o = 35 ∧ i = 4)) : RWq o i := by
  rcases h with ⟨rfl, rfl⟩ | ⟨rfl, rfl⟩ | h | ⟨rfl, rfl⟩
  · exact Or.inr (by decide)
  · exact Or.inr (by decide)
  · have h : o = 48 ∨ o = 49 ∨ o = 88 ∨ o = 89 := by omega
    rcases h with rfl | rfl | rfl | rfl <;> exact Or.inl (by decide)
  · exact Or.inr (by decide)
theorem RWd_cg {σ τ : am_S} {d : DR} {S nx un : Nat} (g : RWd σ d S nx un) (h : ∀ o i, RWq o i → τ.1 o i = σ.1 o i) : RWd τ d S nx un :=
  RWd_c2 g (tC_q g.1.1 (fun o i q => h o i (RWq_C q))) (tR_fr g.1.2.1 (fun o i q => h o i (RWq_R q))) (fun o i q => h o i (RWr_q q)) (RWt_cg g.2.2.2.2.2 (fun o i q => h o i (RWq_t q)))
/-! something is done: the class's shelf, the reference's history -/
theorem rgJ_b (nx un j : Nat) : rgJ nx un j < 40 := Nat.mod_lt _ (by decide)
theorem RW_do {σ υ σR : am_S} {d : DR} {S nx un : Nat} (g : RWd σ d S nx un)
    (hT : ∀ o i, (o = 20 ∧ i < 3) ∨ (22 ≤ o ∧ o ≤ 24) ∨ (28 ≤ o ∧ o ≤ 30) → υ.1 o i = σ.1 o i)
    (hR : ∀ o i, (o = 51 ∧ i = 18) ∨ (60 ≤ o ∧ o ≤ 61) ∨ (63 ≤ o ∧ o ≤ 75) → υ.1 o i = σ.1 o i)
    (hl : ∀ o i, (o = 37 ∨ o = 90 ∨ o = 91 ∨ (o = 35 ∧ i = 4) ∨ (o = 47 ∧ i = 3) ∨ (o = 51 ∧ i = 58) ∨ (48 ≤ o ∧ o ≤ 49 ∨ 88 ≤ o ∧ o ≤ 89)) → υ.1 o i = σ.1 o i)
    (hC : ∀ o i, o = 36 ∨ (o = 35 ∧ (i = 2 ∨ i = 3)) → υ.1 o i = (rmC nx un σ).1 o i)
    (hH : ∀ o i, o = 79 ∨ o = 81 ∨ (o = 51 ∧ i = 49) → υ.1 o i = (rcR un σR).1 o i)
    (h9 : ∀ i, σR.1 79 i = σ.1 79 i) (h8 : ∀ i, σR.1 81 i = σ.1 81 i)
    (hm : mC d υ 31 = mR σR 80) (hk : mOK d (mR σR 80)) :
    RWd υ d S (if nx + 1 < 40 then nx + 1 else 0) (if un + 1 < 40 then un + 1 else 40) := by
  obtain ⟨⟨a1, a2, a3⟩, ⟨b1, b2⟩, ⟨c1, c2, c3, c4, c5⟩, f, l, t⟩ := g
  have e79 : mR υ 79 = mR σR 80 := by
    rw [← rcR_now (u := un)]
    exact mR_cg (fun i => hH 79 i (Or.inl rfl))
  have eu : (if un + 1 < 40 then un + 1 else 40) = u39 un + 1 := by
    unfold u39
    by_cases q : un = 40
    · rw [if_pos q, if_neg (by omega)]
    · rw [if_neg q]
      by_cases q2 : un + 1 < 40
      · rw [if_pos q2]
      · rw [if_neg q2]; omega
  have hu := u39_b c2
  have e36 : ∀ j, j < 40 → aC d υ 36 (40 * j) = if j = nx then mC d σ 31 else aC d σ 36 (40 * j) := fun j hj => by
    have r36 : ∀ i, (rmC nx un σ).1 36 i = (cpX 32 36 0 (40 * nx) 40 σ).1 36 i := fun i => by
      unfold rmC
      rw [pi_n _ _ _ _ (fun z => absurd z.1 (by decide)), pi_n _ _ _ _ (fun z => absurd z.1 (by decide))]
    by_cases q : j = nx
    · rw [if_pos q, ← aC_0]
      refine aC_cg (fun i hi => ?_)
      rw [hC 36 _ (Or.inl rfl), r36, q, cpX_d hi]
    · rw [if_neg q]
      refine aC_cg (fun i hi => ?_)
      rw [hC 36 _ (Or.inl rfl), r36, cpX_n (fun z => by omega)]
  have e81 : ∀ j, j < u39 un + 1 → aR υ 81 (51 * j) = if j = u39 un then mR σ 79 else aR σ 81 (51 * (if un = 40 then j + 1 else j)) := fun j hj => by
    have r81 : ∀ i, (rcR un σR).1 81 i = (cpX 79 81 0 (51 * u39 un) 51 (shR un σR)).1 81 i := fun i => by
      unfold rcR
      rw [cpX_n (fun z => absurd z.1 (by decide)), pi_n _ _ _ _ (fun z => absurd z.1 (by decide))]
    by_cases q : j = u39 un
    · rw [if_pos q, ← aR_0]
      refine aR_cg (fun i hi => ?_)
      rw [hH 81 _ (Or.inr (Or.inl rfl)), r81, q, cpX_d hi, shR_n (by decide) (by decide), h9]
    · rw [if_neg q]
      refine aR_cg (fun i hi => ?_)
      rw [hH 81 _ (Or.inr (Or.inl rfl)), r81, cpX_n (fun z => by omega)]
      unfold shR
      by_cases q2 : un = 40
      · rw [if_pos q2, if_pos q2, pi_n _ _ _ _ (fun z => absurd z.1 (by decide))]
        have := cpX_d (σ := σR) (c := 81) (d := 81) (sp := 51) (dp := 0) (m := 1989) (k := 51 * j + i) (by have : u39 un ≤ 39 := hu; omega)
        rw [Nat.zero_add] at this
        rw [this, h8, show 51 + (51 * j + i) = 51 * (j + 1) + i by omega]
      · rw [if_neg q2, if_neg q2, h8]
  refine ⟨⟨tC_q a1 hT, tR_fr a2 hR, a3⟩, ⟨by rw [hm, e79], by rw [e79]; exact hk⟩, ⟨?_, ?_, ?_, ?_, ?_⟩, fun j hj => ?_, fun i hi => ?_, RWt_cg t (fun o i q => hl o i (by omega))⟩
  · split <;> omega
  · split <;> omega
  · rw [hC 35 2 (Or.inr ⟨rfl, Or.inl rfl⟩)]
    unfold rmC
    rw [pi_n _ _ _ _ (by decide), pi_s]
  · rw [hC 35 3 (Or.inr ⟨rfl, Or.inr rfl⟩)]
    unfold rmC
    rw [pi_s]
  · rw [hH 51 49 (Or.inr (Or.inr ⟨rfl, rfl⟩)), eu]
    unfold rcR
    rw [cpX_n (fun z => absurd z.1 (by decide)), pi_s]
    rfl
  · rw [eu] at hj ⊢
    rw [e36 _ (rgJ_b _ _ _), e81 j hj]
    by_cases q : j = u39 un
    · have er : rgJ (if nx + 1 < 40 then nx + 1 else 0) (u39 un + 1) j = nx := by
        unfold rgJ
        split <;> omega
      rw [if_pos q, if_pos er]
      exact ⟨b1, b2⟩
    · rw [if_neg q]
      by_cases q2 : un = 40
      · have e39 : u39 un = 39 := if_pos q2
        rw [e39] at hj q ⊢
        have er : rgJ (if nx + 1 < 40 then nx + 1 else 0) (39 + 1) j = rgJ nx un (j + 1) := by
          unfold rgJ
          split <;> omega
        have en : ¬ rgJ nx un (j + 1) = nx := by
          unfold rgJ
          omega
        rw [if_pos q2, er, if_neg en]
        exact f _ (by omega)
      · have e39 : u39 un = un := if_neg q2
        rw [e39] at hj q ⊢
        have er : rgJ (if nx + 1 < 40 then nx + 1 else 0) (un + 1) j = rgJ nx un j := by
          unfold rgJ
          split <;> omega
        have en : ¬ rgJ nx un j = nx := by
          unfold rgJ
          omega
        rw [if_neg q2, er, if_neg en]
        exact f _ (by omega)
  · have e37 : aC d υ 37 (40 * i) = aC d σ 37 (40 * i) := aC_cg (fun k _ => hl 37 _ (by omega))
    have e91 : aR υ 91 (51 * i) = aR σ 91 (51 * i) := aR_cg (fun k _ => hl 91 _ (by omega))
    rw [hl 90 i (by omega), hl 35 4 (by omega), e37, e91]
    exact l i hi
/-- something is undone -/
theorem RW_un {σ υ : am_S} {d : DR} {S nx un : Nat} (g : RWd σ d S nx un) (h0 : 0 < un)
    (hT : ∀ o i, (o = 20 ∧ i < 3) ∨ (22 ≤ o ∧ o ≤ 24) ∨ (28 ≤ o ∧ o ≤ 30) → υ.1 o i = σ.1 o i)
    (hR : ∀ o i, (o = 51 ∧ i = 18) ∨ (60 ≤ o ∧ o ≤ 61) ∨ (63 ≤ o ∧ o ≤ 75) → υ.1 o i = σ.1 o i)
    (hl : ∀ o i, (o = 36 ∨ o = 37 ∨ o = 81 ∨ o = 90 ∨ o = 91 ∨ (o = 35 ∧ i = 4) ∨ (o = 47 ∧ i = 3) ∨ (o = 51 ∧ i = 58) ∨ (48 ≤ o ∧ o ≤ 49 ∨ 88 ≤ o ∧ o ≤ 89)) → υ.1 o i = σ.1 o i)
    (hC : ∀ o i, o = 32 ∨ (o = 35 ∧ (i = 2 ∨ i = 3)) → υ.1 o i = (bbC nx un σ).1 o i)
    (hH : ∀ o i, o = 79 ∨ (o = 51 ∧ i = 49) → υ.1 o i = (udR un σ).1 o i) :
    RWd υ d S (if 0 < nx then nx - 1 else 39) (un - 1) := by
  obtain ⟨⟨a1, a2, a3⟩, ⟨b1, b2⟩, ⟨c1, c2, c3, c4, c5⟩, f, l, t⟩ := g
  have er : rgJ nx un (un - 1) = if 0 < nx then nx - 1 else 39 := by
    unfold rgJ
    split <;> omega
  obtain ⟨f1, f2⟩ := f (un - 1) (by omega)
  rw [er] at f1
  have e32 : mC d υ 31 = aC d σ 36 (40 * (if 0 < nx then nx - 1 else 39)) := by
    rw [← aC_0]
    refine aC_cg (fun i hi => ?_)
    rw [hC 32 _ (Or.inl rfl)]
    unfold bbC
    rw [cpX_d hi, pi_n _ _ _ _ (fun z => absurd z.1 (by decide)), pi_n _ _ _ _ (fun z => absurd z.1 (by decide))]
  have e79 : mR υ 79 = aR σ 81 (51 * (un - 1)) := by
    rw [← aR_0]
    refine aR_cg (fun i hi => ?_)
    rw [hH 79 _ (Or.inl rfl)]
    unfold udR
    rw [cpX_d hi, pi_n _ _ _ _ (fun z => absurd z.1 (by decide))]
  refine ⟨⟨tC_q a1 hT, tR_fr a2 hR, a3⟩, ⟨by rw [e32, e79]; exact f1, by rw [e79]; exact f2⟩, ⟨?_, by omega, ?_, ?_, ?_⟩, fun j hj => ?_, fun i hi => ?_, RWt_cg t (fun o i q => hl o i (by omega))⟩
  · split <;> omega
  · rw [hC 35 2 (Or.inr ⟨rfl, Or.inl rfl⟩)]
    unfold bbC
    rw [cpX_n (fun z => absurd z.1 (by decide)), pi_n _ _ _ _ (by decide), pi_s]
  · rw [hC 35 3 (Or.inr ⟨rfl, Or.inr rfl⟩)]
    unfold bbC
    rw [cpX_n (fun z => absurd z.1 (by decide)), pi_s, show ((un - 1 : Nat) : Int) = (un : Int) - 1 by omega]
  · rw [hH 51 49 (Or.inr ⟨rfl, rfl⟩)]
    unfold udR
    rw [cpX_n (fun z => absurd z.1 (by decide)), pi_s, show ((un - 1 : Nat) : Int) = (un : Int) - 1 by omega]
  · have e : rgJ (if 0 < nx then nx - 1 else 39) (un - 1) j = rgJ nx un j := by
      unfold rgJ
      split <;> omega
    have e36 : aC d υ 36 (40 * rgJ nx un j) = aC d σ 36 (40 * rgJ nx un j) := aC_cg (fun k _ => hl 36 _ (by omega))
    have e81 : aR υ 81 (51 * j) = aR σ 81 (51 * j) := aR_cg (fun k _ => hl 81 _ (by omega))
    rw [e, e36, e81]
    exact f j (by omega)
  · have e37 : aC d υ 37 (40 * i) = aC d σ 37 (40 * i) := aC_cg (fun k _ => hl 37 _ (by omega))
    have e91 : aR υ 91 (51 * i) = aR σ 91 (51 * i) := aR_cg (fun k _ => hl 91 _ (by omega))
    rw [hl 90 i (by omega), hl 35 4 (by omega), e37, e91]
    exact l i hi
theorem bt_h8 : ∀ j, j < 32 → bitAt (Int32.ofInt (-8)) j = decide (3 ≤ j) := by decide +kernel
theorem hi8_or {x : Int32} {r : Nat} (hr : r < 3) : (x ||| (Int32.ofInt 1 <<< (Int32.ofInt (r : Int) &&& 31))) &&& Int32.ofInt (-8) = x &&& Int32.ofInt (-8) := bt_ext fun j hj => by
  rw [bt_and, bt_and, bt_or, bt_l (by omega) j hj, bt_h8 j hj]
  by_cases q : j = r
  · rw [decide_eq_false (show ¬ 3 ≤ j by omega), Bool.and_false, Bool.and_false]
  · rw [decide_eq_false q, Bool.or_false]
/-- a slot is filled -/
theorem RW_ho {σ υ : am_S} {d : DR} {S nx un s : Nat} (g : RWd σ d S nx un) (hs : s < 3)
    (hT : ∀ o i, (o = 20 ∧ i < 3) ∨ (22 ≤ o ∧ o ≤ 24) ∨ (28 ≤ o ∧ o ≤ 30) → υ.1 o i = σ.1 o i)
    (hR : ∀ o i, (o = 51 ∧ i = 18) ∨ (60 ≤ o ∧ o ≤ 61) ∨ (63 ≤ o ∧ o ≤ 75) → υ.1 o i = σ.1 o i)
    (hr : ∀ o i, (o = 32 ∨ o = 36 ∨ o = 79 ∨ o = 81 ∨ (o = 35 ∧ (i = 2 ∨ i = 3)) ∨ (o = 47 ∧ i = 3) ∨ (o = 51 ∧ (i = 49 ∨ i = 58)) ∨ (48 ≤ o ∧ o ≤ 49 ∨ 88 ≤ o ∧ o ≤ 89)) → υ.1 o i = σ.1 o i)
    (h37 : ∀ i, υ.1 37 i = (cpX 32 37 0 (40 * s) 40 σ).1 37 i) (h91 : ∀ i, υ.1 91 i = (cpX 79 91 0 (51 * s) 51 σ).1 91 i)
    (hf : υ.1 35 4 = (σ.1 35 4 ||| (Int32.ofInt 1 <<< (Int32.ofInt (s : Int) &&& 31)))) (h90 : ∀ i, υ.1 90 i = if i = s then Int32.ofInt 1 else σ.1 90 i) : RWd υ d S nx un := by
  obtain ⟨⟨a1, a2, a3⟩, n, c, f, l, t⟩ := g
  refine ⟨⟨tC_q a1 hT, tR_fr a2 hR, a3⟩, RWn_cg n (fun o i q => hr o i (by omega)), RWc_cg c (fun o i q => hr o i (by omega)), RWh_cg f (fun o i q => hr o i (by omega)), fun i hi => ?_, ?_⟩
  rotate_left
  · obtain ⟨x, t1, t2, t3, t4, t5⟩ := t
    refine ⟨x, t1, (hr 47 3 (by omega)).trans t2, (hr 51 58 (by omega)).trans t3, fun i hi => ?_, by rw [hf, hi8_or hs]; exact t5⟩
    rw [hr 88 i (by omega), hr 48 i (by omega), hr 89 i (by omega), hr 49 i (by omega)]
    exact t4 i hi
  have eb : bitAt (υ.1 35 4) i = (bitAt (σ.1 35 4) i || decide (i = s)) := by rw [hf, bt_or, bt_l (by omega) i (by omega)]
  rw [h90 i, eb]
  by_cases q : i = s
  · subst q
    have e37 : aC d υ 37 (40 * i) = mC d σ 31 := by
      rw [← aC_0]
      exact aC_cg (fun k hk => by rw [h37, cpX_d hk])
    have e91 : aR υ 91 (51 * i) = mR σ 79 := by
      rw [← aR_0]
      exact aR_cg (fun k hk => by rw [h91, cpX_d hk])
    rw [if_pos rfl, decide_eq_true rfl, Bool.or_true, e37, e91]
    exact Or.inr ⟨rfl, rfl, n.1, n.2⟩
  · have e37 : aC d υ 37 (40 * i) = aC d σ 37 (40 * i) := aC_cg (fun k hk => by rw [h37, cpX_n (fun z => by omega)])
    have e91 : aR υ 91 (51 * i) = aR σ 91 (51 * i) := aR_cg (fun k hk => by rw [h91, cpX_n (fun z => by omega)])
    rw [if_neg q, decide_eq_false q, Bool.or_false, e37, e91]
    exact l i hi
/-- a slot is gone on from -/
theorem RW_re {σ υ : am_S} {d : DR} {S nx un s : Nat} (g : RWd σ d S nx un) (hs : s < 3) (hb : bitAt (σ.1 35 4) s = true)
    (hT : ∀ o i, (o = 20 ∧ i < 3) ∨ (22 ≤ o ∧ o ≤ 24) ∨ (28 ≤ o ∧ o ≤ 30) → υ.1 o i = σ.1 o i)
    (hR : ∀ o i, (o = 51 ∧ i = 18) ∨ (60 ≤ o ∧ o ≤ 61) ∨ (63 ≤ o ∧ o ≤ 75) → υ.1 o i = σ.1 o i)
    (hr : ∀ o i, (o = 37 ∨ o = 90 ∨ o = 91 ∨ (o = 35 ∧ (i = 2 ∨ i = 4)) ∨ (o = 47 ∧ i = 3) ∨ (o = 51 ∧ i = 58) ∨ (48 ≤ o ∧ o ≤ 49 ∨ 88 ≤ o ∧ o ≤ 89)) → υ.1 o i = σ.1 o i)
    (h32 : ∀ i, υ.1 32 i = (cpX 37 32 (40 * s) 0 40 σ).1 32 i) (h79 : ∀ i, υ.1 79 i = (cpX 91 79 (51 * s) 0 51 σ).1 79 i)
    (hu : υ.1 35 3 = Int32.ofInt 0) (hv : υ.1 51 49 = Int32.ofInt 0) : RWd υ d S nx 0 := by
  obtain ⟨⟨a1, a2, a3⟩, n, ⟨c1, c2, c3, c4, c5⟩, f, l, t⟩ := g
  have ls : aC d σ 37 (40 * s) = aR σ 91 (51 * s) ∧ mOK d (aR σ 91 (51 * s)) := by
    rcases l s hs with w | w
    · rw [w.2] at hb; cases hb
    · exact w.2.2
  have e32 : mC d υ 31 = aC d σ 37 (40 * s) := by
    rw [← aC_0]
    refine aC_cg (fun i hi => ?_)
    have := cpX_d (σ := σ) (c := 37) (d := 32) (sp := 40 * s) (dp := 0) (m := 40) (k := i) hi
    rw [h32, this]
  have e79 : mR υ 79 = aR σ 91 (51 * s) := by
    rw [← aR_0]
    refine aR_cg (fun i hi => ?_)
    have := cpX_d (σ := σ) (c := 91) (d := 79) (sp := 51 * s) (dp := 0) (m := 51) (k := i) hi
    rw [h79, this]
  exact ⟨⟨tC_q a1 hT, tR_fr a2 hR, a3⟩, ⟨by rw [e32, e79]; exact ls.1, by rw [e79]; exact ls.2⟩, ⟨c1, by omega, (hr 35 2 (by omega)).trans c3, hu, hv⟩, fun j hj => absurd hj (Nat.not_lt_zero _), RWl_cg l (fun o i q => hr o i (by omega)), RWt_cg t (fun o i q => hr o i (by omega))⟩
