/-! THE CLASS READS: what it leaves, exactly. Printed from wip/am/chk/hand/zh.in. -/
/-- the town becomes what was told, all begins anew -/
def rcF (σ : am_S) : am_S := am_pi (am_pi (am_pi (bgK 5 (beT σ)) 35 3 (Int32.ofInt 0)) 35 4 (Int32.ofInt 0)) 47 3 (Int32.ofInt 0)
def beN : sa_M := [(20, 0, 3), (21, 5, 5 + 1), (22, 0, 408), (23, 0, 408), (24, 0, 4), (27, 0, 5), (28, 0, 5), (29, 0, 5), (30, 0, 5)]
def bfM : sa_M := beN ++ [(32, 0, 40), (35, 3, 3 + 1), (35, 4, 4 + 1), (47, 3, 3 + 1)]
theorem cpS_I {M : sa_M} {σ0 σ : am_S} {c d m : Nat} {q q2 : Nat × Nat} (h : sI BB SH M σ0 σ) (hc : SH c = .inr q) (hd : SH d = .inr q2) (h1 : m ≤ q.2) (hb : BB.1 c = BB.1 d) (hm : (d, 0, m) ∈ M) : sI BB SH M σ0 (cpS c d m σ) :=
  sI_cpy h hc hd (by omega) (fun j _ => by unfold sb_a; rw [hb]; exact ⟨Int.le_refl _, Int.le_refl _⟩) ⟨_, hm, rfl, Nat.le_refl _, by show 0 + m ≤ m; omega⟩
theorem cpF_I {M : sa_M} {σ0 σ : am_S} {a i b j ca cb : Nat} (h : sI BB SH M σ0 σ) (ha : SH a = .inl ca) (hb : SH b = .inl cb) (hh : BB.2 a i = BB.2 b j) (hm : ∃ m ∈ M, m.1 = b ∧ m.2.1 ≤ j ∧ j < m.2.2) : sI BB SH M σ0 (cpF a i b j σ) :=
  sI_fld h hb (by rw [← hh]; exact h.1.2 a ca i ha) hm
theorem beL_I {σ0 σ : am_S} (h : sI BB SH beN σ0 σ) : sI BB SH beN σ0 (beL σ) :=
  cpF_I (cpS_I (q := (0, 4)) (q2 := (0, 4)) (cpS_I (q := (0, 408)) (q2 := (0, 408)) (cpS_I (q := (0, 408)) (q2 := (0, 408)) h rfl rfl (by decide) rfl (by decide)) rfl rfl (by decide) rfl (by decide)) rfl rfl (by decide) rfl (by decide)) rfl rfl rfl ⟨(21, 5, 5 + 1), by decide, rfl, by decide, by decide⟩
theorem beT_I {σ : am_S} (h : sb_ok BB SH σ) : sI BB SH beN σ (beT σ) := by
  have h0 : sI BB SH beN σ σ := ⟨h, sb_fr_r _ _⟩
  have h1 := cpF_I (a := 3) (i := 0) (b := 20) (j := 0) h0 rfl rfl rfl ⟨(20, 0, 3), by decide, rfl, by decide, by decide⟩
  have h2 := cpF_I (a := 3) (i := 1) (b := 20) (j := 1) h1 rfl rfl rfl ⟨(20, 0, 3), by decide, rfl, by decide, by decide⟩
  have h3 := cpF_I (a := 3) (i := 2) (b := 20) (j := 2) h2 rfl rfl rfl ⟨(20, 0, 3), by decide, rfl, by decide, by decide⟩
  have h4 := beL_I h3
  exact cpS_I (q := (0, 5)) (q2 := (0, 5)) (cpS_I (q := (0, 5)) (q2 := (0, 5)) (cpS_I (q := (0, 5)) (q2 := (0, 5)) (cpS_I (q := (0, 5)) (q2 := (0, 5)) h4 rfl rfl (by decide) rfl (by decide)) rfl rfl (by decide) rfl (by decide)) rfl rfl (by decide) rfl (by decide)) rfl rfl (by decide) rfl (by decide)
theorem bgK_I {σ0 σ : am_S} (h : sI BB SH bfM σ0 σ) : sI BB SH bfM σ0 (bgK 5 σ) := by
  refine ⟨⟨fun o q k hs hk => ?_, fun o ci k hs => ?_⟩, fun o k hn => ?_⟩
  · by_cases e : o = 32
    · subst e
      have hs' : q = (0, 40) := by cases hs; rfl
      subst hs'
      have hk : k < 40 := hk
      show _ ≤ (if 32 = 32 ∧ k < 40 then (if 3 ≤ k ∧ k < 3 + 5 then σ.1 27 (k - 3) else if 8 ≤ k ∧ k < 8 + 5 then Int32.ofInt (-2) else Int32.ofInt 0) else σ.1 32 k).toInt ∧ (if 32 = 32 ∧ k < 40 then (if 3 ≤ k ∧ k < 3 + 5 then σ.1 27 (k - 3) else if 8 ≤ k ∧ k < 8 + 5 then Int32.ofInt (-2) else Int32.ofInt 0) else σ.1 32 k).toInt ≤ _
      rw [if_pos ⟨rfl, hk⟩]
      have all : ∀ k, k < 40 → (sb_a BB 32 k).1 = -2147483648 ∧ 2147483646 ≤ (sb_a BB 32 k).2 := by decide +kernel
      obtain ⟨a1, a2⟩ := all k hk
      by_cases c1 : 3 ≤ k ∧ k < 3 + 5
      · rw [if_pos c1]
        have := h.1.1 27 (0, 5) (k - 3) rfl (by show k - 3 < 5; omega)
        rw [sb_1 (q := (-2147483648, 2147483646)) rfl] at this
        have h1 : (-2147483648 : Int) ≤ (σ.1 27 (k - 3)).toInt := this.1
        have h2 : (σ.1 27 (k - 3)).toInt ≤ (2147483646 : Int) := this.2
        omega
      · rw [if_neg c1]
        by_cases c2 : 8 ≤ k ∧ k < 8 + 5
        · rw [if_pos c2, ii_t (by decide) (by decide)]; omega
        · rw [if_neg c2, ii_t (by decide) (by decide)]; omega
    · rw [bgK_n e]
      exact h.1.1 o q k hs hk
  · have e : ¬ o = 32 := by rintro rfl; cases hs
    rw [bgK_n e]
    exact h.1.2 o ci k hs
  · refine ⟨?_, (h.2 o k hn).2⟩
    by_cases e : o = 32
    · subst e
      by_cases c : k < 40
      · exact absurd ⟨rfl, Nat.zero_le _, c⟩ (hn (32, 0, 40) (by decide))
      · show (if 32 = 32 ∧ k < 40 then _ else σ.1 32 k) = _
        rw [if_neg (fun z => c z.2)]
        exact (h.2 _ k hn).1
    · rw [bgK_n e]
      exact (h.2 o k hn).1
theorem rcF_I {σ : am_S} (h : sb_ok BB SH σ) : sI BB SH bfM σ (rcF σ) := by
  have h1 : sI BB SH bfM σ (bgK 5 (beT σ)) := bgK_I (sI_m (beT_I h) (by decide))
  have h2 := sI_fld (o := 35) (k := 3) (x := Int32.ofInt 0) (ci := 7) h1 rfl ⟨by decide, by decide⟩ ⟨(35, 3, 3 + 1), by decide, rfl, by decide, by decide⟩
  have h3 := sI_fld (o := 35) (k := 4) (x := Int32.ofInt 0) (ci := 7) h2 rfl ⟨by decide, by decide⟩ ⟨(35, 4, 4 + 1), by decide, rfl, by decide, by decide⟩
  exact sI_fld (o := 47) (k := 3) (x := Int32.ofInt 0) (ci := 6) h3 rfl ⟨by decide, by decide⟩ ⟨(47, 3, 3 + 1), by decide, rfl, by decide, by decide⟩
theorem enR_b {b : Nat → Int} {Z : Nat} {s : ST} {u : UT} {d : DR} {σ : am_S} (hs : cST b Z σ s) (hu : cU σ u) : 0 ≤ (enR b Z s u d).1 ∧ (enR b Z s u d).1 ≤ 9 := by
  cases s with
  | inr q =>
    obtain ⟨v, q1, q2, q3, q4⟩ := hs
    show 0 ≤ q.1 ∧ q.1 ≤ 9
    omega
  | inl t =>
    have := hu.2.2
    show 0 ≤ (if u.1 ≠ 0 then u else if d.2.2.1.all (fun p => decide (p.2.1 < d.1)) = true then ((0, -1) : Int × Int) else (6, tP b Z t)).1 ∧ (if u.1 ≠ 0 then u else if d.2.2.1.all (fun p => decide (p.2.1 < d.1)) = true then ((0, -1) : Int × Int) else (6, tP b Z t)).1 ≤ 9
    split
    · exact this
    · split
      · exact ⟨by decide, by decide⟩
      · exact ⟨by show (0 : Int) ≤ 6; decide, by show (6 : Int) ≤ 9; decide⟩
/-- what read leaves by what the text says -/
def rcN : sa_M := rgM ++ rtM ++ x5M ++ [(0, 1, 1 + 1), (0, 2, 2 + 1)]
abbrev rtP (σ0 : am_S) (R : Int × Int) (d : DR) (post : Option Value → am_S → Prop) : Prop := ∀ τ, sI BB SH rcN σ0 τ → τ.1 0 1 = Int32.ofInt 0 → τ.1 0 2 = Int32.ofInt R.2 → (R.1 ≠ 0 → post (some (.int (Int32.ofInt R.1))) τ) ∧ (R.1 = 0 → cD τ d → post (some (.int (Int32.ofInt 0))) (rcF τ))
def sX11_readT : am_Sp := fun as n σ post => n = 92 ∧ sb_ok BB SH σ ∧ JJ σ ∧ KC σ ∧ ∃ Z : Nat, Z ≤ 2000 ∧ σ.1 0 1 = Int32.ofInt (Z : Int) ∧ as = [.ref 0] ∧ rtP σ ((spR (bC σ) Z).1, (spR (bC σ) Z).2.1) (spR (bC σ) Z).2.2 post
section
variable {post : Option Value → am_S → Prop} {AA : Nat → List (Option Value) → List Value → Nat → am_S → Prop}
end