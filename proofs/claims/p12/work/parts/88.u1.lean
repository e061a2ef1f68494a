/-! WHAT A TEXT SAYS: its tokens, one after the other. b: its bytes, Z: how many. Printed from wip/am/chk/hand/u1.in. -/
def isLt (c : Int) : Bool := decide (97 ≤ c) && decide (c ≤ 122)
def isDg (c : Int) : Bool := decide (48 ≤ c) && decide (c ≤ 57)
def isBl (c : Int) : Bool := decide (c = 9) || (decide (c = 10) || (decide (c = 13) || decide (c = 32)))
theorem isLt_i {c : Int} : isLt c = true ↔ 97 ≤ c ∧ c ≤ 122 := by simp [isLt]
theorem isDg_i {c : Int} : isDg c = true ↔ 48 ≤ c ∧ c ≤ 57 := by simp [isDg]
theorem isBl_i {c : Int} : isBl c = true ↔ c = 9 ∨ c = 10 ∨ c = 13 ∨ c = 32 := by simp [isBl]
/-- on from i as long as p holds -/
def rn (p : Int → Bool) (b : Nat → Int) (Z : Nat) : Nat → Nat → Nat
  | 0, i => i
  | f + 1, i => if i < Z ∧ p (b i) = true then rn p b Z f (i + 1) else i
def rr (p : Int → Bool) (b : Nat → Int) (Z i : Nat) : Nat := rn p b Z (Z - i) i
theorem rr_go {p : Int → Bool} {b : Nat → Int} {Z i : Nat} (h : i < Z) (hp : p (b i) = true) : rr p b Z i = rr p b Z (i + 1) := by
  unfold rr
  rw [show Z - i = (Z - (i + 1)) + 1 by omega]
  simp only [rn]
  rw [if_pos ⟨h, hp⟩]
theorem rr_no {p : Int → Bool} {b : Nat → Int} {Z i : Nat} (h : ¬ (i < Z ∧ p (b i) = true)) : rr p b Z i = i := by
  unfold rr
  cases Z - i with
  | zero => rfl
  | succ f => simp only [rn]; rw [if_neg h]
theorem rn_ge {p : Int → Bool} {b : Nat → Int} {Z : Nat} : ∀ (f i : Nat), i ≤ rn p b Z f i
  | 0, i => Nat.le_refl _
  | f + 1, i => by
    simp only [rn]
    split
    · exact Nat.le_trans (Nat.le_succ i) (rn_ge f (i + 1))
    · exact Nat.le_refl _
theorem rn_le {p : Int → Bool} {b : Nat → Int} {Z : Nat} : ∀ (f i : Nat), i ≤ Z → rn p b Z f i ≤ Z
  | 0, i, h => h
  | f + 1, i, h => by
    simp only [rn]
    split
    · rename_i q
      exact rn_le f (i + 1) q.1
    · exact h
theorem rr_ge {p : Int → Bool} {b : Nat → Int} {Z i : Nat} : i ≤ rr p b Z i := rn_ge _ _
theorem rr_le {p : Int → Bool} {b : Nat → Int} {Z i : Nat} (h : i ≤ Z) : rr p b Z i ≤ Z := rn_le _ _ h
theorem rn_in {p : Int → Bool} {b : Nat → Int} {Z : Nat} : ∀ (f i j : Nat), i ≤ j → j < rn p b Z f i → p (b j) = true
  | 0, i, j, h1, h2 => absurd (show j < i from h2) (by omega)
  | f + 1, i, j, h1, h2 => by
    simp only [rn] at h2
    split at h2
    · rename_i q
      by_cases e : j = i
      · rw [e]; exact q.2
      · exact rn_in f (i + 1) j (by omega) h2
    · omega
/-- all between hold p -/
theorem rr_in {p : Int → Bool} {b : Nat → Int} {Z i j : Nat} (h1 : i ≤ j) (h2 : j < rr p b Z i) : p (b j) = true := rn_in _ _ _ h1 h2
theorem rn_end {p : Int → Bool} {b : Nat → Int} {Z : Nat} : ∀ (f i : Nat), Z ≤ f + i → ¬ (rn p b Z f i < Z ∧ p (b (rn p b Z f i)) = true)
  | 0, i, h => fun z => by have := z.1; simp only [rn] at this; omega
  | f + 1, i, h => by
    simp only [rn]
    split
    · exact rn_end f (i + 1) (by omega)
    · assumption
theorem rr_end {p : Int → Bool} {b : Nat → Int} {Z i : Nat} : ¬ (rr p b Z i < Z ∧ p (b (rr p b Z i)) = true) := rn_end _ _ (by omega)
/-- where what stands at i ends -/
def tnx (b : Nat → Int) (Z i : Nat) : Nat := if Z ≤ i then i else if isLt (b i) = true then rr isLt b Z i else if isDg (b i) = true then rr isDg b Z i else i + 1
theorem tnx_b {b : Nat → Int} {Z i : Nat} (h : i < Z) : i < tnx b Z i ∧ tnx b Z i ≤ Z := by
  unfold tnx
  rw [if_neg (by omega)]
  split
  · rename_i q
    rw [rr_go h q]
    exact ⟨rr_ge, rr_le h⟩
  · split
    · rename_i q
      rw [rr_go h q]
      exact ⟨rr_ge, rr_le h⟩
    · omega
/-- where the j-th token stands -/
def ps (b : Nat → Int) (Z : Nat) : Nat → Nat
  | 0 => rr isBl b Z 0
  | j + 1 => rr isBl b Z (tnx b Z (ps b Z j))
theorem ps_le {b : Nat → Int} {Z : Nat} : ∀ j, ps b Z j ≤ Z
  | 0 => rr_le (Nat.zero_le _)
  | j + 1 => by
    have h := ps_le (b := b) (Z := Z) j
    show rr isBl b Z (tnx b Z (ps b Z j)) ≤ Z
    by_cases q : ps b Z j < Z
    · exact rr_le (tnx_b q).2
    · refine rr_le ?_
      unfold tnx
      rw [if_pos (by omega)]
      exact h
theorem ps_lt {b : Nat → Int} {Z j : Nat} (h : ps b Z j < Z) : ps b Z j < ps b Z (j + 1) := Nat.lt_of_lt_of_le (tnx_b h).1 rr_ge
/-- n letters from i on as one number -/
def pk (b : Nat → Int) (i : Nat) : Nat → Int64
  | 0 => 0
  | n + 1 => pk b i n * 27 + (Int32.ofInt (b (i + n)) - Int32.ofInt 97 + Int32.ofInt 1).toInt64
/-- the first place of x in a row; its length without -/
def kwi (x : Int64) : List Int64 → Nat
  | [] => 0
  | a :: t => if a = x then 0 else kwi x t + 1
theorem kwi_le {x : Int64} : ∀ l : List Int64, kwi x l ≤ l.length
  | [] => Nat.le_refl _
  | a :: t => by
    simp only [kwi]
    split
    · exact Nat.zero_le _
    · exact Nat.succ_le_succ (kwi_le t)
theorem kwi_lt {x : Int64} : ∀ {l : List Int64} {k : Nat}, k < kwi x l → ¬ l.getD k 0 = x
  | [], k, h => absurd (show k < 0 from h) (Nat.not_lt_zero _)
  | a :: t, k, h => by
    simp only [kwi] at h
    split at h
    · exact absurd h (Nat.not_lt_zero _)
    · rename_i q
      cases k with
      | zero => exact q
      | succ k => exact kwi_lt (l := t) (by omega)
theorem kwi_at {x : Int64} : ∀ {l : List Int64}, kwi x l < l.length → l.getD (kwi x l) 0 = x
  | [], h => absurd h (Nat.not_lt_zero _)
  | a :: t, h => by
    simp only [kwi] at h ⊢
    split
    · assumption
    · rename_i q
      rw [if_neg q] at h
      exact kwi_at (l := t) (by simpa using h)
def sgn (c : Int) : Int := if c = 59 then 4 else if c = 61 then 5 else if c = 40 then 6 else if c = 41 then 7 else if c = 43 then 8 else if c = 45 then 9 else if c = 42 then 10 else if c = 47 then 15 else if c = 60 then 13 else 3
/-- what kind of token stands at i: 0 the end, 1 a NAME, 2 an INT, 3 none, 4 to 15 signs, 20 to 38 words -/
def tkd (b : Nat → Int) (Z i : Nat) : Int := if Z ≤ i then 0 else if isLt (b i) = true then (if rr isLt b Z i - i ≤ 8 then (if kwi (pk b i (rr isLt b Z i - i)) KEYS < 19 then 20 + (kwi (pk b i (rr isLt b Z i - i)) KEYS : Int) else 1) else 3) else if isDg (b i) = true then (if rr isDg b Z i - i ≤ 4 then 2 else 3) else sgn (b i)
def dv (b : Nat → Int) (i : Nat) : Nat → Int
  | 0 => 0
  | n + 1 => 10 * dv b i n + (b (i + n) - 48)
def twI (b : Nat → Int) (Z i : Nat) : Int := dv b i (rr isDg b Z i - i)
def twN (b : Nat → Int) (Z i : Nat) : Int64 := pk b i (rr isLt b Z i - i)
theorem sgn_b (c : Int) : 3 ≤ sgn c ∧ sgn c ≤ 15 := by
  unfold sgn
  repeat' split
  all_goals decide
theorem tkd_b {b : Nat → Int} {Z i : Nat} : 0 ≤ tkd b Z i ∧ tkd b Z i ≤ 38 ∧ (tkd b Z i = 0 ↔ Z ≤ i) := by
  unfold tkd
  have s := sgn_b (b i)
  repeat' split
  all_goals omega
/-- the tokens' kinds, places, numbers, names -/
def tK (b : Nat → Int) (Z j : Nat) : Int := tkd b Z (ps b Z j)
def tP (b : Nat → Int) (Z j : Nat) : Int := (ps b Z j : Int)
def tV (b : Nat → Int) (Z j : Nat) : Int := twI b Z (ps b Z j)
def tN (b : Nat → Int) (Z j : Nat) : Int64 := twN b Z (ps b Z j)
theorem tP_lt {b : Nat → Int} {Z j : Nat} (h : tK b Z j ≠ 0) : tP b Z j < tP b Z (j + 1) := by
  have h1 : ps b Z j < Z := Nat.lt_of_not_le (fun q => h ((tkd_b (b := b) (Z := Z) (i := ps b Z j)).2.2.mpr q))
  have := ps_lt (b := b) (Z := Z) (j := j) h1
  unfold tP
  omega
theorem dv_b {b : Nat → Int} {i : Nat} : ∀ {n : Nat}, (∀ j, j < n → 48 ≤ b (i + j) ∧ b (i + j) ≤ 57) → n ≤ 4 → 0 ≤ dv b i n ∧ dv b i n ≤ 9999 := by
  have one : ∀ n, (∀ j, j < n → 48 ≤ b (i + j) ∧ b (i + j) ≤ 57) → 0 ≤ dv b i n ∧ dv b i n < 10 ^ n := by
    intro n
    induction n with
    | zero => intro _; exact ⟨Int.le_refl _, by show (0 : Int) < 10 ^ 0; decide⟩
    | succ n ih =>
      intro h
      have h1 := ih (fun j hj => h j (by omega))
      have h2 := h n (by omega)
      simp only [dv]
      have e : (10 : Int) ^ (n + 1) = 10 * 10 ^ n := by rw [Int.pow_succ, Int.mul_comm]
      rw [e]
      generalize (10 : Int) ^ n = q at h1 ⊢
      omega
  intro n h hn
  have h1 := one n h
  have hn' : n = 0 ∨ n = 1 ∨ n = 2 ∨ n = 3 ∨ n = 4 := by omega
  rcases hn' with rfl | rfl | rfl | rfl | rfl <;> (simp only [show (10 : Int) ^ 0 = 1 by decide, show (10 : Int) ^ 1 = 10 by decide, show (10 : Int) ^ 2 = 100 by decide, show (10 : Int) ^ 3 = 1000 by decide, show (10 : Int) ^ 4 = 10000 by decide] at h1; omega)
theorem tV_b {b : Nat → Int} {Z j : Nat} (h : tK b Z j = 2) : 0 ≤ tV b Z j ∧ tV b Z j ≤ 9999 := by
  have e : isDg (b (ps b Z j)) = true ∧ rr isDg b Z (ps b Z j) - ps b Z j ≤ 4 := by
    unfold tK tkd at h
    have s := sgn_b (b (ps b Z j))
    split at h
    · cases h
    · split at h
      · split at h
        · split at h
          · omega
          · cases h
        · cases h
      · split at h
        · split at h
          · exact ⟨by assumption, by assumption⟩
          · cases h
        · exfalso
          unfold sgn at h
          repeat' split at h
          all_goals omega
  exact dv_b (fun k hk => isDg_i.mp (rr_in (p := isDg) (Z := Z) (i := ps b Z j) (by omega) (by omega))) e.2
theorem tP_b {b : Nat → Int} {Z j : Nat} (h : Z ≤ 2000) : 0 ≤ tP b Z j ∧ tP b Z j ≤ 2000 := by
  have := ps_le (b := b) (Z := Z) j
  unfold tP
  omega
