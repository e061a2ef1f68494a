/-! WHAT AN EXPRESSION'S CODES COME TO: how deep they pile, what they are worth. Printed from wip/am/chk/hand/ja.in. -/
/-- how many numbers lie on the pile behind the codes, M at most ever -/
def dpt (M : Nat) : List (Int × Int) → Nat → Option Nat
  | [], n => some n
  | (k, _) :: t, n => if k < 2 then (if n < M then dpt M t (n + 1) else none) else (if 2 ≤ n then dpt M t (n - 1) else none)
theorem dpt_app {M : Nat} : ∀ (a b : List (Int × Int)) (n m : Nat), dpt M a n = some m → dpt M (a ++ b) n = dpt M b m
  | [], b, n, m, h => by
    have h : n = m := by simpa [dpt] using h
    subst h
    rfl
  | (k, v) :: t, b, n, m, h => by
    simp only [dpt] at h
    rw [List.cons_append]
    simp only [dpt]
    by_cases q : k < 2
    · rw [if_pos q] at h ⊢
      by_cases q2 : n < M
      · rw [if_pos q2] at h ⊢
        exact dpt_app t b _ _ h
      · rw [if_neg q2] at h; cases h
    · rw [if_neg q] at h ⊢
      by_cases q2 : 2 ≤ n
      · rw [if_pos q2] at h ⊢
        exact dpt_app t b _ _ h
      · rw [if_neg q2] at h; cases h
/-- the signs that wait (not the open brackets) -/
def nwS : List Int → Nat
  | [] => 0
  | w :: t => if w = 6 then nwS t else nwS t + 1
/-- between two brackets at most a + or - and a * or / above it; s: 2 anything, 1 below a * or /, 0 below a + or - -/
def okW : Nat → List Int → Nat → Prop
  | _, [], d => d = 0
  | s, w :: t, d => if w = 6 then 1 ≤ d ∧ okW 2 t (d - 1) else if w = 8 ∨ w = 9 then 1 ≤ s ∧ okW 0 t d else (w = 10 ∨ w = 15) ∧ s = 2 ∧ okW 1 t d
theorem okW_n : ∀ (W : List Int) (s d : Nat), okW s W d → nwS W ≤ 2 * d + s
  | [], s, d, h => Nat.zero_le _
  | w :: t, s, d, h => by
    simp only [okW] at h
    simp only [nwS]
    by_cases q : w = 6
    · rw [if_pos q] at h ⊢
      have := okW_n t 2 (d - 1) h.2
      omega
    · rw [if_neg q] at h ⊢
      by_cases q2 : w = 8 ∨ w = 9
      · rw [if_pos q2] at h
        have := okW_n t 0 d h.2
        omega
      · rw [if_neg q2] at h
        have := okW_n t 1 d h.2.2
        omega
theorem syO_2 (w : Int) : ¬ syO w < 2 := by
  unfold syO
  repeat' split
  all_goals decide
theorem syF_ok {M : Nat} (fl : Bool) : ∀ (W : List Int) (c : List (Int × Int)) (s d n : Nat), okW s W d → dpt M c 0 = some n → n = nwS W + 1 → okW (if fl then 1 else 0) (syF fl W c).1 d ∧ dpt M (syF fl W c).2 0 = some (nwS (syF fl W c).1 + 1)
  | [], c, s, d, n, h, hc, hn => by
    subst hn
    exact ⟨h, hc⟩
  | w :: t, c, s, d, n, h, hc, hn => by
    simp only [syF]
    by_cases q : w = 6 ∨ (fl = true ∧ (w = 8 ∨ w = 9))
    · rw [if_pos q]
      refine ⟨?_, by rw [hc, hn]⟩
      simp only [okW] at h ⊢
      by_cases q1 : w = 6
      · rw [if_pos q1] at h ⊢; exact h
      · rw [if_neg q1] at h ⊢
        obtain ⟨q2, q3⟩ := q.resolve_left q1
        rw [if_pos q3] at h ⊢
        rw [q2]
        exact ⟨Nat.le_refl _, h.2⟩
    · rw [if_neg q]
      have q1 : w ≠ 6 := fun z => q (Or.inl z)
      have hn' : nwS (w :: t) = nwS t + 1 := by simp only [nwS]; rw [if_neg q1]
      have ht : ∃ s', okW s' t d := by
        simp only [okW] at h
        rw [if_neg q1] at h
        split at h
        · exact ⟨_, h.2⟩
        · exact ⟨_, h.2.2⟩
      obtain ⟨s', ht⟩ := ht
      refine syF_ok fl t _ s' d (nwS t + 1) ht ?_ rfl
      rw [dpt_app c _ 0 n hc]
      simp only [dpt]
      rw [if_neg (syO_2 w), if_pos (by omega)]
      congr 1
      omega
/-- what holds of the machine of small steps -/
def syN (q : SY) : Prop := match q with
  | (0, _, W, d, c) => d ≤ 6 ∧ okW 2 W d ∧ dpt 15 c 0 = some (nwS W)
  | (1, _, W, d, c) => d ≤ 6 ∧ okW 2 W d ∧ dpt 15 c 0 = some (nwS W + 1)
  | (2, _, _, _, c) => dpt 15 c 0 = some 1
  | _ => True
theorem dpt_1 {c : List (Int × Int)} {n : Nat} {k v : Int} (h : dpt 15 c 0 = some n) (hk : k < 2) (hn : n < 15) : dpt 15 (c ++ [(k, v)]) 0 = some (n + 1) := by
  rw [dpt_app c _ 0 n h]
  simp only [dpt]
  rw [if_pos hk, if_pos hn]
theorem syN_s {K V : Nat → Int} {q : SY} (h : syN q) : syN (syS K V q) := by
  obtain ⟨m, t, W, d, c⟩ := q
  match m with
  | 0 =>
    obtain ⟨h1, h2, h3⟩ := h
    have hn := okW_n W 2 d h2
    simp only [syS]
    split
    · split
      · trivial
      · rename_i z
        refine ⟨by omega, ?_, ?_⟩
        · show (if (6 : Int) = 6 then 1 ≤ d + 1 ∧ okW 2 W (d + 1 - 1) else _)
          rw [if_pos rfl]
          exact ⟨by omega, by rw [Nat.add_sub_cancel]; exact h2⟩
        · show dpt 15 c 0 = some (if (6 : Int) = 6 then nwS W else nwS W + 1)
          rw [if_pos rfl]
          exact h3
    · split
      · split
        · trivial
        · exact ⟨h1, h2, dpt_1 h3 (by decide) (by omega)⟩
      · split
        · split
          · trivial
          · exact ⟨h1, h2, dpt_1 h3 (by decide) (by omega)⟩
        · trivial
  | 1 =>
    obtain ⟨h1, h2, h3⟩ := h
    simp only [syS]
    split
    · rename_i z
      split
      · trivial
      · obtain ⟨a1, a2⟩ := syF_ok false W c 2 d _ h2 h3 rfl
        revert a1 a2
        generalize syF false W c = r
        intro a1 a2
        obtain ⟨W', c'⟩ := r
        cases W' with
        | nil =>
          have : d = 0 := a1
          omega
        | cons w u =>
          have a1 : okW 0 (w :: u) d := a1
          simp only [okW] at a1
          have a2 : dpt 15 c' 0 = some (nwS (w :: u) + 1) := a2
          simp only [nwS] at a2
          by_cases q : w = 6
          · rw [if_pos q] at a1 a2
            exact ⟨by omega, a1.2, a2⟩
          · rw [if_neg q] at a1
            split at a1
            · exact absurd a1.1 (by decide)
            · exact absurd a1.2.1 (by decide)
    · split
      · rename_i z0 z
        split
        · trivial
        · obtain ⟨a1, a2⟩ := syF_ok (decide (K t = 10 ∨ K t = 15)) W c 2 d _ h2 h3 rfl
          revert a1 a2
          generalize syF (decide (K t = 10 ∨ K t = 15)) W c = r
          intro a1 a2
          have n6 : ¬ K t = 6 := by omega
          refine ⟨h1, ?_, ?_⟩
          · simp only [okW]
            rw [if_neg n6]
            by_cases q : K t = 8 ∨ K t = 9
            · rw [if_pos q]
              rw [if_neg (by simp; omega)] at a1
              exact ⟨by decide, a1⟩
            · rw [if_neg q]
              have q' : K t = 10 ∨ K t = 15 := by omega
              rw [if_pos (decide_eq_true q')] at a1
              first | exact ⟨q', rfl, a1⟩ | exact ⟨q', trivial, a1⟩
          · show dpt 15 r.2 0 = some (nwS (K t :: r.1))
            simp only [nwS]
            rw [if_neg n6]
            exact a2
      · split
        · trivial
        · rename_i z0 z1 z
          have d0 : d = 0 := by omega
          subst d0
          obtain ⟨a1, a2⟩ := syF_ok false W c 2 0 _ h2 h3 rfl
          revert a1 a2
          generalize syF false W c = r
          intro a1 a2
          obtain ⟨W', c'⟩ := r
          show dpt 15 c' 0 = some 1
          cases W' with
          | nil => exact a2
          | cons w u =>
            have a1 : okW 0 (w :: u) 0 := a1
            simp only [okW] at a1
            by_cases q : w = 6
            · rw [if_pos q] at a1
              exact absurd a1.1 (by decide)
            · rw [if_neg q] at a1
              split at a1
              · exact absurd a1.1 (by decide)
              · exact absurd a1.2.1 (by decide)
  | m + 2 =>
    rw [syS_fin (by show 2 ≤ m + 2; omega)]
    exact h
theorem syN_i {K V : Nat → Int} : ∀ (n : Nat) (q : SY), syN q → syN (syI K V n q)
  | 0, _, h => h
  | n + 1, _, h => syN_i n _ (syN_s h)
/-- an expression's codes pile 15 numbers at most and leave one -/
def wfc (c : List (Int × Int)) : Prop := dpt 15 c 0 = some 1
theorem syN_E (K V : Nat → Int) (t : Nat) (r : SY) (e : r = syE K V t) : syN r := by
  rw [e]
  unfold syE
  generalize 900 = n
  exact syN_i n _ ⟨Nat.zero_le _, rfl, rfl⟩
theorem wfc_r {r : SY} {s : ST} {t' : Nat} (hN : syN r) (h : (if r.1 = 2 then (.inl r.2.1, r.2.2.2.2) else (s, []) : ST × List (Int × Int)).1 = .inl t') (hs : ∀ t, s ≠ .inl t) : wfc (if r.1 = 2 then (.inl r.2.1, r.2.2.2.2) else (s, []) : ST × List (Int × Int)).2 := by
  obtain ⟨m, t1, W, d, c⟩ := r
  by_cases q : m = 2
  · subst q
    exact hN
  · rw [if_neg (show ¬ (m, t1, W, d, c).1 = 2 from q)] at h
    exact absurd h (hs t')
theorem wfc_E {b : Nat → Int} {Z : Nat} {s : ST} {t' : Nat} (h : (spE b Z s).1 = .inl t') : wfc (spE b Z s).2 := by
  cases s with
  | inr q => cases h
  | inl t =>
    rw [spE_l] at h ⊢
    have hN := syN_E (tK b Z) (tV b Z) t
    revert h hN
    generalize syE (tK b Z) (tV b Z) t = r
    intro h hN
    exact wfc_r (hN r rfl) h (fun t e => by cases e)
/-! what they are worth -/
def opv (k : Int) (a b : Int32) : Int32 := if k = 2 then a + b else if k = 3 then a - b else if k = 4 then a * b else a / b
/-- the pile behind the codes, the last first; none: something was divided by nothing -/
def tev (vr : Nat → Int32) : List (Int × Int) → List Int32 → Option (List Int32)
  | [], st => some st
  | (k, v) :: t, st => if k = 0 then tev vr t (Int32.ofInt v :: st) else if k = 1 then tev vr t (vr v.toNat :: st) else match st with
    | b :: a :: r => if k = 5 ∧ b = 0 then none else tev vr t (opv k a b :: r)
    | _ => none
/-- an expression's worth -/
def exV (vr : Nat → Int32) (c : List (Int × Int)) : Option Int32 := (tev vr c []).bind (fun l => l.head?)
/-- a law's worth: its branches, then its last expression -/
def lwB (vr : Nat → Int32) : List BR → List (Int × Int) → Int32
  | [], c => (exV vr c).getD 0
  | (x, y, z) :: t, c => match exV vr x, exV vr y with
    | some u, some v => if u < v then (exV vr z).getD 0 else lwB vr t c
    | _, _ => 0
/-- what law k tells -/
def lwV (d : DR) (k : Nat) (vr : Nat → Int32) : Int32 := match d.2.2.2 k with
  | none => if k = 0 then Int32.ofInt 9 else if k = 2 then vr 5 else Int32.ofInt 0
  | some w => lwB vr w.1 w.2
theorem tev_r {M : Nat} {vr : Nat → Int32} (r : List Int32) : ∀ (c : List (Int × Int)) (st : List Int32) (m : Nat), (∀ p ∈ c, 0 ≤ p.1) → dpt M c st.length = some m → tev vr c (st ++ r) = (tev vr c st).map (fun l => l ++ r)
  | [], st, m, _, _ => rfl
  | (k, v) :: t, st, m, h0, h => by
    have hk0 : 0 ≤ k := h0 _ List.mem_cons_self
    have ht : ∀ p ∈ t, 0 ≤ p.1 := fun p hp => h0 p (List.mem_cons_of_mem _ hp)
    simp only [dpt] at h
    simp only [tev]
    by_cases q : k < 2
    · rw [if_pos q] at h
      by_cases q2 : st.length < M
      · rw [if_pos q2] at h
        by_cases z : k = 0
        · rw [if_pos z, if_pos z]
          exact tev_r r t (Int32.ofInt v :: st) m ht h
        · have z1 : k = 1 := by omega
          rw [if_neg z, if_neg z, if_pos z1, if_pos z1]
          exact tev_r r t (vr v.toNat :: st) m ht h
      · rw [if_neg q2] at h; cases h
    · rw [if_neg q] at h
      by_cases q2 : 2 ≤ st.length
      · rw [if_pos q2] at h
        have z : ¬ k = 0 := by omega
        have z1 : ¬ k = 1 := by omega
        rw [if_neg z, if_neg z, if_neg z1, if_neg z1]
        match st, q2, h with
        | b :: a :: s, _, h =>
          show (if k = 5 ∧ b = 0 then none else tev vr t (opv k a b :: (s ++ r))) = Option.map _ (if k = 5 ∧ b = 0 then none else tev vr t (opv k a b :: s))
          by_cases w : k = 5 ∧ b = 0
          · rw [if_pos w, if_pos w]; rfl
          · rw [if_neg w, if_neg w]
            exact tev_r r t (opv k a b :: s) m ht h
      · rw [if_neg q2] at h; cases h
theorem tev_l {M : Nat} {vr : Nat → Int32} : ∀ (c : List (Int × Int)) (st st' : List Int32) (m : Nat), (∀ p ∈ c, 0 ≤ p.1) → dpt M c st.length = some m → tev vr c st = some st' → st'.length = m
  | [], st, st', m, _, h, e => by
    have h : st.length = m := by simpa [dpt] using h
    have e : st = st' := by simpa [tev] using e
    rw [← e]
    exact h
  | (k, v) :: t, st, st', m, h0, h, e => by
    have hk0 : 0 ≤ k := h0 _ List.mem_cons_self
    have ht : ∀ p ∈ t, 0 ≤ p.1 := fun p hp => h0 p (List.mem_cons_of_mem _ hp)
    simp only [dpt] at h
    simp only [tev] at e
    by_cases q : k < 2
    · rw [if_pos q] at h
      by_cases q2 : st.length < M
      · rw [if_pos q2] at h
        by_cases z : k = 0
        · rw [if_pos z] at e
          exact tev_l t (Int32.ofInt v :: st) st' m ht h e
        · have z1 : k = 1 := by omega
          rw [if_neg z, if_pos z1] at e
          exact tev_l t (vr v.toNat :: st) st' m ht h e
      · rw [if_neg q2] at h; cases h
    · rw [if_neg q] at h
      by_cases q2 : 2 ≤ st.length
      · rw [if_pos q2] at h
        have z : ¬ k = 0 := by omega
        have z1 : ¬ k = 1 := by omega
        rw [if_neg z, if_neg z1] at e
        match st, q2, h, e with
        | b :: a :: s, _, h, e =>
          have e : (if k = 5 ∧ b = 0 then none else tev vr t (opv k a b :: s)) = some st' := e
          by_cases w : k = 5 ∧ b = 0
          · rw [if_pos w] at e; cases e
          · rw [if_neg w] at e
            exact tev_l t (opv k a b :: s) st' m ht h e
      · rw [if_neg q2] at h; cases h
/-- an expression alone on the pile -/
theorem exV_e {vr : Nat → Int32} {c : List (Int × Int)} (hw : wfc c) (h0 : ∀ p ∈ c, 0 ≤ p.1) : (∃ x, tev vr c [] = some [x] ∧ exV vr c = some x) ∨ (tev vr c [] = none ∧ exV vr c = none) := by
  unfold exV
  cases e : tev vr c [] with
  | none => exact Or.inr ⟨rfl, rfl⟩
  | some l =>
    have := tev_l c [] l 1 h0 hw e
    match l, this with
    | [x], _ => exact Or.inl ⟨x, rfl, rfl⟩
theorem dpt_up0 {M : Nat} (i : Nat) : ∀ (c : List (Int × Int)) (n m : Nat), dpt M c n = some m → dpt (M + i) c n = some m
  | [], n, m, h => h
  | (k, v) :: t, n, m, h => by
    simp only [dpt] at h ⊢
    by_cases q : k < 2
    · rw [if_pos q] at h ⊢
      by_cases q2 : n < M
      · rw [if_pos q2] at h
        rw [if_pos (by omega)]
        exact dpt_up0 i t _ _ h
      · rw [if_neg q2] at h; cases h
    · rw [if_neg q] at h ⊢
      by_cases q2 : 2 ≤ n
      · rw [if_pos q2] at h ⊢
        exact dpt_up0 i t _ _ h
      · rw [if_neg q2] at h; cases h
theorem dpt_mono (c : List (Int × Int)) (n m : Nat) (h : dpt 15 c n = some m) : dpt 24 c n = some m := dpt_up0 9 c n m h
