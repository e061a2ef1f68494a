/-! WHAT IS TOLD: sentences as functions of where a reader stands. Printed from wip/am/chk/hand/x1.in. -/
/-- an expression: where it ends, its codes -/
def spE (b : Nat → Int) (Z : Nat) (s : ST) : ST × List (Int × Int) := match s with
  | .inl t => if (syE (tK b Z) (tV b Z) t).1 = 2 then (.inl (syE (tK b Z) (tV b Z) t).2.1, (syE (tK b Z) (tV b Z) t).2.2.2.2) else (.inr (((syE (tK b Z) (tV b Z) t).1 : Int) - 3, tP b Z (syE (tK b Z) (tV b Z) t).2.1), [])
  | .inr q => (.inr q, [])
theorem spE_l (b : Nat → Int) (Z t : Nat) : spE b Z (.inl t) = if (syE (tK b Z) (tV b Z) t).1 = 2 then (.inl (syE (tK b Z) (tV b Z) t).2.1, (syE (tK b Z) (tV b Z) t).2.2.2.2) else (.inr (((syE (tK b Z) (tV b Z) t).1 : Int) - 3, tP b Z (syE (tK b Z) (tV b Z) t).2.1), []) := rfl
theorem rST_expr {b : Nat → Int} {Z : Nat} {σ τ : am_S} {s : ST} {as : List Value} {v : Option Value} (h : xExpr as σ v τ) (hs : rST b Z σ s) : rST b Z τ (spE b Z s).1 ∧ ∀ t', (spE b Z s).1 = .inl t' → CL τ (pC σ).toNat = (spE b Z s).2 := by
  obtain ⟨h1, h2⟩ := h
  cases s with
  | inl t =>
    obtain ⟨v, h3⟩ := h1.2 b Z t hs
    rw [spE_l]
    rcases h3 with ⟨t', r, e⟩ | ⟨t', m, e1, e2, e3, e4⟩
    · rw [e, if_pos rfl]
      exact ⟨⟨v, r⟩, fun _ _ => rfl⟩
    · rw [e4]
      have hm : ¬ m = 2 := by omega
      rw [if_neg hm]
      refine ⟨⟨v, ⟨?_, ?_⟩, ?_, e3⟩, fun _ z => by cases z⟩
      · show 1 ≤ (m : Int) - 3; omega
      · show (m : Int) - 3 ≤ 2; omega
      · show pF τ = (m : Int) - 3; omega
  | inr q =>
    obtain ⟨v, h3, h4, h5⟩ := hs
    obtain ⟨g1, g2, g3⟩ := h2 (by omega)
    exact ⟨⟨wVR_tks v g1, h3, g2.trans h4, g3.trans h5⟩, fun _ z => by cases z⟩
theorem wX_expr {σ τ : am_S} {as : List Value} {v : Option Value} (h : xExpr as σ v τ) : wX σ τ := h.1.1
theorem cST_expr {b : Nat → Int} {Z t : Nat} {s' : ST} {c : List (Int × Int)} (h : eS (tK b Z) (tV b Z) (tP b Z) 0 t s' c) (ht : t ≤ 400) (hs : ∀ t', s' = .inl t' → t' ≤ 400) : s' = (spE b Z (.inl t)).1 ∧ ∀ t', s' = .inl t' → c = (spE b Z (.inl t)).2 := by
  have e := eS_E h ht
  rw [spE_l]
  cases s' with
  | inl t' =>
    have e := e (hs t' rfl)
    rw [e, if_pos rfl]
    exact ⟨rfl, fun _ _ => rfl⟩
  | inr q =>
    obtain ⟨t', m, e1, e2, e3, e4⟩ := e
    rw [e4]
    have hm : ¬ m = 2 := by omega
    rw [if_neg hm]
    refine ⟨?_, fun _ z => by cases z⟩
    show (.inr q : ST) = .inr ((m : Int) - 3, tP b Z t')
    have : q = ((m : Int) - 3, tP b Z t') := Prod.ext (by show q.1 = (m : Int) - 3; omega) e2
    rw [this]
/-- what is wrongly told: the first counts -/
abbrev UT : Type := Int × Int
def nt (u : UT) (k p : Int) : UT := if u.1 = 0 then (k, p) else u
/-- a number within bounds: where it ends, what is wrong, the number -/
def spQ (b : Nat → Int) (Z : Nat) (least most : Int) (s : ST) (u : UT) : ST × UT × Int := match s with
  | .inl t => if tK b Z t = 2 then (if t = 400 then (.inr (2, tP b Z t), u, least) else (.inl (t + 1), (if tV b Z t < least ∨ most < tV b Z t then nt u 5 (tP b Z t) else u), (if tV b Z t < least ∨ most < tV b Z t then least else tV b Z t))) else (.inr (1, tP b Z t), u, least)
  | .inr q => (.inr q, u, least)
/-- a law's branches and its last term -/
abbrev BR : Type := List (Int × Int) × List (Int × Int) × List (Int × Int)
abbrev LW : Type := List BR × List (Int × Int)
/-- a branch, from its if on -/
def spB (b : Nat → Int) (Z : Nat) (s : ST) : ST × BR :=
  let x := spE b Z (stT b Z 27 s)
  let y := spE b Z (stT b Z 13 x.1)
  let z := spE b Z (stT b Z 28 y.1)
  (stT b Z 29 z.1, (x.2, y.2, z.2))
/-- the branches, n more at most, then the last term -/
def spL (b : Nat → Int) (Z : Nat) : Nat → ST → List BR → ST × LW
  | _, .inr q, a => (.inr q, (a, []))
  | 0, .inl t, a => if tK b Z t = 27 then (.inr (2, tP b Z t), (a, [])) else ((spE b Z (.inl t)).1, (a, (spE b Z (.inl t)).2))
  | n + 1, .inl t, a => if tK b Z t = 27 then spL b Z n (spB b Z (.inl t)).1 (a ++ [(spB b Z (.inl t)).2]) else ((spE b Z (.inl t)).1, (a, (spE b Z (.inl t)).2))
/-- a law, behind its word -/
def spW (b : Nat → Int) (Z : Nat) (s : ST) : ST × LW := spL b Z 4 (stT b Z 5 s) []
/-- a person: name, start, width, temper, thirst -/
abbrev PR : Type := Int64 × Int × Int × Int × Int
def spN (b : Nat → Int) (Z : Nat) (ns : List Int64) (s : ST) (u : UT) : ST × UT × Int64 := match s with
  | .inl t => if tK b Z t = 1 then (if t = 400 then (.inr (2, tP b Z t), u, 0) else (.inl (t + 1), (if tN b Z t ∈ ns then nt u 3 (tP b Z t) else u), tN b Z t)) else (.inr (1, tP b Z t), u, 0)
  | .inr q => (.inr q, u, 0)
/-- a person, behind the word -/
def spP (b : Nat → Int) (Z : Nat) (ns : List Int64) (s : ST) (u : UT) : ST × UT × PR :=
  let x := spN b Z ns s u
  let y := spQ b Z 0 11 x.1 x.2.1
  let z := spQ b Z 1 9 y.1 y.2.1
  let v := spQ b Z 0 9 z.1 z.2.1
  let w := spQ b Z 0 9 v.1 v.2.1
  (w.1, w.2.1, (x.2.2, y.2.2, z.2.2, v.2.2, w.2.2))
/-- what is told: rungs, seed, people, laws -/
abbrev DR : Type := Int × Int × List PR × (Nat → Option LW)
def dr0 : DR := (8, 0, [], fun _ => none)
/-- a sentence -/
def spO (b : Nat → Int) (Z : Nat) (t : Nat) (u : UT) (d : DR) : ST × UT × DR :=
  if tK b Z t = 20 then
    let x := spQ b Z 1 12 (stT b Z 20 (.inl t)) u
    (stT b Z 4 x.1, x.2.1, (x.2.2, d.2))
  else if tK b Z t = 21 then
    (if d.2.2.1.length = 5 then (.inr (2, tP b Z t), u, d) else
      let x := spP b Z (d.2.2.1.map (fun p => p.1)) (stT b Z 21 (.inl t)) u
      (stT b Z 4 x.1, x.2.1, (d.1, d.2.1, d.2.2.1 ++ [x.2.2], d.2.2.2)))
  else if 22 ≤ tK b Z t ∧ tK b Z t ≤ 25 then
    let x := spW b Z (stT b Z (tK b Z t) (.inl t))
    (stT b Z 4 x.1, u, (d.1, d.2.1, d.2.2.1, fun k => if (k : Int) = tK b Z t - 22 then some x.2 else d.2.2.2 k))
  else if tK b Z t = 26 then
    let x := spQ b Z 0 9999 (stT b Z 26 (.inl t)) u
    (stT b Z 4 x.1, x.2.1, (d.1, x.2.2, d.2.2))
  else (.inr (1, tP b Z t), u, d)
/-- all sentences, n at most -/
def spA (b : Nat → Int) (Z : Nat) : Nat → ST → UT → DR → ST × UT × DR
  | 0, s, u, d => (s, u, d)
  | _ + 1, .inr q, u, d => (.inr q, u, d)
  | n + 1, .inl t, u, d => if tK b Z t = 0 then (.inl t, u, d) else spA b Z n (spO b Z t u d).1 (spO b Z t u d).2.1 (spO b Z t u d).2.2
/-- the reading: the answer, the place, the draft -/
def spR (b : Nat → Int) (Z : Nat) : Int × Int × DR :=
  let x := spA b Z 402 (.inl 0) (0, -1) dr0
  match x.1 with
  | .inr q => (q.1, q.2, x.2.2)
  | .inl t => if x.2.1.1 ≠ 0 then (x.2.1.1, x.2.1.2, x.2.2) else if x.2.2.2.2.1.all (fun p => decide (p.2.1 < x.2.2.1)) then (0, -1, x.2.2) else (6, tP b Z t, x.2.2)
