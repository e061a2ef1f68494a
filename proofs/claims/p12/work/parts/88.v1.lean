/-! HOW AN EXPRESSION IS READ: a machine of small steps. K: the tokens' kinds, V: their numbers. Printed from wip/am/chk/hand/v1.in. -/
/-- mode (0: a unit is due, 1: one was read, 2: done, 4, 5: a fault 1, 2), token, signs that wait (the last first), how many are open, codes -/
abbrev SY : Type := Nat × Nat × List Int × Nat × List (Int × Int)
def syO (w : Int) : Int := if w = 8 then 2 else if w = 9 then 3 else if w = 10 then 4 else 5
/-- signs that come out -/
def syF (s : Bool) : List Int → List (Int × Int) → List Int × List (Int × Int)
  | [], c => ([], c)
  | w :: W, c => if w = 6 ∨ (s = true ∧ (w = 8 ∨ w = 9)) then (w :: W, c) else syF s W (c ++ [(syO w, 0)])
def syS (K V : Nat → Int) (q : SY) : SY := match q with
  | (0, t, W, d, c) => if K t = 6 then (if d = 6 ∨ t = 400 then (5, t, [], 0, []) else (0, t + 1, 6 :: W, d + 1, c)) else if K t = 2 then (if t = 400 then (5, t, [], 0, []) else (1, t + 1, W, d, c ++ [(0, V t)])) else if 30 ≤ K t ∧ K t ≤ 38 then (if t = 400 then (5, t, [], 0, []) else (1, t + 1, W, d, c ++ [(1, K t - 30)])) else (4, t, [], 0, [])
  | (1, t, W, d, c) => if K t = 7 ∧ 0 < d then (if t = 400 then (5, t, [], 0, []) else (1, t + 1, (syF false W c).1.tail, d - 1, (syF false W c).2)) else if K t = 8 ∨ K t = 9 ∨ K t = 10 ∨ K t = 15 then (if t = 400 then (5, t, [], 0, []) else (0, t + 1, K t :: (syF (decide (K t = 10 ∨ K t = 15)) W c).1, d, (syF (decide (K t = 10 ∨ K t = 15)) W c).2)) else if 0 < d then (4, t, [], 0, []) else (2, t, [], 0, (syF false W c).2)
  | q => q
def syI (K V : Nat → Int) : Nat → SY → SY
  | 0, q => q
  | n + 1, q => syI K V n (syS K V q)
/-- it comes to r -/
def syR (K V : Nat → Int) (q r : SY) : Prop := ∃ n, syI K V n q = r
theorem syI_add {K V : Nat → Int} : ∀ (n m : Nat) (q : SY), syI K V (n + m) q = syI K V m (syI K V n q)
  | 0, m, q => by rw [Nat.zero_add]; rfl
  | n + 1, m, q => by
    rw [show n + 1 + m = (n + m) + 1 by omega]
    exact syI_add n m (syS K V q)
theorem syR_r {K V : Nat → Int} (q : SY) : syR K V q q := ⟨0, rfl⟩
theorem syR_t {K V : Nat → Int} {q r s : SY} (h : syR K V q r) (g : syR K V r s) : syR K V q s := by
  obtain ⟨n, rfl⟩ := h
  obtain ⟨m, rfl⟩ := g
  exact ⟨n + m, syI_add n m q⟩
theorem syR_s {K V : Nat → Int} {q r : SY} (h : syS K V q = r) : syR K V q r := ⟨1, h⟩
theorem syS_fin {K V : Nat → Int} {q : SY} (h : 2 ≤ q.1) : syS K V q = q := by
  obtain ⟨m, t, W, d, c⟩ := q
  match m, h with
  | m + 2, _ => rfl
theorem syI_fin {K V : Nat → Int} {q : SY} (h : 2 ≤ q.1) : ∀ n, syI K V n q = q
  | 0 => rfl
  | n + 1 => by
    show syI K V n (syS K V q) = q
    rw [syS_fin h]
    exact syI_fin h n
/-- where it ends, it ends alone -/
theorem syR_u {K V : Nat → Int} {q r s : SY} (h : syR K V q r) (g : syR K V q s) (hr : 2 ≤ r.1) (hs : 2 ≤ s.1) : r = s := by
  obtain ⟨n, rfl⟩ := h
  obtain ⟨m, rfl⟩ := g
  have a := syI_add (K := K) (V := V) n m q
  rw [syI_fin hr] at a
  have b := syI_add (K := K) (V := V) m n q
  rw [syI_fin hs] at b
  rw [← a, Nat.add_comm, b]
theorem syF_app (s : Bool) : ∀ (W : List Int) (c : List (Int × Int)), (∀ w ∈ W, w ≠ 6 ∧ (s = true → w ≠ 8 ∧ w ≠ 9)) → ∀ W', (match W' with
  | [] => True
  | w :: _ => w = 6 ∨ (s = true ∧ (w = 8 ∨ w = 9))) → syF s (W ++ W') c = (W', c ++ W.map (fun w => (syO w, 0)))
  | [], c, _, W', h' => by
    rw [List.nil_append, List.map_nil, List.append_nil]
    cases W' with
    | nil => rfl
    | cons w t =>
      simp only [syF]
      rw [if_pos h']
  | w :: W, c, h, W', h' => by
    have hw := h w List.mem_cons_self
    rw [List.cons_append]
    simp only [syF]
    rw [if_neg (fun z => by
      rcases z with z | ⟨z1, z2⟩
      · exact hw.1 z
      · have := hw.2 z1
        rcases z2 with z2 | z2
        · exact this.1 z2
        · exact this.2 z2)]
    rw [syF_app s W _ (fun v hv => h v (List.mem_cons_of_mem _ hv)) W' h']
    rw [List.map_cons, List.append_assoc]
    rfl
/-- what an expression comes to, from token t on -/
def syE (K V : Nat → Int) (t : Nat) : SY := syI K V 900 (0, t, [], 0, [])
theorem syS_t {K V : Nat → Int} {q : SY} (ht : q.2.1 ≤ 400) : (syS K V q).2.1 ≤ 400 ∧ (2 ≤ (syS K V q).1 ∨ (syS K V q).2.1 = q.2.1 + 1) := by
  obtain ⟨m, t, W, d, c⟩ := q
  match m with
  | 0 =>
    simp only [syS]
    simp only at ht
    repeat' split
    all_goals first
    | exact ⟨by show t + 1 ≤ 400; omega, Or.inr rfl⟩
    | exact ⟨by show t ≤ 400; omega, Or.inl (Nat.le_of_ble_eq_true rfl)⟩
  | 1 =>
    simp only [syS]
    simp only at ht
    repeat' split
    all_goals first
    | exact ⟨by show t + 1 ≤ 400; omega, Or.inr rfl⟩
    | exact ⟨by show t ≤ 400; omega, Or.inl (Nat.le_of_ble_eq_true rfl)⟩
  | m + 2 => exact ⟨ht, Or.inl (by show 2 ≤ m + 2; omega)⟩
theorem syI_end {K V : Nat → Int} : ∀ (n : Nat) (q : SY), q.2.1 ≤ 400 → 401 ≤ n + q.2.1 → 2 ≤ (syI K V n q).1
  | 0, q, h, h2 => absurd h2 (by omega)
  | n + 1, q, h, h2 => by
    show 2 ≤ (syI K V n (syS K V q)).1
    obtain ⟨a, b⟩ := syS_t (K := K) (V := V) h
    rcases b with b | b
    · rw [syI_fin b]; exact b
    · exact syI_end n _ a (by omega)
theorem syE_fin {K V : Nat → Int} {t : Nat} (h : t ≤ 400) : 2 ≤ (syE K V t).1 := syI_end 900 _ h (by show 401 ≤ 900 + t; omega)
/-- what it comes to is the end -/
theorem syE_of {K V : Nat → Int} {t : Nat} {r : SY} (h : syR K V (0, t, [], 0, []) r) (hr : 2 ≤ r.1) (ht : t ≤ 400) : syE K V t = r := syR_u ⟨900, rfl⟩ h (syE_fin ht) hr
