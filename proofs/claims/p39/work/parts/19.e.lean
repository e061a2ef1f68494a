/-! THE SAFETY CHECKER: stack, locals, memory -/
section
variable {E : sa_E} {ρ : Nat → Int}
def s_cat (a : sa_V) : Nat := match a with
  | .inr (.inr true) => 2
  | _ => 1
theorem s_cat_ok {a : sa_V} {v : Value} (h : sg_V E ρ a v) : v.category = s_cat a := by
  rcases a with q | o | b
  · obtain ⟨_, x, rfl, _⟩ := h
    rfl
  · have h : v = .ref o := h
    subst h
    rfl
  · cases b
    · exact h
    · obtain ⟨y, rfl⟩ := h
      rfl
theorem s_cats : ∀ {S : List sa_V} {st : List Value}, sg_S E ρ S st → (st.map fun v => v.category).sum = (S.map s_cat).sum
  | [], [], _ => rfl
  | a :: t, v :: t', h => by simp only [List.map_cons, List.sum_cons, s_cat_ok h.1, s_cats h.2]
  | [], _ :: _, h => h.elim
  | _ :: _, [], h => h.elim
def s_1 (S : List sa_V) (k : Nat × Int → List sa_V → Bool) : Bool := match S with
  | .inl a :: r => k a r
  | _ => false
theorem s_1_ok {S : List sa_V} {st : List Value} {k : Nat × Int → List sa_V → Bool} (hS : sg_S E ρ S st) (h : s_1 S k = true) : ∃ a r x st', k a r = true ∧ st = .int x :: st' ∧ (a.1 < E.length ∧ x.toInt = ρ a.1 + a.2) ∧ sg_S E ρ r st' := by
  unfold s_1 at h
  split at h
  · rename_i a r
    cases st with
    | nil => exact hS.elim
    | cons v st' =>
      obtain ⟨⟨h1, x, h2, h3⟩, h4⟩ := hS
      subst h2
      exact ⟨a, r, x, st', h, rfl, ⟨h1, h3⟩, h4⟩
  · cases h
def s_2 (S : List sa_V) (k : Nat × Int → Nat × Int → List sa_V → Bool) : Bool := s_1 S (fun y r => s_1 r (fun x r' => k x y r'))
theorem s_2_ok {S : List sa_V} {st : List Value} {k : Nat × Int → Nat × Int → List sa_V → Bool} (hS : sg_S E ρ S st) (h : s_2 S k = true) : ∃ x y r a b st', k x y r = true ∧ st = .int b :: .int a :: st' ∧ s2 E ρ x y a b ∧ sg_S E ρ r st' := by
  obtain ⟨y, r, b, st1, h1, rfl, h3, h4⟩ := s_1_ok hS h
  obtain ⟨x, r', a, st2, g1, rfl, g3, g4⟩ := s_1_ok h4 h1
  exact ⟨x, y, r', a, b, st2, g1, rfl, ⟨g3, h3⟩, g4⟩
def s_a (S : List sa_V) (k : Nat → List sa_V → Bool) : Bool := match S with
  | .inr (.inl o) :: r => k o r
  | _ => false
theorem s_a_ok {S : List sa_V} {st : List Value} {k : Nat → List sa_V → Bool} (hS : sg_S E ρ S st) (h : s_a S k = true) : ∃ o r st', k o r = true ∧ st = .ref o :: st' ∧ sg_S E ρ r st' := by
  unfold s_a at h
  split at h
  · rename_i o r
    cases st with
    | nil => exact hS.elim
    | cons v st' =>
      obtain ⟨h1, h4⟩ := hS
      have h1 : v = .ref o := h1
      subst h1
      exact ⟨o, r, st', h, rfl, h4⟩
  · cases h
def s_l (S : List sa_V) (k : List sa_V → Bool) : Bool := match S with
  | .inr (.inr true) :: r => k r
  | _ => false
theorem s_l_ok {S : List sa_V} {st : List Value} {k : List sa_V → Bool} (hS : sg_S E ρ S st) (h : s_l S k = true) : ∃ r y st', k r = true ∧ st = .long y :: st' ∧ sg_S E ρ r st' := by
  unfold s_l at h
  split at h
  · rename_i r
    cases st with
    | nil => exact hS.elim
    | cons v st' =>
      obtain ⟨⟨y, h1⟩, h4⟩ := hS
      subst h1
      exact ⟨r, y, st', h, rfl, h4⟩
  · cases h
def s_v (S : List sa_V) (k : sa_V → List sa_V → Bool) : Bool := match S with
  | a :: r => k a r
  | _ => false
theorem s_v_ok {S : List sa_V} {st : List Value} {k : sa_V → List sa_V → Bool} (hS : sg_S E ρ S st) (h : s_v S k = true) : ∃ a r v st', k a r = true ∧ st = v :: st' ∧ sg_V E ρ a v ∧ sg_S E ρ r st' := by
  unfold s_v at h
  split at h
  · rename_i a r
    cases st with
    | nil => exact hS.elim
    | cons v st' => exact ⟨a, r, v, st', h, rfl, hS.1, hS.2⟩
  · cases h
/-! locals -/
def s_ldi (L : List (Option sa_V)) (i : Nat) (k : Nat × Int → Bool) : Bool := match L[i]? with
  | some (some (.inl a)) => k a
  | _ => false
theorem s_ldi_ok {L : List (Option sa_V)} {ls : List (Option Value)} {i : Nat} {k : Nat × Int → Bool} (hL : sg_L E ρ L ls) (h : s_ldi L i k = true) : ∃ a x, k a = true ∧ ls[i]? = some (some (.int x)) ∧ (a.1 < E.length ∧ x.toInt = ρ a.1 + a.2) := by
  unfold s_ldi at h
  split at h
  · rename_i a ha
    obtain ⟨v, h1, h2, x, h3, h4⟩ := hL.2.1 _ _ ha
    subst h3
    exact ⟨a, x, h, h1, h2, h4⟩
  · cases h
def s_lda (L : List (Option sa_V)) (i : Nat) (k : Nat → Bool) : Bool := match L[i]? with
  | some (some (.inr (.inl o))) => k o
  | _ => false
theorem s_lda_ok {L : List (Option sa_V)} {ls : List (Option Value)} {i : Nat} {k : Nat → Bool} (hL : sg_L E ρ L ls) (h : s_lda L i k = true) : ∃ o, k o = true ∧ ls[i]? = some (some (.ref o)) := by
  unfold s_lda at h
  split at h
  · rename_i o ha
    obtain ⟨v, h1, h2⟩ := hL.2.1 _ _ ha
    have h2 : v = .ref o := h2
    subst h2
    exact ⟨o, h, h1⟩
  · cases h
def s_ldl (L : List (Option sa_V)) (i : Nat) (k : Bool) : Bool := match L[i]? with
  | some (some (.inr (.inr true))) => k
  | _ => false
theorem s_ldl_ok {L : List (Option sa_V)} {ls : List (Option Value)} {i : Nat} {k : Bool} (hL : sg_L E ρ L ls) (h : s_ldl L i k = true) : k = true ∧ ∃ y, ls[i]? = some (some (.long y)) := by
  unfold s_ldl at h
  split at h
  · rename_i ha
    obtain ⟨v, h1, y, h2⟩ := hL.2.1 _ _ ha
    subst h2
    exact ⟨h, y, h1⟩
  · cases h
def s_lg (L : List (Option sa_V)) (i : Nat) : Bool := match i with
  | 0 => false
  | j + 1 => match L[j]? with
    | some (some (.inr (.inr true))) => true
    | _ => false
theorem s_lg_ok {L : List (Option sa_V)} {ls : List (Option Value)} {i : Nat} (hL : sg_L E ρ L ls) (h : s_lg L i = false) : am_lg ls i = false := by
  cases i with
  | zero => rfl
  | succ j =>
    simp only [s_lg] at h
    simp only [am_lg]
    cases hj : L[j]? with
    | none =>
      have : ls[j]? = none := by
        rw [List.getElem?_eq_none_iff] at hj ⊢
        rw [hL.1]; exact hj
      rw [this]
    | some a =>
      cases a with
      | none => rw [hL.2.2 _ hj]
      | some a =>
        obtain ⟨v, h1, h2⟩ := hL.2.1 _ _ hj
        rw [h1]
        rw [hj] at h
        have hc := s_cat_ok h2
        have : s_cat a = 1 := by
          rcases a with q | o | b
          · rfl
          · rfl
          · cases b
            · rfl
            · simp at h
        rw [this] at hc
        cases v <;> first | rfl | (simp [Value.category] at hc)
theorem sg_L_set {L : List (Option sa_V)} {ls : List (Option Value)} {i : Nat} {a : sa_V} {v : Value} (hL : sg_L E ρ L ls) (h : sg_V E ρ a v) : sg_L E ρ (L.set i (some a)) (ls.set i (some v)) := by
  refine ⟨by rw [List.length_set, List.length_set]; exact hL.1, fun k b hk => ?_, fun k hk => ?_⟩
  · by_cases he : k = i
    · subst he
      by_cases hl : k < L.length
      · rw [List.getElem?_set_self hl] at hk
        cases hk
        exact ⟨v, by rw [List.getElem?_set_self (by rw [hL.1]; exact hl)], h⟩
      · rw [List.getElem?_eq_none (by rw [List.length_set]; omega)] at hk
        cases hk
    · rw [List.getElem?_set_ne (Ne.symm he)] at hk
      rw [List.getElem?_set_ne (Ne.symm he)]
      exact hL.2.1 k b hk
  · by_cases he : k = i
    · subst he
      by_cases hl : k < L.length
      · rw [List.getElem?_set_self hl] at hk
        cases hk
      · rw [List.getElem?_eq_none (by rw [List.length_set]; omega)] at hk
        cases hk
    · rw [List.getElem?_set_ne (Ne.symm he)] at hk
      rw [List.getElem?_set_ne (Ne.symm he)]
      exact hL.2.2 k hk
theorem sg_L_setn {L : List (Option sa_V)} {ls : List (Option Value)} {i : Nat} (hL : sg_L E ρ L ls) : sg_L E ρ (L.set i none) (ls.set i none) := by
  refine ⟨by rw [List.length_set, List.length_set]; exact hL.1, fun k b hk => ?_, fun k hk => ?_⟩
  · by_cases he : k = i
    · subst he
      by_cases hl : k < L.length
      · rw [List.getElem?_set_self hl] at hk
        cases hk
      · rw [List.getElem?_eq_none (by rw [List.length_set]; omega)] at hk
        cases hk
    · rw [List.getElem?_set_ne (Ne.symm he)] at hk
      rw [List.getElem?_set_ne (Ne.symm he)]
      exact hL.2.1 k b hk
  · by_cases he : k = i
    · subst he
      by_cases hl : k < L.length
      · rw [List.getElem?_set_self (by rw [hL.1]; exact hl)]
      · rw [List.getElem?_eq_none (by rw [List.length_set]; omega)] at hk
        cases hk
    · rw [List.getElem?_set_ne (Ne.symm he)] at hk
      rw [List.getElem?_set_ne (Ne.symm he)]
      exact hL.2.2 k hk
/-! parts of the stack -/
theorem sg_S_take : ∀ (n : Nat) {S : List sa_V} {st : List Value}, sg_S E ρ S st → sg_S E ρ (S.take n) (st.take n)
  | 0, _, _, _ => trivial
  | n + 1, [], [], _ => trivial
  | n + 1, a :: t, v :: t', h => ⟨h.1, sg_S_take n h.2⟩
  | _ + 1, [], _ :: _, h => h.elim
  | _ + 1, _ :: _, [], h => h.elim
theorem sg_S_drop : ∀ (n : Nat) {S : List sa_V} {st : List Value}, sg_S E ρ S st → sg_S E ρ (S.drop n) (st.drop n)
  | 0, _, _, h => h
  | n + 1, [], [], _ => trivial
  | n + 1, a :: t, v :: t', h => sg_S_drop n h.2
  | _ + 1, [], _ :: _, h => h.elim
  | _ + 1, _ :: _, [], h => h.elim
theorem sg_S_app : ∀ {S : List sa_V} {st : List Value} {S' : List sa_V} {st' : List Value}, sg_S E ρ S st → sg_S E ρ S' st' → sg_S E ρ (S ++ S') (st ++ st')
  | [], [], _, _, _, g => g
  | a :: t, v :: t', _, _, h, g => ⟨h.1, sg_S_app h.2 g⟩
  | [], _ :: _, _, _, h, _ => h.elim
  | _ :: _, [], _, _, h, _ => h.elim
theorem sg_S_rev : ∀ {S : List sa_V} {st : List Value}, sg_S E ρ S st → sg_S E ρ S.reverse st.reverse
  | [], [], _ => trivial
  | a :: t, v :: t', h => by
    rw [List.reverse_cons, List.reverse_cons]
    exact sg_S_app (sg_S_rev h.2) ⟨h.1, trivial⟩
  | [], _ :: _, h => h.elim
  | _ :: _, [], h => h.elim
theorem sg_S_len : ∀ {S : List sa_V} {st : List Value}, sg_S E ρ S st → st.length = S.length
  | [], [], _ => rfl
  | a :: t, v :: t', h => by simp only [List.length_cons, sg_S_len h.2]
  | [], _ :: _, h => h.elim
  | _ :: _, [], h => h.elim
theorem sg_S_at : ∀ {S : List sa_V} {st : List Value} {i : Nat} {a : sa_V}, sg_S E ρ S st → S[i]? = some a → ∃ v, st[i]? = some v ∧ sg_V E ρ a v
  | [], [], i, a, _, h => by simp at h
  | b :: t, v :: t', 0, a, hS, h => by
    simp at h
    subst h
    exact ⟨v, rfl, hS.1⟩
  | b :: t, v :: t', i + 1, a, hS, h => by
    simp only [List.getElem?_cons_succ] at h ⊢
    exact sg_S_at hS.2 h
  | [], _ :: _, _, _, h, _ => h.elim
  | _ :: _, [], _, _, h, _ => h.elim
end
/-! memory -/
def sI (B : sa_I) (SH : am_Sh) (M : sa_M) (σ0 τ : am_S) : Prop := sb_ok B SH τ ∧ sb_fr M σ0 τ
def s_mod (M : sa_M) (o : Nat) (lo hi : Int) : Bool := M.any (fun m => decide (m.1 = o ∧ (m.2.1 : Int) ≤ lo ∧ hi < (m.2.2 : Int)))
theorem s_mod_ok {M : sa_M} {o : Nat} {lo hi : Int} (h : s_mod M o lo hi = true) : ∃ m ∈ M, m.1 = o ∧ (m.2.1 : Int) ≤ lo ∧ hi < (m.2.2 : Int) := by
  obtain ⟨m, h1, h2⟩ := List.any_eq_true.mp h
  exact ⟨m, h1, of_decide_eq_true h2⟩
section
variable {B : sa_I} {SH : am_Sh} {M : sa_M} {σ0 σ : am_S}
theorem sI_fr {o k : Nat} (hm : ∃ m ∈ M, m.1 = o ∧ m.2.1 ≤ k ∧ k < m.2.2) {o' k' : Nat} (h : ∀ m ∈ M, ¬ (m.1 = o' ∧ m.2.1 ≤ k' ∧ k' < m.2.2)) : ¬ (o' = o ∧ k' = k) := by
  rintro ⟨rfl, rfl⟩
  obtain ⟨m, h1, h2⟩ := hm
  exact h m h1 h2
theorem sI_arr {o k : Nat} {x : Int32} {q : Nat × Nat} (h : sI B SH M σ0 σ) (hs : SH o = .inr q) (hb : (sb_a B o k).1 ≤ x.toInt ∧ x.toInt ≤ (sb_a B o k).2) (hm : ∃ m ∈ M, m.1 = o ∧ m.2.1 ≤ k ∧ k < m.2.2) : sI B SH M σ0 (am_pi σ o k x) := by
  refine ⟨⟨fun o' q' k' hs' hk' => ?_, fun o' ci k' hs' => ?_⟩, fun o' k' hn => ?_⟩
  · by_cases he : o' = o ∧ k' = k
    · obtain ⟨rfl, rfl⟩ := he
      rw [pi_s]
      exact hb
    · rw [pi_n _ _ _ _ he]
      exact h.1.1 o' q' k' hs' hk'
  · have he : ¬ (o' = o ∧ k' = k) := by
      rintro ⟨rfl, rfl⟩
      rw [hs] at hs'
      cases hs'
    rw [pi_n _ _ _ _ he]
    exact h.1.2 o' ci k' hs'
  · rw [pi_n _ _ _ _ (sI_fr hm hn), pi_2]
    exact h.2 o' k' hn
theorem sI_fld {o k ci : Nat} {x : Int32} (h : sI B SH M σ0 σ) (hs : SH o = .inl ci) (hb : (B.2 o k).1 ≤ x.toInt ∧ x.toInt ≤ (B.2 o k).2) (hm : ∃ m ∈ M, m.1 = o ∧ m.2.1 ≤ k ∧ k < m.2.2) : sI B SH M σ0 (am_pi σ o k x) := by
  refine ⟨⟨fun o' q' k' hs' hk' => ?_, fun o' ci k' hs' => ?_⟩, fun o' k' hn => ?_⟩
  · have he : ¬ (o' = o ∧ k' = k) := by
      rintro ⟨rfl, rfl⟩
      rw [hs] at hs'
      cases hs'
    rw [pi_n _ _ _ _ he]
    exact h.1.1 o' q' k' hs' hk'
  · by_cases he : o' = o ∧ k' = k
    · obtain ⟨rfl, rfl⟩ := he
      rw [pi_s]
      exact hb
    · rw [pi_n _ _ _ _ he]
      exact h.1.2 o' ci k' hs'
  · rw [pi_n _ _ _ _ (sI_fr hm hn), pi_2]
    exact h.2 o' k' hn
theorem sI_pl {o k : Nat} {x : Int64} (h : sI B SH M σ0 σ) (hm : ∃ m ∈ M, m.1 = o ∧ m.2.1 ≤ k ∧ k < m.2.2) : sI B SH M σ0 (am_pl σ o k x) := by
  refine ⟨⟨fun o' q' k' hs' hk' => ?_, fun o' ci k' hs' => ?_⟩, fun o' k' hn => ?_⟩
  · rw [pl_1]; exact h.1.1 o' q' k' hs' hk'
  · rw [pl_1]; exact h.1.2 o' ci k' hs'
  · rw [pl_n _ _ _ _ (sI_fr hm hn), pl_1]
    exact h.2 o' k' hn
theorem sI_cpy {c d sp dp m : Nat} {q q2 : Nat × Nat} (h : sI B SH M σ0 σ) (hc : SH c = .inr q) (hd : SH d = .inr q2) (h1 : sp + m ≤ q.2) (hb : ∀ j, j < m → (sb_a B d (dp + j)).1 ≤ (sb_a B c (sp + j)).1 ∧ (sb_a B c (sp + j)).2 ≤ (sb_a B d (dp + j)).2) (hm : ∃ z ∈ M, z.1 = d ∧ z.2.1 ≤ dp ∧ dp + m ≤ z.2.2) : sI B SH M σ0 (fun o' k' => if o' = d then va_cpy (σ.1 c) (σ.1 d) sp dp m k' else σ.1 o' k', σ.2) := by
  refine ⟨⟨fun o' q' k' hs' hk' => ?_, fun o' ci k' hs' => ?_⟩, fun o' k' hn => ?_⟩
  · show _ ≤ (if o' = d then va_cpy (σ.1 c) (σ.1 d) sp dp m k' else σ.1 o' k').toInt ∧ (if o' = d then va_cpy (σ.1 c) (σ.1 d) sp dp m k' else σ.1 o' k').toInt ≤ _
    by_cases he : o' = d
    · rw [if_pos he]
      unfold va_cpy
      split
      · rename_i hk
        have h5 := h.1.1 c q (sp + (k' - dp)) hc (by omega)
        have h6 := hb (k' - dp) (by omega)
        rw [show dp + (k' - dp) = k' by omega] at h6
        subst he
        omega
      · subst he
        exact h.1.1 _ _ _ hs' hk'
    · rw [if_neg he]
      exact h.1.1 o' q' k' hs' hk'
  · have he : ¬ o' = d := by
      rintro rfl
      rw [hd] at hs'
      cases hs'
    show _ ≤ (if o' = d then va_cpy (σ.1 c) (σ.1 d) sp dp m k' else σ.1 o' k').toInt ∧ (if o' = d then va_cpy (σ.1 c) (σ.1 d) sp dp m k' else σ.1 o' k').toInt ≤ _
    rw [if_neg he]
    exact h.1.2 o' ci k' hs'
  · refine ⟨?_, (h.2 o' k' hn).2⟩
    show (if o' = d then va_cpy (σ.1 c) (σ.1 d) sp dp m k' else σ.1 o' k') = _
    by_cases he : o' = d
    · rw [if_pos he]
      unfold va_cpy
      rw [if_neg ?_]
      · subst he
        exact (h.2 _ k' hn).1
      · rintro ⟨g1, g2⟩
        obtain ⟨z, z1, z2, z3, z4⟩ := hm
        exact hn z z1 ⟨by omega, by omega, by omega⟩
    · rw [if_neg he]
      exact (h.2 o' k' hn).1
end
/-! bounds of some slots of an array -/
def sb_hl (l : List (Int × Int)) : Int × Int := match l with
  | [] => (-2147483648, 2147483647)
  | q :: t => t.foldl (fun a b => (sa_mn a.1 b.1, sa_mx a.2 b.2)) q
theorem sb_hl_fold : ∀ (t : List (Int × Int)) (a : Int × Int), (t.foldl (fun a b => (sa_mn a.1 b.1, sa_mx a.2 b.2)) a).1 ≤ a.1 ∧ a.2 ≤ (t.foldl (fun a b => (sa_mn a.1 b.1, sa_mx a.2 b.2)) a).2 ∧ ∀ q ∈ t, (t.foldl (fun a b => (sa_mn a.1 b.1, sa_mx a.2 b.2)) a).1 ≤ q.1 ∧ q.2 ≤ (t.foldl (fun a b => (sa_mn a.1 b.1, sa_mx a.2 b.2)) a).2
  | [], a => ⟨Int.le_refl _, Int.le_refl _, fun q h => absurd h List.not_mem_nil⟩
  | b :: t, a => by
    obtain ⟨h1, h2, h3⟩ := sb_hl_fold t (sa_mn a.1 b.1, sa_mx a.2 b.2)
    have e1 : sa_mn a.1 b.1 ≤ a.1 := by unfold sa_mn; split <;> omega
    have e2 : sa_mn a.1 b.1 ≤ b.1 := by unfold sa_mn; split <;> omega
    have e3 : a.2 ≤ sa_mx a.2 b.2 := by unfold sa_mx; split <;> omega
    have e4 : b.2 ≤ sa_mx a.2 b.2 := by unfold sa_mx; split <;> omega
    simp only [List.foldl_cons]
    refine ⟨Int.le_trans h1 e1, Int.le_trans e3 h2, fun q hq => ?_⟩
    rcases List.mem_cons.mp hq with rfl | hq
    · exact ⟨Int.le_trans h1 e2, Int.le_trans e4 h2⟩
    · exact h3 q hq
theorem sb_hl_ok {B : sa_I} {o k : Nat} : (sb_hl (B.1 o)).1 ≤ (sb_a B o k).1 ∧ (sb_a B o k).2 ≤ (sb_hl (B.1 o)).2 := by
  unfold sb_a
  cases hl : B.1 o with
  | nil => simp [sb_hl]
  | cons q t =>
    have hk : k % (q :: t).length < (q :: t).length := Nat.mod_lt _ (by simp)
    rw [List.getElem?_eq_getElem hk]
    simp only [Option.getD_some]
    obtain ⟨h1, h2, h3⟩ := sb_hl_fold t q
    have hm := List.getElem_mem hk
    rcases List.mem_cons.mp hm with e | e
    · rw [e]; exact ⟨h1, h2⟩
    · exact h3 _ e
/-- what a slot between lo and hi may hold -/
def sb_ld (B : sa_I) (o : Nat) (b : Int × Int) : Int × Int :=
  if (B.1 o).length = 1 then sb_a B o 0
  else if b.2 - b.1 ≤ 40 then sb_hl ((List.range ((b.2 - b.1).toNat + 1)).map (fun j => sb_a B o (b.1.toNat + j))) else sb_hl (B.1 o)
theorem sb_hl_mem {l : List (Int × Int)} {q : Int × Int} (h : q ∈ l) : (sb_hl l).1 ≤ q.1 ∧ q.2 ≤ (sb_hl l).2 := by
  cases l with
  | nil => exact absurd h List.not_mem_nil
  | cons a t =>
    obtain ⟨h1, h2, h3⟩ := sb_hl_fold t a
    rcases List.mem_cons.mp h with e | e
    · rw [e]; exact ⟨h1, h2⟩
    · exact h3 q e
theorem sb_ld_ok {B : sa_I} {o : Nat} {b : Int × Int} {x y : Int} (h0 : 0 ≤ b.1) (hx : b.1 ≤ x ∧ x ≤ b.2) (h : (sb_a B o x.toNat).1 ≤ y ∧ y ≤ (sb_a B o x.toNat).2) : (sb_ld B o b).1 ≤ y ∧ y ≤ (sb_ld B o b).2 := by
  unfold sb_ld
  split
  · rename_i hl
    have e : sb_a B o x.toNat = sb_a B o 0 := by
      unfold sb_a
      rw [hl, Nat.mod_one, Nat.mod_one]
    rw [← e]
    exact h
  · split
    · have hm : sb_a B o x.toNat ∈ (List.range ((b.2 - b.1).toNat + 1)).map (fun j => sb_a B o (b.1.toNat + j)) :=
        List.mem_map.mpr ⟨(x - b.1).toNat, List.mem_range.mpr (by omega), by rw [show b.1.toNat + (x - b.1).toNat = x.toNat by omega]⟩
      have := sb_hl_mem hm
      omega
    · have := sb_hl_ok (B := B) (o := o) (k := x.toNat)
      omega
/-- may one between v be written at each slot between lo and hi? -/
def sb_st (B : sa_I) (o : Nat) (b v : Int × Int) : Bool :=
  if (B.1 o).length = 1 then decide ((sb_a B o 0).1 ≤ v.1 ∧ v.2 ≤ (sb_a B o 0).2)
  else (List.range ((b.2 - b.1).toNat + 1)).all (fun j => decide ((sb_a B o (b.1.toNat + j)).1 ≤ v.1 ∧ v.2 ≤ (sb_a B o (b.1.toNat + j)).2))
theorem sb_st_ok {B : sa_I} {o : Nat} {b v : Int × Int} {x y : Int} (h0 : 0 ≤ b.1) (hx : b.1 ≤ x ∧ x ≤ b.2) (hy : v.1 ≤ y ∧ y ≤ v.2) (h : sb_st B o b v = true) : (sb_a B o x.toNat).1 ≤ y ∧ y ≤ (sb_a B o x.toNat).2 := by
  unfold sb_st at h
  split at h
  · rename_i hl
    have h := of_decide_eq_true h
    have e : sb_a B o x.toNat = sb_a B o 0 := by
      unfold sb_a
      rw [hl, Nat.mod_one, Nat.mod_one]
    rw [e]
    omega
  · have h1 := List.all_eq_true.mp h (x - b.1).toNat (List.mem_range.mpr (by omega))
    have h1 := of_decide_eq_true h1
    rw [show b.1.toNat + (x - b.1).toNat = x.toNat by omega] at h1
    omega
/-- may c's slots be copied to d's? -/
def sb_cp (B : sa_I) (c d : Nat) (sp dp : Int × Int) : Bool :=
  ((B.1 c).zip (B.1 d)).all (fun q => decide (q.2.1 ≤ q.1.1 ∧ q.1.2 ≤ q.2.2)) && (decide ((B.1 c).length = (B.1 d).length) && (decide ((B.1 c).length = 1) || (decide (sp.1 = sp.2 ∧ dp.1 = dp.2 ∧ 0 < (B.1 c).length ∧ sp.1.toNat % (B.1 c).length = dp.1.toNat % (B.1 c).length))))
theorem sb_cp_ok {B : sa_I} {c d : Nat} {sp dp : Int × Int} {x y : Int} (hx : sp.1 ≤ x ∧ x ≤ sp.2) (hy : dp.1 ≤ y ∧ y ≤ dp.2) (h : sb_cp B c d sp dp = true) (j : Nat) : (sb_a B d (y.toNat + j)).1 ≤ (sb_a B c (x.toNat + j)).1 ∧ (sb_a B c (x.toNat + j)).2 ≤ (sb_a B d (y.toNat + j)).2 := by
  simp only [sb_cp, Bool.and_eq_true, Bool.or_eq_true, decide_eq_true_eq] at h
  obtain ⟨h1, h2, h3⟩ := h
  have key : ∀ i, i < (B.1 c).length → (((B.1 d)[i]?).getD (-2147483648, 2147483647)).1 ≤ (((B.1 c)[i]?).getD (-2147483648, 2147483647)).1 ∧ (((B.1 c)[i]?).getD (-2147483648, 2147483647)).2 ≤ (((B.1 d)[i]?).getD (-2147483648, 2147483647)).2 := by
    intro i hi
    have hm : ((B.1 c)[i], (B.1 d)[i]'(by omega)) ∈ (B.1 c).zip (B.1 d) := by
      rw [List.mem_iff_getElem]
      exact ⟨i, by simp; omega, by simp⟩
    have := of_decide_eq_true (List.all_eq_true.mp h1 _ hm)
    rw [List.getElem?_eq_getElem hi, List.getElem?_eq_getElem (by omega)]
    exact this
  have e : (y.toNat + j) % (B.1 d).length = (x.toNat + j) % (B.1 c).length := by
    rw [← h2]
    rcases h3 with h3 | ⟨p1, p2, p3, p4⟩
    · rw [h3, Nat.mod_one, Nat.mod_one]
    · rw [show y = dp.1 by omega, show x = sp.1 by omega, Nat.add_mod, ← p4, ← Nat.add_mod]
  have hp : 0 < (B.1 c).length := by
    rcases h3 with h3 | ⟨p1, p2, p3, p4⟩ <;> omega
  unfold sb_a
  rw [e]
  exact key _ (Nat.mod_lt _ hp)
/-! what is known of fields -/
abbrev sa_F : Type := List (Nat × Nat × Nat × Int)
def sg_F (SH : am_Sh) (E : sa_E) (ρ : Nat → Int) (F : sa_F) (σ : am_S) : Prop := ∀ q ∈ F, (∃ ci, SH q.1 = .inl ci) ∧ q.2.2.1 < E.length ∧ (σ.1 q.1 q.2.1).toInt = ρ q.2.2.1 + q.2.2.2
theorem sg_F_x {SH : am_Sh} {E E' : sa_E} {ρ ρ' : Nat → Int} {F : sa_F} {σ : am_S} (hx : sx E ρ E' ρ') (h : sg_F SH E ρ F σ) : sg_F SH E' ρ' F σ := fun q hq => by
  obtain ⟨h1, h2, h3⟩ := h q hq
  exact ⟨h1, Nat.lt_of_lt_of_le h2 hx.1, by rw [hx.2 _ h2]; exact h3⟩
theorem sg_F_nil {SH : am_Sh} {E : sa_E} {ρ : Nat → Int} {σ : am_S} : sg_F SH E ρ [] σ := fun q hq => absurd hq List.not_mem_nil
def s_ff (F : sa_F) (o s : Nat) : Option (Nat × Int) := (F.find? (fun q => decide (q.1 = o ∧ q.2.1 = s))).map (fun q => q.2.2)
theorem s_ff_ok {SH : am_Sh} {E : sa_E} {ρ : Nat → Int} {F : sa_F} {σ : am_S} {o s : Nat} {a : Nat × Int} (h : sg_F SH E ρ F σ) (hf : s_ff F o s = some a) : a.1 < E.length ∧ (σ.1 o s).toInt = ρ a.1 + a.2 := by
  unfold s_ff at hf
  cases hq : F.find? (fun q => decide (q.1 = o ∧ q.2.1 = s)) with
  | none => rw [hq] at hf; cases hf
  | some q =>
    rw [hq] at hf
    cases hf
    have h1 := List.find?_some hq
    have h1 := of_decide_eq_true h1
    obtain ⟨_, h2, h3⟩ := h q (List.mem_of_find?_eq_some hq)
    rw [h1.1, h1.2] at h3
    exact ⟨h2, h3⟩
def s_fd (F : sa_F) (o s : Nat) : sa_F := F.filter (fun q => !decide (q.1 = o ∧ q.2.1 = s))
theorem sg_F_put {SH : am_Sh} {E : sa_E} {ρ : Nat → Int} {F : sa_F} {σ : am_S} {o s : Nat} {x : Int32} (h : sg_F SH E ρ F σ) : sg_F SH E ρ (s_fd F o s) (am_pi σ o s x) := fun q hq => by
  obtain ⟨h1, h2⟩ := List.mem_filter.mp hq
  simp only [Bool.not_eq_true', decide_eq_false_iff_not] at h2
  rw [pi_n _ _ _ _ h2]
  exact h q h1
theorem sg_F_putl {SH : am_Sh} {E : sa_E} {ρ : Nat → Int} {F : sa_F} {σ : am_S} {o s : Nat} {x : Int64} (h : sg_F SH E ρ F σ) : sg_F SH E ρ F (am_pl σ o s x) := h
theorem sg_F_cons {SH : am_Sh} {E : sa_E} {ρ : Nat → Int} {F : sa_F} {σ : am_S} {o s ci : Nat} {a : Nat × Int} (hs : SH o = .inl ci) (ha : a.1 < E.length ∧ (σ.1 o s).toInt = ρ a.1 + a.2) (h : sg_F SH E ρ F σ) : sg_F SH E ρ ((o, s, a) :: F) σ := fun q hq => by
  rcases List.mem_cons.mp hq with rfl | hq
  · exact ⟨⟨ci, hs⟩, ha⟩
  · exact h q hq
theorem sg_F_arr {SH : am_Sh} {E : sa_E} {ρ : Nat → Int} {F : sa_F} {σ : am_S} {o k : Nat} {z : Nat × Nat} {x : Int32} (hs : SH o = .inr z) (h : sg_F SH E ρ F σ) : sg_F SH E ρ F (am_pi σ o k x) := fun q hq => by
  obtain ⟨⟨ci, h1⟩, h2, h3⟩ := h q hq
  refine ⟨⟨ci, h1⟩, h2, ?_⟩
  rw [pi_n _ _ _ _ (by rintro ⟨e, _⟩; rw [e, hs] at h1; cases h1)]
  exact h3
theorem sg_F_cpy {SH : am_Sh} {E : sa_E} {ρ : Nat → Int} {F : sa_F} {σ : am_S} {d : Nat} {z : Nat × Nat} {f : Nat → Int32} (hs : SH d = .inr z) (h : sg_F SH E ρ F σ) : sg_F SH E ρ F (fun o' k' => if o' = d then f k' else σ.1 o' k', σ.2) := fun q hq => by
  obtain ⟨⟨ci, h1⟩, h2, h3⟩ := h q hq
  refine ⟨⟨ci, h1⟩, h2, ?_⟩
  show (if q.1 = d then f q.2.1 else σ.1 q.1 q.2.1).toInt = _
  rw [if_neg (by intro e; rw [e, hs] at h1; cases h1)]
  exact h3
def s_fk (F : sa_F) (M : sa_M) : sa_F := F.filter (fun q => M.all (fun m => !decide (m.1 = q.1 ∧ m.2.1 ≤ q.2.1 ∧ q.2.1 < m.2.2)))
theorem sg_F_call {SH : am_Sh} {E : sa_E} {ρ : Nat → Int} {F : sa_F} {M : sa_M} {σ τ : am_S} (hf : sb_fr M σ τ) (h : sg_F SH E ρ F σ) : sg_F SH E ρ (s_fk F M) τ := fun q hq => by
  obtain ⟨h1, h2⟩ := List.mem_filter.mp hq
  obtain ⟨a1, a2, a3⟩ := h q h1
  refine ⟨a1, a2, ?_⟩
  rw [(hf q.1 q.2.1 (fun m hm hh => ?_)).1]
  · exact a3
  · have := List.all_eq_true.mp h2 m hm
    simp only [Bool.not_eq_true', decide_eq_false_iff_not] at this
    exact this hh
