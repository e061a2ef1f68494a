/-! THE SAFETY CHECKER: a stretch of code, a method -/
def s_mask : Nat → List (Option sa_V) → List (Option sa_V)
  | _, [] => []
  | 0, _ :: t => none :: s_mask 0 t
  | n + 1, a :: t => a :: s_mask n t
theorem s_mask_at : ∀ (j : Nat) (L : List (Option sa_V)) (i : Nat), (s_mask j L)[i]? = if i < j then L[i]? else (L[i]?).map (fun _ => none)
  | _, [], i => by simp [s_mask]
  | 0, a :: t, 0 => by simp [s_mask]
  | 0, a :: t, i + 1 => by
    simp only [s_mask, List.getElem?_cons_succ]
    have := s_mask_at 0 t i
    simpa using this
  | n + 1, a :: t, 0 => by simp [s_mask]
  | n + 1, a :: t, i + 1 => by
    simp only [s_mask, List.getElem?_cons_succ, Nat.add_lt_add_iff_right]
    exact s_mask_at n t i
theorem am_mask_at2 : ∀ (j : Nat) (L : List (Option Value)) (i : Nat), (am_mask j L)[i]? = if i < j then L[i]? else (L[i]?).map (fun _ => none)
  | _, [], i => by simp [am_mask]
  | 0, a :: t, 0 => by simp [am_mask]
  | 0, a :: t, i + 1 => by
    simp only [am_mask, List.getElem?_cons_succ]
    have := am_mask_at2 0 t i
    simpa using this
  | n + 1, a :: t, 0 => by simp [am_mask]
  | n + 1, a :: t, i + 1 => by
    simp only [am_mask, List.getElem?_cons_succ, Nat.add_lt_add_iff_right]
    exact am_mask_at2 n t i
theorem s_mask_len : ∀ (j : Nat) (L : List (Option sa_V)), (s_mask j L).length = L.length
  | _, [] => by simp [s_mask]
  | 0, _ :: t => by simp [s_mask, s_mask_len 0 t]
  | n + 1, _ :: t => by simp [s_mask, s_mask_len n t]
theorem sg_L_mask {E : sa_E} {ρ : Nat → Int} {L : List (Option sa_V)} {ls : List (Option Value)} (j : Nat) (h : sg_L E ρ L ls) : sg_L E ρ (s_mask j L) (am_mask j ls) := by
  refine ⟨by rw [am_mask_len, s_mask_len]; exact h.1, fun k a hk => ?_, fun k hk => ?_⟩
  · rw [s_mask_at] at hk
    rw [am_mask_at2]
    by_cases q : k < j
    · rw [if_pos q] at hk ⊢
      exact h.2.1 k a hk
    · rw [if_neg q] at hk
      cases hl : L[k]? with
      | none => rw [hl] at hk; cases hk
      | some z => rw [hl] at hk; cases hk
  · rw [s_mask_at] at hk
    rw [am_mask_at2]
    by_cases q : k < j
    · rw [if_pos q] at hk ⊢
      exact h.2.2 k hk
    · rw [if_neg q] at hk ⊢
      cases hl : ls[k]? with
      | none =>
        have : L[k]? = none := by
          rw [List.getElem?_eq_none_iff] at hl ⊢
          rw [← h.1]; exact hl
        rw [this] at hk
        cases hk
      | some z => rfl
def s_run (X : am_X) (B : sa_I) (N : Nat) (CS : sa_C) (M : sa_M) (D : List (Nat × Instr × Nat)) (cuts : List (Nat × Nat)) (Fk : sa_Q) (ret : sa_E → Option sa_V → Bool) (cut : Nat → sa_E → sa_F → List (Option sa_V) → List sa_V → Bool) : Nat → Nat → sa_E → sa_F → List (Option sa_V) → List sa_V → Bool
  | 0, _, _, _, _, _ => false
  | f + 1, pc, E, F, L, S => match am_find D pc with
    | none => false
    | some q => s_one X B N CS M Fk ret q.1 q.2 pc E F L S (fun pc' E' F' L' S' => match am_find cuts pc' with
      | some j => cut pc' E' F' (s_mask j L') S'
      | none => s_run X B N CS M D cuts Fk ret cut f pc' E' F' L' S')
theorem s_run_ok {X : am_X} {B : sa_I} {N : Nat} {CS : sa_C} {M : sa_M} {D : List (Nat × Instr × Nat)} {cuts : List (Nat × Nat)} {Fk : sa_Q} {ret : sa_E → Option sa_V → Bool} {cut : Nat → sa_E → sa_F → List (Option sa_V) → List sa_V → Bool} {J : am_S → Prop} {σ0 : am_S} {post : Option Value → am_S → Prop} {AA : Nat → List (Option Value) → List Value → Nat → am_S → Prop} {cc : ByteArray} {E0 : sa_E} {ρ0 : Nat → Int}
    (hML : ∀ ix q, am_find CS ix = some q → am_find (am_ML X) ix = some (q.1, q.2.1, q.2.2.1, 0, 0, sp_w J B (am_SH X) N q.2.2.2)) (hJ : ∀ τ, sb_fr M σ0 τ → J τ) (hG : ∀ g ∈ Fk.2, ∀ τ, sb_fr M σ0 τ → s_gd g τ) (hD : ∀ pc q, am_find D pc = some q → decode cc pc = .ok q)
    (hret : ∀ E' ρ' v' v τ, ret E' v' = true → sx E0 ρ0 E' ρ' → sg_E E' ρ' → sv_o E' ρ' v' v → sI B (am_SH X) M σ0 τ → post v τ)
    (hcut : ∀ pc' E' F' L' S', cut pc' E' F' L' S' = true → ∀ ρ' ls' st' τ, sx E0 ρ0 E' ρ' → sg_E E' ρ' → sg_F (am_SH X) E' ρ' F' τ → sg_L E' ρ' L' ls' → sg_S E' ρ' S' st' → sI B (am_SH X) M σ0 τ → AA pc' ls' st' N τ) :
    ∀ (f pc : Nat) (E : sa_E) (ρ : Nat → Int) (F : sa_F) (L : List (Option sa_V)) (S : List sa_V) (ls : List (Option Value)) (st : List Value) (σ : am_S), sx E0 ρ0 E ρ → sg_E E ρ → sg_F (am_SH X) E ρ F σ → sg_L E ρ L ls → sg_S E ρ S st → sI B (am_SH X) M σ0 σ → s_run X B N CS M D cuts Fk ret cut f pc E F L S = true → am_vc cc X N post AA cuts f pc ls st N σ := by
  intro f
  induction f with
  | zero => intro pc E ρ F L S ls st σ _ _ _ _ _ _ h; cases h
  | succ f ih =>
    intro pc E ρ F L S ls st σ hx hE hF hL hS hI h
    unfold s_run at h
    split at h
    · cases h
    · rename_i q hq
      unfold am_vc
      rw [hD pc q hq]
      refine s_one_ok hML hJ hG (fun v' v hr hv => hret E ρ v' v σ hr hx hE hv hI) (fun pc' E' F' L' S' hk ρ' ls' st' τ x1 x2 xF x3 x4 x5 => ?_) hE hF hL hS hI h
      have hx' := sx_t hx x1
      cases hc : am_find cuts pc' with
      | some j =>
        rw [hc] at hk
        exact hcut _ _ _ _ _ hk ρ' _ _ τ hx' x2 xF (sg_L_mask j x3) x4 x5
      | none =>
        rw [hc] at hk
        exact ih pc' E' ρ' F' L' S' ls' st' τ hx' x2 xF x3 x4 x5 hk
/-! where a stretch begins: every int its own ghost -/
def s_P (P : List (Option sa_P)) (ls : List (Option Value)) : Prop := ls.length = P.length ∧ (∀ (k : Nat) (p : sa_P), P[k]? = some (some p) → ∃ v, ls[k]? = some (some v) ∧ sp_in p v) ∧ (∀ k : Nat, P[k]? = some none → ls[k]? = some none)
def s_aV (i : Nat) (p : sa_P) : sa_V := match p with
  | .inl _ => .inl (i, 0)
  | .inr z => .inr z
def s_aE (P : List (Option sa_P)) : sa_E := (0, 0, false) :: P.map (fun p => match p with
  | some (.inl b) => (b.1, b.2, false)
  | _ => (0, 0, false))
def s_aL : Nat → List (Option sa_P) → List (Option sa_V)
  | _, [] => []
  | i, p :: t => p.map (s_aV i) :: s_aL (i + 1) t
theorem s_aL_len : ∀ (i : Nat) (P : List (Option sa_P)), (s_aL i P).length = P.length
  | _, [] => rfl
  | i, p :: t => by simp [s_aL, s_aL_len (i + 1) t]
theorem s_aL_at : ∀ (i : Nat) (P : List (Option sa_P)) (k : Nat), (s_aL i P)[k]? = (P[k]?).map (fun p => p.map (s_aV (i + k)))
  | _, [], k => by simp [s_aL]
  | i, p :: t, 0 => by simp [s_aL]
  | i, p :: t, k + 1 => by
    simp only [s_aL, List.getElem?_cons_succ]
    rw [s_aL_at (i + 1) t k, show i + 1 + k = i + (k + 1) by omega]
/-- an int that a local holds -/
def s_x (ls : List (Option Value)) (k : Nat) : Int := match ls[k]? with
  | some (some (.int x)) => x.toInt
  | _ => 0
def s_ρ (P : List (Option sa_P)) (ls : List (Option Value)) (i : Nat) : Int := match i with
  | 0 => 0
  | k + 1 => match P[k]? with
    | some (some (.inl _)) => s_x ls k
    | _ => 0
theorem s_start_E {P : List (Option sa_P)} {ls : List (Option Value)} (h : s_P P ls) : sg_E (s_aE P) (s_ρ P ls) := by
  refine ⟨by simp [s_aE], rfl, fun i q hq => ?_⟩
  cases i with
  | zero =>
    simp only [s_aE, List.getElem?_cons_zero] at hq
    cases hq
    exact ⟨Int.le_refl _, Int.le_refl _, fun z => by cases z⟩
  | succ k =>
    simp only [s_aE, List.getElem?_cons_succ, List.getElem?_map] at hq
    cases hp : P[k]? with
    | none => rw [hp] at hq; cases hq
    | some p =>
      rw [hp] at hq
      simp only [s_ρ, hp]
      cases p with
      | none =>
        cases hq
        exact ⟨Int.le_refl _, Int.le_refl _, fun z => by cases z⟩
      | some p =>
        cases p with
        | inr z =>
          cases hq
          exact ⟨Int.le_refl _, Int.le_refl _, fun z => by cases z⟩
        | inl b =>
          cases hq
          obtain ⟨v, v1, x, rfl, x1, x2⟩ := h.2.1 k _ hp
          simp only [s_x, v1]
          exact ⟨x1, x2, fun z => by cases z⟩
theorem s_start_L {P : List (Option sa_P)} {ls : List (Option Value)} (h : s_P P ls) : sg_L (s_aE P) (s_ρ P ls) (s_aL 1 P) ls := by
  refine ⟨by rw [s_aL_len]; exact h.1, fun k a hk => ?_, fun k hk => ?_⟩
  · rw [s_aL_at] at hk
    cases hp : P[k]? with
    | none => rw [hp] at hk; cases hk
    | some p =>
      cases p with
      | none => rw [hp] at hk; cases hk
      | some p =>
        rw [hp] at hk
        obtain ⟨v, v1, v2⟩ := h.2.1 k p hp
        refine ⟨v, v1, ?_⟩
        have e : a = s_aV (1 + k) p := by
          simp at hk
          exact hk.symm
        subst e
        rcases p with b | o | b
        · obtain ⟨x, rfl, _⟩ := v2
          refine ⟨?_, x, rfl, ?_⟩
          · have : k < P.length := (List.getElem?_eq_some_iff.mp hp).1
            show 1 + k < (s_aE P).length
            simp [s_aE]
            omega
          · show x.toInt = s_ρ P ls (1 + k) + 0
            rw [Nat.add_comm 1 k]
            simp only [s_ρ, hp, s_x, v1]
            omega
        · exact v2
        · cases b <;> exact v2
  · rw [s_aL_at] at hk
    cases hp : P[k]? with
    | none => rw [hp] at hk; cases hk
    | some p =>
      cases p with
      | some p => rw [hp] at hk; cases hk
      | none => exact h.2.2 k hp
/-- the locals are as a cut asks for -/
def s_pats (E : sa_E) : List (Option sa_P) → List (Option sa_V) → Bool
  | [], [] => true
  | none :: t, none :: t' => s_pats E t t'
  | some p :: t, some a :: t' => sa_inP E p a && s_pats E t t'
  | _, _ => false
theorem s_pats_at {E : sa_E} : ∀ {P : List (Option sa_P)} {L : List (Option sa_V)}, s_pats E P L = true → L.length = P.length ∧ ∀ k : Nat, match P[k]? with
    | some (some p) => ∃ a, L[k]? = some (some a) ∧ sa_inP E p a = true
    | some none => L[k]? = some none
    | none => True
  | [], [], _ => ⟨rfl, fun k => by simp⟩
  | none :: t, none :: t', h => by
    obtain ⟨h1, h2⟩ := s_pats_at (P := t) (L := t') h
    refine ⟨by simp [h1], fun k => ?_⟩
    cases k with
    | zero => simp
    | succ k => simpa using h2 k
  | some p :: t, some a :: t', h => by
    simp only [s_pats, Bool.and_eq_true] at h
    obtain ⟨h1, h2⟩ := s_pats_at (P := t) (L := t') h.2
    refine ⟨by simp [h1], fun k => ?_⟩
    cases k with
    | zero => simp [h.1]
    | succ k => simpa using h2 k
  | [], _ :: _, h => by simp [s_pats] at h
  | _ :: _, [], h => by simp [s_pats] at h
  | none :: _, some _ :: _, h => by simp [s_pats] at h
  | some _ :: _, none :: _, h => by simp [s_pats] at h
theorem s_pats_ok {E : sa_E} {ρ : Nat → Int} {P : List (Option sa_P)} {L : List (Option sa_V)} {ls : List (Option Value)} (hE : sg_E E ρ) (hL : sg_L E ρ L ls) (h : s_pats E P L = true) : s_P P ls := by
  obtain ⟨h1, h2⟩ := s_pats_at h
  refine ⟨hL.1.trans h1, fun k p hp => ?_, fun k hp => ?_⟩
  · have := h2 k
    rw [hp] at this
    obtain ⟨a, a1, a2⟩ := this
    obtain ⟨v, v1, v2⟩ := hL.2.1 k a a1
    exact ⟨v, v1, sa_inP_ok hE v2 a2⟩
  · have := h2 k
    rw [hp] at this
    exact hL.2.2 k this
/-! what falls -/
def s_dg (ls : List (Option Value)) (m : Nat × Nat) : Nat := match m.1 with
  | 0 => if m.2 ≤ 1000 then m.2 else 1001
  | 1 => (2147483648 - s_x ls m.2).toNat
  | _ => (s_x ls m.2 + 2147483648).toNat
theorem s_x_lo (ls : List (Option Value)) (k : Nat) : -2147483648 ≤ s_x ls k ∧ s_x ls k < 2147483648 := by
  unfold s_x
  split
  · exact ⟨ii_lo _, ii_hi _⟩
  · omega
theorem s_dg_lt (ls : List (Option Value)) (m : Nat × Nat) : s_dg ls m < 8589934592 := by
  have := s_x_lo ls m.2
  unfold s_dg
  split
  · split <;> omega
  · omega
  · omega
def s_enc (ls : List (Option Value)) : Nat → List (Nat × Nat) → Nat
  | 0, _ => 0
  | _ + 1, [] => 0
  | w + 1, m :: t => s_dg ls m * 8589934592 ^ w + s_enc ls w t
theorem s_enc_lt (ls : List (Option Value)) : ∀ (w : Nat) (l : List (Nat × Nat)), s_enc ls w l < 8589934592 ^ w
  | 0, _ => by simp [s_enc]
  | w + 1, [] => by simp only [s_enc]; exact Nat.pow_pos (by decide)
  | w + 1, m :: t => by
    have h1 := s_enc_lt ls w t
    have h2 := s_dg_lt ls m
    have h3 : (s_dg ls m + 1) * 8589934592 ^ w ≤ 8589934592 * 8589934592 ^ w := Nat.mul_le_mul_right _ (by omega)
    rw [Nat.add_mul, Nat.one_mul] at h3
    simp only [s_enc]
    rw [Nat.pow_succ, Nat.mul_comm (8589934592 ^ w)]
    omega
theorem s_enc_step {ls ls' : List (Option Value)} {w a b x y : Nat} (h : x < 8589934592 ^ w) (hd : a < b) : a * 8589934592 ^ w + x < b * 8589934592 ^ w + y := by
  have h3 : (a + 1) * 8589934592 ^ w ≤ b * 8589934592 ^ w := Nat.mul_le_mul_right _ (by omega)
  rw [Nat.add_mul, Nat.one_mul] at h3
  omega
/-- P: where the stretch began; m: what was measured there; m': what is measured here; L: the locals here -/
def s_dec (P : List (Option sa_P)) (L : List (Option sa_V)) : Nat → List (Nat × Nat) → List (Nat × Nat) → Bool
  | w + 1, m :: t, m' :: t' =>
    if m.1 = 0 ∧ m'.1 = 0 then decide (m'.2 < m.2 ∧ m.2 ≤ 1000) || (decide (m'.2 = m.2) && s_dec P L w t t')
    else if m.1 = m'.1 ∧ (m.1 = 1 ∨ m.1 = 2) then (match P[m.2]? with
      | some (some (.inl _)) => (match L[m'.2]? with
        | some (some (.inl a)) => decide (a.1 = m.2 + 1) && (decide ((m.1 = 1 ∧ 0 < a.2) ∨ (m.1 = 2 ∧ a.2 < 0)) || (decide (a.2 = 0) && s_dec P L w t t'))
        | _ => false)
      | _ => false)
    else false
  | _, _, _ => false
theorem s_dec_ok {P : List (Option sa_P)} {E : sa_E} {ρ : Nat → Int} {L : List (Option sa_V)} {ls ls' : List (Option Value)} (hx : sx (s_aE P) (s_ρ P ls) E ρ) (hL : sg_L E ρ L ls') : ∀ (w : Nat) (m m' : List (Nat × Nat)), s_dec P L w m m' = true → s_enc ls' w m' < s_enc ls w m
  | 0, _, _, h => by simp [s_dec] at h
  | w + 1, [], _, h => by simp [s_dec] at h
  | w + 1, _ :: _, [], h => by simp [s_dec] at h
  | w + 1, m :: t, m' :: t', h => by
    simp only [s_dec] at h
    simp only [s_enc]
    split at h
    · rename_i h0
      simp only [Bool.or_eq_true, Bool.and_eq_true, decide_eq_true_eq] at h
      have e1 : s_dg ls m = if m.2 ≤ 1000 then m.2 else 1001 := by simp only [s_dg, h0.1]
      have e2 : s_dg ls' m' = if m'.2 ≤ 1000 then m'.2 else 1001 := by simp only [s_dg, h0.2]
      rcases h with ⟨h1, h2⟩ | ⟨h1, h2⟩
      · refine s_enc_step (ls := ls) (ls' := ls') (s_enc_lt ls' w t') ?_
        rw [e1, e2, if_pos h2, if_pos (by omega)]
        exact h1
      · have := s_dec_ok hx hL w t t' h2
        rw [e1, e2, h1]
        omega
    · split at h
      · rename_i h0
        split at h
        · rename_i b hb
          split at h
          · rename_i a ha
            simp only [Bool.or_eq_true, Bool.and_eq_true, decide_eq_true_eq] at h
            obtain ⟨h1, h2⟩ := h
            obtain ⟨v, v1, v2, x, rfl, v3⟩ := hL.2.1 _ _ ha
            have hlt : m.2 + 1 < (s_aE P).length := by
              have := (List.getElem?_eq_some_iff.mp hb).1
              simp [s_aE]
              exact this
            have e1 : s_x ls' m'.2 = s_x ls m.2 + a.2 := by
              simp only [s_x, v1]
              rw [v3, h1, hx.2 _ hlt]
              simp only [s_ρ, hb, s_x]
            have l1 := s_x_lo ls m.2
            have l2 := s_x_lo ls' m'.2
            have hd : (m.1 = 1 ∧ 0 < a.2 ∨ m.1 = 2 ∧ a.2 < 0) → s_dg ls' m' < s_dg ls m := by
              rintro (⟨q1, q2⟩ | ⟨q1, q2⟩)
              · have q3 : m'.1 = 1 := by omega
                simp only [s_dg, q1, q3]
                omega
              · have q3 : m'.1 = 2 := by omega
                simp only [s_dg, q1, q3]
                omega
            have he : a.2 = 0 → s_dg ls' m' = s_dg ls m := by
              intro q
              rw [q, Int.add_zero] at e1
              simp only [s_dg, ← h0.1, e1]
              rcases h0.2 with q1 | q1 <;> simp only [q1]
            rcases h2 with h2 | ⟨h2, h3⟩
            · exact s_enc_step (ls := ls) (ls' := ls') (s_enc_lt ls' w t') (hd h2)
            · have := s_dec_ok hx hL w t t' h3
              rw [he h2]
              omega
          · cases h
        · cases h
      · cases h
/-! what is known of fields where a stretch begins -/
def s_addF : List (Nat × Nat × Int × Int) → sa_E → sa_F → sa_E × sa_F
  | [], E, F => (E, F)
  | q :: t, E, F => s_addF t (E ++ [(q.2.2.1, q.2.2.2, false)]) ((q.1, q.2.1, E.length, 0) :: F)
def s_fc (SH : am_Sh) (l : List (Nat × Nat × Int × Int)) (σ : am_S) : Prop := ∀ q ∈ l, (∃ ci, SH q.1 = .inl ci) ∧ q.2.2.1 ≤ (σ.1 q.1 q.2.1).toInt ∧ (σ.1 q.1 q.2.1).toInt ≤ q.2.2.2
theorem s_addF_ok {SH : am_Sh} {σ : am_S} : ∀ (l : List (Nat × Nat × Int × Int)) (E : sa_E) (F : sa_F) (ρ : Nat → Int), sg_E E ρ → sg_F SH E ρ F σ → s_fc SH l σ → ∃ ρ', sx E ρ (s_addF l E F).1 ρ' ∧ sg_E (s_addF l E F).1 ρ' ∧ sg_F SH (s_addF l E F).1 ρ' (s_addF l E F).2 σ
  | [], E, F, ρ, hE, hF, _ => ⟨ρ, sx_r E ρ, hE, hF⟩
  | q :: t, E, F, ρ, hE, hF, h => by
    obtain ⟨⟨ci, h1⟩, h2⟩ := h q List.mem_cons_self
    obtain ⟨ρ1, q1, q2, q3⟩ := sa_fr_ok (b := (q.2.2.1, q.2.2.2)) hE h2
    obtain ⟨c1, x, c2, c3⟩ := q3
    cases c2
    obtain ⟨ρ2, p1, p2, p3⟩ := s_addF_ok t _ _ ρ1 q2 (sg_F_cons h1 ⟨c1, c3⟩ (sg_F_x q1 hF)) (fun z hz => h z (List.mem_cons_of_mem _ hz))
    exact ⟨ρ2, sx_t q1 p1, p2, p3⟩
def s_chkF (E : sa_E) (F : sa_F) (l : List (Nat × Nat × Int × Int)) : Bool := l.all (fun q => match F.find? (fun z => decide (z.1 = q.1 ∧ z.2.1 = q.2.1)) with
  | some z => sa_inB E (q.2.2.1, q.2.2.2) z.2.2
  | none => false)
theorem s_chkF_ok {SH : am_Sh} {σ : am_S} {E : sa_E} {ρ : Nat → Int} {F : sa_F} {l : List (Nat × Nat × Int × Int)} (hE : sg_E E ρ) (hF : sg_F SH E ρ F σ) (h : s_chkF E F l = true) : s_fc SH l σ := by
  intro q hq
  have h1 := List.all_eq_true.mp h q hq
  split at h1
  · rename_i z hz
    have h2 := List.find?_some hz
    have h2 := of_decide_eq_true h2
    obtain ⟨g1, g2, g3⟩ := hF z (List.mem_of_find?_eq_some hz)
    rw [h2.1, h2.2] at g3
    rw [h2.1] at g1
    exact ⟨g1, sa_inB_ok hE g3 h1⟩
  · cases h1
/-! a method -/
/-- a cut: where, how many locals are kept, what they hold, what falls, what is known of fields -/
abbrev sa_K : Type := Nat × Nat × List (Option sa_P) × List (Nat × Nat) × List (Nat × Nat × Int × Int)
def s_cuts (cs : List sa_K) : List (Nat × Nat) := cs.map (fun c => (c.1, c.2.1))
/-- at a cut; m0: where the stretch began -/
def s_at (cs : List sa_K) (m0 : Option (List (Option sa_P) × List (Nat × Nat))) (pc : Nat) (E : sa_E) (F : sa_F) (L : List (Option sa_V)) (S : List sa_V) : Bool := match am_find cs pc with
  | none => false
  | some c => S.isEmpty && (s_pats E c.2.1 L && (s_chkF E F c.2.2.2 && (match m0 with
    | none => true
    | some q => s_dec q.1 L 8 q.2 c.2.2.1)))
def s_ro (E : sa_E) (r : Option sa_P) (v : Option sa_V) : Bool := match r, v with
  | none, none => true
  | some p, some a => sa_inP E p a
  | _, _ => false
theorem s_ro_ok {E : sa_E} {ρ : Nat → Int} {r : Option sa_P} {v' : Option sa_V} {v : Option Value} (hE : sg_E E ρ) (hv : sv_o E ρ v' v) (h : s_ro E r v' = true) : sp_ro r v := by
  cases r <;> cases v' <;> cases v <;> first | trivial | cases h | exact hv.elim | exact sa_inP_ok hE hv h
def s_nl (p : sa_P) : Bool := match p with
  | .inr (.inr true) => false
  | _ => true
def s_ret (a : sa_A) (entry : Bool) (E : sa_E) (v : Option sa_V) : Bool := a.2.1.any (fun r => s_ro E r.1 v && r.2.all (fun q => entry && (a.1.all s_nl && ((match a.1[q.1]? with
  | some (.inl _) => true
  | _ => false) && sa_inB E (q.2.1, q.2.2) (q.1 + 1, 0)))))
/-- the first locals -/
def s_sl : List sa_P → List (Option sa_P)
  | [] => []
  | p :: t => if s_nl p then some p :: s_sl t else some p :: none :: s_sl t
def s_en (n : Nat) (a : List sa_P) : List (Option sa_P) := s_sl a ++ List.replicate (n - (s_sl a).length) none
def s_1alt (X : am_X) (B : sa_I) (N : Nat) (CS : sa_C) (D : List (Nat × Instr × Nat)) (Fk : sa_Q) (maxL fuel : Nat) (z : sa_A × List sa_K) : Bool :=
  decide ((s_sl z.1.1).length ≤ maxL) &&
  (s_run X B N CS z.1.2.2 D (s_cuts z.2) Fk (s_ret z.1 true) (s_at z.2 none) fuel 0 (s_aE (s_en maxL z.1.1)) [] (s_aL 1 (s_en maxL z.1.1)) [] &&
  z.2.all (fun c => s_run X B N CS z.1.2.2 D (s_cuts z.2) Fk (s_ret z.1 false) (s_at z.2 (some (c.2.2.1, c.2.2.2.1))) fuel c.1 (s_addF c.2.2.2.2 (s_aE c.2.2.1) []).1 (s_addF c.2.2.2.2 (s_aE c.2.2.1) []).2 (s_aL 1 c.2.2.1) []))
theorem s_nl_cat {p : sa_P} {v : Value} (h : sp_in p v) : v.category = if s_nl p then 1 else 2 := by
  rcases p with b | o | b
  · obtain ⟨x, rfl, _⟩ := h
    rfl
  · have h : v = .ref o := h
    subst h
    rfl
  · cases b
    · exact h
    · obtain ⟨y, rfl⟩ := h
      rfl
theorem s_sl_ok : ∀ {a : List sa_P} {as : List Value}, sp_all a as → s_P (s_sl a) (am_sl as)
  | [], [], _ => ⟨rfl, fun k p h => by simp [s_sl] at h, fun k h => by simp [s_sl] at h⟩
  | p :: t, v :: t', h => by
    obtain ⟨h1, h2, h3⟩ := s_sl_ok h.2
    have hc := s_nl_cat h.1
    cases hn : s_nl p with
    | true =>
      rw [hn, if_pos rfl] at hc
      simp only [s_sl, am_sl, hn, hc, if_true]
      rw [if_neg (by decide)]
      refine ⟨by simp [h1], fun k q hq => ?_, fun k hq => ?_⟩
      · cases k with
        | zero =>
          simp at hq
          subst hq
          exact ⟨v, rfl, h.1⟩
        | succ k =>
          simp only [List.getElem?_cons_succ] at hq ⊢
          exact h2 k q hq
      · cases k with
        | zero => simp at hq
        | succ k =>
          simp only [List.getElem?_cons_succ] at hq ⊢
          exact h3 k hq
    | false =>
      rw [hn, if_neg (by decide)] at hc
      simp only [s_sl, am_sl, hn, hc, if_true]
      rw [if_neg (by decide)]
      refine ⟨by simp [h1], fun k q hq => ?_, fun k hq => ?_⟩
      · match k, hq with
        | 0, hq =>
          simp at hq
          subst hq
          exact ⟨v, rfl, h.1⟩
        | 1, hq => simp at hq
        | k + 2, hq =>
          simp only [List.getElem?_cons_succ] at hq ⊢
          exact h2 k q hq
      · match k, hq with
        | 0, hq => simp at hq
        | 1, hq => rfl
        | k + 2, hq =>
          simp only [List.getElem?_cons_succ] at hq ⊢
          exact h3 k hq
  | [], _ :: _, h => h.elim
  | _ :: _, [], h => h.elim
theorem s_en_ok {n : Nat} {a : List sa_P} {as : List Value} (h : sp_all a as) : s_P (s_en n a) (am_entry n as) := by
  obtain ⟨h1, h2, h3⟩ := s_sl_ok h
  unfold s_en am_entry
  refine ⟨by simp [h1], fun k p hp => ?_, fun k hp => ?_⟩
  · by_cases q : k < (s_sl a).length
    · rw [List.getElem?_append_left q] at hp
      rw [List.getElem?_append_left (by rw [h1]; exact q)]
      exact h2 k p hp
    · rw [List.getElem?_append_right (by omega), List.getElem?_replicate] at hp
      split at hp <;> cases hp
  · by_cases q : k < (s_sl a).length
    · rw [List.getElem?_append_left q] at hp
      rw [List.getElem?_append_left (by rw [h1]; exact q)]
      exact h3 k hp
    · rw [List.getElem?_append_right (by omega), List.getElem?_replicate] at hp
      rw [List.getElem?_append_right (by rw [h1]; omega), List.getElem?_replicate, h1]
      split at hp
      · rename_i q2
        rw [if_pos q2]
      · cases hp
theorem s_sl_at : ∀ {a : List sa_P} {k : Nat} {p : sa_P}, a.all s_nl = true → a[k]? = some p → (s_sl a)[k]? = some (some p)
  | [], k, p, _, h => by simp at h
  | q :: t, 0, p, hn, h => by
    simp only [List.all_cons, Bool.and_eq_true] at hn
    simp at h
    subst h
    simp [s_sl, hn.1]
  | q :: t, k + 1, p, hn, h => by
    simp only [List.all_cons, Bool.and_eq_true] at hn
    simp only [List.getElem?_cons_succ] at h
    simp only [s_sl, hn.1, if_true, List.getElem?_cons_succ]
    exact s_sl_at hn.2 h
theorem am_sl_at1 : ∀ {a : List sa_P} {as : List Value} {k : Nat}, a.all s_nl = true → sp_all a as → (am_sl as)[k]? = (as[k]?).map some
  | [], [], k, _, _ => by simp [am_sl]
  | p :: t, v :: t', k, hn, h => by
    simp only [List.all_cons, Bool.and_eq_true] at hn
    have hc := s_nl_cat h.1
    rw [hn.1, if_pos rfl] at hc
    have e : am_sl (v :: t') = some v :: am_sl t' := by
      show (if v.category = 2 then some v :: none :: am_sl t' else some v :: am_sl t') = _
      rw [if_neg (by rw [hc]; decide)]
    rw [e]
    cases k with
    | zero => simp
    | succ k =>
      simp only [List.getElem?_cons_succ]
      exact am_sl_at1 hn.2 h.2
  | [], _ :: _, _, _, h => h.elim
  | _ :: _, [], _, _, h => h.elim
theorem s_chk_ok {X : am_X} {B : sa_I} {N : Nat} {CS : sa_C} {J : am_S → Prop} {cc : ByteArray} {D : List (Nat × Instr × Nat)} {Fk : sa_Q} {maxL fuel : Nat} {info : List (sa_A × List sa_K)} {sm : List sa_A} (hsm : sm = info.map (fun z => z.1))
    (hML : ∀ ix q, am_find CS ix = some q → am_find (am_ML X) ix = some (q.1, q.2.1, q.2.2.1, 0, 0, sp_w J B (am_SH X) N q.2.2.2)) (hJ : ∀ a ∈ sm, ∀ σ τ, J σ → sb_fr a.2.2 σ τ → J τ) (hGJ : ∀ τ, J τ → ∀ g ∈ Fk.2, s_gd g τ) (hD : ∀ pc q, am_find D pc = some q → decode cc pc = .ok q)
    (h : info.all (s_1alt X B N CS D Fk maxL fuel) = true) : am_B cc X maxL 0 (sp_w J B (am_SH X) N sm) := by
  intro n0 as σ post AA hA hw
  obtain ⟨rfl, hB, hJ0, a, ha, has, hp⟩ := hw
  have haz := ha
  rw [hsm] at haz
  obtain ⟨z, hz, rfl⟩ := List.mem_map.mp haz
  have hc := List.all_eq_true.mp h z hz
  simp only [s_1alt, Bool.and_eq_true, decide_eq_true_eq] at hc
  obtain ⟨hc1, hc2, hc3⟩ := hc
  have hJ' : ∀ τ, sb_fr z.1.2.2 σ τ → J τ := fun τ ht => hJ z.1 ha σ τ hJ0 ht
  have hI0 : sI B (am_SH X) z.1.2.2 σ σ := ⟨hB, sb_fr_r _ _⟩
  have hG : ∀ g ∈ Fk.2, ∀ τ, sb_fr z.1.2.2 σ τ → s_gd g τ := fun g hg τ ht => hGJ τ (hJ' τ ht) g hg
  have hN : n0 + 0 = n0 := rfl
  -- answers of a stretch that begins at a cut
  have hretF : ∀ E' ρ' v' v τ, s_ret z.1 false E' v' = true → sg_E E' ρ' → sv_o E' ρ' v' v → sI B (am_SH X) z.1.2.2 σ τ → post v τ := by
    intro E' ρ' v' v τ hr hE hv hI
    obtain ⟨r, r1, r2⟩ := List.any_eq_true.mp hr
    simp only [Bool.and_eq_true] at r2
    refine hp v τ hI.1 (hJ' τ hI.2) hI.2 ⟨r, r1, s_ro_ok hE hv r2.1, fun q hq => ?_⟩
    have := List.all_eq_true.mp r2.2 q hq
    simp at this
  have key : ∀ (w : Nat) (c : sa_K) (ls : List (Option Value)) (τ : am_S), c ∈ z.2 → s_P c.2.2.1 ls → s_fc (am_SH X) c.2.2.2.2 τ → sI B (am_SH X) z.1.2.2 σ τ → s_enc ls 8 c.2.2.2.1 = w → AA c.1 ls [] n0 τ := by
    intro w
    induction w using Nat.strongRecOn with
    | ind w ih =>
      intro c ls τ hcm hP hfc hI hw
      obtain ⟨ρ1, r1, r2, r3⟩ := s_addF_ok c.2.2.2.2 (s_aE c.2.2.1) [] (s_ρ c.2.2.1 ls) (s_start_E hP) sg_F_nil hfc
      refine hA (s_cuts z.2) fuel _ _ _ _ _ ?_
      rw [hN]
      refine s_run_ok (E0 := s_aE c.2.2.1) (ρ0 := s_ρ c.2.2.1 ls) hML hJ' hG hD (fun E' ρ' v' v υ hr _ hE hv hI' => hretF E' ρ' v' v υ hr hE hv hI') (fun pc' E' F' L' S' hcut ρ' ls' st' υ x1 x2 xF x3 x4 x5 => ?_) fuel c.1 _ ρ1 _ _ [] ls [] τ r1 r2 r3 (sg_L_x r1 (s_start_L hP)) trivial hI (List.all_eq_true.mp hc3 c hcm)
      unfold s_at at hcut
      split at hcut
      · cases hcut
      · rename_i c' hc'
        simp only [Bool.and_eq_true, List.isEmpty_iff] at hcut
        obtain ⟨rfl, h2, h4, h3⟩ := hcut
        cases st' with
        | cons _ _ => exact x4.elim
        | nil => exact ih _ (by rw [← hw]; exact s_dec_ok x1 x3 8 _ _ h3) (pc', c') ls' υ (am_find_mem hc') (s_pats_ok x2 x3 h2) (s_chkF_ok x2 xF h4) x5 rfl
  have hl : (am_sl as).length ≤ maxL := by rw [(s_sl_ok has).1]; exact hc1
  refine ⟨hl, ?_⟩
  refine hA (s_cuts z.2) fuel _ _ _ _ _ ?_
  rw [hN]
  refine s_run_ok (E0 := s_aE (s_en maxL z.1.1)) (ρ0 := s_ρ (s_en maxL z.1.1) (am_entry maxL as)) hML hJ' hG hD (fun E' ρ' v' v υ hr hx hE hv hI' => ?_) (fun pc' E' F' L' S' hcut ρ' ls' st' υ x1 x2 xF x3 x4 x5 => ?_) fuel 0 _ _ [] _ [] _ [] σ (sx_r _ _) (s_start_E (s_en_ok has)) sg_F_nil (s_start_L (s_en_ok has)) trivial hI0 hc2
  · obtain ⟨r, r1, r2⟩ := List.any_eq_true.mp hr
    simp only [Bool.and_eq_true] at r2
    refine hp v υ hI'.1 (hJ' υ hI'.2) hI'.2 ⟨r, r1, s_ro_ok hE hv r2.1, fun q hq => ?_⟩
    have hq' := List.all_eq_true.mp r2.2 q hq
    simp only [Bool.true_and, Bool.and_eq_true] at hq'
    obtain ⟨q1, q2, q3⟩ := hq'
    split at q2
    · rename_i b hb
      have e1 := s_sl_at q1 hb
      obtain ⟨v', v1, v2⟩ := (s_sl_ok has).2.1 _ _ e1
      obtain ⟨x, rfl, hx1⟩ := v2
      rw [am_sl_at1 q1 has] at v1
      have hlt : q.1 < (s_sl z.1.1).length := (List.getElem?_eq_some_iff.mp e1).1
      have e2 : (s_en maxL z.1.1)[q.1]? = some (some (.inl b)) := by
        unfold s_en
        rw [List.getElem?_append_left hlt]
        exact e1
      have e3 : (am_entry maxL as)[q.1]? = some (some (.int x)) := by
        unfold am_entry
        rw [List.getElem?_append_left (by rw [(s_sl_ok has).1]; exact hlt), am_sl_at1 q1 has]
        exact v1
      have e4 : s_ρ (s_en maxL z.1.1) (am_entry maxL as) (q.1 + 1) = x.toInt := by simp only [s_ρ, e2, s_x, e3]
      have e5 : as[q.1]? = some (.int x) := by
        cases hh : as[q.1]? with
        | none => rw [hh] at v1; cases v1
        | some y =>
          rw [hh] at v1
          simp at v1
          rw [v1]
      have hl2 : q.1 + 1 < (s_aE (s_en maxL z.1.1)).length := by
        have := (List.getElem?_eq_some_iff.mp e2).1
        simp only [s_aE, List.length_cons, List.length_map]
        omega
      have := sa_inB_ok (a := (q.1 + 1, 0)) (x := x) hE (by show x.toInt = ρ' (q.1 + 1) + 0; rw [hx.2 _ hl2, e4]; omega) q3
      exact ⟨x, e5, this⟩
    · cases q2
  · unfold s_at at hcut
    split at hcut
    · cases hcut
    · rename_i c' hc'
      simp only [Bool.and_eq_true, List.isEmpty_iff] at hcut
      obtain ⟨rfl, h2, h4, _⟩ := hcut
      cases st' with
      | cons _ _ => exact x4.elim
      | nil => exact key _ (pc', c') ls' υ (am_find_mem hc') (s_pats_ok x2 x3 h2) (s_chkF_ok x2 xF h4) x5 rfl
