/-! THE SAFETY CHECKER: a stretch of code, a method -/
def s_mask : Nat → List (Option sa_V) → List (Option sa_V)
  | _, [] => []
  | 0, _ :: t => none :: s_mask 0 t
  | n + 1, a :: t => a :: s_mask n t
theorem s_mask_at : ∀ (j : Nat) (L : List (Option sa_V)) (i : Nat), (s_mask j L)[i]? = if i < j then L[i]? else (L[i]?).map (fun _ => none)
  | _, [], i => by simp [s_mask]
  | 0, a :: t, 0 => by simp [s_mask]
  | 0, a :: t, i + 1 => by
    simp only [s_mask, List.getElem?_cons_succ]
    have := s_mask_at 0 t i
    simpa using this
  | n + 1, a :: t, 0 => by simp [s_mask]
  | n + 1, a :: t, i + 1 => by
    simp only [s_mask, List.getElem?_cons_succ, Nat.add_lt_add_iff_right]
    exact s_mask_at n t i
theorem am_mask_at2 : ∀ (j : Nat) (L : List (Option Value)) (i : Nat), (am_mask j L)[i]? = if i < j then L[i]? else (L[i]?).map (fun _ => none)
  | _, [], i => by simp [am_mask]
  | 0, a :: t, 0 => by simp [am_mask]
  | 0, a :: t, i + 1 => by
    simp only [am_mask, List.getElem?_cons_succ]
    have := am_mask_at2 0 t i
    simpa using this
  | n + 1, a :: t, 0 => by simp [am_mask]
  | n + 1, a :: t, i + 1 => by
    simp only [am_mask, List.getElem?_cons_succ, Nat.add_lt_add_iff_right]
    exact am_mask_at2 n t i
theorem s_mask_len : ∀ (j : Nat) (L : List (Option sa_V)), (s_mask j L).length = L.length
  | _, [] => by simp [s_mask]
  | 0, _ :: t => by simp [s_mask, s_mask_len 0 t]
  | n + 1, _ :: t => by simp [s_mask, s_mask_len n t]
theorem sg_L_mask {E : sa_E} {ρ : Nat → Int} {L : List (Option sa_V)} {ls : List (Option Value)} (j : Nat) (h : sg_L E ρ L ls) : sg_L E ρ (s_mask j L) (am_mask j ls) := by
  refine ⟨by rw [am_mask_len, s_mask_len]; exact h.1, fun k a hk => ?_, fun k hk => ?_⟩
  · rw [s_mask_at] at hk
    rw [am_mask_at2]
    by_cases q : k < j
    · rw [if_pos q] at hk ⊢
      exact h.2.1 k a hk
    · rw [if_neg q] at hk
      cases hl : L[k]? with
      | none => rw [hl] at hk; cases hk
      | some z => rw [hl] at hk; cases hk
  · rw [s_mask_at] at hk
    rw [am_mask_at2]
    by_cases q : k < j
    · rw [if_pos q] at hk ⊢
      exact h.2.2 k hk
    · rw [if_neg q] at hk ⊢
      cases hl : ls[k]? with
      | none =>
        have : L[k]? = none := by
          rw [List.getElem?_eq_none_iff] at hl ⊢
          rw [← h.1]; exact hl
        rw [this] at hk
        cases hk
      | some z => rfl
def s_run (X : am_X) (B : sa_I) (N : Nat) (CS : sa_C) (M : sa_M) (D : List (Nat × Instr × Nat)) (cuts : List (Nat × Nat)) (Fk : sa_Q) (ret : sa_E → Option sa_V → Bool) (cut : Nat → sa_E → sa_F → List (Option sa_V) → List sa_V → Bool) : Nat → Nat → sa_E → sa_F → List (Option sa_V) → List sa_V → Bool
  | 0, _, _, _, _, _ => false
  | f + 1, pc, E, F, L, S => match am_find D pc with
    | none => false
    | some q => s_one X B N CS M Fk ret q.1 q.2 pc E F L S (fun pc' E' F' L' S' => match am_find cuts pc' with
      | some j => cut pc' E' F' (s_mask j L') S'
      | none => s_run X B N CS M D cuts Fk ret cut f pc' E' F' L' S')
theorem s_run_ok {X : am_X} {B : sa_I} {N : Nat} {CS : sa_C} {M : sa_M} {D : List (Nat × Instr × Nat)} {cuts : List (Nat × Nat)} {Fk : sa_Q} {ret : sa_E → Option sa_V → Bool} {cut : Nat → sa_E → sa_F → List (Option sa_V) → List sa_V → Bool} {J : am_S → Prop} {σ0 : am_S} {post : Option Value → am_S → Prop} {AA : Nat → List (Option Value) → List Value → Nat → am_S → Prop} {cc : ByteArray} {E0 : sa_E} {ρ0 : Nat → Int}
    (hML : ∀ ix q, am_find CS ix = some q → am_find (am_ML X) ix = some (q.1, q.2.1, q.2.2.1, 0, 0, sp_w J B (am_SH X) N q.2.2.2)) (hJ : ∀ τ, sb_fr M σ0 τ → J τ) (hG : ∀ g ∈ Fk.2, ∀ τ, sb_fr M σ0 τ → s_gd g τ) (hD : ∀ pc q, am_find D pc = some q → decode cc pc = .ok q)
    (hret : ∀ E' ρ' v' v τ, ret E' v' = true → sx E0 ρ0 E' ρ' → sg_E E' ρ' → sv_o E' ρ' v' v → sI B (am_SH X) M σ0 τ → post v τ)
    (hcut : ∀ pc' E' F' L' S', cut pc' E' F' L' S' = true → ∀ ρ' ls' st' τ, sx E0 ρ0 E' ρ' → sg_E E' ρ' → sg_F (am_SH X) E' ρ' F' τ → sg_L E' ρ' L' ls' → sg_S E' ρ' S' st' → sI B (am_SH X) M σ0 τ → AA pc' ls' st' N τ) :
    ∀ (f pc : Nat) (E : sa_E) (ρ : Nat → Int) (F : sa_F) (L : List (Option sa_V)) (S : List sa_V) (ls : List (Option Value)) (st : List Value) (σ : am_S), sx E0 ρ0 E ρ → sg_E E ρ → sg_F (am_SH X) E ρ F σ → sg_L E ρ L ls → sg_S E ρ S st → sI B (am_SH X) M σ0 σ → s_run X B N CS M D cuts Fk ret cut f pc E F L S = true → am_vc cc X N post AA cuts f pc ls st N σ := by
  intro f
  induction f with
  | zero => intro pc E ρ F L S ls st σ _ _ _ _ _ _ h; cases h
  | succ f ih =>
    intro pc E ρ F L S ls st σ hx hE hF hL hS hI h
    unfold s_run at h
    split at h
    · cases h
    · rename_i q hq
      unfold am_vc
      rw [hD pc q hq]
      refine s_one_ok hML hJ hG (fun v' v hr hv => hret E ρ v' v σ hr hx hE hv hI) (fun pc' E' F' L' S' hk ρ' ls' st' τ x1 x2 xF x3 x4 x5 => ?_) hE hF hL hS hI h
      have hx' := sx_t hx x1
      cases hc : am_find cuts pc' with
      | some j =>
        rw [hc] at hk
        exact hcut _ _ _ _ _ hk ρ' _ _ τ hx' x2 xF (sg_L_mask j x3) x4 x5
      | none =>
        rw [hc] at hk
        exact ih pc' E' ρ' F' L' S' ls' st' τ hx' x2 xF x3 x4 x5 hk
/-! where a stretch begins: every int its own ghost -/
def s_P (P : List (Option sa_P)) (ls : List (Option Value)) : Prop := ls.length = P.length ∧ (∀ (k : Nat) (p : sa_P), P[k]? = some (some p) → ∃ v, ls[k]? = some (some v) ∧ sp_in p v) ∧ (∀ k : Nat, P[k]? = some none → ls[k]? = some none)
def s_aV (i : Nat) (p : sa_P) : sa_V := match p with
  | .inl _ => .inl (i, 0)
  | .inr z => .inr z
def s_aE (P : List (Option sa_P)) : sa_E := (0, 0, false) :: P.map (fun p => match p with
  | some (.inl b) => (b.1, b.2, false)
  | _ => (0, 0, false))
def s_aL : Nat → List (Option sa_P) → List (Option sa_V)
  | _, [] => []
  | i, p :: t => p.map (s_aV i) :: s_aL (i + 1) t
theorem s_aL_len : ∀ (i : Nat) (P : List (Option sa_P)), (s_aL i P).length = P.length
  | _, [] => rfl
  | i, p :: t => by simp [s_aL, s_aL_len (i + 1) t]
theorem s_aL_at : ∀ (i : Nat) (P : List (Option sa_P)) (k : Nat), (s_aL i P)[k]? = (P[k]?).map (fun p => p.map (s_aV (i + k)))
  | _, [], k => by simp [s_aL]
  | i, p :: t, 0 => by simp [s_aL]
  | i, p :: t, k + 1 => by
    simp only [s_aL, List.getElem?_cons_succ]
    rw [s_aL_at (i + 1) t k, show i + 1 + k = i + (k + 1) by omega]
/-- an int that a local holds -/
def s_x (ls : List (Option Value)) (k : Nat) : Int := match ls[k]? with
  | some (some (.int x)) => x.toInt
  | _ => 0
def s_ρ (P : List (Option sa_P)) (ls : List (Option Value)) (i : Nat) : Int := match i with
  | 0 => 0
  | k + 1 => match P[k]? with
    | some (some (.inl _)) => s_x ls k
    | _ => 0
theorem s_start_E {P : List (Option sa_P)} {ls : List (Option Value)} (h : s_P P ls) : sg_E (s_aE P) (s_ρ P ls) := by
  refine ⟨by simp [s_aE], rfl, fun i q hq => ?_⟩
  cases i with
  | zero =>
    simp only [s_aE, List.getElem?_cons_zero] at hq
    cases hq
    exact ⟨Int.le_refl _, Int.le_refl _, fun z => by cases z⟩
  | succ k =>
    simp only [s_aE, List.getElem?_cons_succ, List.getElem?_map] at hq
    cases hp : P[k]? with
    | none => rw [hp] at hq; cases hq
    | some p =>
      rw [hp] at hq
      simp only [s_ρ, hp]
      cases p with
      | none =>
        cases hq
        exact ⟨Int.le_refl _, Int.le_refl _, fun z => by cases z⟩
      | some p =>
        cases p with
        | inr z =>
          cases hq
          exact ⟨Int.le_refl _, Int.le_refl _, fun z => by cases z⟩
        | inl b =>
          cases hq
          obtain ⟨v, v1, x, rfl, x1, x2⟩ := h.2.1 k _ hp
          simp only [s_x, v1]
          exact ⟨x1, x2, fun z => by cases z⟩
theorem s_start_L {P : List (Option sa_P)} {ls : List (Option Value)} (h : s_P P ls) : sg_L (s_aE P) (s_ρ P ls) (s_aL 1 P) ls := by
  refine ⟨by rw [s_aL_len]; exact h.1, fun k a hk => ?_, fun k hk => ?_⟩
  · rw [s_aL_at] at hk
    cases hp : P[k]? with
    | none => rw [hp] at hk; cases hk
    | some p =>
      cases p with
      | none => rw [hp] at hk; cases hk
      | some p =>
        rw [hp] at hk
        obtain ⟨v, v1, v2⟩ := h.2.1 k p hp
        refine ⟨v, v1, ?_⟩
        have e : a = s_aV (1 + k) p := by
          simp at hk
          exact hk.symm
        subst e
        rcases p with b | o | b
        · obtain ⟨x, rfl, _⟩ := v2
          refine ⟨?_, x, rfl, ?_⟩
          · have : k < P.length := (List.getElem?_eq_some_iff.mp hp).1
            show 1 + k < (s_aE P).length
            simp [s_aE]
            omega
          · show x.toInt = s_ρ P ls (1 + k) + 0
            rw [Nat.add_comm 1 k]
            simp only [s_ρ, hp, s_x, v1]
            omega
        · exact v2
        · cases b <;> exact v2
  · rw [s_aL_at] at hk
    cases hp : P[k]? with
    | none => rw [hp] at hk; cases hk
    | some p =>
      cases p with
      | some p => rw [hp] at hk; cases hk
      | none => exact h.2.2 k hp
/-- the locals are as a cut asks for -/
def s_pats (E : sa_E) : List (Option sa_P) → List (Option sa_V) → Bool
  | [], [] => true
  | none :: t, none :: t' => s_pats E t t'
  | some p :: t, some a :: t' => sa_inP E p a && s_pats E t t'
  | _, _ => false
theorem s_pats_at {E : sa_E} : ∀ {P : List (Option sa_P)} {L : List (Option sa_V)}, s_pats E P L = true → L.length = P.length ∧ ∀ k : Nat, match P[k]? with
    | some (some p) => ∃ a, L[k]? = some (some a) ∧ sa_inP E p a = true
    | some none => L[k]? = some none
    | none => True
  | [], [], _ => ⟨rfl, fun k => by simp⟩
  | none :: t, none :: t', h => by
    obtain ⟨h1, h2⟩ := s_pats_at (P := t) (L := t') h
    refine ⟨by simp [h1], fun k => ?_⟩
    cases k with
    | zero => simp
    | succ k => simpa using h2 k
  | some p :: t, some a :: t', h => by
    simp only [s_pats, Bool.and_eq_true] at h
    obtain ⟨h1, h2⟩ := s_pats_at (P := t) (L := t') h.2
    refine ⟨by simp [h1], fun k => ?_⟩
    cases k with
    | zero => simp [h.1]
    | succ k => simpa using h2 k
  | [], _ :: _, h => by simp [s_pats] at h
  | _ :: _, [], h => by simp [s_pats] at h
  | none :: _, some _ :: _, h => by simp [s_pats] at h
  | some _ :: _, none :: _, h => by simp [s_pats] at h
theorem s_pats_ok {E : sa_E} {ρ : Nat → Int} {P : List (Option sa_P)} {L : List (Option sa_V)} {ls : List (Option Value)} (hE : sg_E E ρ) (hL : sg_L E ρ L ls) (h : s_pats E P L = true) : s_P P ls := by
  obtain ⟨h1, h2⟩ := s_pats_at h
  refine ⟨hL.1.trans h1, fun k p hp => ?_, fun k hp => ?_⟩
  · have := h2 k
    rw [hp] at this
    obtain ⟨a, a1, a2⟩ := this
    obtain ⟨v, v1, v2⟩ := hL.2.1 k a a1
    exact ⟨v, v1, sa_inP_ok hE v2 a2⟩
  · have := h2 k
    rw [hp] at this
    exact hL.2.2 k this
/-! what falls -/
def s_dg (ls : List (Option Value)) (m : Nat × Nat) : Nat := match m.1 with
  | 0 => if m.2 ≤ 1000 then m.2 else 1001
  | 1 => (2147483648 - s_x ls m.2).toNat
  | _ => (s_x ls m.2 + 2147483648).toNat
theorem s_x_lo (ls : List (Option Value)) (k : Nat) : -2147483648 ≤ s_x ls k ∧ s_x ls k < 2147483648 := by
  unfold s_x
  split
  · exact ⟨ii_lo _, ii_hi _⟩
  · omega
theorem s_dg_lt (ls : List (Option Value)) (m : Nat × Nat) : s_dg ls m < 8589934592 := by
  have := s_x_lo ls m.2
  unfold s_dg
  split
  · split <;> omega
  · omega
  · omega
def s_enc (ls : List (Option Value)) : Nat → List (Nat × Nat) → Nat
  | 0, _ => 0
  | _ + 1, [] => 0
  | w + 1, m :: t => s_dg ls m * 8589934592 ^ w + s_enc ls w t
theorem s_enc_lt (ls : List (Option Value)) : ∀ (w : Nat) (l : List (Nat × Nat)), s_enc ls w l < 8589934592 ^ w
  | 0, _ => by simp [s_enc]
  | w + 1, [] => by simp only [s_enc]; exact Nat.pow_pos (by decide)
  | w + 1, m :: t => by
    have h1 := s_enc_lt ls w t
    have h2 := s_dg_lt ls m
    have h3 : (s_dg ls m + 1) * 8589934592 ^ w ≤ 8589934592 * 8589934592 ^ w := Nat.mul_le_mul_right _ (by omega)
    rw [Nat.add_mul, Nat.one_mul] at h3
    simp only [s_enc]
    rw [Nat.pow_succ, Nat.mul_comm (8589934592 ^ w)]
    omega
theorem s_enc_step {ls ls' : List (Option Value)} {w a b x y : Nat} (h : x < 8589934592 ^ w) (hd : a < b) : a * 8589934592 ^ w + x < b * 8589934592 ^ w + y := by
  have h3 : (a + 1) * 8589934592 ^ w ≤ b * 8589934592 ^ w := Nat.mul_le_mul_right _ (by omega)
  rw [Nat.add_mul, Nat.one_mul] at h3
  omega
/-- P: where the stretch began; m: what was measured there; m': what is measured here; L: the locals here -/
def s_dec (P : List (Option sa_P)) (L : List (Option sa_V)) : Nat → List (Nat × Nat) → List (Nat × Nat) → Bool
  | w + 1, m :: t, m' :: t' =>
    if m.1 = 0 ∧ m'.1 = 0 then decide (m'.2 < m.2 ∧ m.2 ≤ 1000) || (decide (m'.2 = m.2) && s_dec P L w t t')
    else if m.1 = m'.1 ∧ (m.1 = 1 ∨ m.1 = 2) then (match P[m.2]? with
      | some (some (.inl _)) => (match L[m'.2]? with
        | some (some (.inl a)) => decide (a.1 = m.2 + 1) && (decide ((m.1 = 1 ∧ 0 < a.2) ∨ (m.1 = 2 ∧ a.2 < 0)) || (decide (a.2 = 0) && s_dec P L w t t'))
        | _ => false)
      | _ => false)
    else false
  | _, _, _ => false
theorem s_dec_ok {P : List (Option sa_P)} {E : sa_E} {ρ : Nat → Int} {L : List (Option sa_V)} {ls ls' : List (Option Value)} (hx : sx (s_aE P) (s_ρ P ls) E ρ) (hL : sg_L E ρ L ls') : ∀ (w : Nat) (m m' : List (Nat × Nat)), s_dec P L w m m' = true → s_enc ls' w m' < s_enc ls w m
  | 0, _, _, h => by simp [s_dec] at h
  | w + 1, [], _, h => by simp [s_dec] at h
  | w + 1, _ :: _, [], h => by simp [s_dec] at h
  | w + 1, m :: t, m' :: t', h => by
    simp only [s_dec] at h
    simp only [s_enc]
    split at h
    · rename_i h0
      simp only [Bool.or_eq_true, Bool.and_eq_true, decide_eq_true_eq] at h
      have e1 : s_dg ls m = if m.2 ≤ 1000 then m.2 else 1001 := by simp only [s_dg, h0.1]
      have e2 : s_dg ls' m' = if m'.2 ≤ 1000 then m'.2 else 1001 := by simp only [s_dg, h0.2]
      rcases h with ⟨h1, h2⟩ | ⟨h1, h2⟩
      · refine s_enc_step (ls := ls) (ls' := ls') (s_enc_lt ls' w t') ?_
        rw [e1, e2, if_pos h2, if_pos (by omega)]
        exact h1
      · have := s_dec_ok hx hL w t t' h2
        rw [e1, e2, h1]
        omega
    · split at h
      · rename_i h0
        split at h
        · rename_i b hb
          split at h
          · rename_i a ha
            simp only [Bool.or_eq_true, Bool.and_eq_true, decide_eq_true_eq] at h
            obtain ⟨h1, h2⟩ := h
            obtain ⟨v, v1, v2, x, rfl, v3⟩ := hL.2.1 _ _ ha
            have hlt : m.2 + 1 < (s_aE P).length := by
              have := (List.getElem?_eq_some_iff.mp hb).1
              simp [s_aE]
              exact this
            have e1 : s_x ls' m'.2 = s_x ls m.2 + a.2 := by
              simp only [s_x, v1]
              rw [v3, h1, hx.2 _ hlt]
              simp only [s_ρ, hb, s_x]
            have l1 := s_x_lo ls m.2
            have l2 := s_x_lo ls' m'.2
            have hd : (m.1 = 1 ∧ 0 < a.2 ∨ m.1 = 2 ∧ a.2 < 0) → s_dg ls' m' < s_dg ls m := by
              rintro (⟨q1, q2⟩ | ⟨q1, q2⟩)
              · have q3 : m'.1 = 1 := by omega
                simp only [s_dg, q1, q3]
                omega
              · have q3 : m'.1 = 2 := by omega
                simp only [s_dg, q1, q3]
                omega
            have he : a.2 = 0 → s_dg ls' m' = s_dg ls m := by
              intro q
              rw [q, Int.add_zero] at e1
              simp only [s_dg, ← h0.1, e1]
              rcases h0.2 with q1 | q1 <;> simp only [q1]
            rcases h2 with h2 | ⟨h2, h3⟩
            · exact s_enc_step (ls := ls) (ls' := ls') (s_enc_lt ls' w t') (hd h2)
            · have := s_dec_ok hx hL w t t' h3
              rw [he h2]
              omega
          · cases h
        · cases h
      · cases h
/-! what is known of fields where a stretch begins -/
def s_addF : List (Nat × Nat × Int × Int) → sa_E → sa_F → sa_E × sa_F
  | [], E, F => (E, F)
  | q :: t, E, F => s_addF t (E ++ [(q.2.2.1, q.2.2.2, false)]) ((q.1, q.2.1, E.length, 0) :: F)
def s_fc (SH : am_Sh) (l : List (Nat × Nat × Int × Int)) (σ : am_S) : Prop := ∀ q ∈ l, (∃ ci, SH q.1 = .inl ci) ∧ q.2.2.1 ≤ (σ.1 q.1 q.2.1).toInt ∧ (σ.1 q.1 q.2.1).toInt ≤ q.2.2.2
theorem s_addF_ok {SH : am_Sh} {σ : am_S} : ∀ (l : List (Nat × Nat × Int × Int)) (E : sa_E) (F : sa_F) (ρ : Nat → Int), sg_E E ρ → sg_F SH E ρ F σ → s_fc SH l σ → ∃ ρ', sx E ρ (s_addF l E F).1 ρ' ∧ sg_E (s_addF l E F).1 ρ' ∧ sg_F SH (s_addF l E F).1 ρ' (s_addF l E F).2 σ
  | [], E, F, ρ, hE, hF, _ => ⟨ρ, sx_r E ρ, hE, hF⟩
  | q :: t, E, F, ρ, hE, hF, h => by
    obtain ⟨⟨ci, h1⟩, h2⟩ := h q List.mem_cons_self
    obtain ⟨ρ1, q1, q2, q3⟩ := sa_fr_ok (b := (q.2.2.1, q.2.2.2)) hE h2
    obtain ⟨c1, x, c2, c3⟩ := q3
    cases c2
    obtain ⟨ρ2, p1, p2, p3⟩ := s_addF_ok t _ _ ρ1 q2 (sg_F_cons h1 ⟨c1, c3⟩ (sg_F_x q1 hF)) (fun z hz => h z (List.mem_cons_of_mem _ hz))
    exact ⟨ρ2, sx_t q1 p1, p2, p3⟩
def s_chkF (E : sa_E) (F : sa_F) (l : List (Nat × Nat × Int × Int)) : Bool := l.all (fun q => match F.find? (fun z => decide (z.1 = q.1 ∧ z.2.1 = q.2.1)) with
  | some z => sa_inB E (q.2.2.1, q.2.2.2) z.2.2
  | none => false)
theorem s_chkF_ok {SH : am_Sh} {σ : am_S} {E : sa_E} {ρ : Nat → Int} {F : sa_F} {l : List (Nat × Nat × Int × Int)} (hE : sg_E E ρ) (hF : sg_F SH E ρ F σ) (h : s_chkF E F l = true) : s_fc SH l σ := by
  intro q hq
  have h1 := List.all_eq_true.mp h q hq
  split at h1
  · rename_i z hz
    have h2 := List.find?_some hz
    have h2 := of_decide_eq_true h2
    obtain ⟨g1, g2, g3⟩ := hF z (List.mem_of_find?_eq_some hz)
    rw [h2.1, h2.2] at g3
    rw [h2.1] at g1
    exact ⟨g1, sa_inB_ok hE g3 h1⟩
  · cases h1
/-! a method -/
/-- a cut: where, how many locals are kept, what they hold, what falls, what is known of fields -/
abbrev sa_K : Type := Nat × Nat × List (Option sa_P) × List (Nat × Nat) × List (Nat × Nat × Int × Int)
def s_cuts (cs : List sa_K) : List (Nat × Nat) := cs.map (fun c => (c.1, c.2.1))
/-- at a cut; m0: where the stretch began -/
def s_at (cs : List sa_K) (m0 : Option (List (Option sa_P) × List (Nat × Nat))) (pc : Nat) (E : sa_E) (F : sa_F) (L : List (Option sa_V)) (S : List sa_V) : Bool := match am_find cs pc with
  | none => false
  | some c => S.isEmpty && (s_pats E c.2.1 L && (s_chkF E F c.2.2.2 && (match m0 with
    | none => true
    | some q => s_dec q.1 L 8 q.2 c.2.2.1)))
def s_ro (E : sa_E) (r : Option sa_P) (v : Option sa_V) : Bool := match r, v with
  | none, none => true
  | some p, some a => sa_inP E p a
  | _, _ => false
theorem s_ro_ok {E : sa_E} {ρ : Nat → Int} {r : Option sa_P} {v' : Option sa_V} {v : Option Value} (hE : sg_E E ρ) (hv : sv_o E ρ v' v) (h : s_ro E r v' = true) : sp_ro r v := by
  cases r <;> cases v' <;> cases v <;> first | trivial | cases h | exact hv.elim | exact sa_inP_ok hE hv h
def s_nl (p : sa_P) : Bool := match p with
  | .inr (.inr true) => false
  | _ => true
def s_ret (a : sa_A) (entry : Bool) (E : sa_E) (v : Option sa_V) : Bool := a.2.1.any (fun r => s_ro E r.1 v && r.2.all (fun q => entry && (a.1.all s_nl && ((match a.1[q.1]? with
  | some (.inl _) => true
  | _ => false) && sa_inB E (q.2.1, q.2.2) (q.1 + 1, 0)))))
/-- the first locals -/
def s_sl : List sa_P → List (Option sa_P)
  | [] => []
  | p :: t => if s_nl p then some p :: s_sl t else some p :: none :: s_sl t
def s_en (n : Nat) (a : List sa_P) : List (Option sa_P) := s_sl a ++ List.replicate (n - (s_sl a).length) none
def s_1alt (X : am_X) (B : sa_I) (N : Nat) (CS : sa_C) (D : List (Nat × Instr × Nat)) (Fk : sa_Q) (maxL fuel : Nat) (z : sa_A × List sa_K) : Bool :=
  decide ((s_sl z.1.1).length ≤ maxL) &&
  (s_run X B N CS z.1.2.2 D (s_cuts z.2) Fk (s_ret z.1 true) (s_at z.2 none) fuel 0 (s_aE (s_en maxL z.1.1)) [] (s_aL 1 (s_en maxL z.1.1)) [] &&
  z.2.all (fun c => s_run X B N CS z.1.2.2 D (s_cuts z.2) Fk (s_ret z.1 false) (s_at z.2 (some (c.2.2.1, c.2.2.2.1))) fuel c.1 (s_addF c.2.2.2.2 (s_aE c.2.2.1) []).1 (s_addF c.2.2.2.2 (s_aE c.2.2.1) []).2 (s_aL 1 c.2.2.1) []))
theorem s_nl_cat {p : sa_P} {v : Value} (h : sp_in p v) : v.category = if s_nl p then 1 else 2 := by
  rcases p with b | o | b
  · obtain ⟨x, rfl, _⟩ := h
    rfl
  · have h : v = .ref o := h
    subst h
    rfl
  · cases b
    · exact h
    · obtain ⟨y, rfl⟩ := h
      rfl
theorem s_sl_ok : ∀ {a : List sa_P} {as : List Value}, sp_all a as → s_P (s_sl a) (am_sl as)
  | [], [], _ => ⟨rfl, fun k p h => by simp [s_sl] at h, fun k h => by simp [s_sl] at h⟩
  | p :: t, v :: t', h => by
    obtain ⟨h1, h2, h3⟩ := s_sl_ok h.2
    have hc := s_nl_cat h.1
    cases hn : s_nl p with
    | true =>
      rw [hn, if_pos rfl] at hc
      simp only [s_sl, am_sl, hn, hc, if_true]
      rw [if_neg (by decide)]
      refine ⟨by simp [h1], fun k q hq => ?_, fun k hq => ?_⟩
      · cases k with
        | zero =>
          simp at hq
          subst hq
          exact ⟨v, rfl, h.1⟩
        | succ k =>
          simp only [List.getElem?_cons_succ] at hq ⊢
          exact h2 k q hq
      · cases k with
        | zero => simp at hq
        | succ k =>
          simp only [List.getElem?_cons_succ] at hq ⊢
          exact h3 k hq
    | false =>
      rw [hn, if_neg (by decide)] at hc
      simp only [s_sl, am_sl, hn, hc, if_true]
      rw [if_neg (by decide)]
      refine ⟨by simp [h1], fun k q hq => ?_, fun k hq => ?_⟩
      · match k, hq with
        | 0, hq =>
          simp at hq
          subst hq
          exact ⟨v, rfl, h.1⟩
        | 1, hq => simp at hq
        | k + 2, hq =>
          simp only [List.getElem?_cons_succ] at hq ⊢
          exact h2 k q hq
      · match k, hq with
        | 0, hq => simp at hq
        | 1, hq => rfl
        | k + 2, hq =>
          simp only [List.getElem?_cons_succ] at hq ⊢
          exact h3 k hq
  | [], _ :: _, h => h.elim
  | _ :: _, [], h => h.elim
theorem s_en_ok {n : Nat} {a : List sa_P} {as : List Value} (h : sp_all a as) : s_P (s_en n a) (am_entry n as) := by
  obtain ⟨h1, h2, h3⟩ := s_sl_ok h
  unfold s_en am_entry
  refine ⟨by simp [h1], fun k p hp => ?_, fun k hp => ?_⟩
  · by_cases q : k < (s_sl a).length
    · rw [List.getElem?_append_left q] at hp
      rw [List.getElem?_append_left (by rw [h1]; exact q)]
      exact h2 k p hp
    · rw [List.getElem?_append_right (by omega), List.getElem?_replicate] at hp
      split at hp <;> cases hp
  · by_cases q : k < (s_sl a).length
    · rw [List.getElem?_append_left q] at hp
      rw [List.getElem?_append_left (by rw [h1]; exact q)]
      exact h3 k hp
    · rw [List.getElem?_append_right (by omega), List.getElem?_replicate] at hp
      rw [List.getElem?_append_right (by rw [h1]; omega), List.getElem?_replicate, h1]
      split at hp
      · rename_i q2
        rw [if_pos q2]
      · cases hp
theorem s_sl_at : ∀ {a : List sa_P} {k : Nat} {p : sa_P}, a.all s_nl = true → a[k]? = some p → (s_sl a)[k]? = some (some p)
  | [], k, p, _, h => by simp at h
  | q :: t, 0, p, hn, h => by
    simp only [List.all_cons, Bool.and_eq_true] at hn
    simp at h
    subst h
    simp [s_sl, hn.1]
  | q :: t, k + 1, p, hn, h => by
    simp only [List.all_cons, Bool.and_eq_true] at hn
    simp only [List.getElem?_cons_succ] at h
    simp only [s_sl, hn.1, if_true, List.getElem?_cons_succ]
    exact s_sl_at hn.2 h
theorem am_sl_at1 : ∀ {a : List sa_P} {as : List Value} {k : Nat}, a.all s_nl = true → sp_all a as → (am_sl as)[k]? = (as[k]?).map some
  | [], [], k, _, _ => by simp [am_sl]
  | p :: t, v :: t', k, hn, h => by
    simp only [List.all_cons, Bool.and_eq_true] at hn
    have hc := s_nl_cat h.1
    rw [hn.1, if_pos rfl] at hc
    have e : am_sl (v :: t') = some v :: am_sl t' := by
      show (if v.category = 2 then some v :: none :: am_sl t' else some v :: am_sl t') = _
      rw [if_neg (by rw [hc]; decide)]
    rw [e]
    cases k with
    | zero => simp
    | succ k =>
      simp only [List.getElem?_cons_succ]
      exact am_sl_at1 hn.2 h.2
  | [], _ :: _, _, _, h => h.elim
  | _ :: _, [], _, _, h => h.elim
theorem s_chk_ok {X : am_X} {B : sa_I} {N : Nat} {CS : sa_C} {J : am_S → Prop} {cc : ByteArray} {D : List (Nat × Instr × Nat)} {Fk : sa_Q} {maxL fuel : Nat} {info : List (sa_A × List sa_K)} {sm : List sa_A} (hsm : sm = info.map (fun z => z.1))
    (hML : ∀ ix q, am_find CS ix = some q → am_find (am_ML X) ix = some (q.1, q.2.1, q.2.2.1, 0, 0, sp_w J B (am_SH X) N q.2.2.2)) (hJ : ∀ a ∈ sm, ∀ σ τ, J σ → sb_fr a.2.2 σ τ → J τ) (hGJ : ∀ τ, J τ → ∀ g ∈ Fk.2, s_gd g τ) (hD : ∀ pc q, am_find D pc = some q → decode cc pc = .ok q)
    (h : info.all (s_1alt X B N CS D Fk maxL fuel) = true) : am_B cc X maxL 0 (sp_w J B (am_SH X) N sm) := by
  intro n0 as σ post AA hA hw
  obtain ⟨rfl, hB, hJ0, a, ha, has, hp⟩ := hw
  have haz := ha
  rw [hsm] at haz
  obtain ⟨z, hz, rfl⟩ := List.mem_map.mp haz
  have hc := List.all_eq_true.mp h z hz
  simp only [s_1alt, Bool.and_eq_true, decide_eq_true_eq] at hc
  obtain ⟨hc1, hc2, hc3⟩ := hc
  have hJ' : ∀ τ, sb_fr z.1.2.2 σ τ → J τ := fun τ ht => hJ z.1 ha σ τ hJ0 ht
  have hI0 : sI B (am_SH X) z.1.2.2 σ σ := ⟨hB, sb_fr_r _ _⟩
  have hG : ∀ g ∈ Fk.2, ∀ τ, sb_fr z.1.2.2 σ τ → s_gd g τ := fun g hg τ ht => hGJ τ (hJ' τ ht) g hg
  have hN : n0 + 0 = n0 := rfl
  -- answers of a stretch that begins at a cut
  have hretF : ∀ E' ρ' v' v τ, s_ret z.1 false E' v' = true → sg_E E' ρ' → sv_o E' ρ' v' v → sI B (am_SH X) z.1.2.2 σ τ → post v τ := by
    intro E' ρ' v' v τ hr hE hv hI
    obtain ⟨r, r1, r2⟩ := List.any_eq_true.mp hr
    simp only [Bool.and_eq_true] at r2
    refine hp v τ hI.1 (hJ' τ hI.2) hI.2 ⟨r, r1, s_ro_ok hE hv r2.1, fun q hq => ?_⟩
    have := List.all_eq_true.mp r2.2 q hq
    simp at this
  have key : ∀ (w : Nat) (c : sa_K) (ls : List (Option Value)) (τ : am_S), c ∈ z.2 → s_P c.2.2.1 ls → s_fc (am_SH X) c.2.2.2.2 τ → sI B (am_SH X) z.1.2.2 σ τ → s_enc ls 8 c.2.2.2.1 = w → AA c.1 ls [] n0 τ := by
    intro w
    induction w using Nat.strongRecOn with
    | ind w ih =>
      intro c ls τ hcm hP hfc hI hw
      obtain ⟨ρ1, r1, r2, r3⟩ := s_addF_ok c.2.2.2.2 (s_aE c.2.2.1) [] (s_ρ c.2.2.1 ls) (s_start_E hP) sg_F_nil hfc
      refine hA (s_cuts z.2) fuel _ _ _ _ _ ?_
      rw [hN]
      refine s_run_ok (E0 := s_aE c.2.2.1) (ρ0 := s_ρ c.2.2.1 ls) hML hJ' hG hD (fun E' ρ' v' v υ hr _ hE hv hI' => hretF E' ρ' v' v υ hr hE hv hI') (fun pc' E' F' L' S' hcut ρ' ls' st' υ x1 x2 xF x3 x4 x5 => ?_) fuel c.1 _ ρ1 _ _ [] ls [] τ r1 r2 r3 (sg_L_x r1 (s_start_L hP)) trivial hI (List.all_eq_true.mp hc3 c hcm)
      unfold s_at at hcut
      split at hcut
      · cases hcut
      · rename_i c' hc'
        simp only [Bool.and_eq_true, List.isEmpty_iff] at hcut
        obtain ⟨rfl, h2, h4, h3⟩ := hcut
        cases st' with
        | cons _ _ => exact x4.elim
        | nil => exact ih _ (by rw [← hw]; exact s_dec_ok x1 x3 8 _ _ h3) (pc', c') ls' υ (am_find_mem hc') (s_pats_ok x2 x3 h2) (s_chkF_ok x2 xF h4) x5 rfl
  have hl : (am_sl as).length ≤ maxL := by rw [(s_sl_ok has).1]; exact hc1
  refine ⟨hl, ?_⟩
  refine hA (s_cuts z.2) fuel _ _ _ _ _ ?_
  rw [hN]
  refine s_run_ok (E0 := s_aE (s_en maxL z.1.1)) (ρ0 := s_ρ (s_en maxL z.1.1) (am_entry maxL as)) hML hJ' hG hD (fun E' ρ' v' v υ hr hx hE hv hI' => ?_) (fun pc' E' F' L' S' hcut ρ' ls' st' υ x1 x2 xF x3 x4 x5 => ?_) fuel 0 _ _ [] _ [] _ [] σ (sx_r _ _) (s_start_E (s_en_ok has)) sg_F_nil (s_start_L (s_en_ok has)) trivial hI0 hc2
  · obtain ⟨r, r1, r2⟩ := List.any_eq_true.mp hr
    simp only [Bool.and_eq_true] at r2
    refine hp v υ hI'.1 (hJ' υ hI'.2) hI'.2 ⟨r, r1, s_ro_ok hE hv r2.1, fun q hq => ?_⟩
    have hq' := List.all_eq_true.mp r2.2 q hq
    simp only [Bool.true_and, Bool.and_eq_true] at hq'
    obtain ⟨q1, q2, q3⟩ := hq'
    split at q2
    · rename_i b hb
      have e1 := s_sl_at q1 hb
      obtain ⟨v', v1, v2⟩ := (s_sl_ok has).2.1 _ _ e1
      obtain ⟨x, rfl, hx1⟩ := v2
      rw [am_sl_at1 q1 has] at v1
      have hlt : q.1 < (s_sl z.1.1).length := (List.getElem?_eq_some_iff.mp e1).1
      have e2 : (s_en maxL z.1.1)[q.1]? = some (some (.inl b)) := by
        unfold s_en
        rw [List.getElem?_append_left hlt]
        exact e1
      have e3 : (am_entry maxL as)[q.1]? = some (some (.int x)) := by
        unfold am_entry
        rw [List.getElem?_append_left (by rw [(s_sl_ok has).1]; exact hlt), am_sl_at1 q1 has]
        exact v1
      have e4 : s_ρ (s_en maxL z.1.1) (am_entry maxL as) (q.1 + 1) = x.toInt := by simp only [s_ρ, e2, s_x, e3]
      have e5 : as[q.1]? = some (.int x) := by
        cases hh : as[q.1]? with
        | none => rw [hh] at v1; cases v1
        | some y =>
          rw [hh] at v1
          simp at v1
          rw [v1]
      have hl2 : q.1 + 1 < (s_aE (s_en maxL z.1.1)).length := by
        have := (List.getElem?_eq_some_iff.mp e2).1
        simp only [s_aE, List.length_cons, List.length_map]
        omega
      have := sa_inB_ok (a := (q.1 + 1, 0)) (x := x) hE (by show x.toInt = ρ' (q.1 + 1) + 0; rw [hx.2 _ hl2, e4]; omega) q3
      exact ⟨x, e5, this⟩
    · cases q2
  · unfold s_at at hcut
    split at hcut
    · cases hcut
    · rename_i c' hc'
      simp only [Bool.and_eq_true, List.isEmpty_iff] at hcut
      obtain ⟨rfl, h2, h4, _⟩ := hcut
      cases st' with
      | cons _ _ => exact x4.elim
      | nil => exact key _ (pc', c') ls' υ (am_find_mem hc') (s_pats_ok x2 x3 h2) (s_chkF_ok x2 xF h4) x5 rfl
/-! DECODING QUICKLY: a row of a code by its bytes. Printed by wip/am/chk/mkdk.py. -/
noncomputable def dk_l (l : List UInt8) : Nat → Nat := List.rec (motive := fun _ => Nat → Nat) (fun _ => 256) (fun x _ ih i => Nat.rec (motive := fun _ => Nat) x.toNat (fun j _ => ih j) i) l
theorem dk_lt : ∀ (l : List UInt8) (i : Nat), dk_l l i < 256 → ∃ h : i < l.length, l[i].toNat = dk_l l i
  | [], i, h => absurd (show 256 < 256 from h) (by decide)
  | x :: l, 0, h => ⟨Nat.succ_pos _, rfl⟩
  | x :: l, i + 1, h => by
    obtain ⟨a, b⟩ := dk_lt l i h
    exact ⟨Nat.succ_lt_succ a, b⟩
noncomputable def dk_b (c : ByteArray) (p : Nat) : Nat := dk_l c.data.toList p
theorem dk_u1 {c : ByteArray} {p : Nat} (h : dk_b c p < 256) : (Jvm.ClassFile.Reader.u1 : Jvm.ClassFile.Decoder Nat).runAt c p = .ok (dk_b c p, p + 1) := by
  obtain ⟨a, b⟩ := dk_lt _ _ h
  have e : p < c.size := a
  have g : c[p].toNat = dk_b c p := b
  have k : (Jvm.ClassFile.Reader.u1 : Jvm.ClassFile.Decoder Nat).runAt c p = .ok (c[p].toNat, p + 1) := by
    show ((if h : p < c.size then (do set (p + 1); Pure.pure c[p].toNat) else throw (Jvm.ClassFile.HasTruncated.truncated p)) : Jvm.ClassFile.Decoder Nat) c p = _
    rw [dif_pos e]
    rfl
  rw [k, g]
theorem dk_bind {α β : Type} {r : Jvm.ClassFile.Decoder α} {k : α → Jvm.ClassFile.Decoder β} {c : ByteArray} {p q : Nat} {a : α} (h : r.runAt c p = .ok (a, q)) : (r >>= k).runAt c p = (k a).runAt c q := by
  have h : r c p = .ok (a, q) := h
  show Except.bind (r c p) (fun z => k z.1 c z.2) = _
  rw [h]
  rfl
theorem dk_map {α β : Type} {r : Jvm.ClassFile.Decoder α} {f : α → β} {c : ByteArray} {p q : Nat} {a : α} (h : r.runAt c p = .ok (a, q)) : (f <$> r).runAt c p = .ok (f a, q) := by
  have h : r c p = .ok (a, q) := h
  show Except.bind (r c p) (fun z => Except.ok (f z.1, z.2)) = _
  rw [h]
  rfl
theorem dk_u2 {c : ByteArray} {p : Nat} (h : dk_b c p < 256) (h1 : dk_b c (p + 1) < 256) : (Jvm.ClassFile.Reader.u2 : Jvm.ClassFile.Decoder Nat).runAt c p = .ok (dk_b c p * 256 + dk_b c (p + 1), p + 2) := by
  unfold Jvm.ClassFile.Reader.u2
  rw [dk_bind (dk_u1 h), dk_bind (dk_u1 h1)]
  rfl
theorem dk_s1 {c : ByteArray} {p : Nat} (h : dk_b c p < 256) : (Jvm.ClassFile.Reader.s1 : Jvm.ClassFile.Decoder Int).runAt c p = .ok (Jvm.ClassFile.Reader.signed 8 (dk_b c p), p + 1) := dk_map (dk_u1 h)
theorem dk_s2 {c : ByteArray} {p : Nat} (h : dk_b c p < 256) (h1 : dk_b c (p + 1) < 256) : (Jvm.ClassFile.Reader.s2 : Jvm.ClassFile.Decoder Int).runAt c p = .ok (Jvm.ClassFile.Reader.signed 16 (dk_b c p * 256 + dk_b c (p + 1)), p + 2) := dk_map (dk_u2 h h1)
theorem dk_st {c : ByteArray} {pc b len : Nat} {i : Instr} {F : Nat → Jvm.ClassFile.Decoder Instr} (hF : Jvm.ClassFile.Decoder.instr pc = (Jvm.ClassFile.Reader.u1 : Jvm.ClassFile.Decoder Nat) >>= F) (h : dk_b c pc = b) (hb : b < 256) (hr : (F b).runAt c (pc + 1) = .ok (i, pc + len)) : decode c pc = .ok (i, len) := by
  have k : (Jvm.ClassFile.Decoder.instr pc).runAt c pc = .ok (i, pc + len) := by
    rw [hF, dk_bind (dk_u1 (by rw [h]; exact hb)), h]
    exact hr
  unfold decode
  rw [k]
  show Except.ok (i, pc + len - pc) = _
  rw [Nat.add_sub_cancel_left]
abbrev dkF (pc : Nat) (F : Nat → Jvm.ClassFile.Decoder Instr) : Prop := Jvm.ClassFile.Decoder.instr pc = (Jvm.ClassFile.Reader.u1 : Jvm.ClassFile.Decoder Nat) >>= F
theorem dk_and {a b : Bool} (h : (a && b) = true) : a = true ∧ b = true := by
  cases a
  · cases h
  · exact ⟨rfl, h⟩
theorem dk_eq {a b : Nat} (h : Nat.beq a b = true) : a = b := Nat.eq_of_beq_eq_true h
theorem dk_le {a : Nat} (h : Nat.ble a 255 = true) : a < 256 := Nat.lt_succ_of_le (Nat.le_of_ble_eq_true h)
noncomputable def dk_1 (c : ByteArray) (pc len b : Nat) : Bool := Nat.beq (dk_b c pc) b && Nat.beq len 1
theorem dk_1_ok {c : ByteArray} {pc len b : Nat} {i : Instr} {F : Nat → Jvm.ClassFile.Decoder Instr} (hF : dkF pc F) (hr : F b = Pure.pure i) (hb : b < 256) (h : dk_1 c pc len b = true) : decode c pc = .ok (i, len) := by
  have h := dk_and h
  rw [dk_eq h.2]
  exact dk_st hF (dk_eq h.1) hb (by rw [hr]; rfl)
noncomputable def dk_2 (c : ByteArray) (pc len b n : Nat) : Bool := Nat.beq (dk_b c pc) b && (Nat.beq len 2 && (Nat.ble (dk_b c (pc + 1)) 255 && Nat.beq (dk_b c (pc + 1)) n))
theorem dk_2_ok {c : ByteArray} {pc len b n : Nat} {g : Nat → Instr} {F : Nat → Jvm.ClassFile.Decoder Instr} (hF : dkF pc F) (hr : F b = (Jvm.ClassFile.Reader.u1 : Jvm.ClassFile.Decoder Nat) >>= fun x => Pure.pure (g x)) (hb : b < 256) (h : dk_2 c pc len b n = true) : decode c pc = .ok (g n, len) := by
  obtain ⟨h, h2, h3, h4⟩ := (⟨(dk_and h).1, (dk_and (dk_and h).2).1, (dk_and (dk_and (dk_and h).2).2).1, (dk_and (dk_and (dk_and h).2).2).2⟩ : _ ∧ _ ∧ _ ∧ _)
  rw [dk_eq h2, ← dk_eq h4]
  exact dk_st hF (dk_eq h) hb (by rw [hr, dk_bind (dk_u1 (dk_le h3))]; rfl)
noncomputable def dk_3 (c : ByteArray) (pc len b n : Nat) : Bool := Nat.beq (dk_b c pc) b && (Nat.beq len 3 && (Nat.ble (dk_b c (pc + 1)) 255 && (Nat.ble (dk_b c (pc + 2)) 255 && Nat.beq (dk_b c (pc + 1) * 256 + dk_b c (pc + 2)) n)))
theorem dk_3_ok {c : ByteArray} {pc len b n : Nat} {g : Nat → Instr} {F : Nat → Jvm.ClassFile.Decoder Instr} (hF : dkF pc F) (hr : F b = (Jvm.ClassFile.Reader.u2 : Jvm.ClassFile.Decoder Nat) >>= fun x => Pure.pure (g x)) (hb : b < 256) (h : dk_3 c pc len b n = true) : decode c pc = .ok (g n, len) := by
  have a1 := dk_and h
  have a2 := dk_and a1.2
  have a3 := dk_and a2.2
  have a4 := dk_and a3.2
  rw [dk_eq a2.1, ← dk_eq a4.2]
  exact dk_st hF (dk_eq a1.1) hb (by rw [hr, dk_bind (dk_u2 (dk_le a3.1) (dk_le a4.1))]; rfl)
noncomputable def dk_4 (c : ByteArray) (pc len b : Nat) (v : Int) : Bool := Nat.beq (dk_b c pc) b && (Nat.beq len 2 && (Nat.ble (dk_b c (pc + 1)) 255 && decide (Jvm.ClassFile.Reader.signed 8 (dk_b c (pc + 1)) = v)))
theorem dk_4_ok {c : ByteArray} {pc len b : Nat} {v : Int} {g : Int → Instr} {F : Nat → Jvm.ClassFile.Decoder Instr} (hF : dkF pc F) (hr : F b = (Jvm.ClassFile.Reader.s1 : Jvm.ClassFile.Decoder Int) >>= fun x => Pure.pure (g x)) (hb : b < 256) (h : dk_4 c pc len b v = true) : decode c pc = .ok (g v, len) := by
  have a1 := dk_and h
  have a2 := dk_and a1.2
  have a3 := dk_and a2.2
  rw [dk_eq a2.1, ← of_decide_eq_true a3.2]
  exact dk_st hF (dk_eq a1.1) hb (by rw [hr, dk_bind (dk_s1 (dk_le a3.1))]; rfl)
noncomputable def dk_5 (c : ByteArray) (pc len b : Nat) (v : Int) : Bool := Nat.beq (dk_b c pc) b && (Nat.beq len 3 && (Nat.ble (dk_b c (pc + 1)) 255 && (Nat.ble (dk_b c (pc + 2)) 255 && decide (Jvm.ClassFile.Reader.signed 16 (dk_b c (pc + 1) * 256 + dk_b c (pc + 2)) = v))))
theorem dk_5_ok {c : ByteArray} {pc len b : Nat} {v : Int} {g : Int → Instr} {F : Nat → Jvm.ClassFile.Decoder Instr} (hF : dkF pc F) (hr : F b = (Jvm.ClassFile.Reader.s2 : Jvm.ClassFile.Decoder Int) >>= fun x => Pure.pure (g x)) (hb : b < 256) (h : dk_5 c pc len b v = true) : decode c pc = .ok (g v, len) := by
  have a1 := dk_and h
  have a2 := dk_and a1.2
  have a3 := dk_and a2.2
  have a4 := dk_and a3.2
  rw [dk_eq a2.1, ← of_decide_eq_true a4.2]
  exact dk_st hF (dk_eq a1.1) hb (by rw [hr, dk_bind (dk_s2 (dk_le a3.1) (dk_le a4.1))]; rfl)
noncomputable def dk_6 (c : ByteArray) (pc len n : Nat) (v : Int) : Bool := Nat.beq (dk_b c pc) 132 && (Nat.beq len 3 && (Nat.ble (dk_b c (pc + 1)) 255 && (Nat.ble (dk_b c (pc + 2)) 255 && (Nat.beq (dk_b c (pc + 1)) n && decide (Jvm.ClassFile.Reader.signed 8 (dk_b c (pc + 2)) = v)))))
theorem dk_6_ok {c : ByteArray} {pc len n : Nat} {v : Int} {F : Nat → Jvm.ClassFile.Decoder Instr} (hF : dkF pc F) (hr : F 132 = (Jvm.ClassFile.Reader.u1 : Jvm.ClassFile.Decoder Nat) >>= fun x => (Jvm.ClassFile.Reader.s1 : Jvm.ClassFile.Decoder Int) >>= fun y => Pure.pure (Instr.iinc x y)) (h : dk_6 c pc len n v = true) : decode c pc = .ok (Instr.iinc n v, len) := by
  have a1 := dk_and h
  have a2 := dk_and a1.2
  have a3 := dk_and a2.2
  have a4 := dk_and a3.2
  have a5 := dk_and a4.2
  rw [dk_eq a2.1, ← dk_eq a5.1, ← of_decide_eq_true a5.2]
  exact dk_st hF (dk_eq a1.1) (by decide) (by rw [hr, dk_bind (dk_u1 (dk_le a3.1)), dk_bind (dk_s1 (dk_le a4.1))]; rfl)
noncomputable def dk_cd : Jvm.ClassFile.Cond → Nat := fun k => match k with
  | .eq => 0
  | .ne => 1
  | .lt => 2
  | .ge => 3
  | .gt => 4
  | .le => 5
noncomputable def dk_ic : Int → Nat := fun v => match v with
  | .ofNat n => 3 + n
  | .negSucc 0 => 2
  | .negSucc (_ + 1) => 9
noncomputable def dk_c (c : ByteArray) (pc : Nat) (i : Instr) (len : Nat) : Bool := match i with
  | .iaload => dk_1 c pc len 46
  | .laload => dk_1 c pc len 47
  | .aaload => dk_1 c pc len 50
  | .baload => dk_1 c pc len 51
  | .iastore => dk_1 c pc len 79
  | .lastore => dk_1 c pc len 80
  | .aastore => dk_1 c pc len 83
  | .bastore => dk_1 c pc len 84
  | .pop => dk_1 c pc len 87
  | .dup => dk_1 c pc len 89
  | .dup_x1 => dk_1 c pc len 90
  | .dup2 => dk_1 c pc len 92
  | .iadd => dk_1 c pc len 96
  | .ladd => dk_1 c pc len 97
  | .isub => dk_1 c pc len 100
  | .lsub => dk_1 c pc len 101
  | .imul => dk_1 c pc len 104
  | .lmul => dk_1 c pc len 105
  | .idiv => dk_1 c pc len 108
  | .irem => dk_1 c pc len 112
  | .ineg => dk_1 c pc len 116
  | .ishl => dk_1 c pc len 120
  | .ishr => dk_1 c pc len 122
  | .iushr => dk_1 c pc len 124
  | .lushr => dk_1 c pc len 125
  | .iand => dk_1 c pc len 126
  | .ior => dk_1 c pc len 128
  | .ixor => dk_1 c pc len 130
  | .lxor => dk_1 c pc len 131
  | .i2l => dk_1 c pc len 133
  | .l2i => dk_1 c pc len 136
  | .i2b => dk_1 c pc len 145
  | .i2c => dk_1 c pc len 146
  | .lcmp => dk_1 c pc len 148
  | .ireturn => dk_1 c pc len 172
  | .lreturn => dk_1 c pc len 173
  | .areturn => dk_1 c pc len 176
  | .return_ => dk_1 c pc len 177
  | .arraylength => dk_1 c pc len 190
  | .athrow => dk_1 c pc len 191
  | .aload_n k => dk_1 c pc len (42 + k.val)
  | .iload_n k => dk_1 c pc len (26 + k.val)
  | .istore_n k => dk_1 c pc len (59 + k.val)
  | .lload_n k => dk_1 c pc len (30 + k.val)
  | .lstore_n k => dk_1 c pc len (63 + k.val)
  | .astore_n k => dk_1 c pc len (75 + k.val)
  | .iload n => dk_2 c pc len 21 n
  | .lload n => dk_2 c pc len 22 n
  | .aload n => dk_2 c pc len 25 n
  | .istore n => dk_2 c pc len 54 n
  | .lstore n => dk_2 c pc len 55 n
  | .astore n => dk_2 c pc len 58 n
  | .getstatic n => dk_3 c pc len 178 n
  | .putstatic n => dk_3 c pc len 179 n
  | .getfield n => dk_3 c pc len 180 n
  | .putfield n => dk_3 c pc len 181 n
  | .invokevirtual n => dk_3 c pc len 182 n
  | .invokespecial n => dk_3 c pc len 183 n
  | .invokestatic n => dk_3 c pc len 184 n
  | .new n => dk_3 c pc len 187 n
  | .anewarray n => dk_3 c pc len 189 n
  | .ldc_w n => dk_3 c pc len 19 n
  | .ldc2_w n => dk_3 c pc len 20 n
  | .sipush v => dk_5 c pc len 17 v
  | .goto v => dk_5 c pc len 167 v
  | .ifCond k v => dk_5 c pc len (153 + dk_cd k) v
  | .if_icmp k v => dk_5 c pc len (159 + dk_cd k) v
  | .bipush v => dk_4 c pc len 16 v
  | .iinc n v => dk_6 c pc len n v
  | .iconst v => Nat.ble (dk_ic v) 8 && dk_1 c pc len (dk_ic v)
  | i => decide (decode c pc = .ok (i, len))
theorem dk_ok {c : ByteArray} {pc : Nat} {i : Instr} {len : Nat} (h : dk_c c pc i len = true) : decode c pc = .ok (i, len) := by
  cases i
  case iaload => exact dk_1_ok (b := 46) rfl rfl (by decide) h
  case laload => exact dk_1_ok (b := 47) rfl rfl (by decide) h
  case aaload => exact dk_1_ok (b := 50) rfl rfl (by decide) h
  case baload => exact dk_1_ok (b := 51) rfl rfl (by decide) h
  case iastore => exact dk_1_ok (b := 79) rfl rfl (by decide) h
  case lastore => exact dk_1_ok (b := 80) rfl rfl (by decide) h
  case aastore => exact dk_1_ok (b := 83) rfl rfl (by decide) h
  case bastore => exact dk_1_ok (b := 84) rfl rfl (by decide) h
  case pop => exact dk_1_ok (b := 87) rfl rfl (by decide) h
  case dup => exact dk_1_ok (b := 89) rfl rfl (by decide) h
  case dup_x1 => exact dk_1_ok (b := 90) rfl rfl (by decide) h
  case dup2 => exact dk_1_ok (b := 92) rfl rfl (by decide) h
  case iadd => exact dk_1_ok (b := 96) rfl rfl (by decide) h
  case ladd => exact dk_1_ok (b := 97) rfl rfl (by decide) h
  case isub => exact dk_1_ok (b := 100) rfl rfl (by decide) h
  case lsub => exact dk_1_ok (b := 101) rfl rfl (by decide) h
  case imul => exact dk_1_ok (b := 104) rfl rfl (by decide) h
  case lmul => exact dk_1_ok (b := 105) rfl rfl (by decide) h
  case idiv => exact dk_1_ok (b := 108) rfl rfl (by decide) h
  case irem => exact dk_1_ok (b := 112) rfl rfl (by decide) h
  case ineg => exact dk_1_ok (b := 116) rfl rfl (by decide) h
  case ishl => exact dk_1_ok (b := 120) rfl rfl (by decide) h
  case ishr => exact dk_1_ok (b := 122) rfl rfl (by decide) h
  case iushr => exact dk_1_ok (b := 124) rfl rfl (by decide) h
  case lushr => exact dk_1_ok (b := 125) rfl rfl (by decide) h
  case iand => exact dk_1_ok (b := 126) rfl rfl (by decide) h
  case ior => exact dk_1_ok (b := 128) rfl rfl (by decide) h
  case ixor => exact dk_1_ok (b := 130) rfl rfl (by decide) h
  case lxor => exact dk_1_ok (b := 131) rfl rfl (by decide) h
  case i2l => exact dk_1_ok (b := 133) rfl rfl (by decide) h
  case l2i => exact dk_1_ok (b := 136) rfl rfl (by decide) h
  case i2b => exact dk_1_ok (b := 145) rfl rfl (by decide) h
  case i2c => exact dk_1_ok (b := 146) rfl rfl (by decide) h
  case lcmp => exact dk_1_ok (b := 148) rfl rfl (by decide) h
  case ireturn => exact dk_1_ok (b := 172) rfl rfl (by decide) h
  case lreturn => exact dk_1_ok (b := 173) rfl rfl (by decide) h
  case areturn => exact dk_1_ok (b := 176) rfl rfl (by decide) h
  case return_ => exact dk_1_ok (b := 177) rfl rfl (by decide) h
  case arraylength => exact dk_1_ok (b := 190) rfl rfl (by decide) h
  case athrow => exact dk_1_ok (b := 191) rfl rfl (by decide) h
  case aload_n k =>
    obtain ⟨k, hk⟩ := k
    rcases (by omega : k = 0 ∨ k = 1 ∨ k = 2 ∨ k = 3) with rfl | rfl | rfl | rfl
    · exact dk_1_ok (b := 42) rfl rfl (by decide) h
    · exact dk_1_ok (b := 43) rfl rfl (by decide) h
    · exact dk_1_ok (b := 44) rfl rfl (by decide) h
    · exact dk_1_ok (b := 45) rfl rfl (by decide) h
  case iload_n k =>
    obtain ⟨k, hk⟩ := k
    rcases (by omega : k = 0 ∨ k = 1 ∨ k = 2 ∨ k = 3) with rfl | rfl | rfl | rfl
    · exact dk_1_ok (b := 26) rfl rfl (by decide) h
    · exact dk_1_ok (b := 27) rfl rfl (by decide) h
    · exact dk_1_ok (b := 28) rfl rfl (by decide) h
    · exact dk_1_ok (b := 29) rfl rfl (by decide) h
  case istore_n k =>
    obtain ⟨k, hk⟩ := k
    rcases (by omega : k = 0 ∨ k = 1 ∨ k = 2 ∨ k = 3) with rfl | rfl | rfl | rfl
    · exact dk_1_ok (b := 59) rfl rfl (by decide) h
    · exact dk_1_ok (b := 60) rfl rfl (by decide) h
    · exact dk_1_ok (b := 61) rfl rfl (by decide) h
    · exact dk_1_ok (b := 62) rfl rfl (by decide) h
  case lload_n k =>
    obtain ⟨k, hk⟩ := k
    rcases (by omega : k = 0 ∨ k = 1 ∨ k = 2 ∨ k = 3) with rfl | rfl | rfl | rfl
    · exact dk_1_ok (b := 30) rfl rfl (by decide) h
    · exact dk_1_ok (b := 31) rfl rfl (by decide) h
    · exact dk_1_ok (b := 32) rfl rfl (by decide) h
    · exact dk_1_ok (b := 33) rfl rfl (by decide) h
  case lstore_n k =>
    obtain ⟨k, hk⟩ := k
    rcases (by omega : k = 0 ∨ k = 1 ∨ k = 2 ∨ k = 3) with rfl | rfl | rfl | rfl
    · exact dk_1_ok (b := 63) rfl rfl (by decide) h
    · exact dk_1_ok (b := 64) rfl rfl (by decide) h
    · exact dk_1_ok (b := 65) rfl rfl (by decide) h
    · exact dk_1_ok (b := 66) rfl rfl (by decide) h
  case astore_n k =>
    obtain ⟨k, hk⟩ := k
    rcases (by omega : k = 0 ∨ k = 1 ∨ k = 2 ∨ k = 3) with rfl | rfl | rfl | rfl
    · exact dk_1_ok (b := 75) rfl rfl (by decide) h
    · exact dk_1_ok (b := 76) rfl rfl (by decide) h
    · exact dk_1_ok (b := 77) rfl rfl (by decide) h
    · exact dk_1_ok (b := 78) rfl rfl (by decide) h
  case iload n => exact dk_2_ok (b := 21) (g := Instr.iload) rfl rfl (by decide) h
  case lload n => exact dk_2_ok (b := 22) (g := Instr.lload) rfl rfl (by decide) h
  case aload n => exact dk_2_ok (b := 25) (g := Instr.aload) rfl rfl (by decide) h
  case istore n => exact dk_2_ok (b := 54) (g := Instr.istore) rfl rfl (by decide) h
  case lstore n => exact dk_2_ok (b := 55) (g := Instr.lstore) rfl rfl (by decide) h
  case astore n => exact dk_2_ok (b := 58) (g := Instr.astore) rfl rfl (by decide) h
  case getstatic n => exact dk_3_ok (b := 178) (g := Instr.getstatic) rfl rfl (by decide) h
  case putstatic n => exact dk_3_ok (b := 179) (g := Instr.putstatic) rfl rfl (by decide) h
  case getfield n => exact dk_3_ok (b := 180) (g := Instr.getfield) rfl rfl (by decide) h
  case putfield n => exact dk_3_ok (b := 181) (g := Instr.putfield) rfl rfl (by decide) h
  case invokevirtual n => exact dk_3_ok (b := 182) (g := Instr.invokevirtual) rfl rfl (by decide) h
  case invokespecial n => exact dk_3_ok (b := 183) (g := Instr.invokespecial) rfl rfl (by decide) h
  case invokestatic n => exact dk_3_ok (b := 184) (g := Instr.invokestatic) rfl rfl (by decide) h
  case new n => exact dk_3_ok (b := 187) (g := Instr.new) rfl rfl (by decide) h
  case anewarray n => exact dk_3_ok (b := 189) (g := Instr.anewarray) rfl rfl (by decide) h
  case ldc_w n => exact dk_3_ok (b := 19) (g := Instr.ldc_w) rfl rfl (by decide) h
  case ldc2_w n => exact dk_3_ok (b := 20) (g := Instr.ldc2_w) rfl rfl (by decide) h
  case sipush v => exact dk_5_ok (b := 17) (g := Instr.sipush) rfl rfl (by decide) h
  case goto v => exact dk_5_ok (b := 167) (g := Instr.goto) rfl rfl (by decide) h
  case ifCond k v =>
    cases k
    · exact dk_5_ok (b := 153) (g := Instr.ifCond .eq) rfl rfl (by decide) h
    · exact dk_5_ok (b := 154) (g := Instr.ifCond .ne) rfl rfl (by decide) h
    · exact dk_5_ok (b := 155) (g := Instr.ifCond .lt) rfl rfl (by decide) h
    · exact dk_5_ok (b := 156) (g := Instr.ifCond .ge) rfl rfl (by decide) h
    · exact dk_5_ok (b := 157) (g := Instr.ifCond .gt) rfl rfl (by decide) h
    · exact dk_5_ok (b := 158) (g := Instr.ifCond .le) rfl rfl (by decide) h
  case if_icmp k v =>
    cases k
    · exact dk_5_ok (b := 159) (g := Instr.if_icmp .eq) rfl rfl (by decide) h
    · exact dk_5_ok (b := 160) (g := Instr.if_icmp .ne) rfl rfl (by decide) h
    · exact dk_5_ok (b := 161) (g := Instr.if_icmp .lt) rfl rfl (by decide) h
    · exact dk_5_ok (b := 162) (g := Instr.if_icmp .ge) rfl rfl (by decide) h
    · exact dk_5_ok (b := 163) (g := Instr.if_icmp .gt) rfl rfl (by decide) h
    · exact dk_5_ok (b := 164) (g := Instr.if_icmp .le) rfl rfl (by decide) h
  case bipush v => exact dk_4_ok (b := 16) (g := Instr.bipush) rfl rfl (by decide) h
  case iinc n v => exact dk_6_ok rfl rfl h
  case iconst v =>
    have h := dk_and h
    cases v with
    | ofNat n =>
      have hn : 3 + n ≤ 8 := Nat.le_of_ble_eq_true h.1
      rcases (by omega : n = 0 ∨ n = 1 ∨ n = 2 ∨ n = 3 ∨ n = 4 ∨ n = 5) with rfl | rfl | rfl | rfl | rfl | rfl
      · exact dk_1_ok (b := 3) rfl rfl (by decide) h.2
      · exact dk_1_ok (b := 4) rfl rfl (by decide) h.2
      · exact dk_1_ok (b := 5) rfl rfl (by decide) h.2
      · exact dk_1_ok (b := 6) rfl rfl (by decide) h.2
      · exact dk_1_ok (b := 7) rfl rfl (by decide) h.2
      · exact dk_1_ok (b := 8) rfl rfl (by decide) h.2
    | negSucc n =>
      cases n with
      | zero => exact dk_1_ok (b := 2) rfl rfl (by decide) h.2
      | succ n => exact absurd (Nat.le_of_ble_eq_true h.1) (by show ¬ 9 ≤ 8; decide)
  all_goals exact of_decide_eq_true h
noncomputable def dk_q (cc : ByteArray) (q : Nat × Instr × Nat) : Bool := dk_c cc q.1 q.2.1 q.2.2
theorem dk_D_ok {cc : ByteArray} {D : List (Nat × Instr × Nat)} (h : D.all (dk_q cc) = true) : ∀ pc q, am_find D pc = some q → decode cc pc = .ok q := fun pc q hq => dk_ok (List.all_eq_true.mp h (pc, q) (am_find_mem hq))
/-! NUMBERS: what each number is, in the order of making. Printed by wip/am/gen_glob.py. -/
def SHl : List (Nat ⊕ (Nat × Nat)) := [.inl 11, .inr (1, 2000), .inl 5, .inl 9, .inl 2, .inr (0, 408), .inr (0, 408), .inr (0, 4), .inr (0, 9), .inr (0, 24), .inr (0, 5), .inr (0, 5), .inr (0, 5), .inr (0, 5), .inl 8, .inr (3, 19), .inr (0, 402), .inr (0, 402), .inr (3, 402), .inr (3, 5), .inl 9, .inl 2, .inr (0, 408), .inr (0, 408), .inr (0, 4), .inr (0, 9), .inr (0, 24), .inr (0, 5), .inr (0, 5), .inr (0, 5), .inr (0, 5), .inl 4, .inr (0, 40), .inl 4, .inr (0, 40), .inl 7, .inr (0, 1600), .inr (0, 120), .inl 0, .inl 10, .inr (0, 12), .inr (0, 12), .inr (0, 12), .inl 3, .inl 1, .inr (0, 12), .inr (0, 5), .inl 6, .inr (0, 20), .inr (2, 20), .inr (0, 5), .inl 12, .inr (1, 2000), .inr (1, 2000), .inr (0, 403), .inr (0, 403), .inr (0, 403), .inr (3, 403), .inr (3, 19), .inr (3, 5), .inr (0, 2), .inr (0, 2), .inr (0, 10), .inr (0, 10), .inr (0, 10), .inr (0, 10), .inr (0, 2), .inr (0, 8), .inr (0, 8), .inr (2, 260), .inr (0, 260), .inr (0, 260), .inr (0, 260), .inr (0, 260), .inr (0, 840), .inr (0, 840), .inr (0, 64), .inr (0, 9), .inr (0, 400), .inr (0, 51), .inr (0, 51), .inr (0, 2040), .inr (0, 5), .inr (2, 144), .inr (2, 144), .inr (0, 5), .inr (0, 5), .inr (0, 32), .inr (0, 20), .inr (2, 20), .inr (2, 3), .inr (0, 153)]
def SH : am_Sh := fun o => SHl.getD o (.inr (0, 0))
def K1l : List (List Nat) := [[3, 0, 0, 3, 3, 3, 3, 3, 3, 3, 3, 3, 3, 3], [], [3, 3, 3, 0, 0, 0, 1, 0, 0, 0, 0], [0, 0, 0, 3, 3, 3, 3, 3], [3, 3, 3, 3, 3, 0], [], [], [], [], [], [], [], [], [], [3, 3, 3, 3, 0], [], [], [], [], [], [0, 0, 0, 3, 3, 3, 3, 3], [3, 3, 3, 3, 3, 0], [], [], [], [], [], [], [], [], [], [3], [], [3], [], [3, 3, 0, 0, 0], [], [], [3, 3], [3, 3, 3, 3, 3], [], [], [], [3, 3], [3, 3, 3, 3], [], [], [3, 3, 3, 0], [], [], [], [0, 3, 0, 3, 0, 3, 3, 3, 3, 3, 0, 0, 0, 0, 0, 0, 0, 0, 0, 0, 0, 3, 3, 3, 3, 3, 3, 3, 3, 3, 3, 0, 3, 3, 3, 3, 3, 0, 3, 3, 3, 0, 3, 3, 2, 3, 3, 0, 2, 0, 3, 3, 3, 3, 0, 3, 3, 3, 0, 3, 3, 3, 3], [], [], [], [], [], [], [], [], [], [], [], [], [], [], [], [], [], [], [], [], [], [], [], [], [], [], [], [], [], [], [], [], [], [], [], [], [], [], [], []]
def K1 : am_Kf := fun o => K1l.getD o []
def KFl : List (List Nat) := [[5, 0, 0, 6, 24, 35, 37, 39, 42, 43, 47, 48, 51, 54], [], [7, 18, 23, 0, 0, 0, 1, 0, 0, 0, 0], [0, 0, 0, 8, 14, 15, 16, 17], [9, 10, 11, 12, 13, 0], [], [], [], [], [], [], [], [], [], [19, 20, 21, 22, 0], [], [], [], [], [], [0, 0, 0, 25, 31, 32, 33, 34], [26, 27, 28, 29, 30, 0], [], [], [], [], [], [], [], [], [], [36], [], [38], [], [40, 41, 0, 0, 0], [], [], [24, 25], [24, 42, 44, 3, 3], [], [], [], [24, 42], [24, 42, 49, 50], [], [], [24, 52, 53, 0], [], [], [], [0, 56, 0, 57, 0, 58, 59, 60, 61, 62, 0, 0, 0, 0, 0, 0, 0, 0, 0, 0, 0, 63, 64, 65, 66, 67, 68, 69, 70, 71, 72, 0, 73, 74, 75, 76, 77, 0, 78, 79, 80, 0, 81, 82, 2, 83, 84, 0, 2, 0, 85, 86, 87, 88, 0, 89, 90, 91, 0, 92, 93, 94, 95], [], [], [], [], [], [], [], [], [], [], [], [], [], [], [], [], [], [], [], [], [], [], [], [], [], [], [], [], [], [], [], [], [], [], [], [], [], [], [], []]
def KF : am_Kf := fun o => KFl.getD o []
theorem SH_0 : SH 0 = .inl 11 := rfl
theorem SH_1 : SH 1 = .inr (1, 2000) := rfl
theorem SH_2 : SH 2 = .inl 5 := rfl
theorem SH_3 : SH 3 = .inl 9 := rfl
theorem SH_4 : SH 4 = .inl 2 := rfl
theorem SH_5 : SH 5 = .inr (0, 408) := rfl
theorem SH_6 : SH 6 = .inr (0, 408) := rfl
theorem SH_7 : SH 7 = .inr (0, 4) := rfl
theorem SH_8 : SH 8 = .inr (0, 9) := rfl
theorem SH_9 : SH 9 = .inr (0, 24) := rfl
theorem SH_10 : SH 10 = .inr (0, 5) := rfl
theorem SH_11 : SH 11 = .inr (0, 5) := rfl
theorem SH_12 : SH 12 = .inr (0, 5) := rfl
theorem SH_13 : SH 13 = .inr (0, 5) := rfl
theorem SH_14 : SH 14 = .inl 8 := rfl
theorem SH_15 : SH 15 = .inr (3, 19) := rfl
theorem SH_16 : SH 16 = .inr (0, 402) := rfl
theorem SH_17 : SH 17 = .inr (0, 402) := rfl
theorem SH_18 : SH 18 = .inr (3, 402) := rfl
theorem SH_19 : SH 19 = .inr (3, 5) := rfl
theorem SH_20 : SH 20 = .inl 9 := rfl
theorem SH_21 : SH 21 = .inl 2 := rfl
theorem SH_22 : SH 22 = .inr (0, 408) := rfl
theorem SH_23 : SH 23 = .inr (0, 408) := rfl
theorem SH_24 : SH 24 = .inr (0, 4) := rfl
theorem SH_25 : SH 25 = .inr (0, 9) := rfl
theorem SH_26 : SH 26 = .inr (0, 24) := rfl
theorem SH_27 : SH 27 = .inr (0, 5) := rfl
theorem SH_28 : SH 28 = .inr (0, 5) := rfl
theorem SH_29 : SH 29 = .inr (0, 5) := rfl
theorem SH_30 : SH 30 = .inr (0, 5) := rfl
theorem SH_31 : SH 31 = .inl 4 := rfl
theorem SH_32 : SH 32 = .inr (0, 40) := rfl
theorem SH_33 : SH 33 = .inl 4 := rfl
theorem SH_34 : SH 34 = .inr (0, 40) := rfl
theorem SH_35 : SH 35 = .inl 7 := rfl
theorem SH_36 : SH 36 = .inr (0, 1600) := rfl
theorem SH_37 : SH 37 = .inr (0, 120) := rfl
theorem SH_38 : SH 38 = .inl 0 := rfl
theorem SH_39 : SH 39 = .inl 10 := rfl
theorem SH_40 : SH 40 = .inr (0, 12) := rfl
theorem SH_41 : SH 41 = .inr (0, 12) := rfl
theorem SH_42 : SH 42 = .inr (0, 12) := rfl
theorem SH_43 : SH 43 = .inl 3 := rfl
theorem SH_44 : SH 44 = .inl 1 := rfl
theorem SH_45 : SH 45 = .inr (0, 12) := rfl
theorem SH_46 : SH 46 = .inr (0, 5) := rfl
theorem SH_47 : SH 47 = .inl 6 := rfl
theorem SH_48 : SH 48 = .inr (0, 20) := rfl
theorem SH_49 : SH 49 = .inr (2, 20) := rfl
theorem SH_50 : SH 50 = .inr (0, 5) := rfl
theorem SH_51 : SH 51 = .inl 12 := rfl
theorem SH_52 : SH 52 = .inr (1, 2000) := rfl
theorem SH_53 : SH 53 = .inr (1, 2000) := rfl
theorem SH_54 : SH 54 = .inr (0, 403) := rfl
theorem SH_55 : SH 55 = .inr (0, 403) := rfl
theorem SH_56 : SH 56 = .inr (0, 403) := rfl
theorem SH_57 : SH 57 = .inr (3, 403) := rfl
theorem SH_58 : SH 58 = .inr (3, 19) := rfl
theorem SH_59 : SH 59 = .inr (3, 5) := rfl
theorem SH_60 : SH 60 = .inr (0, 2) := rfl
theorem SH_61 : SH 61 = .inr (0, 2) := rfl
theorem SH_62 : SH 62 = .inr (0, 10) := rfl
theorem SH_63 : SH 63 = .inr (0, 10) := rfl
theorem SH_64 : SH 64 = .inr (0, 10) := rfl
theorem SH_65 : SH 65 = .inr (0, 10) := rfl
theorem SH_66 : SH 66 = .inr (0, 2) := rfl
theorem SH_67 : SH 67 = .inr (0, 8) := rfl
theorem SH_68 : SH 68 = .inr (0, 8) := rfl
theorem SH_69 : SH 69 = .inr (2, 260) := rfl
theorem SH_70 : SH 70 = .inr (0, 260) := rfl
theorem SH_71 : SH 71 = .inr (0, 260) := rfl
theorem SH_72 : SH 72 = .inr (0, 260) := rfl
theorem SH_73 : SH 73 = .inr (0, 260) := rfl
theorem SH_74 : SH 74 = .inr (0, 840) := rfl
theorem SH_75 : SH 75 = .inr (0, 840) := rfl
theorem SH_76 : SH 76 = .inr (0, 64) := rfl
theorem SH_77 : SH 77 = .inr (0, 9) := rfl
theorem SH_78 : SH 78 = .inr (0, 400) := rfl
theorem SH_79 : SH 79 = .inr (0, 51) := rfl
theorem SH_80 : SH 80 = .inr (0, 51) := rfl
theorem SH_81 : SH 81 = .inr (0, 2040) := rfl
theorem SH_82 : SH 82 = .inr (0, 5) := rfl
theorem SH_83 : SH 83 = .inr (2, 144) := rfl
theorem SH_84 : SH 84 = .inr (2, 144) := rfl
theorem SH_85 : SH 85 = .inr (0, 5) := rfl
theorem SH_86 : SH 86 = .inr (0, 5) := rfl
theorem SH_87 : SH 87 = .inr (0, 32) := rfl
theorem SH_88 : SH 88 = .inr (0, 20) := rfl
theorem SH_89 : SH 89 = .inr (2, 20) := rfl
theorem SH_90 : SH 90 = .inr (2, 3) := rfl
theorem SH_91 : SH 91 = .inr (0, 153) := rfl
theorem K1_0_0 : (K1 0)[0]? = some 3 := rfl
theorem K1_0_1 : (K1 0)[1]? = some 0 := rfl
theorem K1_0_2 : (K1 0)[2]? = some 0 := rfl
theorem K1_0_3 : (K1 0)[3]? = some 3 := rfl
theorem K1_0_4 : (K1 0)[4]? = some 3 := rfl
theorem K1_0_5 : (K1 0)[5]? = some 3 := rfl
theorem K1_0_6 : (K1 0)[6]? = some 3 := rfl
theorem K1_0_7 : (K1 0)[7]? = some 3 := rfl
theorem K1_0_8 : (K1 0)[8]? = some 3 := rfl
theorem K1_0_9 : (K1 0)[9]? = some 3 := rfl
theorem K1_0_10 : (K1 0)[10]? = some 3 := rfl
theorem K1_0_11 : (K1 0)[11]? = some 3 := rfl
theorem K1_0_12 : (K1 0)[12]? = some 3 := rfl
theorem K1_0_13 : (K1 0)[13]? = some 3 := rfl
theorem KF_0_0 : (KF 0)[0]? = some 5 := rfl
theorem KF_0_1 : (KF 0)[1]? = some 0 := rfl
theorem KF_0_2 : (KF 0)[2]? = some 0 := rfl
theorem KF_0_3 : (KF 0)[3]? = some 6 := rfl
theorem KF_0_4 : (KF 0)[4]? = some 24 := rfl
theorem KF_0_5 : (KF 0)[5]? = some 35 := rfl
theorem KF_0_7 : (KF 0)[7]? = some 39 := rfl
theorem KF_0_8 : (KF 0)[8]? = some 42 := rfl
theorem KF_0_12 : (KF 0)[12]? = some 51 := rfl
theorem K1_2_0 : (K1 2)[0]? = some 3 := rfl
theorem K1_2_1 : (K1 2)[1]? = some 3 := rfl
theorem K1_2_2 : (K1 2)[2]? = some 3 := rfl
theorem K1_2_3 : (K1 2)[3]? = some 0 := rfl
theorem K1_2_4 : (K1 2)[4]? = some 0 := rfl
theorem K1_2_5 : (K1 2)[5]? = some 0 := rfl
theorem K1_2_6 : (K1 2)[6]? = some 1 := rfl
theorem K1_2_7 : (K1 2)[7]? = some 0 := rfl
theorem K1_2_8 : (K1 2)[8]? = some 0 := rfl
theorem K1_2_9 : (K1 2)[9]? = some 0 := rfl
theorem K1_2_10 : (K1 2)[10]? = some 0 := rfl
theorem KF_2_0 : (KF 2)[0]? = some 7 := rfl
theorem KF_2_1 : (KF 2)[1]? = some 18 := rfl
theorem KF_2_2 : (KF 2)[2]? = some 23 := rfl
theorem KF_2_3 : (KF 2)[3]? = some 0 := rfl
theorem KF_2_4 : (KF 2)[4]? = some 0 := rfl
theorem KF_2_5 : (KF 2)[5]? = some 0 := rfl
theorem KF_2_6 : (KF 2)[6]? = some 1 := rfl
theorem KF_2_7 : (KF 2)[7]? = some 0 := rfl
theorem KF_2_8 : (KF 2)[8]? = some 0 := rfl
theorem KF_2_9 : (KF 2)[9]? = some 0 := rfl
theorem KF_2_10 : (KF 2)[10]? = some 0 := rfl
theorem K1_3_0 : (K1 3)[0]? = some 0 := rfl
theorem K1_3_1 : (K1 3)[1]? = some 0 := rfl
theorem K1_3_2 : (K1 3)[2]? = some 0 := rfl
theorem K1_3_3 : (K1 3)[3]? = some 3 := rfl
theorem K1_3_4 : (K1 3)[4]? = some 3 := rfl
theorem K1_3_5 : (K1 3)[5]? = some 3 := rfl
theorem K1_3_6 : (K1 3)[6]? = some 3 := rfl
theorem K1_3_7 : (K1 3)[7]? = some 3 := rfl
theorem KF_3_0 : (KF 3)[0]? = some 0 := rfl
theorem KF_3_1 : (KF 3)[1]? = some 0 := rfl
theorem KF_3_2 : (KF 3)[2]? = some 0 := rfl
theorem KF_3_3 : (KF 3)[3]? = some 8 := rfl
theorem KF_3_4 : (KF 3)[4]? = some 14 := rfl
theorem KF_3_5 : (KF 3)[5]? = some 15 := rfl
theorem KF_3_6 : (KF 3)[6]? = some 16 := rfl
theorem KF_3_7 : (KF 3)[7]? = some 17 := rfl
theorem K1_4_0 : (K1 4)[0]? = some 3 := rfl
theorem K1_4_1 : (K1 4)[1]? = some 3 := rfl
theorem K1_4_2 : (K1 4)[2]? = some 3 := rfl
theorem K1_4_3 : (K1 4)[3]? = some 3 := rfl
theorem K1_4_4 : (K1 4)[4]? = some 3 := rfl
theorem K1_4_5 : (K1 4)[5]? = some 0 := rfl
theorem KF_4_0 : (KF 4)[0]? = some 9 := rfl
theorem KF_4_1 : (KF 4)[1]? = some 10 := rfl
theorem KF_4_2 : (KF 4)[2]? = some 11 := rfl
theorem KF_4_3 : (KF 4)[3]? = some 12 := rfl
theorem KF_4_4 : (KF 4)[4]? = some 13 := rfl
theorem KF_4_5 : (KF 4)[5]? = some 0 := rfl
theorem K1_14_0 : (K1 14)[0]? = some 3 := rfl
theorem K1_14_1 : (K1 14)[1]? = some 3 := rfl
theorem K1_14_2 : (K1 14)[2]? = some 3 := rfl
theorem K1_14_3 : (K1 14)[3]? = some 3 := rfl
theorem K1_14_4 : (K1 14)[4]? = some 0 := rfl
theorem KF_14_0 : (KF 14)[0]? = some 19 := rfl
theorem KF_14_1 : (KF 14)[1]? = some 20 := rfl
theorem KF_14_2 : (KF 14)[2]? = some 21 := rfl
theorem KF_14_3 : (KF 14)[3]? = some 22 := rfl
theorem KF_14_4 : (KF 14)[4]? = some 0 := rfl
theorem K1_20_0 : (K1 20)[0]? = some 0 := rfl
theorem K1_20_1 : (K1 20)[1]? = some 0 := rfl
theorem K1_20_2 : (K1 20)[2]? = some 0 := rfl
theorem K1_20_3 : (K1 20)[3]? = some 3 := rfl
theorem K1_20_4 : (K1 20)[4]? = some 3 := rfl
theorem K1_20_5 : (K1 20)[5]? = some 3 := rfl
theorem K1_20_6 : (K1 20)[6]? = some 3 := rfl
theorem K1_20_7 : (K1 20)[7]? = some 3 := rfl
theorem KF_20_0 : (KF 20)[0]? = some 0 := rfl
theorem KF_20_1 : (KF 20)[1]? = some 0 := rfl
theorem KF_20_2 : (KF 20)[2]? = some 0 := rfl
theorem KF_20_3 : (KF 20)[3]? = some 25 := rfl
theorem KF_20_4 : (KF 20)[4]? = some 31 := rfl
theorem KF_20_5 : (KF 20)[5]? = some 32 := rfl
theorem KF_20_6 : (KF 20)[6]? = some 33 := rfl
theorem KF_20_7 : (KF 20)[7]? = some 34 := rfl
theorem K1_21_0 : (K1 21)[0]? = some 3 := rfl
theorem K1_21_1 : (K1 21)[1]? = some 3 := rfl
theorem K1_21_2 : (K1 21)[2]? = some 3 := rfl
theorem K1_21_3 : (K1 21)[3]? = some 3 := rfl
theorem K1_21_4 : (K1 21)[4]? = some 3 := rfl
theorem K1_21_5 : (K1 21)[5]? = some 0 := rfl
theorem KF_21_0 : (KF 21)[0]? = some 26 := rfl
theorem KF_21_1 : (KF 21)[1]? = some 27 := rfl
theorem KF_21_2 : (KF 21)[2]? = some 28 := rfl
theorem KF_21_3 : (KF 21)[3]? = some 29 := rfl
theorem KF_21_4 : (KF 21)[4]? = some 30 := rfl
theorem KF_21_5 : (KF 21)[5]? = some 0 := rfl
theorem K1_31_0 : (K1 31)[0]? = some 3 := rfl
theorem KF_31_0 : (KF 31)[0]? = some 36 := rfl
theorem K1_33_0 : (K1 33)[0]? = some 3 := rfl
theorem KF_33_0 : (KF 33)[0]? = some 38 := rfl
theorem K1_35_0 : (K1 35)[0]? = some 3 := rfl
theorem K1_35_1 : (K1 35)[1]? = some 3 := rfl
theorem K1_35_2 : (K1 35)[2]? = some 0 := rfl
theorem K1_35_3 : (K1 35)[3]? = some 0 := rfl
theorem K1_35_4 : (K1 35)[4]? = some 0 := rfl
theorem KF_35_0 : (KF 35)[0]? = some 40 := rfl
theorem KF_35_1 : (KF 35)[1]? = some 41 := rfl
theorem KF_35_2 : (KF 35)[2]? = some 0 := rfl
theorem KF_35_3 : (KF 35)[3]? = some 0 := rfl
theorem KF_35_4 : (KF 35)[4]? = some 0 := rfl
theorem K1_38_0 : (K1 38)[0]? = some 3 := rfl
theorem K1_38_1 : (K1 38)[1]? = some 3 := rfl
theorem KF_38_0 : (KF 38)[0]? = some 24 := rfl
theorem KF_38_1 : (KF 38)[1]? = some 25 := rfl
theorem K1_39_0 : (K1 39)[0]? = some 3 := rfl
theorem K1_39_1 : (K1 39)[1]? = some 3 := rfl
theorem K1_39_2 : (K1 39)[2]? = some 3 := rfl
theorem K1_39_3 : (K1 39)[3]? = some 3 := rfl
theorem K1_39_4 : (K1 39)[4]? = some 3 := rfl
theorem K1_43_0 : (K1 43)[0]? = some 3 := rfl
theorem K1_43_1 : (K1 43)[1]? = some 3 := rfl
theorem K1_44_0 : (K1 44)[0]? = some 3 := rfl
theorem K1_44_1 : (K1 44)[1]? = some 3 := rfl
theorem K1_44_2 : (K1 44)[2]? = some 3 := rfl
theorem K1_44_3 : (K1 44)[3]? = some 3 := rfl
theorem K1_47_0 : (K1 47)[0]? = some 3 := rfl
theorem K1_47_1 : (K1 47)[1]? = some 3 := rfl
theorem K1_47_2 : (K1 47)[2]? = some 3 := rfl
theorem K1_47_3 : (K1 47)[3]? = some 0 := rfl
theorem KF_47_0 : (KF 47)[0]? = some 24 := rfl
theorem KF_47_1 : (KF 47)[1]? = some 52 := rfl
theorem KF_47_2 : (KF 47)[2]? = some 53 := rfl
theorem KF_47_3 : (KF 47)[3]? = some 0 := rfl
theorem KF_51_1 : (KF 51)[1]? = some 56 := rfl
theorem KF_51_2 : (KF 51)[2]? = some 0 := rfl
theorem KF_51_3 : (KF 51)[3]? = some 57 := rfl
theorem KF_51_4 : (KF 51)[4]? = some 0 := rfl
theorem KF_51_5 : (KF 51)[5]? = some 58 := rfl
theorem KF_51_6 : (KF 51)[6]? = some 59 := rfl
theorem KF_51_7 : (KF 51)[7]? = some 60 := rfl
theorem KF_51_8 : (KF 51)[8]? = some 61 := rfl
theorem KF_51_9 : (KF 51)[9]? = some 62 := rfl
theorem KF_51_10 : (KF 51)[10]? = some 0 := rfl
theorem KF_51_11 : (KF 51)[11]? = some 0 := rfl
theorem KF_51_12 : (KF 51)[12]? = some 0 := rfl
theorem KF_51_13 : (KF 51)[13]? = some 0 := rfl
theorem KF_51_14 : (KF 51)[14]? = some 0 := rfl
theorem KF_51_15 : (KF 51)[15]? = some 0 := rfl
theorem KF_51_16 : (KF 51)[16]? = some 0 := rfl
theorem KF_51_17 : (KF 51)[17]? = some 0 := rfl
theorem KF_51_18 : (KF 51)[18]? = some 0 := rfl
theorem KF_51_19 : (KF 51)[19]? = some 0 := rfl
theorem KF_51_20 : (KF 51)[20]? = some 0 := rfl
theorem KF_51_21 : (KF 51)[21]? = some 63 := rfl
theorem KF_51_22 : (KF 51)[22]? = some 64 := rfl
theorem KF_51_23 : (KF 51)[23]? = some 65 := rfl
theorem KF_51_24 : (KF 51)[24]? = some 66 := rfl
theorem KF_51_25 : (KF 51)[25]? = some 67 := rfl
theorem KF_51_26 : (KF 51)[26]? = some 68 := rfl
theorem KF_51_27 : (KF 51)[27]? = some 69 := rfl
theorem KF_51_28 : (KF 51)[28]? = some 70 := rfl
theorem KF_51_29 : (KF 51)[29]? = some 71 := rfl
theorem KF_51_30 : (KF 51)[30]? = some 72 := rfl
theorem KF_51_31 : (KF 51)[31]? = some 0 := rfl
theorem KF_51_32 : (KF 51)[32]? = some 73 := rfl
theorem KF_51_33 : (KF 51)[33]? = some 74 := rfl
theorem KF_51_34 : (KF 51)[34]? = some 75 := rfl
theorem KF_51_35 : (KF 51)[35]? = some 76 := rfl
theorem KF_51_36 : (KF 51)[36]? = some 77 := rfl
theorem KF_51_37 : (KF 51)[37]? = some 0 := rfl
theorem KF_51_38 : (KF 51)[38]? = some 78 := rfl
theorem KF_51_39 : (KF 51)[39]? = some 79 := rfl
theorem KF_51_40 : (KF 51)[40]? = some 80 := rfl
theorem KF_51_41 : (KF 51)[41]? = some 0 := rfl
theorem KF_51_42 : (KF 51)[42]? = some 81 := rfl
theorem KF_51_43 : (KF 51)[43]? = some 82 := rfl
theorem KF_51_44 : (KF 51)[44]? = some 2 := rfl
theorem KF_51_45 : (KF 51)[45]? = some 83 := rfl
theorem KF_51_46 : (KF 51)[46]? = some 84 := rfl
theorem KF_51_47 : (KF 51)[47]? = some 0 := rfl
theorem KF_51_48 : (KF 51)[48]? = some 2 := rfl
theorem KF_51_49 : (KF 51)[49]? = some 0 := rfl
theorem KF_51_50 : (KF 51)[50]? = some 85 := rfl
theorem KF_51_51 : (KF 51)[51]? = some 86 := rfl
theorem KF_51_58 : (KF 51)[58]? = some 0 := rfl
theorem KF_51_59 : (KF 51)[59]? = some 92 := rfl
theorem KF_51_60 : (KF 51)[60]? = some 93 := rfl
theorem KF_51_61 : (KF 51)[61]? = some 94 := rfl
theorem KF_51_62 : (KF 51)[62]? = some 95 := rfl
def TB : List Cond := lw_tbl.filter goodWord
theorem TB_good : ∀ w ∈ TB, goodWord w = true := fun w h => (List.mem_filter.mp h).2
theorem tb_at (i : Nat) {w : Cond} (h : lw_tbl[i]? = some w) (hg : goodWord w = true) : w ∈ TB := List.mem_filter.mpr ⟨List.mem_of_getElem? h, hg⟩
def NB : List Cond := lw_tbl
theorem nb_at (i : Nat) {w : Cond} (h : lw_tbl[i]? = some w) : w ∈ NB := List.mem_of_getElem? h
