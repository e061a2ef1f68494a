/-! THE SECOND CHECKER: tools -/
/-- the calls' handlers keep the words of the table -/
def t_CS (B : sa_I) (SH : am_Sh) (N : Nat) (M : sa_M) (σ0 : am_S) (ML : List (Nat × Nat × Nat × Nat × Nat × Nat × am_Sp)) (CS : ta_C) : Prop := ∀ ix q, am_find CS ix = some q → ∃ sp, am_find ML ix = some (q.1, q.2.1, q.2.2.1, 0, 0, sp) ∧ t_hs B SH N M σ0 q.2.2.2 sp
theorem t_cs_nil {B : sa_I} {SH : am_Sh} {N : Nat} {M : sa_M} {σ0 : am_S} {ML : List (Nat × Nat × Nat × Nat × Nat × Nat × am_Sp)} : t_CS B SH N M σ0 ML [] := fun _ _ h => by cases h
theorem t_cs_cons {B : sa_I} {SH : am_Sh} {N : Nat} {M : sa_M} {σ0 : am_S} {ML : List (Nat × Nat × Nat × Nat × Nat × Nat × am_Sp)} {CS : ta_C} {i kind na cls : Nat} {h : ta_H} {sp : am_Sp} (h0 : t_hs B SH N M σ0 h sp) (ht : t_CS B SH N M σ0 ML CS) : t_CS B SH N M σ0 ((i, kind, na, cls, 0, 0, sp) :: ML) ((i, kind, na, cls, h) :: CS) := by
  intro ix q hf
  simp only [am_find] at hf ⊢
  split at hf
  · rename_i e
    cases hf
    exact ⟨sp, by rw [if_pos e], h0⟩
  · rename_i e
    rw [if_neg e]
    exact ht ix q hf
/-- a method without loops -/
theorem t_flat {X : am_X} {B : sa_I} {N : Nat} {CS : ta_C} {M : sa_M} {D : List (Nat × Instr × Nat)} {Fk : List Nat} {cc : ByteArray} {maxL fuel : Nat} {sp : am_Sp} (args : List sa_P) (facts : List ta_B) (ret : sa_E → ta_F → Option sa_V → Bool)
    (hlen : (s_sl args).length ≤ maxL) (hD : ∀ pc q, am_find D pc = some q → decode cc pc = .ok q)
    (hsp : ∀ as n σ post, sp as n σ post → n = N ∧ sb_ok B (am_SH X) σ ∧ sp_all args as ∧ t_CS B (am_SH X) N M σ (am_ML X) CS ∧ t_sc (s_en maxL args) (am_entry maxL as) facts σ ∧ (∀ E' F' ρ' v' v τ, ret E' F' v' = true → sx (t_sE (s_en maxL args) facts) (t_sρ (s_en maxL args) (am_entry maxL as) facts σ) E' ρ' → sg_E E' ρ' → tg_F E' ρ' F' τ → sv_o E' ρ' v' v → sI B (am_SH X) M σ τ → post v τ))
    (h : t_run X B N CS M D [] Fk ret (fun _ _ _ _ _ => false) fuel 0 (t_sE (s_en maxL args) facts) (t_sF ((s_en maxL args).length + 1) facts) (s_aL 1 (s_en maxL args)) [] = true) : am_B cc X maxL 0 sp := by
  intro n0 as σ post AA hA hw
  obtain ⟨rfl, hB, has, hCS, hfc, hpost⟩ := hsp _ _ _ _ hw
  refine ⟨by rw [(s_sl_ok has).1]; exact hlen, ?_⟩
  obtain ⟨e1, e2, e3⟩ := t_start (s_en_ok (n := maxL) has) hfc
  refine hA [] fuel _ _ _ _ _ ?_
  exact t_run_ok hCS hD hpost (fun _ _ _ _ _ hc => by cases hc) fuel 0 _ _ _ _ [] _ [] σ (sx_r _ _) e1 e2 e3 trivial ⟨hB, sb_fr_r _ _⟩ h
/-- a stretch that begins at some place, with these locals and cells -/
theorem t_seg {X : am_X} {B : sa_I} {N : Nat} {CS : ta_C} {M : sa_M} {D : List (Nat × Instr × Nat)} {cuts : List (Nat × Nat)} {Fk : List Nat} {cc : ByteArray} {pc : Nat} {post : Option Value → am_S → Prop} {AA : Nat → List (Option Value) → List Value → Nat → am_S → Prop} {P : List (Option sa_P)} {ls : List (Option Value)} {σ0 σ : am_S} (facts : List ta_B) (ret : sa_E → ta_F → Option sa_V → Bool) (cut : Nat → sa_E → ta_F → List (Option sa_V) → List sa_V → Bool) (fuel : Nat)
    (hA : ∀ cuts f pc ls stk n τ, am_vc cc X N post AA cuts f pc ls stk n τ → AA pc ls stk n τ) (hD : ∀ pc q, am_find D pc = some q → decode cc pc = .ok q) (hCS : t_CS B (am_SH X) N M σ0 (am_ML X) CS) (hP : s_P P ls) (hfc : t_sc P ls facts σ) (hI : sI B (am_SH X) M σ0 σ)
    (h : t_run X B N CS M D cuts Fk ret cut fuel pc (t_sE P facts) (t_sF (P.length + 1) facts) (s_aL 1 P) [] = true)
    (hret : ∀ E' F' ρ' v' v τ, ret E' F' v' = true → sx (t_sE P facts) (t_sρ P ls facts σ) E' ρ' → sg_E E' ρ' → tg_F E' ρ' F' τ → sv_o E' ρ' v' v → sI B (am_SH X) M σ0 τ → post v τ)
    (hcut : ∀ pc' E' F' L' S', cut pc' E' F' L' S' = true → ∀ ρ' ls' st' τ, sx (t_sE P facts) (t_sρ P ls facts σ) E' ρ' → sg_E E' ρ' → tg_F E' ρ' F' τ → sg_L E' ρ' L' ls' → sg_S E' ρ' S' st' → sI B (am_SH X) M σ0 τ → AA pc' ls' st' N τ) : AA pc ls [] N σ := by
  obtain ⟨e1, e2, e3⟩ := t_start hP hfc
  refine hA cuts fuel _ _ _ _ _ ?_
  exact t_run_ok hCS hD hret hcut fuel pc _ _ _ _ [] _ [] σ (sx_r _ _) e1 e2 e3 trivial hI h
/-! the locals at a cut, as they are -/
def s_pl (a : Option sa_V) : Bool := match a with
  | none => true
  | some (.inl _) => true
  | some (.inr (.inl _)) => true
  | _ => false
def s_cl (ρ : Nat → Int) (a : Option sa_V) : Option Value := match a with
  | some (.inl q) => some (.int (Int32.ofInt (ρ q.1 + q.2)))
  | some (.inr (.inl o)) => some (.ref o)
  | _ => none
theorem sg_V_int {E : sa_E} {ρ : Nat → Int} {q : Nat × Int} {v : Value} (h : sg_V E ρ (.inl q) v) : v = .int (Int32.ofInt (ρ q.1 + q.2)) := by
  obtain ⟨_, x, rfl, hx⟩ := h
  rw [← hx, ← ii_of]
theorem sg_L_eq {E : sa_E} {ρ : Nat → Int} {L : List (Option sa_V)} {ls : List (Option Value)} (hp : L.all s_pl = true) (h : sg_L E ρ L ls) : ls = L.map (s_cl ρ) := by
  apply List.ext_getElem?
  intro k
  rw [List.getElem?_map]
  cases hk : L[k]? with
  | none =>
    rw [List.getElem?_eq_none_iff] at hk
    rw [Option.map_none, List.getElem?_eq_none_iff, h.1]
    exact hk
  | some a =>
    cases a with
    | none => rw [h.2.2 k hk]; rfl
    | some a =>
      obtain ⟨v, h1, h2⟩ := h.2.1 k a hk
      have hpl := List.all_eq_true.mp hp _ (List.mem_of_getElem? hk)
      rw [h1]
      rcases a with q | o | b
      · rw [sg_V_int h2]; rfl
      · have h2 : v = .ref o := h2
        rw [h2]; rfl
      · cases hpl
theorem sb_1 {B : sa_I} {o k : Nat} {q : Int × Int} (h : B.1 o = [q]) : sb_a B o k = q := by
  unfold sb_a
  rw [h]
  simp [Nat.mod_one]
theorem s_P_nil : s_P [] [] := ⟨rfl, fun k p h => by simp at h, fun k h => by simp at h⟩
theorem s_P_cons {a : Option sa_P} {v : Option Value} {P : List (Option sa_P)} {ls : List (Option Value)} (h : match a with
    | none => v = none
    | some p => ∃ w, v = some w ∧ sp_in p w) (hp : s_P P ls) : s_P (a :: P) (v :: ls) := by
  obtain ⟨h1, h2, h3⟩ := hp
  refine ⟨by simp [h1], fun k p hk => ?_, fun k hk => ?_⟩
  · cases k with
    | zero =>
      simp at hk
      subst hk
      obtain ⟨w, rfl, hw⟩ := h
      exact ⟨w, rfl, hw⟩
    | succ k =>
      simp only [List.getElem?_cons_succ] at hk ⊢
      exact h2 k p hk
  · cases k with
    | zero =>
      simp at hk
      subst hk
      have h : v = none := h
      subst h
      rfl
    | succ k =>
      simp only [List.getElem?_cons_succ] at hk ⊢
      exact h3 k hk
theorem s_P_i {b : Int × Int} {x : Int32} {P : List (Option sa_P)} {ls : List (Option Value)} (h : b.1 ≤ x.toInt ∧ x.toInt ≤ b.2) (hp : s_P P ls) : s_P (some (.inl b) :: P) (some (.int x) :: ls) := s_P_cons ⟨_, rfl, x, rfl, h⟩ hp
theorem s_P_f {x : Int32} {P : List (Option sa_P)} {ls : List (Option Value)} (hp : s_P P ls) : s_P (some (.inl (-2147483648, 2147483647)) :: P) (some (.int x) :: ls) := s_P_i ⟨ii_lo x, by have := ii_hi x; show x.toInt ≤ 2147483647; omega⟩ hp
theorem s_P_r {o : Nat} {P : List (Option sa_P)} {ls : List (Option Value)} (hp : s_P P ls) : s_P (some (.inr (.inl o)) :: P) (some (.ref o) :: ls) := s_P_cons ⟨_, rfl, rfl⟩ hp
theorem s_P_n {P : List (Option sa_P)} {ls : List (Option Value)} (hp : s_P P ls) : s_P (none :: P) (none :: ls) := s_P_cons rfl hp
theorem t_sc_nil {P : List (Option sa_P)} {ls : List (Option Value)} {σ : am_S} : t_sc P ls [] σ := fun q h => absurd h List.not_mem_nil
/-- a fact of a field -/
theorem t_sc_f {P : List (Option sa_P)} {ls : List (Option Value)} {l : List ta_B} {σ : am_S} {o s : Nat} {lo hi : Int} (h : lo ≤ (σ.1 o s).toInt ∧ (σ.1 o s).toInt ≤ hi) (hl : t_sc P ls l σ) : t_sc P ls ((o, (0, (s : Int)), lo, hi) :: l) σ := fun q hq => by
  rcases List.mem_cons.mp hq with rfl | hq
  · have e : (s_ρ P ls 0 + (s : Int)).toNat = s := by show (0 + (s : Int)).toNat = s; omega
    refine ⟨by show 0 < P.length + 1; omega, by show 0 ≤ (0 : Int) + (s : Int); omega, ?_⟩
    unfold t_cv
    simp only [e]
    exact h
  · exact hl q hq
theorem t_rok {v' : Option sa_V} {v : Option Value} {E : sa_E} {ρ : Nat → Int} (hr : (match v' with
  | some (.inl _) => true
  | _ => false) = true) (hv : sv_o E ρ v' v) : ∃ x : Int32, v = some (.int x) := by
  split at hr
  · cases v with
    | none => exact hv.elim
    | some w =>
      obtain ⟨_, x, rfl, _⟩ := hv
      exact ⟨x, rfl⟩
  · cases hr
def t_int (_ : sa_E) (_ : ta_F) (v : Option sa_V) : Bool := match v with
  | some (.inl _) => true
  | _ => false
def t_no (_ : sa_E) (_ : ta_F) (_ : Option sa_V) : Bool := false
/-! a word that asks for cells: number, which argument is the slot, bounds -/
def sp_wc (J : am_S → Prop) (B : sa_I) (SH : am_Sh) (N : Nat) (args : List sa_P) (pre : List (Nat × Nat × Int × Int)) (mods : sa_M) : am_Sp := fun as n σ post => n = N ∧ sb_ok B SH σ ∧ J σ ∧ sp_all args as ∧ (∀ q ∈ pre, ∃ x : Int32, as[q.2.1]? = some (.int x) ∧ 0 ≤ x.toInt ∧ q.2.2.1 ≤ (σ.1 q.1 x.toInt.toNat).toInt ∧ (σ.1 q.1 x.toInt.toNat).toInt ≤ q.2.2.2) ∧ ∀ τ, sb_ok B SH τ → J τ → sb_fr mods σ τ → post none τ
def t_wc (M : sa_M) (args : List sa_P) (pre : List (Nat × Nat × Int × Int)) (mods : sa_M) : ta_H := fun E F as k => sa_inPs E args as && (pre.all (fun q => match as[q.2.1]? with
  | some (.inl a) => decide (0 ≤ (sa_h E a).1) && (match t_lk F q.1 (t_nm E a) with
    | some v => sa_inB E (q.2.2.1, q.2.2.2) v
    | none => false)
  | _ => false) && (mods.all (fun z => M.any (fun m => decide (m.1 = z.1 ∧ m.2.1 ≤ z.2.1 ∧ z.2.2 ≤ m.2.2))) && k E (t_fk F mods) none))
theorem t_wc_ok {J : am_S → Prop} {B : sa_I} {SH : am_Sh} {N : Nat} {M : sa_M} {σ0 : am_S} {args : List sa_P} {pre : List (Nat × Nat × Int × Int)} {mods : sa_M} (hJ : ∀ τ, sb_fr M σ0 τ → J τ) : t_hs B SH N M σ0 (t_wc M args pre mods) (sp_wc J B SH N args pre mods) := by
  intro E ρ F as vs σ k post hE hF hA hI hk h
  simp only [t_wc, Bool.and_eq_true] at h
  obtain ⟨h1, h2, h3, h4⟩ := h
  refine ⟨rfl, hI.1, hJ _ hI.2, sa_inPs_ok hE hA h1, fun q hq => ?_, fun τ t1 t2 t3 => ?_⟩
  · have h5 := List.all_eq_true.mp h2 q hq
    split at h5
    · rename_i a ha
      simp only [Bool.and_eq_true, decide_eq_true_eq] at h5
      obtain ⟨h6, h7⟩ := h5
      obtain ⟨v, v1, v2⟩ := sg_S_at hA ha
      obtain ⟨v3, x, rfl, v4⟩ := v2
      have hh := sa_h_ok hE v4
      split at h7
      · rename_i w hw
        obtain ⟨w1, w2⟩ := t_lk_ok hF hw
        rw [← (t_nm_ok hE ⟨v3, v4⟩).2] at w2
        exact ⟨x, v1, by omega, sa_inB_ok hE w2 h7⟩
      · cases h7
    · cases h5
  · exact hk _ _ _ h4 ρ none τ (sx_r E ρ) hE (tg_F_call hE.2.1 t3 hF) trivial ⟨t1, sb_fr_t hI.2 (s_fr_m h3 t3)⟩
