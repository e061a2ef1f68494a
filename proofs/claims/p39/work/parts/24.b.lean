/-! THE SECOND CHECKER: tools -/
/-- the calls' handlers keep the words of the table -/
def t_CS (B : sa_I) (SH : am_Sh) (N : Nat) (M : sa_M) (σ0 : am_S) (ML : List (Nat × Nat × Nat × Nat × Nat × Nat × am_Sp)) (CS : ta_C) : Prop := ∀ ix q, am_find CS ix = some q → ∃ sp, am_find ML ix = some (q.1, q.2.1, q.2.2.1, 0, 0, sp) ∧ t_hs B SH N M σ0 q.2.2.2 sp
theorem t_cs_nil {B : sa_I} {SH : am_Sh} {N : Nat} {M : sa_M} {σ0 : am_S} {ML : List (Nat × Nat × Nat × Nat × Nat × Nat × am_Sp)} : t_CS B SH N M σ0 ML [] := fun _ _ h => by cases h
theorem t_cs_cons {B : sa_I} {SH : am_Sh} {N : Nat} {M : sa_M} {σ0 : am_S} {ML : List (Nat × Nat × Nat × Nat × Nat × Nat × am_Sp)} {CS : ta_C} {i kind na cls : Nat} {h : ta_H} {sp : am_Sp} (h0 : t_hs B SH N M σ0 h sp) (ht : t_CS B SH N M σ0 ML CS) : t_CS B SH N M σ0 ((i, kind, na, cls, 0, 0, sp) :: ML) ((i, kind, na, cls, h) :: CS) := by
  intro ix q hf
  simp only [am_find] at hf ⊢
  split at hf
  · rename_i e
    cases hf
    exact ⟨sp, by rw [if_pos e], h0⟩
  · rename_i e
    rw [if_neg e]
    exact ht ix q hf
/-- a method without loops -/
theorem t_flat {X : am_X} {B : sa_I} {N : Nat} {CS : ta_C} {M : sa_M} {D : List (Nat × Instr × Nat)} {Fk : List Nat} {cc : ByteArray} {maxL fuel : Nat} {sp : am_Sp} (args : List sa_P) (facts : List ta_B) (ret : sa_E → ta_F → Option sa_V → Bool)
    (hlen : (s_sl args).length ≤ maxL) (hD : ∀ pc q, am_find D pc = some q → decode cc pc = .ok q)
    (hsp : ∀ as n σ post, sp as n σ post → n = N ∧ sb_ok B (am_SH X) σ ∧ sp_all args as ∧ t_CS B (am_SH X) N M σ (am_ML X) CS ∧ t_sc (s_en maxL args) (am_entry maxL as) facts σ ∧ (∀ E' F' ρ' v' v τ, ret E' F' v' = true → sx (t_sE (s_en maxL args) facts) (t_sρ (s_en maxL args) (am_entry maxL as) facts σ) E' ρ' → sg_E E' ρ' → tg_F E' ρ' F' τ → sv_o E' ρ' v' v → sI B (am_SH X) M σ τ → post v τ))
    (h : t_run X B N CS M D [] Fk ret (fun _ _ _ _ _ => false) fuel 0 (t_sE (s_en maxL args) facts) (t_sF ((s_en maxL args).length + 1) facts) (s_aL 1 (s_en maxL args)) [] = true) : am_B cc X maxL 0 sp := by
  intro n0 as σ post AA hA hw
  obtain ⟨rfl, hB, has, hCS, hfc, hpost⟩ := hsp _ _ _ _ hw
  refine ⟨by rw [(s_sl_ok has).1]; exact hlen, ?_⟩
  obtain ⟨e1, e2, e3⟩ := t_start (s_en_ok (n := maxL) has) hfc
  refine hA [] fuel _ _ _ _ _ ?_
  exact t_run_ok hCS hD hpost (fun _ _ _ _ _ hc => by cases hc) fuel 0 _ _ _ _ [] _ [] σ (sx_r _ _) e1 e2 e3 trivial ⟨hB, sb_fr_r _ _⟩ h
/-- a stretch that begins at some place, with these locals and cells -/
theorem t_seg {X : am_X} {B : sa_I} {N : Nat} {CS : ta_C} {M : sa_M} {D : List (Nat × Instr × Nat)} {cuts : List (Nat × Nat)} {Fk : List Nat} {cc : ByteArray} {pc : Nat} {post : Option Value → am_S → Prop} {AA : Nat → List (Option Value) → List Value → Nat → am_S → Prop} {P : List (Option sa_P)} {ls : List (Option Value)} {σ0 σ : am_S} (facts : List ta_B) (ret : sa_E → ta_F → Option sa_V → Bool) (cut : Nat → sa_E → ta_F → List (Option sa_V) → List sa_V → Bool) (fuel : Nat)
    (hA : ∀ cuts f pc ls stk n τ, am_vc cc X N post AA cuts f pc ls stk n τ → AA pc ls stk n τ) (hD : ∀ pc q, am_find D pc = some q → decode cc pc = .ok q) (hCS : t_CS B (am_SH X) N M σ0 (am_ML X) CS) (hP : s_P P ls) (hfc : t_sc P ls facts σ) (hI : sI B (am_SH X) M σ0 σ)
    (h : t_run X B N CS M D cuts Fk ret cut fuel pc (t_sE P facts) (t_sF (P.length + 1) facts) (s_aL 1 P) [] = true)
    (hret : ∀ E' F' ρ' v' v τ, ret E' F' v' = true → sx (t_sE P facts) (t_sρ P ls facts σ) E' ρ' → sg_E E' ρ' → tg_F E' ρ' F' τ → sv_o E' ρ' v' v → sI B (am_SH X) M σ0 τ → post v τ)
    (hcut : ∀ pc' E' F' L' S', cut pc' E' F' L' S' = true → ∀ ρ' ls' st' τ, sx (t_sE P facts) (t_sρ P ls facts σ) E' ρ' → sg_E E' ρ' → tg_F E' ρ' F' τ → sg_L E' ρ' L' ls' → sg_S E' ρ' S' st' → sI B (am_SH X) M σ0 τ → AA pc' ls' st' N τ) : AA pc ls [] N σ := by
  obtain ⟨e1, e2, e3⟩ := t_start hP hfc
  refine hA cuts fuel _ _ _ _ _ ?_
  exact t_run_ok hCS hD hret hcut fuel pc _ _ _ _ [] _ [] σ (sx_r _ _) e1 e2 e3 trivial hI h
/-! the locals at a cut, as they are -/
def s_pl (a : Option sa_V) : Bool := match a with
  | none => true
  | some (.inl _) => true
  | some (.inr (.inl _)) => true
  | _ => false
def s_cl (ρ : Nat → Int) (a : Option sa_V) : Option Value := match a with
  | some (.inl q) => some (.int (Int32.ofInt (ρ q.1 + q.2)))
  | some (.inr (.inl o)) => some (.ref o)
  | _ => none
theorem sg_V_int {E : sa_E} {ρ : Nat → Int} {q : Nat × Int} {v : Value} (h : sg_V E ρ (.inl q) v) : v = .int (Int32.ofInt (ρ q.1 + q.2)) := by
  obtain ⟨_, x, rfl, hx⟩ := h
  rw [← hx, ← ii_of]
theorem sg_L_eq {E : sa_E} {ρ : Nat → Int} {L : List (Option sa_V)} {ls : List (Option Value)} (hp : L.all s_pl = true) (h : sg_L E ρ L ls) : ls = L.map (s_cl ρ) := by
  apply List.ext_getElem?
  intro k
  rw [List.getElem?_map]
  cases hk : L[k]? with
  | none =>
    rw [List.getElem?_eq_none_iff] at hk
    rw [Option.map_none, List.getElem?_eq_none_iff, h.1]
    exact hk
  | some a =>
    cases a with
    | none => rw [h.2.2 k hk]; rfl
    | some a =>
      obtain ⟨v, h1, h2⟩ := h.2.1 k a hk
      have hpl := List.all_eq_true.mp hp _ (List.mem_of_getElem? hk)
      rw [h1]
      rcases a with q | o | b
      · rw [sg_V_int h2]; rfl
      · have h2 : v = .ref o := h2
        rw [h2]; rfl
      · cases hpl
theorem sb_1 {B : sa_I} {o k : Nat} {q : Int × Int} (h : B.1 o = [q]) : sb_a B o k = q := by
  unfold sb_a
  rw [h]
  simp [Nat.mod_one]
theorem s_P_nil : s_P [] [] := ⟨rfl, fun k p h => by simp at h, fun k h => by simp at h⟩
theorem s_P_cons {a : Option sa_P} {v : Option Value} {P : List (Option sa_P)} {ls : List (Option Value)} (h : match a with
    | none => v = none
    | some p => ∃ w, v = some w ∧ sp_in p w) (hp : s_P P ls) : s_P (a :: P) (v :: ls) := by
  obtain ⟨h1, h2, h3⟩ := hp
  refine ⟨by simp [h1], fun k p hk => ?_, fun k hk => ?_⟩
  · cases k with
    | zero =>
      simp at hk
      subst hk
      obtain ⟨w, rfl, hw⟩ := h
      exact ⟨w, rfl, hw⟩
    | succ k =>
      simp only [List.getElem?_cons_succ] at hk ⊢
      exact h2 k p hk
  · cases k with
    | zero =>
      simp at hk
      subst hk
      have h : v = none := h
      subst h
      rfl
    | succ k =>
      simp only [List.getElem?_cons_succ] at hk ⊢
      exact h3 k hk
theorem s_P_i {b : Int × Int} {x : Int32} {P : List (Option sa_P)} {ls : List (Option Value)} (h : b.1 ≤ x.toInt ∧ x.toInt ≤ b.2) (hp : s_P P ls) : s_P (some (.inl b) :: P) (some (.int x) :: ls) := s_P_cons ⟨_, rfl, x, rfl, h⟩ hp
theorem s_P_f {x : Int32} {P : List (Option sa_P)} {ls : List (Option Value)} (hp : s_P P ls) : s_P (some (.inl (-2147483648, 2147483647)) :: P) (some (.int x) :: ls) := s_P_i ⟨ii_lo x, by have := ii_hi x; show x.toInt ≤ 2147483647; omega⟩ hp
theorem s_P_r {o : Nat} {P : List (Option sa_P)} {ls : List (Option Value)} (hp : s_P P ls) : s_P (some (.inr (.inl o)) :: P) (some (.ref o) :: ls) := s_P_cons ⟨_, rfl, rfl⟩ hp
theorem s_P_n {P : List (Option sa_P)} {ls : List (Option Value)} (hp : s_P P ls) : s_P (none :: P) (none :: ls) := s_P_cons rfl hp
theorem t_sc_nil {P : List (Option sa_P)} {ls : List (Option Value)} {σ : am_S} : t_sc P ls [] σ := fun q h => absurd h List.not_mem_nil
/-- a fact of a field -/
theorem t_sc_f {P : List (Option sa_P)} {ls : List (Option Value)} {l : List ta_B} {σ : am_S} {o s : Nat} {lo hi : Int} (h : lo ≤ (σ.1 o s).toInt ∧ (σ.1 o s).toInt ≤ hi) (hl : t_sc P ls l σ) : t_sc P ls ((o, (0, (s : Int)), lo, hi) :: l) σ := fun q hq => by
  rcases List.mem_cons.mp hq with rfl | hq
  · have e : (s_ρ P ls 0 + (s : Int)).toNat = s := by show (0 + (s : Int)).toNat = s; omega
    refine ⟨by show 0 < P.length + 1; omega, by show 0 ≤ (0 : Int) + (s : Int); omega, ?_⟩
    unfold t_cv
    simp only [e]
    exact h
  · exact hl q hq
theorem t_rok {v' : Option sa_V} {v : Option Value} {E : sa_E} {ρ : Nat → Int} (hr : (match v' with
  | some (.inl _) => true
  | _ => false) = true) (hv : sv_o E ρ v' v) : ∃ x : Int32, v = some (.int x) := by
  split at hr
  · cases v with
    | none => exact hv.elim
    | some w =>
      obtain ⟨_, x, rfl, _⟩ := hv
      exact ⟨x, rfl⟩
  · cases hr
def t_int (_ : sa_E) (_ : ta_F) (v : Option sa_V) : Bool := match v with
  | some (.inl _) => true
  | _ => false
def t_no (_ : sa_E) (_ : ta_F) (_ : Option sa_V) : Bool := false
/-! a word that asks for cells: number, which argument is the slot, bounds -/
def sp_wc (J : am_S → Prop) (B : sa_I) (SH : am_Sh) (N : Nat) (args : List sa_P) (pre : List (Nat × Nat × Int × Int)) (mods : sa_M) : am_Sp := fun as n σ post => n = N ∧ sb_ok B SH σ ∧ J σ ∧ sp_all args as ∧ (∀ q ∈ pre, ∃ x : Int32, as[q.2.1]? = some (.int x) ∧ 0 ≤ x.toInt ∧ q.2.2.1 ≤ (σ.1 q.1 x.toInt.toNat).toInt ∧ (σ.1 q.1 x.toInt.toNat).toInt ≤ q.2.2.2) ∧ ∀ τ, sb_ok B SH τ → J τ → sb_fr mods σ τ → post none τ
def t_wc (M : sa_M) (args : List sa_P) (pre : List (Nat × Nat × Int × Int)) (mods : sa_M) : ta_H := fun E F as k => sa_inPs E args as && (pre.all (fun q => match as[q.2.1]? with
  | some (.inl a) => decide (0 ≤ (sa_h E a).1) && (match t_lk F q.1 (t_nm E a) with
    | some v => sa_inB E (q.2.2.1, q.2.2.2) v
    | none => false)
  | _ => false) && (mods.all (fun z => M.any (fun m => decide (m.1 = z.1 ∧ m.2.1 ≤ z.2.1 ∧ z.2.2 ≤ m.2.2))) && k E (t_fk F mods) none))
theorem t_wc_ok {J : am_S → Prop} {B : sa_I} {SH : am_Sh} {N : Nat} {M : sa_M} {σ0 : am_S} {args : List sa_P} {pre : List (Nat × Nat × Int × Int)} {mods : sa_M} (hJ : ∀ τ, sb_fr M σ0 τ → J τ) : t_hs B SH N M σ0 (t_wc M args pre mods) (sp_wc J B SH N args pre mods) := by
  intro E ρ F as vs σ k post hE hF hA hI hk h
  simp only [t_wc, Bool.and_eq_true] at h
  obtain ⟨h1, h2, h3, h4⟩ := h
  refine ⟨rfl, hI.1, hJ _ hI.2, sa_inPs_ok hE hA h1, fun q hq => ?_, fun τ t1 t2 t3 => ?_⟩
  · have h5 := List.all_eq_true.mp h2 q hq
    split at h5
    · rename_i a ha
      simp only [Bool.and_eq_true, decide_eq_true_eq] at h5
      obtain ⟨h6, h7⟩ := h5
      obtain ⟨v, v1, v2⟩ := sg_S_at hA ha
      obtain ⟨v3, x, rfl, v4⟩ := v2
      have hh := sa_h_ok hE v4
      split at h7
      · rename_i w hw
        obtain ⟨w1, w2⟩ := t_lk_ok hF hw
        rw [← (t_nm_ok hE ⟨v3, v4⟩).2] at w2
        exact ⟨x, v1, by omega, sa_inB_ok hE w2 h7⟩
      · cases h7
    · cases h5
  · exact hk _ _ _ h4 ρ none τ (sx_r E ρ) hE (tg_F_call hE.2.1 t3 hF) trivial ⟨t1, sb_fr_t hI.2 (s_fr_m h3 t3)⟩
/-! TERMS AND LAWS of the reference. Printed by wip/am/chk/hand/X12_lawTells.py. -/
theorem dX12_termOf_0 : decode cX12_termOf 0 = .ok (.iconst 0, 1) := dk_ok (by decide +kernel)
theorem dX12_termOf_1 : decode cX12_termOf 1 = .ok (.istore_n 3, 1) := dk_ok (by decide +kernel)
theorem dX12_termOf_2 : decode cX12_termOf 2 = .ok (.iload_n 1, 1) := dk_ok (by decide +kernel)
theorem dX12_termOf_3 : decode cX12_termOf 3 = .ok (.istore 4, 2) := dk_ok (by decide +kernel)
theorem dX12_termOf_5 : decode cX12_termOf 5 = .ok (.iload 4, 2) := dk_ok (by decide +kernel)
theorem dX12_termOf_7 : decode cX12_termOf 7 = .ok (.iload_n 2, 1) := dk_ok (by decide +kernel)
theorem dX12_termOf_8 : decode cX12_termOf 8 = .ok (.if_icmp .ge 157, 3) := dk_ok (by decide +kernel)
theorem dX12_termOf_11 : decode cX12_termOf 11 = .ok (.aload_n 0, 1) := dk_ok (by decide +kernel)
theorem dX12_termOf_12 : decode cX12_termOf 12 = .ok (.getfield 86, 3) := dk_ok (by decide +kernel)
theorem dX12_termOf_15 : decode cX12_termOf 15 = .ok (.iload 4, 2) := dk_ok (by decide +kernel)
theorem dX12_termOf_17 : decode cX12_termOf 17 = .ok (.iaload, 1) := dk_ok (by decide +kernel)
theorem dX12_termOf_18 : decode cX12_termOf 18 = .ok (.istore 5, 2) := dk_ok (by decide +kernel)
theorem dX12_termOf_20 : decode cX12_termOf 20 = .ok (.iload 5, 2) := dk_ok (by decide +kernel)
theorem dX12_termOf_22 : decode cX12_termOf 22 = .ok (.iconst 2, 1) := dk_ok (by decide +kernel)
theorem dX12_termOf_23 : decode cX12_termOf 23 = .ok (.if_icmp .ge 42, 3) := dk_ok (by decide +kernel)
theorem dX12_termOf_26 : decode cX12_termOf 26 = .ok (.aload_n 0, 1) := dk_ok (by decide +kernel)
theorem dX12_termOf_27 : decode cX12_termOf 27 = .ok (.getfield 98, 3) := dk_ok (by decide +kernel)
theorem dX12_termOf_30 : decode cX12_termOf 30 = .ok (.iload_n 3, 1) := dk_ok (by decide +kernel)
theorem dX12_termOf_31 : decode cX12_termOf 31 = .ok (.iload 5, 2) := dk_ok (by decide +kernel)
theorem dX12_termOf_33 : decode cX12_termOf 33 = .ok (.ifCond .ne 13, 3) := dk_ok (by decide +kernel)
theorem dX12_termOf_36 : decode cX12_termOf 36 = .ok (.aload_n 0, 1) := dk_ok (by decide +kernel)
theorem dX12_termOf_37 : decode cX12_termOf 37 = .ok (.getfield 89, 3) := dk_ok (by decide +kernel)
theorem dX12_termOf_40 : decode cX12_termOf 40 = .ok (.iload 4, 2) := dk_ok (by decide +kernel)
theorem dX12_termOf_42 : decode cX12_termOf 42 = .ok (.iaload, 1) := dk_ok (by decide +kernel)
theorem dX12_termOf_43 : decode cX12_termOf 43 = .ok (.goto 15, 3) := dk_ok (by decide +kernel)
theorem dX12_termOf_46 : decode cX12_termOf 46 = .ok (.aload_n 0, 1) := dk_ok (by decide +kernel)
theorem dX12_termOf_47 : decode cX12_termOf 47 = .ok (.getfield 95, 3) := dk_ok (by decide +kernel)
theorem dX12_termOf_50 : decode cX12_termOf 50 = .ok (.aload_n 0, 1) := dk_ok (by decide +kernel)
theorem dX12_termOf_51 : decode cX12_termOf 51 = .ok (.getfield 89, 3) := dk_ok (by decide +kernel)
theorem dX12_termOf_54 : decode cX12_termOf 54 = .ok (.iload 4, 2) := dk_ok (by decide +kernel)
theorem dX12_termOf_56 : decode cX12_termOf 56 = .ok (.iaload, 1) := dk_ok (by decide +kernel)
theorem dX12_termOf_57 : decode cX12_termOf 57 = .ok (.iaload, 1) := dk_ok (by decide +kernel)
theorem dX12_termOf_58 : decode cX12_termOf 58 = .ok (.iastore, 1) := dk_ok (by decide +kernel)
theorem dX12_termOf_59 : decode cX12_termOf 59 = .ok (.iinc 3 1, 3) := dk_ok (by decide +kernel)
theorem dX12_termOf_62 : decode cX12_termOf 62 = .ok (.goto 97, 3) := dk_ok (by decide +kernel)
theorem dX12_termOf_65 : decode cX12_termOf 65 = .ok (.iinc 3 (-1), 3) := dk_ok (by decide +kernel)
theorem dX12_termOf_68 : decode cX12_termOf 68 = .ok (.aload_n 0, 1) := dk_ok (by decide +kernel)
theorem dX12_termOf_69 : decode cX12_termOf 69 = .ok (.getfield 98, 3) := dk_ok (by decide +kernel)
theorem dX12_termOf_72 : decode cX12_termOf 72 = .ok (.iload_n 3, 1) := dk_ok (by decide +kernel)
theorem dX12_termOf_73 : decode cX12_termOf 73 = .ok (.iconst 1, 1) := dk_ok (by decide +kernel)
theorem dX12_termOf_74 : decode cX12_termOf 74 = .ok (.isub, 1) := dk_ok (by decide +kernel)
theorem dX12_termOf_75 : decode cX12_termOf 75 = .ok (.iaload, 1) := dk_ok (by decide +kernel)
theorem dX12_termOf_76 : decode cX12_termOf 76 = .ok (.istore 6, 2) := dk_ok (by decide +kernel)
theorem dX12_termOf_78 : decode cX12_termOf 78 = .ok (.aload_n 0, 1) := dk_ok (by decide +kernel)
theorem dX12_termOf_79 : decode cX12_termOf 79 = .ok (.getfield 98, 3) := dk_ok (by decide +kernel)
theorem dX12_termOf_82 : decode cX12_termOf 82 = .ok (.iload_n 3, 1) := dk_ok (by decide +kernel)
theorem dX12_termOf_83 : decode cX12_termOf 83 = .ok (.iaload, 1) := dk_ok (by decide +kernel)
theorem dX12_termOf_84 : decode cX12_termOf 84 = .ok (.istore 7, 2) := dk_ok (by decide +kernel)
theorem dX12_termOf_86 : decode cX12_termOf 86 = .ok (.iload 5, 2) := dk_ok (by decide +kernel)
theorem dX12_termOf_88 : decode cX12_termOf 88 = .ok (.iconst 5, 1) := dk_ok (by decide +kernel)
theorem dX12_termOf_89 : decode cX12_termOf 89 = .ok (.if_icmp .ne 15, 3) := dk_ok (by decide +kernel)
theorem dX12_termOf_92 : decode cX12_termOf 92 = .ok (.iload 7, 2) := dk_ok (by decide +kernel)
theorem dX12_termOf_94 : decode cX12_termOf 94 = .ok (.ifCond .ne 10, 3) := dk_ok (by decide +kernel)
theorem dX12_termOf_97 : decode cX12_termOf 97 = .ok (.aload_n 0, 1) := dk_ok (by decide +kernel)
theorem dX12_termOf_98 : decode cX12_termOf 98 = .ok (.iconst 1, 1) := dk_ok (by decide +kernel)
theorem dX12_termOf_99 : decode cX12_termOf 99 = .ok (.putfield 288, 3) := dk_ok (by decide +kernel)
theorem dX12_termOf_102 : decode cX12_termOf 102 = .ok (.iconst 0, 1) := dk_ok (by decide +kernel)
theorem dX12_termOf_103 : decode cX12_termOf 103 = .ok (.ireturn, 1) := dk_ok (by decide +kernel)
theorem dX12_termOf_104 : decode cX12_termOf 104 = .ok (.aload_n 0, 1) := dk_ok (by decide +kernel)
theorem dX12_termOf_105 : decode cX12_termOf 105 = .ok (.getfield 98, 3) := dk_ok (by decide +kernel)
theorem dX12_termOf_108 : decode cX12_termOf 108 = .ok (.iload_n 3, 1) := dk_ok (by decide +kernel)
theorem dX12_termOf_109 : decode cX12_termOf 109 = .ok (.iconst 1, 1) := dk_ok (by decide +kernel)
theorem dX12_termOf_110 : decode cX12_termOf 110 = .ok (.isub, 1) := dk_ok (by decide +kernel)
theorem dX12_termOf_111 : decode cX12_termOf 111 = .ok (.iload 5, 2) := dk_ok (by decide +kernel)
theorem dX12_termOf_113 : decode cX12_termOf 113 = .ok (.iconst 2, 1) := dk_ok (by decide +kernel)
theorem dX12_termOf_114 : decode cX12_termOf 114 = .ok (.if_icmp .ne 11, 3) := dk_ok (by decide +kernel)
theorem dX12_termOf_117 : decode cX12_termOf 117 = .ok (.iload 6, 2) := dk_ok (by decide +kernel)
theorem dX12_termOf_119 : decode cX12_termOf 119 = .ok (.iload 7, 2) := dk_ok (by decide +kernel)
theorem dX12_termOf_121 : decode cX12_termOf 121 = .ok (.iadd, 1) := dk_ok (by decide +kernel)
theorem dX12_termOf_122 : decode cX12_termOf 122 = .ok (.goto 36, 3) := dk_ok (by decide +kernel)
theorem dX12_termOf_125 : decode cX12_termOf 125 = .ok (.iload 5, 2) := dk_ok (by decide +kernel)
theorem dX12_termOf_127 : decode cX12_termOf 127 = .ok (.iconst 3, 1) := dk_ok (by decide +kernel)
theorem dX12_termOf_128 : decode cX12_termOf 128 = .ok (.if_icmp .ne 11, 3) := dk_ok (by decide +kernel)
theorem dX12_termOf_131 : decode cX12_termOf 131 = .ok (.iload 6, 2) := dk_ok (by decide +kernel)
theorem dX12_termOf_133 : decode cX12_termOf 133 = .ok (.iload 7, 2) := dk_ok (by decide +kernel)
theorem dX12_termOf_135 : decode cX12_termOf 135 = .ok (.isub, 1) := dk_ok (by decide +kernel)
theorem dX12_termOf_136 : decode cX12_termOf 136 = .ok (.goto 22, 3) := dk_ok (by decide +kernel)
theorem dX12_termOf_139 : decode cX12_termOf 139 = .ok (.iload 5, 2) := dk_ok (by decide +kernel)
theorem dX12_termOf_141 : decode cX12_termOf 141 = .ok (.iconst 4, 1) := dk_ok (by decide +kernel)
theorem dX12_termOf_142 : decode cX12_termOf 142 = .ok (.if_icmp .ne 11, 3) := dk_ok (by decide +kernel)
theorem dX12_termOf_145 : decode cX12_termOf 145 = .ok (.iload 6, 2) := dk_ok (by decide +kernel)
theorem dX12_termOf_147 : decode cX12_termOf 147 = .ok (.iload 7, 2) := dk_ok (by decide +kernel)
theorem dX12_termOf_149 : decode cX12_termOf 149 = .ok (.imul, 1) := dk_ok (by decide +kernel)
theorem dX12_termOf_150 : decode cX12_termOf 150 = .ok (.goto 8, 3) := dk_ok (by decide +kernel)
theorem dX12_termOf_153 : decode cX12_termOf 153 = .ok (.iload 6, 2) := dk_ok (by decide +kernel)
theorem dX12_termOf_155 : decode cX12_termOf 155 = .ok (.iload 7, 2) := dk_ok (by decide +kernel)
theorem dX12_termOf_157 : decode cX12_termOf 157 = .ok (.idiv, 1) := dk_ok (by decide +kernel)
theorem dX12_termOf_158 : decode cX12_termOf 158 = .ok (.iastore, 1) := dk_ok (by decide +kernel)
theorem dX12_termOf_159 : decode cX12_termOf 159 = .ok (.iinc 4 1, 3) := dk_ok (by decide +kernel)
theorem dX12_termOf_162 : decode cX12_termOf 162 = .ok (.goto (-157), 3) := dk_ok (by decide +kernel)
theorem dX12_termOf_165 : decode cX12_termOf 165 = .ok (.aload_n 0, 1) := dk_ok (by decide +kernel)
theorem dX12_termOf_166 : decode cX12_termOf 166 = .ok (.getfield 98, 3) := dk_ok (by decide +kernel)
theorem dX12_termOf_169 : decode cX12_termOf 169 = .ok (.iconst 0, 1) := dk_ok (by decide +kernel)
theorem dX12_termOf_170 : decode cX12_termOf 170 = .ok (.iaload, 1) := dk_ok (by decide +kernel)
theorem dX12_termOf_171 : decode cX12_termOf 171 = .ok (.ireturn, 1) := dk_ok (by decide +kernel)

def xX12_termOf : am_X := (SH, KF, (some .int), FT_X12, PT_X12, CT_X12, KT_X12, LT_X12, NT_X12, [])
theorem xX12_termOf_SH : am_SH xX12_termOf = SH := rfl
theorem xX12_termOf_KF : am_KF xX12_termOf = KF := rfl
theorem xX12_termOf_rt : am_rt xX12_termOf = (some .int) := rfl
theorem xX12_termOf_FT : am_FT xX12_termOf = FT_X12 := rfl
theorem xX12_termOf_PT : am_PT xX12_termOf = PT_X12 := rfl
theorem xX12_termOf_CT : am_CT xX12_termOf = CT_X12 := rfl
theorem xX12_termOf_KT : am_KT xX12_termOf = KT_X12 := rfl
theorem xX12_termOf_LT : am_LT xX12_termOf = LT_X12 := rfl
theorem xX12_termOf_NT : am_NT xX12_termOf = NT_X12 := rfl
theorem xX12_termOf_t8 (k : Nat → Prop) : am_tg 8 (157) k = k 165 := am_tg_eq (by decide)
theorem xX12_termOf_t23 (k : Nat → Prop) : am_tg 23 (42) k = k 65 := am_tg_eq (by decide)
theorem xX12_termOf_t33 (k : Nat → Prop) : am_tg 33 (13) k = k 46 := am_tg_eq (by decide)
theorem xX12_termOf_t43 (k : Nat → Prop) : am_tg 43 (15) k = k 58 := am_tg_eq (by decide)
theorem xX12_termOf_t62 (k : Nat → Prop) : am_tg 62 (97) k = k 159 := am_tg_eq (by decide)
theorem xX12_termOf_t89 (k : Nat → Prop) : am_tg 89 (15) k = k 104 := am_tg_eq (by decide)
theorem xX12_termOf_t94 (k : Nat → Prop) : am_tg 94 (10) k = k 104 := am_tg_eq (by decide)
theorem xX12_termOf_t114 (k : Nat → Prop) : am_tg 114 (11) k = k 125 := am_tg_eq (by decide)
theorem xX12_termOf_t122 (k : Nat → Prop) : am_tg 122 (36) k = k 158 := am_tg_eq (by decide)
theorem xX12_termOf_t128 (k : Nat → Prop) : am_tg 128 (11) k = k 139 := am_tg_eq (by decide)
theorem xX12_termOf_t136 (k : Nat → Prop) : am_tg 136 (22) k = k 158 := am_tg_eq (by decide)
theorem xX12_termOf_t142 (k : Nat → Prop) : am_tg 142 (11) k = k 153 := am_tg_eq (by decide)
theorem xX12_termOf_t150 (k : Nat → Prop) : am_tg 150 (8) k = k 158 := am_tg_eq (by decide)
theorem xX12_termOf_t162 (k : Nat → Prop) : am_tg 162 (-157) k = k 5 := am_tg_eq (by decide)

def LX12_termOf : List (Nat × Instr × Nat) := [(0, .iconst 0, 1), (1, .istore_n 3, 1), (2, .iload_n 1, 1), (3, .istore 4, 2), (5, .iload 4, 2), (7, .iload_n 2, 1), (8, .if_icmp .ge 157, 3), (11, .aload_n 0, 1), (12, .getfield 86, 3), (15, .iload 4, 2), (17, .iaload, 1), (18, .istore 5, 2), (20, .iload 5, 2), (22, .iconst 2, 1), (23, .if_icmp .ge 42, 3), (26, .aload_n 0, 1), (27, .getfield 98, 3), (30, .iload_n 3, 1), (31, .iload 5, 2), (33, .ifCond .ne 13, 3), (36, .aload_n 0, 1), (37, .getfield 89, 3), (40, .iload 4, 2), (42, .iaload, 1), (43, .goto 15, 3), (46, .aload_n 0, 1), (47, .getfield 95, 3), (50, .aload_n 0, 1), (51, .getfield 89, 3), (54, .iload 4, 2), (56, .iaload, 1), (57, .iaload, 1), (58, .iastore, 1), (59, .iinc 3 1, 3), (62, .goto 97, 3), (65, .iinc 3 (-1), 3), (68, .aload_n 0, 1), (69, .getfield 98, 3), (72, .iload_n 3, 1), (73, .iconst 1, 1), (74, .isub, 1), (75, .iaload, 1), (76, .istore 6, 2), (78, .aload_n 0, 1), (79, .getfield 98, 3), (82, .iload_n 3, 1), (83, .iaload, 1), (84, .istore 7, 2), (86, .iload 5, 2), (88, .iconst 5, 1), (89, .if_icmp .ne 15, 3), (92, .iload 7, 2), (94, .ifCond .ne 10, 3), (97, .aload_n 0, 1), (98, .iconst 1, 1), (99, .putfield 288, 3), (102, .iconst 0, 1), (103, .ireturn, 1), (104, .aload_n 0, 1), (105, .getfield 98, 3), (108, .iload_n 3, 1), (109, .iconst 1, 1), (110, .isub, 1), (111, .iload 5, 2), (113, .iconst 2, 1), (114, .if_icmp .ne 11, 3), (117, .iload 6, 2), (119, .iload 7, 2), (121, .iadd, 1), (122, .goto 36, 3), (125, .iload 5, 2), (127, .iconst 3, 1), (128, .if_icmp .ne 11, 3), (131, .iload 6, 2), (133, .iload 7, 2), (135, .isub, 1), (136, .goto 22, 3), (139, .iload 5, 2), (141, .iconst 4, 1), (142, .if_icmp .ne 11, 3), (145, .iload 6, 2), (147, .iload 7, 2), (149, .imul, 1), (150, .goto 8, 3), (153, .iload 6, 2), (155, .iload 7, 2), (157, .idiv, 1), (158, .iastore, 1), (159, .iinc 4 1, 3), (162, .goto (-157), 3), (165, .aload_n 0, 1), (166, .getfield 98, 3), (169, .iconst 0, 1), (170, .iaload, 1), (171, .ireturn, 1)]
theorem LX12_termOf_ok : LX12_termOf.all (dk_q cX12_termOf) = true := by decide +kernel
theorem tm_frame {σ0 σ : am_S} (hI : sI BB SH [(51, 44, 45), (78, 0, 400)] σ0 σ) {o : Nat} (h1 : o ≠ 51) (h2 : o ≠ 78) (k : Nat) : σ.1 o k = σ0.1 o k := (hI.2 o k (fun m hm hh => by
  rcases List.mem_cons.mp hm with rfl | hm
  · exact h1 hh.1.symm
  · rcases List.mem_cons.mp hm with rfl | hm
    · exact h2 hh.1.symm
    · cases hm)).1
theorem Jdep_le {σ : am_S} {f : Nat} : ∀ {n d : Nat}, Jdep σ f n = some d → d ≤ n
  | 0, d, h => by
    simp only [Jdep, Option.some.injEq] at h
    omega
  | n + 1, d, h => by
    simp only [Jdep] at h
    split at h
    · cases h
    · rename_i e he
      have := Jdep_le he
      split at h
      · cases h; omega
      · split at h
        · cases h; omega
        · cases h
theorem Jdep_pre {σ : am_S} {f : Nat} : ∀ {n k d : Nat}, Jdep σ f n = some d → k ≤ n → ∃ e, Jdep σ f k = some e
  | 0, k, d, h, hk => ⟨d, by rw [show k = 0 by omega]; exact h⟩
  | n + 1, k, d, h, hk => by
    by_cases e : k = n + 1
    · subst e; exact ⟨d, h⟩
    · simp only [Jdep] at h
      split at h
      · cases h
      · rename_i z hz
        exact Jdep_pre hz (by omega)
def tm_ret (_ : sa_E) (_ : ta_F) (v : Option sa_V) : Bool := match v with
  | some (.inl _) => true
  | _ => false
def tm_cut (dt : Int) (pc : Nat) (_ : sa_E) (_ : ta_F) (L : List (Option sa_V)) (S : List sa_V) : Bool := decide (pc = 5) && (S.isEmpty && decide (L = [some (.inr (.inl 51)), some (.inl (2, 0)), some (.inl (3, 0)), some (.inl (4, dt)), some (.inl (5, 1)), none, none, none]))
def tm_ls (a b c : Int) (top : Nat) : List (Option Value) := [some (.ref 51), some (.int (Int32.ofInt a)), some (.int (Int32.ofInt b)), some (.int (Int32.ofInt (top : Int))), some (.int (Int32.ofInt c)), none, none, none]
theorem tm_rok {E : sa_E} {F : ta_F} {ρ : Nat → Int} {v' : Option sa_V} {v : Option Value} {Q : Option Value → Prop} (hr : tm_ret E F v' = true) (hv : sv_o E ρ v' v) (h : ∀ x, Q (some (.int x))) : Q v := by
  unfold tm_ret at hr
  split at hr
  · cases v with
    | none => exact hv.elim
    | some w =>
      obtain ⟨_, x, rfl, _⟩ := hv
      exact h x
  · cases hr
theorem tm_P {a b c : Int} {top : Nat} {tl th : Int} (ha : 0 ≤ a) (hc : a ≤ c) (hb : b ≤ 840) (hcb : c < b) (h1 : tl ≤ (top : Int)) (h2 : (top : Int) ≤ th) (h3 : th ≤ 400) (h4 : 0 ≤ tl) : s_P [some (.inr (.inl 51)), some (.inl (0, 840)), some (.inl (0, 840)), some (.inl (tl, th)), some (.inl (0, 839)), none, none, none] (tm_ls a b c top) := by
  refine ⟨rfl, fun k p hp => ?_, fun k hp => ?_⟩
  · match k, hp with
    | 0, hp => simp at hp; subst hp; exact ⟨_, rfl, rfl⟩
    | 1, hp => simp at hp; subst hp; exact ⟨_, rfl, _, rfl, by rw [ii_t (by omega) (by omega)]; omega, by rw [ii_t (by omega) (by omega)]; show a ≤ 840; omega⟩
    | 2, hp => simp at hp; subst hp; exact ⟨_, rfl, _, rfl, by rw [ii_t (by omega) (by omega)]; show 0 ≤ b; omega, by rw [ii_t (by omega) (by omega)]; show b ≤ 840; omega⟩
    | 3, hp => simp at hp; subst hp; exact ⟨_, rfl, _, rfl, by rw [ii_t (by omega) (by omega)]; exact h1, by rw [ii_t (by omega) (by omega)]; exact h2⟩
    | 4, hp => simp at hp; subst hp; exact ⟨_, rfl, _, rfl, by rw [ii_t (by omega) (by omega)]; show 0 ≤ c; omega, by rw [ii_t (by omega) (by omega)]; show c ≤ 839; omega⟩
    | 5, hp => simp at hp
    | 6, hp => simp at hp
    | 7, hp => simp at hp
    | k + 8, hp => simp at hp
  · match k, hp with
    | 0, hp => simp at hp
    | 1, hp => simp at hp
    | 2, hp => simp at hp
    | 3, hp => simp at hp
    | 4, hp => simp at hp
    | 5, hp => rfl
    | 6, hp => rfl
    | 7, hp => rfl
    | k + 8, hp => simp at hp
theorem tm_cok {a b c : Int} {top : Nat} {tl th dt : Int} {facts : List ta_B} {σ τ : am_S} {pc' : Nat} {E' : sa_E} {F' : ta_F} {L' : List (Option sa_V)} {S' : List sa_V} {ρ' : Nat → Int} {ls' : List (Option Value)} {st' : List Value} {Q : Nat → List (Option Value) → List Value → Nat → am_S → Prop} (hc : tm_cut dt pc' E' F' L' S' = true) (hx : sx (t_sE [some (.inr (.inl 51)), some (.inl (0, 840)), some (.inl (0, 840)), some (.inl (tl, th)), some (.inl (0, 839)), none, none, none] facts) (t_sρ [some (.inr (.inl 51)), some (.inl (0, 840)), some (.inl (0, 840)), some (.inl (tl, th)), some (.inl (0, 839)), none, none, none] (tm_ls a b c top) facts σ) E' ρ') (hL : sg_L E' ρ' L' ls') (hS : sg_S E' ρ' S' st') (ha : 0 ≤ a) (hca : a ≤ c) (hb : b ≤ 840) (hcb : c < b) (ht : top ≤ 400) {top' : Nat} (h : Q 5 (tm_ls a b (c + 1) top') [] 92 τ) (hd : (top' : Int) = (top : Int) + dt) : Q pc' ls' st' 92 τ := by
  simp only [tm_cut, Bool.and_eq_true, decide_eq_true_eq, List.isEmpty_iff] at hc
  obtain ⟨rfl, rfl, rfl⟩ := hc
  cases st' with
  | cons _ _ => exact hS.elim
  | nil =>
    have hlen : 9 ≤ (t_sE [some (.inr (.inl 51)), some (.inl (0, 840)), some (.inl (0, 840)), some (.inl (tl, th)), some (.inl (0, 839)), none, none, none] facts).length := by simp [t_sE, s_aE]
    have g : ∀ i, i < 9 → ρ' i = s_ρ [some (.inr (.inl 51)), some (.inl (0, 840)), some (.inl (0, 840)), some (.inl (tl, th)), some (.inl (0, 839)), none, none, none] (tm_ls a b c top) i := fun i hi => (hx.2 i (by omega)).trans (if_pos hi)
    have e := sg_L_eq rfl hL
    subst e
    have e2 : ρ' 2 = a := (g 2 (by decide)).trans (ii_t (by omega) (by omega))
    have e3 : ρ' 3 = b := (g 3 (by decide)).trans (ii_t (by omega) (by omega))
    have e4 : ρ' 4 = (top : Int) := (g 4 (by decide)).trans (ii_t (by omega) (by omega))
    have e5 : ρ' 5 = c := (g 5 (by decide)).trans (ii_t (by omega) (by omega))
    simp only [List.map_cons, List.map_nil, s_cl, e2, e3, e4, e5, Int.add_zero, ← hd]
    exact h
set_option maxRecDepth 100000 in
theorem tm_loop {σ0 : am_S} {post : Option Value → am_S → Prop} {AA : Nat → List (Option Value) → List Value → Nat → am_S → Prop} (hA : ∀ cuts f pc ls stk n τ, am_vc cX12_termOf xX12_termOf 92 post AA cuts f pc ls stk n τ → AA pc ls stk n τ) (hcd : Jcd σ0) (hB0 : sb_ok BB SH σ0) {a b : Int} (ha : 0 ≤ a) (hb : b ≤ 840) (hab : b - a ≤ 400) (hv : ∃ d, Jdep σ0 a.toNat (b - a).toNat = some (d + 1)) (hpost : ∀ x τ, sI BB SH [(51, 44, 45), (78, 0, 400)] σ0 τ → post (some (.int x)) τ) : ∀ (m : Nat) (c : Int) (top : Nat) (σ : am_S), a ≤ c → c ≤ b → (b - c).toNat = m → Jdep σ0 a.toNat (c - a).toNat = some top → sI BB SH [(51, 44, 45), (78, 0, 400)] σ0 σ → AA 5 (tm_ls a b c top) [] 92 σ := by
  intro m
  induction m using Nat.strongRecOn with
  | ind m ih =>
  intro c top σ hca hcb hm hd hI
  have htop := Jdep_le hd
  by_cases hlt : c < b
  · have h1 : AA 11 (tm_ls a b c top) [] 92 σ := ?_
    · refine hA [] 3 _ _ _ _ _ ?_
      simp only [tm_ls, dX12_termOf_0, dX12_termOf_1, dX12_termOf_2, dX12_termOf_3, dX12_termOf_5, dX12_termOf_7, dX12_termOf_8, xX12_termOf_t8, dX12_termOf_11, dX12_termOf_12, FT_X12_86, dX12_termOf_15, dX12_termOf_17, dX12_termOf_18, dX12_termOf_20, dX12_termOf_22, dX12_termOf_23, xX12_termOf_t23, dX12_termOf_26, dX12_termOf_27, FT_X12_98, dX12_termOf_30, dX12_termOf_31, dX12_termOf_33, xX12_termOf_t33, dX12_termOf_36, dX12_termOf_37, FT_X12_89, dX12_termOf_40, dX12_termOf_42, dX12_termOf_43, xX12_termOf_t43, dX12_termOf_46, dX12_termOf_47, FT_X12_95, dX12_termOf_50, dX12_termOf_51, dX12_termOf_54, dX12_termOf_56, dX12_termOf_57, dX12_termOf_58, dX12_termOf_59, dX12_termOf_62, xX12_termOf_t62, dX12_termOf_65, dX12_termOf_68, dX12_termOf_69, dX12_termOf_72, dX12_termOf_73, dX12_termOf_74, dX12_termOf_75, dX12_termOf_76, dX12_termOf_78, dX12_termOf_79, dX12_termOf_82, dX12_termOf_83, dX12_termOf_84, dX12_termOf_86, dX12_termOf_88, dX12_termOf_89, xX12_termOf_t89, dX12_termOf_92, dX12_termOf_94, xX12_termOf_t94, dX12_termOf_97, dX12_termOf_98, dX12_termOf_99, PT_X12_288, dX12_termOf_102, dX12_termOf_103, dX12_termOf_104, dX12_termOf_105, dX12_termOf_108, dX12_termOf_109, dX12_termOf_110, dX12_termOf_111, dX12_termOf_113, dX12_termOf_114, xX12_termOf_t114, dX12_termOf_117, dX12_termOf_119, dX12_termOf_121, dX12_termOf_122, xX12_termOf_t122, dX12_termOf_125, dX12_termOf_127, dX12_termOf_128, xX12_termOf_t128, dX12_termOf_131, dX12_termOf_133, dX12_termOf_135, dX12_termOf_136, xX12_termOf_t136, dX12_termOf_139, dX12_termOf_141, dX12_termOf_142, xX12_termOf_t142, dX12_termOf_145, dX12_termOf_147, dX12_termOf_149, dX12_termOf_150, xX12_termOf_t150, dX12_termOf_153, dX12_termOf_155, dX12_termOf_157, dX12_termOf_158, dX12_termOf_159, dX12_termOf_162, xX12_termOf_t162, dX12_termOf_165, dX12_termOf_166, dX12_termOf_169, dX12_termOf_170, dX12_termOf_171, xX12_termOf_SH, xX12_termOf_KF, xX12_termOf_rt, xX12_termOf_FT, xX12_termOf_PT, xX12_termOf_CT, xX12_termOf_KT, xX12_termOf_LT, xX12_termOf_NT, o_aload_n, o_getfield, o_goto, o_iadd, o_iaload, o_iastore, o_iconst, o_idiv, o_ifCond_ne, o_if_icmp_ge, o_if_icmp_ne, o_iinc, o_iload, o_iload_n, o_imul, o_ireturn, o_istore, o_istore_n, o_isub, o_putfield, SH_51, KF_51_43, SH_78, KF_51_39, SH_75, KF_51_42, SH_77, KF_51_38, SH_74, KF_51_44, am_ty, am_vc, am_opt, am_cl, am_find, am_ldi, am_ldl, am_lda, am_v, am_1, am_1l, am_1a, am_2, am_2l, am_ix, am_ri, am_arr, am_pf, am_rc, am_mask, am_lg, am_av, am_nat, fv_0, fv_1, fv_2, fv_3, fw_0, fw_1, List.getElem?_cons_zero, List.getElem?_cons_succ, List.set_cons_zero, List.set_cons_succ, List.length_cons, List.length_nil, List.take_succ_cons, List.take_zero, List.drop_succ_cons, List.drop_zero, List.reverse_cons, List.reverse_nil, List.nil_append, List.cons_append, List.append_nil, List.map_cons, List.map_nil, List.sum_cons, List.sum_nil, Value.category, Option.toList_some, Option.toList_none, Nat.reduceAdd, Nat.reduceLT, Nat.reduceLeDiff, Nat.reduceEqDiff, Nat.reduceSub, Nat.add_zero, Nat.le_refl, Nat.zero_le, Int.reduceNeg, Int.reduceLE, Int.reduceLT, true_and, and_true, and_self, if_true, if_false, ite_true, ite_false, eq_self_iff_true, reduceIte, reduceCtorEq, not_false_eq_true, not_true_eq_false, or_true, true_or, or_false, false_or, Nat.lt_irrefl, Nat.zero_lt_succ]
      simp (disch := omega) only [ii_0, ii_1, ii_t, ii_add, ii_sub, ii_mul, ii_lt, ii_le, ii_eq, ij_in, ii_c, Int.toNat_natCast, Int.toNat_zero, Int.reduceToNat, Int.reduceEq, Int.reduceNe, Int.reduceLE, Int.reduceLT, Int.reduceAdd, Int.reduceSub, Int.reduceMul, Int.reduceNeg, Nat.reduceLT, Nat.reduceAdd, Nat.reduceMul, not_false_eq_true, not_true_eq_false, true_and, and_true, and_self, false_and, and_false, true_implies, false_implies, implies_true, forall_const, if_true, if_false, ite_true, ite_false, reduceIte, eq_self_iff_true, Int.natCast_nonneg, Int.zero_add, Int.add_zero, pi_s, pi_n]
      exact ⟨fun h => absurd h (by omega), fun _ => h1⟩
    obtain ⟨d, hd1⟩ := hv
    obtain ⟨e, he⟩ := Jdep_pre (k := (c - a).toNat + 1) hd1 (by omega)
    have he2 := he
    simp only [Jdep, hd] at he2
    have ek : a.toNat + (c - a).toNat = c.toNat := by omega
    rw [ek] at he2
    have hcode : σ.1 74 c.toNat = σ0.1 74 c.toNat := tm_frame hI (by decide) (by decide) _
    have hcodeI : σ.1 75 c.toNat = σ0.1 75 c.toNat := tm_frame hI (by decide) (by decide) _
    have hk := hB0.1 74 (0, 840) c.toNat rfl (by show c.toNat < 840; omega)
    rw [sb_1 (q := (0, 5)) rfl] at hk
    have hk1 : (0 : Int) ≤ (σ0.1 74 c.toNat).toInt := hk.1
    have hk2 : (σ0.1 74 c.toNat).toInt ≤ 5 := hk.2
    have ex : (c + 1 - a).toNat = (c - a).toNat + 1 := by omega
    have ec : s_ρ [some (.inr (.inl 51)), some (.inl (0, 840)), some (.inl (0, 840)), some (.inl (0, 399)), some (.inl (0, 839)), none, none, none] (tm_ls a b c top) 5 = c := ii_t (by omega) (by omega)
    have ec2 : s_ρ [some (.inr (.inl 51)), some (.inl (0, 840)), some (.inl (0, 840)), some (.inl (2, 400)), some (.inl (0, 839)), none, none, none] (tm_ls a b c top) 5 = c := ii_t (by omega) (by omega)
    by_cases hK : (σ0.1 74 c.toNat).toInt < 2
    · rw [if_pos hK] at he2
      cases he2
      have ht4 : top ≤ 399 := by omega
      have step : AA 5 (tm_ls a b (c + 1) (top + 1)) [] 92 σ → True := fun _ => trivial
      by_cases hK1 : (σ0.1 74 c.toNat).toInt = 1
      · have hci := hcd c.toNat (by omega) hK1
        refine t_seg (X := xX12_termOf) (B := BB) (N := 92) (CS := []) (M := [(51, 44, 45), (78, 0, 400)]) (D := LX12_termOf) (cuts := [(5, 5)]) (Fk := []) (P := [some (.inr (.inl 51)), some (.inl (0, 840)), some (.inl (0, 840)), some (.inl (0, 399)), some (.inl (0, 839)), none, none, none]) (σ0 := σ0) (σ := σ) [(74, (5, 0), 1, 1), (75, (5, 0), 0, 8)] tm_ret (tm_cut 1) 200 hA (dk_D_ok LX12_termOf_ok) t_cs_nil (tm_P ha hca hb hlt (by omega) (by omega) (by omega) (by omega)) ?_ hI (by decide +kernel) (fun E' F' ρ' v' v τ hr hx hE hF hv hI' => tm_rok (Q := fun v => post v τ) hr hv (fun x => hpost x τ hI')) (fun pc' E' F' L' S' hc ρ' ls' st' τ hx hE hF hL hS hI' => tm_cok hc hx hL hS ha hca hb hlt (by omega) (ih _ (by omega) (c + 1) (top + 1) τ (by omega) (by omega) rfl (by rw [ex]; exact he) hI') (by omega))
        intro q hq
        rcases List.mem_cons.mp hq with rfl | hq
        · refine ⟨by decide, by show 0 ≤ s_ρ _ (tm_ls a b c top) 5 + 0; rw [ec]; omega, ?_⟩
          show 1 ≤ (σ.1 74 (s_ρ _ (tm_ls a b c top) 5 + 0).toNat).toInt ∧ (σ.1 74 (s_ρ _ (tm_ls a b c top) 5 + 0).toNat).toInt ≤ 1
          rw [ec, Int.add_zero, hcode]
          omega
        · rcases List.mem_cons.mp hq with rfl | hq
          · refine ⟨by decide, by show 0 ≤ s_ρ _ (tm_ls a b c top) 5 + 0; rw [ec]; omega, ?_⟩
            show 0 ≤ (σ.1 75 (s_ρ _ (tm_ls a b c top) 5 + 0).toNat).toInt ∧ (σ.1 75 (s_ρ _ (tm_ls a b c top) 5 + 0).toNat).toInt ≤ 8
            rw [ec, Int.add_zero, hcodeI]
            exact hci
          · cases hq
      · refine t_seg (X := xX12_termOf) (B := BB) (N := 92) (CS := []) (M := [(51, 44, 45), (78, 0, 400)]) (D := LX12_termOf) (cuts := [(5, 5)]) (Fk := []) (P := [some (.inr (.inl 51)), some (.inl (0, 840)), some (.inl (0, 840)), some (.inl (0, 399)), some (.inl (0, 839)), none, none, none]) (σ0 := σ0) (σ := σ) [(74, (5, 0), 0, 0)] tm_ret (tm_cut 1) 200 hA (dk_D_ok LX12_termOf_ok) t_cs_nil (tm_P ha hca hb hlt (by omega) (by omega) (by omega) (by omega)) ?_ hI (by decide +kernel) (fun E' F' ρ' v' v τ hr hx hE hF hv hI' => tm_rok (Q := fun v => post v τ) hr hv (fun x => hpost x τ hI')) (fun pc' E' F' L' S' hc ρ' ls' st' τ hx hE hF hL hS hI' => tm_cok hc hx hL hS ha hca hb hlt (by omega) (ih _ (by omega) (c + 1) (top + 1) τ (by omega) (by omega) rfl (by rw [ex]; exact he) hI') (by omega))
        intro q hq
        rcases List.mem_cons.mp hq with rfl | hq
        · refine ⟨by decide, by show 0 ≤ s_ρ _ (tm_ls a b c top) 5 + 0; rw [ec]; omega, ?_⟩
          show 0 ≤ (σ.1 74 (s_ρ _ (tm_ls a b c top) 5 + 0).toNat).toInt ∧ (σ.1 74 (s_ρ _ (tm_ls a b c top) 5 + 0).toNat).toInt ≤ 0
          rw [ec, Int.add_zero, hcode]
          omega
        · cases hq
    · rw [if_neg hK] at he2
      by_cases h2 : 2 ≤ top
      · rw [if_pos h2] at he2
        cases he2
        refine t_seg (X := xX12_termOf) (B := BB) (N := 92) (CS := []) (M := [(51, 44, 45), (78, 0, 400)]) (D := LX12_termOf) (cuts := [(5, 5)]) (Fk := []) (P := [some (.inr (.inl 51)), some (.inl (0, 840)), some (.inl (0, 840)), some (.inl (2, 400)), some (.inl (0, 839)), none, none, none]) (σ0 := σ0) (σ := σ) [(74, (5, 0), 2, 5)] tm_ret (tm_cut (-1)) 200 hA (dk_D_ok LX12_termOf_ok) t_cs_nil (tm_P ha hca hb hlt (by omega) (by omega) (by omega) (by omega)) ?_ hI (by decide +kernel) (fun E' F' ρ' v' v τ hr hx hE hF hv hI' => tm_rok (Q := fun v => post v τ) hr hv (fun x => hpost x τ hI')) (fun pc' E' F' L' S' hc ρ' ls' st' τ hx hE hF hL hS hI' => tm_cok hc hx hL hS ha hca hb hlt (by omega) (ih _ (by omega) (c + 1) (top - 1) τ (by omega) (by omega) rfl (by rw [ex]; exact he) hI') (by omega))
        intro q hq
        rcases List.mem_cons.mp hq with rfl | hq
        · refine ⟨by decide, by show 0 ≤ s_ρ _ (tm_ls a b c top) 5 + 0; rw [ec2]; omega, ?_⟩
          show 2 ≤ (σ.1 74 (s_ρ _ (tm_ls a b c top) 5 + 0).toNat).toInt ∧ (σ.1 74 (s_ρ _ (tm_ls a b c top) 5 + 0).toNat).toInt ≤ 5
          rw [ec2, Int.add_zero, hcode]
          omega
        · cases hq
      · rw [if_neg h2] at he2
        cases he2
  · have e : c = b := by omega
    subst e
    refine hA [] 8 _ _ _ _ _ ?_
    simp only [tm_ls, dX12_termOf_0, dX12_termOf_1, dX12_termOf_2, dX12_termOf_3, dX12_termOf_5, dX12_termOf_7, dX12_termOf_8, xX12_termOf_t8, dX12_termOf_11, dX12_termOf_12, FT_X12_86, dX12_termOf_15, dX12_termOf_17, dX12_termOf_18, dX12_termOf_20, dX12_termOf_22, dX12_termOf_23, xX12_termOf_t23, dX12_termOf_26, dX12_termOf_27, FT_X12_98, dX12_termOf_30, dX12_termOf_31, dX12_termOf_33, xX12_termOf_t33, dX12_termOf_36, dX12_termOf_37, FT_X12_89, dX12_termOf_40, dX12_termOf_42, dX12_termOf_43, xX12_termOf_t43, dX12_termOf_46, dX12_termOf_47, FT_X12_95, dX12_termOf_50, dX12_termOf_51, dX12_termOf_54, dX12_termOf_56, dX12_termOf_57, dX12_termOf_58, dX12_termOf_59, dX12_termOf_62, xX12_termOf_t62, dX12_termOf_65, dX12_termOf_68, dX12_termOf_69, dX12_termOf_72, dX12_termOf_73, dX12_termOf_74, dX12_termOf_75, dX12_termOf_76, dX12_termOf_78, dX12_termOf_79, dX12_termOf_82, dX12_termOf_83, dX12_termOf_84, dX12_termOf_86, dX12_termOf_88, dX12_termOf_89, xX12_termOf_t89, dX12_termOf_92, dX12_termOf_94, xX12_termOf_t94, dX12_termOf_97, dX12_termOf_98, dX12_termOf_99, PT_X12_288, dX12_termOf_102, dX12_termOf_103, dX12_termOf_104, dX12_termOf_105, dX12_termOf_108, dX12_termOf_109, dX12_termOf_110, dX12_termOf_111, dX12_termOf_113, dX12_termOf_114, xX12_termOf_t114, dX12_termOf_117, dX12_termOf_119, dX12_termOf_121, dX12_termOf_122, xX12_termOf_t122, dX12_termOf_125, dX12_termOf_127, dX12_termOf_128, xX12_termOf_t128, dX12_termOf_131, dX12_termOf_133, dX12_termOf_135, dX12_termOf_136, xX12_termOf_t136, dX12_termOf_139, dX12_termOf_141, dX12_termOf_142, xX12_termOf_t142, dX12_termOf_145, dX12_termOf_147, dX12_termOf_149, dX12_termOf_150, xX12_termOf_t150, dX12_termOf_153, dX12_termOf_155, dX12_termOf_157, dX12_termOf_158, dX12_termOf_159, dX12_termOf_162, xX12_termOf_t162, dX12_termOf_165, dX12_termOf_166, dX12_termOf_169, dX12_termOf_170, dX12_termOf_171, xX12_termOf_SH, xX12_termOf_KF, xX12_termOf_rt, xX12_termOf_FT, xX12_termOf_PT, xX12_termOf_CT, xX12_termOf_KT, xX12_termOf_LT, xX12_termOf_NT, o_aload_n, o_getfield, o_goto, o_iadd, o_iaload, o_iastore, o_iconst, o_idiv, o_ifCond_ne, o_if_icmp_ge, o_if_icmp_ne, o_iinc, o_iload, o_iload_n, o_imul, o_ireturn, o_istore, o_istore_n, o_isub, o_putfield, SH_51, KF_51_43, SH_78, KF_51_39, SH_75, KF_51_42, SH_77, KF_51_38, SH_74, KF_51_44, am_ty, am_vc, am_opt, am_cl, am_find, am_ldi, am_ldl, am_lda, am_v, am_1, am_1l, am_1a, am_2, am_2l, am_ix, am_ri, am_arr, am_pf, am_rc, am_mask, am_lg, am_av, am_nat, fv_0, fv_1, fv_2, fv_3, fw_0, fw_1, List.getElem?_cons_zero, List.getElem?_cons_succ, List.set_cons_zero, List.set_cons_succ, List.length_cons, List.length_nil, List.take_succ_cons, List.take_zero, List.drop_succ_cons, List.drop_zero, List.reverse_cons, List.reverse_nil, List.nil_append, List.cons_append, List.append_nil, List.map_cons, List.map_nil, List.sum_cons, List.sum_nil, Value.category, Option.toList_some, Option.toList_none, Nat.reduceAdd, Nat.reduceLT, Nat.reduceLeDiff, Nat.reduceEqDiff, Nat.reduceSub, Nat.add_zero, Nat.le_refl, Nat.zero_le, Int.reduceNeg, Int.reduceLE, Int.reduceLT, true_and, and_true, and_self, if_true, if_false, ite_true, ite_false, eq_self_iff_true, reduceIte, reduceCtorEq, not_false_eq_true, not_true_eq_false, or_true, true_or, or_false, false_or, Nat.lt_irrefl, Nat.zero_lt_succ]
    simp (disch := omega) only [ii_0, ii_1, ii_t, ii_add, ii_sub, ii_mul, ii_lt, ii_le, ii_eq, ij_in, ii_c, Int.toNat_natCast, Int.toNat_zero, Int.reduceToNat, Int.reduceEq, Int.reduceNe, Int.reduceLE, Int.reduceLT, Int.reduceAdd, Int.reduceSub, Int.reduceMul, Int.reduceNeg, Nat.reduceLT, Nat.reduceAdd, Nat.reduceMul, not_false_eq_true, not_true_eq_false, true_and, and_true, and_self, false_and, and_false, true_implies, false_implies, implies_true, forall_const, if_true, if_false, ite_true, ite_false, reduceIte, eq_self_iff_true, Int.natCast_nonneg, Int.zero_add, Int.add_zero, pi_s, pi_n]
    exact ⟨fun _ => hpost _ _ hI, fun h => absurd h (by omega)⟩
/-- termOf's word: of codes that can be reckoned -/
def wyX12_termOf : am_Sp := fun as n σ post => ∃ a b s : Int, n = 92 ∧ as = [.ref 51, .int (Int32.ofInt a), .int (Int32.ofInt b)] ∧ sb_ok BB SH σ ∧ JJ σ ∧ (0 ≤ s ∧ s ≤ 1) ∧ Jpost σ s a b ∧ ∀ x τ, sI BB SH [(51, 44, 45), (78, 0, 400)] σ τ → post (some (.int x)) τ
theorem pX12_termOfy : am_B cX12_termOf xX12_termOf 8 0 wyX12_termOf := by
  intro n0 as σ post AA hA h
  obtain ⟨a, b, s, rfl, rfl, hB, hJ, hs, ⟨h1, h2, h3, h4, h5⟩, h⟩ := h
  refine ⟨by simp [am_sl, Value.category], ?_⟩
  show AA 0 [some (.ref 51), some (.int (Int32.ofInt a)), some (.int (Int32.ofInt b)), none, none, none, none, none] [] 92 σ
  refine hA [(5, 5)] 4 _ _ _ _ _ ?_
  simp only [dX12_termOf_0, dX12_termOf_1, dX12_termOf_2, dX12_termOf_3, dX12_termOf_5, dX12_termOf_7, dX12_termOf_8, xX12_termOf_t8, dX12_termOf_11, dX12_termOf_12, FT_X12_86, dX12_termOf_15, dX12_termOf_17, dX12_termOf_18, dX12_termOf_20, dX12_termOf_22, dX12_termOf_23, xX12_termOf_t23, dX12_termOf_26, dX12_termOf_27, FT_X12_98, dX12_termOf_30, dX12_termOf_31, dX12_termOf_33, xX12_termOf_t33, dX12_termOf_36, dX12_termOf_37, FT_X12_89, dX12_termOf_40, dX12_termOf_42, dX12_termOf_43, xX12_termOf_t43, dX12_termOf_46, dX12_termOf_47, FT_X12_95, dX12_termOf_50, dX12_termOf_51, dX12_termOf_54, dX12_termOf_56, dX12_termOf_57, dX12_termOf_58, dX12_termOf_59, dX12_termOf_62, xX12_termOf_t62, dX12_termOf_65, dX12_termOf_68, dX12_termOf_69, dX12_termOf_72, dX12_termOf_73, dX12_termOf_74, dX12_termOf_75, dX12_termOf_76, dX12_termOf_78, dX12_termOf_79, dX12_termOf_82, dX12_termOf_83, dX12_termOf_84, dX12_termOf_86, dX12_termOf_88, dX12_termOf_89, xX12_termOf_t89, dX12_termOf_92, dX12_termOf_94, xX12_termOf_t94, dX12_termOf_97, dX12_termOf_98, dX12_termOf_99, PT_X12_288, dX12_termOf_102, dX12_termOf_103, dX12_termOf_104, dX12_termOf_105, dX12_termOf_108, dX12_termOf_109, dX12_termOf_110, dX12_termOf_111, dX12_termOf_113, dX12_termOf_114, xX12_termOf_t114, dX12_termOf_117, dX12_termOf_119, dX12_termOf_121, dX12_termOf_122, xX12_termOf_t122, dX12_termOf_125, dX12_termOf_127, dX12_termOf_128, xX12_termOf_t128, dX12_termOf_131, dX12_termOf_133, dX12_termOf_135, dX12_termOf_136, xX12_termOf_t136, dX12_termOf_139, dX12_termOf_141, dX12_termOf_142, xX12_termOf_t142, dX12_termOf_145, dX12_termOf_147, dX12_termOf_149, dX12_termOf_150, xX12_termOf_t150, dX12_termOf_153, dX12_termOf_155, dX12_termOf_157, dX12_termOf_158, dX12_termOf_159, dX12_termOf_162, xX12_termOf_t162, dX12_termOf_165, dX12_termOf_166, dX12_termOf_169, dX12_termOf_170, dX12_termOf_171, xX12_termOf_SH, xX12_termOf_KF, xX12_termOf_rt, xX12_termOf_FT, xX12_termOf_PT, xX12_termOf_CT, xX12_termOf_KT, xX12_termOf_LT, xX12_termOf_NT, o_aload_n, o_getfield, o_goto, o_iadd, o_iaload, o_iastore, o_iconst, o_idiv, o_ifCond_ne, o_if_icmp_ge, o_if_icmp_ne, o_iinc, o_iload, o_iload_n, o_imul, o_ireturn, o_istore, o_istore_n, o_isub, o_putfield, SH_51, KF_51_43, SH_78, KF_51_39, SH_75, KF_51_42, SH_77, KF_51_38, SH_74, KF_51_44, am_ty, am_vc, am_opt, am_cl, am_find, am_ldi, am_ldl, am_lda, am_v, am_1, am_1l, am_1a, am_2, am_2l, am_ix, am_ri, am_arr, am_pf, am_rc, am_mask, am_lg, am_av, am_nat, fv_0, fv_1, fv_2, fv_3, fw_0, fw_1, List.getElem?_cons_zero, List.getElem?_cons_succ, List.set_cons_zero, List.set_cons_succ, List.length_cons, List.length_nil, List.take_succ_cons, List.take_zero, List.drop_succ_cons, List.drop_zero, List.reverse_cons, List.reverse_nil, List.nil_append, List.cons_append, List.append_nil, List.map_cons, List.map_nil, List.sum_cons, List.sum_nil, Value.category, Option.toList_some, Option.toList_none, Nat.reduceAdd, Nat.reduceLT, Nat.reduceLeDiff, Nat.reduceEqDiff, Nat.reduceSub, Nat.add_zero, Nat.le_refl, Nat.zero_le, Int.reduceNeg, Int.reduceLE, Int.reduceLT, true_and, and_true, and_self, if_true, if_false, ite_true, ite_false, eq_self_iff_true, reduceIte, reduceCtorEq, not_false_eq_true, not_true_eq_false, or_true, true_or, or_false, false_or, Nat.lt_irrefl, Nat.zero_lt_succ]
  exact tm_loop hA hJ.1.1 hB (by omega) (by omega) h4 h5 h _ a 0 σ (by omega) (by omega) rfl (by rw [Int.sub_self]; rfl) ⟨hB, sb_fr_r _ _⟩
theorem mX12_termOfy (l : Launch) : am_M l TB NB vwCl SH KF yX12_termOf cX12_termOf 8 (some .int) 2 0 0 wyX12_termOf := by
  exact am_M.of xX12_termOf (by decide +kernel) TB_good GF rfl rfl rfl (by decide) ⟨FT_X12_ok, PT_X12_ok _, CT_X12_ok, KT_X12_ok, LT_X12_ok, NT_X12_ok, fun _ h => absurd h List.not_mem_nil⟩ pX12_termOfy
def wX12_lawTells : List sa_A := [([.inr (.inl 51), .inl (0, 3), .inl (-2147483648, 2147483647)], [(some (.inl (-2147483648, 2147483647)), [])], [(51, 44, 45), (78, 0, 400)])]
/-! lawTells. Printed by wip/am/chk/hand/lt.in. -/
def sX12_termOf : am_Sp := wyX12_termOf
theorem mX12_termOf (l : Launch) : am_M l TB NB vwCl SH KF yX12_termOf cX12_termOf 8 (some .int) 2 0 0 sX12_termOf := mX12_termOfy l
def xX12_lawTells : am_X := (SH, KF, (some .int), FT_X12, PT_X12, CT_X12, KT_X12, LT_X12, NT_X12, [(321, 0, 3, 12, 0, 0, sX12_termOf)])
theorem xX12_lawTells_SH : am_SH xX12_lawTells = SH := rfl
theorem xX12_lawTells_KF : am_KF xX12_lawTells = KF := rfl
theorem xX12_lawTells_rt : am_rt xX12_lawTells = (some .int) := rfl
theorem xX12_lawTells_FT : am_FT xX12_lawTells = FT_X12 := rfl
theorem xX12_lawTells_PT : am_PT xX12_lawTells = PT_X12 := rfl
theorem xX12_lawTells_CT : am_CT xX12_lawTells = CT_X12 := rfl
theorem xX12_lawTells_KT : am_KT xX12_lawTells = KT_X12 := rfl
theorem xX12_lawTells_LT : am_LT xX12_lawTells = LT_X12 := rfl
theorem xX12_lawTells_NT : am_NT xX12_lawTells = NT_X12 := rfl
theorem xX12_lawTells_c321 : am_find (am_ML xX12_lawTells) 321 = some (0, 3, 12, 0, 0, sX12_termOf) := rfl
theorem xX12_lawTells_n321 : am_find NT_X12 321 = none := rfl
theorem xX12_lawTells_t21 (k : Nat → Prop) : am_tg 21 (5) k = k 26 := am_tg_eq (by decide)
theorem xX12_lawTells_t47 (k : Nat → Prop) : am_tg 47 (112) k = k 159 := am_tg_eq (by decide)
theorem xX12_lawTells_t57 (k : Nat → Prop) : am_tg 57 (62) k = k 119 := am_tg_eq (by decide)
theorem xX12_lawTells_t104 (k : Nat → Prop) : am_tg 104 (5) k = k 109 := am_tg_eq (by decide)
theorem xX12_lawTells_t113 (k : Nat → Prop) : am_tg 113 (6) k = k 119 := am_tg_eq (by decide)
theorem xX12_lawTells_t116 (k : Nat → Prop) : am_tg 116 (37) k = k 153 := am_tg_eq (by decide)
theorem xX12_lawTells_t143 (k : Nat → Prop) : am_tg 143 (7) k = k 150 := am_tg_eq (by decide)
theorem xX12_lawTells_t147 (k : Nat → Prop) : am_tg 147 (5) k = k 152 := am_tg_eq (by decide)
theorem xX12_lawTells_t156 (k : Nat → Prop) : am_tg 156 (-117) k = k 39 := am_tg_eq (by decide)

def lt_M : sa_M := [(51, 44, 45), (78, 0, 400)]
theorem lt_t {σ0 σ τ : am_S} (h : sI BB SH lt_M σ0 σ) (g : sI BB SH lt_M σ τ) : sI BB SH lt_M σ0 τ := ⟨g.1, sb_fr_t h.2 g.2⟩
theorem lt_J {σ0 σ : am_S} (h : sI BB SH lt_M σ0 σ) (hJ : JJ σ0) : JJ σ := JJ_fr (sm := [([], [], lt_M)]) (by decide +kernel) _ (List.mem_singleton.mpr rfl) σ0 σ hJ h.2
theorem lt_c {σ0 σ : am_S} (h : sI BB SH lt_M σ0 σ) : σ.1 74 = σ0.1 74 := funext fun k => tm_frame h (by decide) (by decide) k
theorem lt_put {σ0 σ : am_S} {v : Int} (h : sI BB SH lt_M σ0 σ) (hv : 0 ≤ v ∧ v ≤ 1) : sI BB SH lt_M σ0 (am_pi σ 51 44 (Int32.ofInt v)) := sI_fld (ci := 12) h rfl (by rw [ii_t (by omega) (by omega)]; exact hv) ⟨_, List.mem_cons_self, rfl, by decide, by decide⟩
set_option maxRecDepth 100000 in
theorem lt_119 {σ0 : am_S} {post : Option Value → am_S → Prop} {AA : Nat → List (Option Value) → List Value → Nat → am_S → Prop} (hA : ∀ cuts f pc ls stk n τ, am_vc cX12_lawTells xX12_lawTells (92 + 0) post AA cuts f pc ls stk n τ → AA pc ls stk n τ) (hJ : JJ σ0) (hpost : ∀ x τ, sI BB SH lt_M σ0 τ → post (some (.int x)) τ) {s b at_ : Int} {k p : Int32} (hs : 0 ≤ s ∧ s ≤ 1) (hb : 0 ≤ b ∧ b < 260) (hbr : Jbr σ0 s b.toNat) {σ : am_S} (hI : sI BB SH lt_M σ0 σ) : AA 119 [some (.ref 51), some (.int k), some (.int p), some (.int (Int32.ofInt at_)), some (.int (Int32.ofInt b)), none, none] [] 92 σ := by
  have e1 : σ.1 72 b.toNat = σ0.1 72 b.toNat := tm_frame hI (by decide) (by decide) _
  have e2 : σ.1 73 b.toNat = σ0.1 73 b.toNat := tm_frame hI (by decide) (by decide) _
  refine hA [] 12 _ _ _ _ _ ?_
  try simp only [dX12_lawTells_0, dX12_lawTells_1, dX12_lawTells_2, FT_X12_221, dX12_lawTells_5, dX12_lawTells_6, dX12_lawTells_7, dX12_lawTells_8, dX12_lawTells_9, dX12_lawTells_10, FT_X12_64, dX12_lawTells_13, dX12_lawTells_14, dX12_lawTells_15, dX12_lawTells_16, FT_X12_67, dX12_lawTells_19, dX12_lawTells_20, dX12_lawTells_21, xX12_lawTells_t21, dX12_lawTells_24, dX12_lawTells_25, dX12_lawTells_26, dX12_lawTells_27, dX12_lawTells_28, PT_X12_288, dX12_lawTells_31, dX12_lawTells_32, dX12_lawTells_35, dX12_lawTells_36, dX12_lawTells_37, dX12_lawTells_39, dX12_lawTells_41, dX12_lawTells_42, dX12_lawTells_45, dX12_lawTells_46, dX12_lawTells_47, xX12_lawTells_t47, dX12_lawTells_50, dX12_lawTells_51, FT_X12_70, dX12_lawTells_54, dX12_lawTells_56, dX12_lawTells_57, xX12_lawTells_t57, dX12_lawTells_60, dX12_lawTells_61, dX12_lawTells_62, FT_X12_74, dX12_lawTells_65, dX12_lawTells_67, dX12_lawTells_68, dX12_lawTells_69, FT_X12_77, dX12_lawTells_72, dX12_lawTells_74, dX12_lawTells_75, xX12_lawTells_c321, xX12_lawTells_n321, dX12_lawTells_78, dX12_lawTells_80, dX12_lawTells_81, dX12_lawTells_82, dX12_lawTells_85, dX12_lawTells_87, dX12_lawTells_88, dX12_lawTells_89, FT_X12_80, dX12_lawTells_92, dX12_lawTells_94, dX12_lawTells_95, dX12_lawTells_98, dX12_lawTells_100, dX12_lawTells_101, FT_X12_288, dX12_lawTells_104, xX12_lawTells_t104, dX12_lawTells_107, dX12_lawTells_108, dX12_lawTells_109, dX12_lawTells_111, dX12_lawTells_113, xX12_lawTells_t113, dX12_lawTells_116, xX12_lawTells_t116, dX12_lawTells_119, dX12_lawTells_120, dX12_lawTells_121, dX12_lawTells_124, dX12_lawTells_126, dX12_lawTells_127, dX12_lawTells_128, FT_X12_83, dX12_lawTells_131, dX12_lawTells_133, dX12_lawTells_134, dX12_lawTells_137, dX12_lawTells_139, dX12_lawTells_140, dX12_lawTells_143, xX12_lawTells_t143, dX12_lawTells_146, dX12_lawTells_147, xX12_lawTells_t147, dX12_lawTells_150, dX12_lawTells_152, dX12_lawTells_153, dX12_lawTells_156, xX12_lawTells_t156, dX12_lawTells_159, dX12_lawTells_160, xX12_lawTells_SH, xX12_lawTells_KF, xX12_lawTells_rt, xX12_lawTells_FT, xX12_lawTells_PT, xX12_lawTells_CT, xX12_lawTells_KT, xX12_lawTells_LT, xX12_lawTells_NT, o_aload_n, o_baload, o_getfield, o_goto, o_iadd, o_iaload, o_iconst, o_ifCond_eq, o_if_icmp_ge, o_if_icmp_lt, o_if_icmp_ne, o_iinc, o_iload, o_iload_n, o_imul, o_invokevirtual, o_ireturn, o_istore, o_istore_n, o_putfield, SH_51, KF_51_18, KF_51_34, SH_71, KF_51_30, SH_68, KF_51_33, SH_70, KF_51_36, SH_73, KF_51_32, SH_69, KF_51_29, SH_67, KF_51_35, SH_72, KF_51_44, am_ty, am_vc, am_opt, am_cl, am_find, am_ldi, am_ldl, am_lda, am_v, am_1, am_1l, am_1a, am_2, am_2l, am_ix, am_ri, am_arr, am_pf, am_rc, am_mask, am_lg, am_av, am_nat, fv_0, fv_1, fv_2, fv_3, fw_0, fw_1, List.getElem?_cons_zero, List.getElem?_cons_succ, List.set_cons_zero, List.set_cons_succ, List.length_cons, List.length_nil, List.take_succ_cons, List.take_zero, List.drop_succ_cons, List.drop_zero, List.reverse_cons, List.reverse_nil, List.nil_append, List.cons_append, List.append_nil, List.map_cons, List.map_nil, List.sum_cons, List.sum_nil, Value.category, Option.toList_some, Option.toList_none, Nat.reduceAdd, Nat.reduceLT, Nat.reduceLeDiff, Nat.reduceEqDiff, Nat.reduceSub, Nat.add_zero, Nat.le_refl, Nat.zero_le, Int.reduceNeg, Int.reduceLE, Int.reduceLT, true_and, and_true, and_self, if_true, if_false, ite_true, ite_false, eq_self_iff_true, reduceIte, reduceCtorEq, not_false_eq_true, not_true_eq_false, or_true, true_or, or_false, false_or, Nat.lt_irrefl, Nat.zero_lt_succ]
  try simp (disch := omega) only [ii_0, ii_1, ii_t, ii_add, ii_sub, ii_mul, ii_lt, ii_le, ii_eq, ij_in, ii_c, Int.toNat_natCast, Int.toNat_zero, Int.reduceToNat, Int.reduceEq, Int.reduceNe, Int.reduceLE, Int.reduceLT, Int.reduceAdd, Int.reduceSub, Int.reduceMul, Int.reduceNeg, Nat.reduceLT, Nat.reduceAdd, Nat.reduceMul, not_false_eq_true, not_true_eq_false, true_and, and_true, and_self, false_and, and_false, true_implies, false_implies, implies_true, forall_const, if_true, if_false, ite_true, ite_false, reduceIte, eq_self_iff_true, Int.natCast_nonneg, Int.zero_add, Int.add_zero, pi_s, pi_n, e1, e2]
  refine ⟨⟨by omega, by omega⟩, ⟨by omega, by omega⟩, _, _, s, rfl, by rw [← ii_of, ← ii_of], hI.1, lt_J hI hJ, hs, Jpost_of (lt_c hI) hbr.2.2, fun x τ hI' => ?_⟩
  have hI2 := lt_t hI hI'
  try simp only [dX12_lawTells_0, dX12_lawTells_1, dX12_lawTells_2, FT_X12_221, dX12_lawTells_5, dX12_lawTells_6, dX12_lawTells_7, dX12_lawTells_8, dX12_lawTells_9, dX12_lawTells_10, FT_X12_64, dX12_lawTells_13, dX12_lawTells_14, dX12_lawTells_15, dX12_lawTells_16, FT_X12_67, dX12_lawTells_19, dX12_lawTells_20, dX12_lawTells_21, xX12_lawTells_t21, dX12_lawTells_24, dX12_lawTells_25, dX12_lawTells_26, dX12_lawTells_27, dX12_lawTells_28, PT_X12_288, dX12_lawTells_31, dX12_lawTells_32, dX12_lawTells_35, dX12_lawTells_36, dX12_lawTells_37, dX12_lawTells_39, dX12_lawTells_41, dX12_lawTells_42, dX12_lawTells_45, dX12_lawTells_46, dX12_lawTells_47, xX12_lawTells_t47, dX12_lawTells_50, dX12_lawTells_51, FT_X12_70, dX12_lawTells_54, dX12_lawTells_56, dX12_lawTells_57, xX12_lawTells_t57, dX12_lawTells_60, dX12_lawTells_61, dX12_lawTells_62, FT_X12_74, dX12_lawTells_65, dX12_lawTells_67, dX12_lawTells_68, dX12_lawTells_69, FT_X12_77, dX12_lawTells_72, dX12_lawTells_74, dX12_lawTells_75, xX12_lawTells_c321, xX12_lawTells_n321, dX12_lawTells_78, dX12_lawTells_80, dX12_lawTells_81, dX12_lawTells_82, dX12_lawTells_85, dX12_lawTells_87, dX12_lawTells_88, dX12_lawTells_89, FT_X12_80, dX12_lawTells_92, dX12_lawTells_94, dX12_lawTells_95, dX12_lawTells_98, dX12_lawTells_100, dX12_lawTells_101, FT_X12_288, dX12_lawTells_104, xX12_lawTells_t104, dX12_lawTells_107, dX12_lawTells_108, dX12_lawTells_109, dX12_lawTells_111, dX12_lawTells_113, xX12_lawTells_t113, dX12_lawTells_116, xX12_lawTells_t116, dX12_lawTells_119, dX12_lawTells_120, dX12_lawTells_121, dX12_lawTells_124, dX12_lawTells_126, dX12_lawTells_127, dX12_lawTells_128, FT_X12_83, dX12_lawTells_131, dX12_lawTells_133, dX12_lawTells_134, dX12_lawTells_137, dX12_lawTells_139, dX12_lawTells_140, dX12_lawTells_143, xX12_lawTells_t143, dX12_lawTells_146, dX12_lawTells_147, xX12_lawTells_t147, dX12_lawTells_150, dX12_lawTells_152, dX12_lawTells_153, dX12_lawTells_156, xX12_lawTells_t156, dX12_lawTells_159, dX12_lawTells_160, xX12_lawTells_SH, xX12_lawTells_KF, xX12_lawTells_rt, xX12_lawTells_FT, xX12_lawTells_PT, xX12_lawTells_CT, xX12_lawTells_KT, xX12_lawTells_LT, xX12_lawTells_NT, o_aload_n, o_baload, o_getfield, o_goto, o_iadd, o_iaload, o_iconst, o_ifCond_eq, o_if_icmp_ge, o_if_icmp_lt, o_if_icmp_ne, o_iinc, o_iload, o_iload_n, o_imul, o_invokevirtual, o_ireturn, o_istore, o_istore_n, o_putfield, SH_51, KF_51_18, KF_51_34, SH_71, KF_51_30, SH_68, KF_51_33, SH_70, KF_51_36, SH_73, KF_51_32, SH_69, KF_51_29, SH_67, KF_51_35, SH_72, KF_51_44, am_ty, am_vc, am_opt, am_cl, am_find, am_ldi, am_ldl, am_lda, am_v, am_1, am_1l, am_1a, am_2, am_2l, am_ix, am_ri, am_arr, am_pf, am_rc, am_mask, am_lg, am_av, am_nat, fv_0, fv_1, fv_2, fv_3, fw_0, fw_1, List.getElem?_cons_zero, List.getElem?_cons_succ, List.set_cons_zero, List.set_cons_succ, List.length_cons, List.length_nil, List.take_succ_cons, List.take_zero, List.drop_succ_cons, List.drop_zero, List.reverse_cons, List.reverse_nil, List.nil_append, List.cons_append, List.append_nil, List.map_cons, List.map_nil, List.sum_cons, List.sum_nil, Value.category, Option.toList_some, Option.toList_none, Nat.reduceAdd, Nat.reduceLT, Nat.reduceLeDiff, Nat.reduceEqDiff, Nat.reduceSub, Nat.add_zero, Nat.le_refl, Nat.zero_le, Int.reduceNeg, Int.reduceLE, Int.reduceLT, true_and, and_true, and_self, if_true, if_false, ite_true, ite_false, eq_self_iff_true, reduceIte, reduceCtorEq, not_false_eq_true, not_true_eq_false, or_true, true_or, or_false, false_or, Nat.lt_irrefl, Nat.zero_lt_succ]
  refine hA [] 8 _ _ _ _ _ ?_
  try simp only [dX12_lawTells_0, dX12_lawTells_1, dX12_lawTells_2, FT_X12_221, dX12_lawTells_5, dX12_lawTells_6, dX12_lawTells_7, dX12_lawTells_8, dX12_lawTells_9, dX12_lawTells_10, FT_X12_64, dX12_lawTells_13, dX12_lawTells_14, dX12_lawTells_15, dX12_lawTells_16, FT_X12_67, dX12_lawTells_19, dX12_lawTells_20, dX12_lawTells_21, xX12_lawTells_t21, dX12_lawTells_24, dX12_lawTells_25, dX12_lawTells_26, dX12_lawTells_27, dX12_lawTells_28, PT_X12_288, dX12_lawTells_31, dX12_lawTells_32, dX12_lawTells_35, dX12_lawTells_36, dX12_lawTells_37, dX12_lawTells_39, dX12_lawTells_41, dX12_lawTells_42, dX12_lawTells_45, dX12_lawTells_46, dX12_lawTells_47, xX12_lawTells_t47, dX12_lawTells_50, dX12_lawTells_51, FT_X12_70, dX12_lawTells_54, dX12_lawTells_56, dX12_lawTells_57, xX12_lawTells_t57, dX12_lawTells_60, dX12_lawTells_61, dX12_lawTells_62, FT_X12_74, dX12_lawTells_65, dX12_lawTells_67, dX12_lawTells_68, dX12_lawTells_69, FT_X12_77, dX12_lawTells_72, dX12_lawTells_74, dX12_lawTells_75, xX12_lawTells_c321, xX12_lawTells_n321, dX12_lawTells_78, dX12_lawTells_80, dX12_lawTells_81, dX12_lawTells_82, dX12_lawTells_85, dX12_lawTells_87, dX12_lawTells_88, dX12_lawTells_89, FT_X12_80, dX12_lawTells_92, dX12_lawTells_94, dX12_lawTells_95, dX12_lawTells_98, dX12_lawTells_100, dX12_lawTells_101, FT_X12_288, dX12_lawTells_104, xX12_lawTells_t104, dX12_lawTells_107, dX12_lawTells_108, dX12_lawTells_109, dX12_lawTells_111, dX12_lawTells_113, xX12_lawTells_t113, dX12_lawTells_116, xX12_lawTells_t116, dX12_lawTells_119, dX12_lawTells_120, dX12_lawTells_121, dX12_lawTells_124, dX12_lawTells_126, dX12_lawTells_127, dX12_lawTells_128, FT_X12_83, dX12_lawTells_131, dX12_lawTells_133, dX12_lawTells_134, dX12_lawTells_137, dX12_lawTells_139, dX12_lawTells_140, dX12_lawTells_143, xX12_lawTells_t143, dX12_lawTells_146, dX12_lawTells_147, xX12_lawTells_t147, dX12_lawTells_150, dX12_lawTells_152, dX12_lawTells_153, dX12_lawTells_156, xX12_lawTells_t156, dX12_lawTells_159, dX12_lawTells_160, xX12_lawTells_SH, xX12_lawTells_KF, xX12_lawTells_rt, xX12_lawTells_FT, xX12_lawTells_PT, xX12_lawTells_CT, xX12_lawTells_KT, xX12_lawTells_LT, xX12_lawTells_NT, o_aload_n, o_baload, o_getfield, o_goto, o_iadd, o_iaload, o_iconst, o_ifCond_eq, o_if_icmp_ge, o_if_icmp_lt, o_if_icmp_ne, o_iinc, o_iload, o_iload_n, o_imul, o_invokevirtual, o_ireturn, o_istore, o_istore_n, o_putfield, SH_51, KF_51_18, KF_51_34, SH_71, KF_51_30, SH_68, KF_51_33, SH_70, KF_51_36, SH_73, KF_51_32, SH_69, KF_51_29, SH_67, KF_51_35, SH_72, KF_51_44, am_ty, am_vc, am_opt, am_cl, am_find, am_ldi, am_ldl, am_lda, am_v, am_1, am_1l, am_1a, am_2, am_2l, am_ix, am_ri, am_arr, am_pf, am_rc, am_mask, am_lg, am_av, am_nat, fv_0, fv_1, fv_2, fv_3, fw_0, fw_1, List.getElem?_cons_zero, List.getElem?_cons_succ, List.set_cons_zero, List.set_cons_succ, List.length_cons, List.length_nil, List.take_succ_cons, List.take_zero, List.drop_succ_cons, List.drop_zero, List.reverse_cons, List.reverse_nil, List.nil_append, List.cons_append, List.append_nil, List.map_cons, List.map_nil, List.sum_cons, List.sum_nil, Value.category, Option.toList_some, Option.toList_none, Nat.reduceAdd, Nat.reduceLT, Nat.reduceLeDiff, Nat.reduceEqDiff, Nat.reduceSub, Nat.add_zero, Nat.le_refl, Nat.zero_le, Int.reduceNeg, Int.reduceLE, Int.reduceLT, true_and, and_true, and_self, if_true, if_false, ite_true, ite_false, eq_self_iff_true, reduceIte, reduceCtorEq, not_false_eq_true, not_true_eq_false, or_true, true_or, or_false, false_or, Nat.lt_irrefl, Nat.zero_lt_succ]
  try simp (disch := omega) only [ii_0, ii_1, ii_t, ii_add, ii_sub, ii_mul, ii_lt, ii_le, ii_eq, ij_in, ii_c, Int.toNat_natCast, Int.toNat_zero, Int.reduceToNat, Int.reduceEq, Int.reduceNe, Int.reduceLE, Int.reduceLT, Int.reduceAdd, Int.reduceSub, Int.reduceMul, Int.reduceNeg, Nat.reduceLT, Nat.reduceAdd, Nat.reduceMul, not_false_eq_true, not_true_eq_false, true_and, and_true, and_self, false_and, and_false, true_implies, false_implies, implies_true, forall_const, if_true, if_false, ite_true, ite_false, reduceIte, eq_self_iff_true, Int.natCast_nonneg, Int.zero_add, Int.add_zero, pi_s, pi_n]
  exact ⟨fun _ => hpost _ _ hI2, fun _ => hpost _ _ hI2⟩
set_option maxRecDepth 100000 in
theorem lt_loop {σ0 : am_S} {post : Option Value → am_S → Prop} {AA : Nat → List (Option Value) → List Value → Nat → am_S → Prop} (hA : ∀ cuts f pc ls stk n τ, am_vc cX12_lawTells xX12_lawTells (92 + 0) post AA cuts f pc ls stk n τ → AA pc ls stk n τ) (hJ : JJ σ0) (hB0 : sb_ok BB SH σ0) (hpost : ∀ x τ, sI BB SH lt_M σ0 τ → post (some (.int x)) τ) {at_ : Int} {k p : Int32} {kk : Nat} (hk : kk < 4) (hat : at_ = 4 * (σ0.1 51 18).toInt + (kk : Int)) : ∀ (m : Nat) (b : Int) (σ : am_S), (σ0.1 67 at_.toNat).toInt ≤ b → b ≤ 260 → (260 - b).toNat = m → sI BB SH lt_M σ0 σ → AA 39 [some (.ref 51), some (.int k), some (.int p), some (.int (Int32.ofInt at_)), some (.int (Int32.ofInt b)), none, none] [] 92 σ := by
  have hlv := hB0.2 51 12 18 rfl
  have hl1 : (0 : Int) ≤ (σ0.1 51 18).toInt := hlv.1
  have hl2 : (σ0.1 51 18).toInt ≤ 1 := hlv.2
  have hf := hB0.1 67 (0, 8) at_.toNat rfl (by show at_.toNat < 8; omega)
  rw [sb_1 (q := (0, 260)) rfl] at hf
  have hf1 : (0 : Int) ≤ (σ0.1 67 at_.toNat).toInt := hf.1
  have hg := hB0.1 68 (0, 8) at_.toNat rfl (by show at_.toNat < 8; omega)
  rw [sb_1 (q := (0, 260)) rfl] at hg
  have hg1 : (0 : Int) ≤ (σ0.1 68 at_.toNat).toInt := hg.1
  have hg2 : (σ0.1 68 at_.toNat).toInt ≤ 260 := hg.2
  intro m
  induction m using Nat.strongRecOn with
  | ind m ih =>
  intro b σ h1 h2 hm hI
  obtain ⟨ll, el⟩ : ∃ ll, ll = (σ0.1 68 at_.toNat).toInt := ⟨_, rfl⟩
  have e3 : σ.1 68 at_.toNat = Int32.ofInt ll := by rw [tm_frame hI (by decide) (by decide) _, el, ← ii_of]
  rw [← el] at hg1 hg2
  refine hA [(60, 5), (119, 5)] 14 _ _ _ _ _ ?_
  try simp only [dX12_lawTells_0, dX12_lawTells_1, dX12_lawTells_2, FT_X12_221, dX12_lawTells_5, dX12_lawTells_6, dX12_lawTells_7, dX12_lawTells_8, dX12_lawTells_9, dX12_lawTells_10, FT_X12_64, dX12_lawTells_13, dX12_lawTells_14, dX12_lawTells_15, dX12_lawTells_16, FT_X12_67, dX12_lawTells_19, dX12_lawTells_20, dX12_lawTells_21, xX12_lawTells_t21, dX12_lawTells_24, dX12_lawTells_25, dX12_lawTells_26, dX12_lawTells_27, dX12_lawTells_28, PT_X12_288, dX12_lawTells_31, dX12_lawTells_32, dX12_lawTells_35, dX12_lawTells_36, dX12_lawTells_37, dX12_lawTells_39, dX12_lawTells_41, dX12_lawTells_42, dX12_lawTells_45, dX12_lawTells_46, dX12_lawTells_47, xX12_lawTells_t47, dX12_lawTells_50, dX12_lawTells_51, FT_X12_70, dX12_lawTells_54, dX12_lawTells_56, dX12_lawTells_57, xX12_lawTells_t57, dX12_lawTells_60, dX12_lawTells_61, dX12_lawTells_62, FT_X12_74, dX12_lawTells_65, dX12_lawTells_67, dX12_lawTells_68, dX12_lawTells_69, FT_X12_77, dX12_lawTells_72, dX12_lawTells_74, dX12_lawTells_75, xX12_lawTells_c321, xX12_lawTells_n321, dX12_lawTells_78, dX12_lawTells_80, dX12_lawTells_81, dX12_lawTells_82, dX12_lawTells_85, dX12_lawTells_87, dX12_lawTells_88, dX12_lawTells_89, FT_X12_80, dX12_lawTells_92, dX12_lawTells_94, dX12_lawTells_95, dX12_lawTells_98, dX12_lawTells_100, dX12_lawTells_101, FT_X12_288, dX12_lawTells_104, xX12_lawTells_t104, dX12_lawTells_107, dX12_lawTells_108, dX12_lawTells_109, dX12_lawTells_111, dX12_lawTells_113, xX12_lawTells_t113, dX12_lawTells_116, xX12_lawTells_t116, dX12_lawTells_119, dX12_lawTells_120, dX12_lawTells_121, dX12_lawTells_124, dX12_lawTells_126, dX12_lawTells_127, dX12_lawTells_128, FT_X12_83, dX12_lawTells_131, dX12_lawTells_133, dX12_lawTells_134, dX12_lawTells_137, dX12_lawTells_139, dX12_lawTells_140, dX12_lawTells_143, xX12_lawTells_t143, dX12_lawTells_146, dX12_lawTells_147, xX12_lawTells_t147, dX12_lawTells_150, dX12_lawTells_152, dX12_lawTells_153, dX12_lawTells_156, xX12_lawTells_t156, dX12_lawTells_159, dX12_lawTells_160, xX12_lawTells_SH, xX12_lawTells_KF, xX12_lawTells_rt, xX12_lawTells_FT, xX12_lawTells_PT, xX12_lawTells_CT, xX12_lawTells_KT, xX12_lawTells_LT, xX12_lawTells_NT, o_aload_n, o_baload, o_getfield, o_goto, o_iadd, o_iaload, o_iconst, o_ifCond_eq, o_if_icmp_ge, o_if_icmp_lt, o_if_icmp_ne, o_iinc, o_iload, o_iload_n, o_imul, o_invokevirtual, o_ireturn, o_istore, o_istore_n, o_putfield, SH_51, KF_51_18, KF_51_34, SH_71, KF_51_30, SH_68, KF_51_33, SH_70, KF_51_36, SH_73, KF_51_32, SH_69, KF_51_29, SH_67, KF_51_35, SH_72, KF_51_44, am_ty, am_vc, am_opt, am_cl, am_find, am_ldi, am_ldl, am_lda, am_v, am_1, am_1l, am_1a, am_2, am_2l, am_ix, am_ri, am_arr, am_pf, am_rc, am_mask, am_lg, am_av, am_nat, fv_0, fv_1, fv_2, fv_3, fw_0, fw_1, List.getElem?_cons_zero, List.getElem?_cons_succ, List.set_cons_zero, List.set_cons_succ, List.length_cons, List.length_nil, List.take_succ_cons, List.take_zero, List.drop_succ_cons, List.drop_zero, List.reverse_cons, List.reverse_nil, List.nil_append, List.cons_append, List.append_nil, List.map_cons, List.map_nil, List.sum_cons, List.sum_nil, Value.category, Option.toList_some, Option.toList_none, Nat.reduceAdd, Nat.reduceLT, Nat.reduceLeDiff, Nat.reduceEqDiff, Nat.reduceSub, Nat.add_zero, Nat.le_refl, Nat.zero_le, Int.reduceNeg, Int.reduceLE, Int.reduceLT, true_and, and_true, and_self, if_true, if_false, ite_true, ite_false, eq_self_iff_true, reduceIte, reduceCtorEq, not_false_eq_true, not_true_eq_false, or_true, true_or, or_false, false_or, Nat.lt_irrefl, Nat.zero_lt_succ]
  try simp (disch := omega) only [ii_0, ii_1, ii_t, ii_add, ii_sub, ii_mul, ii_lt, ii_le, ii_eq, ij_in, ii_c, Int.toNat_natCast, Int.toNat_zero, Int.reduceToNat, Int.reduceEq, Int.reduceNe, Int.reduceLE, Int.reduceLT, Int.reduceAdd, Int.reduceSub, Int.reduceMul, Int.reduceNeg, Nat.reduceLT, Nat.reduceAdd, Nat.reduceMul, not_false_eq_true, not_true_eq_false, true_and, and_true, and_self, false_and, and_false, true_implies, false_implies, implies_true, forall_const, if_true, if_false, ite_true, ite_false, reduceIte, eq_self_iff_true, Int.natCast_nonneg, Int.zero_add, Int.add_zero, pi_s, pi_n, e3]
  refine ⟨⟨by omega, by omega⟩, fun _ => ?_, fun hlt => ?_⟩
  · exact hpost _ _ hI
  have hjb : Jbr σ0 (σ0.1 51 18).toInt b.toNat := hJ.1.2 kk hk b.toNat (by rw [show 4 * (σ0.1 51 18).toInt.toNat + kk = at_.toNat by omega]; omega) (by rw [show 4 * (σ0.1 51 18).toInt.toNat + kk = at_.toNat by omega, ← el]; omega)
  have go : AA 119 [some (.ref 51), some (.int k), some (.int p), some (.int (Int32.ofInt at_)), some (.int (Int32.ofInt b)), none, none] [] 92 σ := lt_119 hA hJ hpost ⟨hl1, hl2⟩ ⟨by omega, by omega⟩ hjb hI
  have hht : σ.1 69 b.toNat = σ0.1 69 b.toNat := tm_frame hI (by decide) (by decide) _
  refine ⟨⟨by omega, by omega⟩, fun _ => go, fun hn => ?_⟩
  have hn2 : ¬ σ0.1 69 b.toNat = 0 := by
    rw [← hht]
    exact hn
  obtain ⟨j1, j2⟩ := hjb.2.1 hn2
  have e4 : σ.1 70 b.toNat = σ0.1 70 b.toNat := tm_frame hI (by decide) (by decide) _
  have e5 : σ.1 71 b.toNat = σ0.1 71 b.toNat := tm_frame hI (by decide) (by decide) _
  refine hA [] 12 _ _ _ _ _ ?_
  try simp only [dX12_lawTells_0, dX12_lawTells_1, dX12_lawTells_2, FT_X12_221, dX12_lawTells_5, dX12_lawTells_6, dX12_lawTells_7, dX12_lawTells_8, dX12_lawTells_9, dX12_lawTells_10, FT_X12_64, dX12_lawTells_13, dX12_lawTells_14, dX12_lawTells_15, dX12_lawTells_16, FT_X12_67, dX12_lawTells_19, dX12_lawTells_20, dX12_lawTells_21, xX12_lawTells_t21, dX12_lawTells_24, dX12_lawTells_25, dX12_lawTells_26, dX12_lawTells_27, dX12_lawTells_28, PT_X12_288, dX12_lawTells_31, dX12_lawTells_32, dX12_lawTells_35, dX12_lawTells_36, dX12_lawTells_37, dX12_lawTells_39, dX12_lawTells_41, dX12_lawTells_42, dX12_lawTells_45, dX12_lawTells_46, dX12_lawTells_47, xX12_lawTells_t47, dX12_lawTells_50, dX12_lawTells_51, FT_X12_70, dX12_lawTells_54, dX12_lawTells_56, dX12_lawTells_57, xX12_lawTells_t57, dX12_lawTells_60, dX12_lawTells_61, dX12_lawTells_62, FT_X12_74, dX12_lawTells_65, dX12_lawTells_67, dX12_lawTells_68, dX12_lawTells_69, FT_X12_77, dX12_lawTells_72, dX12_lawTells_74, dX12_lawTells_75, xX12_lawTells_c321, xX12_lawTells_n321, dX12_lawTells_78, dX12_lawTells_80, dX12_lawTells_81, dX12_lawTells_82, dX12_lawTells_85, dX12_lawTells_87, dX12_lawTells_88, dX12_lawTells_89, FT_X12_80, dX12_lawTells_92, dX12_lawTells_94, dX12_lawTells_95, dX12_lawTells_98, dX12_lawTells_100, dX12_lawTells_101, FT_X12_288, dX12_lawTells_104, xX12_lawTells_t104, dX12_lawTells_107, dX12_lawTells_108, dX12_lawTells_109, dX12_lawTells_111, dX12_lawTells_113, xX12_lawTells_t113, dX12_lawTells_116, xX12_lawTells_t116, dX12_lawTells_119, dX12_lawTells_120, dX12_lawTells_121, dX12_lawTells_124, dX12_lawTells_126, dX12_lawTells_127, dX12_lawTells_128, FT_X12_83, dX12_lawTells_131, dX12_lawTells_133, dX12_lawTells_134, dX12_lawTells_137, dX12_lawTells_139, dX12_lawTells_140, dX12_lawTells_143, xX12_lawTells_t143, dX12_lawTells_146, dX12_lawTells_147, xX12_lawTells_t147, dX12_lawTells_150, dX12_lawTells_152, dX12_lawTells_153, dX12_lawTells_156, xX12_lawTells_t156, dX12_lawTells_159, dX12_lawTells_160, xX12_lawTells_SH, xX12_lawTells_KF, xX12_lawTells_rt, xX12_lawTells_FT, xX12_lawTells_PT, xX12_lawTells_CT, xX12_lawTells_KT, xX12_lawTells_LT, xX12_lawTells_NT, o_aload_n, o_baload, o_getfield, o_goto, o_iadd, o_iaload, o_iconst, o_ifCond_eq, o_if_icmp_ge, o_if_icmp_lt, o_if_icmp_ne, o_iinc, o_iload, o_iload_n, o_imul, o_invokevirtual, o_ireturn, o_istore, o_istore_n, o_putfield, SH_51, KF_51_18, KF_51_34, SH_71, KF_51_30, SH_68, KF_51_33, SH_70, KF_51_36, SH_73, KF_51_32, SH_69, KF_51_29, SH_67, KF_51_35, SH_72, KF_51_44, am_ty, am_vc, am_opt, am_cl, am_find, am_ldi, am_ldl, am_lda, am_v, am_1, am_1l, am_1a, am_2, am_2l, am_ix, am_ri, am_arr, am_pf, am_rc, am_mask, am_lg, am_av, am_nat, fv_0, fv_1, fv_2, fv_3, fw_0, fw_1, List.getElem?_cons_zero, List.getElem?_cons_succ, List.set_cons_zero, List.set_cons_succ, List.length_cons, List.length_nil, List.take_succ_cons, List.take_zero, List.drop_succ_cons, List.drop_zero, List.reverse_cons, List.reverse_nil, List.nil_append, List.cons_append, List.append_nil, List.map_cons, List.map_nil, List.sum_cons, List.sum_nil, Value.category, Option.toList_some, Option.toList_none, Nat.reduceAdd, Nat.reduceLT, Nat.reduceLeDiff, Nat.reduceEqDiff, Nat.reduceSub, Nat.add_zero, Nat.le_refl, Nat.zero_le, Int.reduceNeg, Int.reduceLE, Int.reduceLT, true_and, and_true, and_self, if_true, if_false, ite_true, ite_false, eq_self_iff_true, reduceIte, reduceCtorEq, not_false_eq_true, not_true_eq_false, or_true, true_or, or_false, false_or, Nat.lt_irrefl, Nat.zero_lt_succ]
  try simp (disch := omega) only [ii_0, ii_1, ii_t, ii_add, ii_sub, ii_mul, ii_lt, ii_le, ii_eq, ij_in, ii_c, Int.toNat_natCast, Int.toNat_zero, Int.reduceToNat, Int.reduceEq, Int.reduceNe, Int.reduceLE, Int.reduceLT, Int.reduceAdd, Int.reduceSub, Int.reduceMul, Int.reduceNeg, Nat.reduceLT, Nat.reduceAdd, Nat.reduceMul, not_false_eq_true, not_true_eq_false, true_and, and_true, and_self, false_and, and_false, true_implies, false_implies, implies_true, forall_const, if_true, if_false, ite_true, ite_false, reduceIte, eq_self_iff_true, Int.natCast_nonneg, Int.zero_add, Int.add_zero, pi_s, pi_n, e4, e5]
  refine ⟨⟨by omega, by omega⟩, ⟨by omega, by omega⟩, _, _, _, rfl, by rw [← ii_of, ← ii_of], hI.1, lt_J hI hJ, ⟨hl1, hl2⟩, Jpost_of (lt_c hI) j1, fun x τ hI' => ?_⟩
  have hI2 := lt_t hI hI'
  have e6 : τ.1 71 b.toNat = σ0.1 71 b.toNat := tm_frame hI2 (by decide) (by decide) _
  have e7 : τ.1 72 b.toNat = σ0.1 72 b.toNat := tm_frame hI2 (by decide) (by decide) _
  try simp only [dX12_lawTells_0, dX12_lawTells_1, dX12_lawTells_2, FT_X12_221, dX12_lawTells_5, dX12_lawTells_6, dX12_lawTells_7, dX12_lawTells_8, dX12_lawTells_9, dX12_lawTells_10, FT_X12_64, dX12_lawTells_13, dX12_lawTells_14, dX12_lawTells_15, dX12_lawTells_16, FT_X12_67, dX12_lawTells_19, dX12_lawTells_20, dX12_lawTells_21, xX12_lawTells_t21, dX12_lawTells_24, dX12_lawTells_25, dX12_lawTells_26, dX12_lawTells_27, dX12_lawTells_28, PT_X12_288, dX12_lawTells_31, dX12_lawTells_32, dX12_lawTells_35, dX12_lawTells_36, dX12_lawTells_37, dX12_lawTells_39, dX12_lawTells_41, dX12_lawTells_42, dX12_lawTells_45, dX12_lawTells_46, dX12_lawTells_47, xX12_lawTells_t47, dX12_lawTells_50, dX12_lawTells_51, FT_X12_70, dX12_lawTells_54, dX12_lawTells_56, dX12_lawTells_57, xX12_lawTells_t57, dX12_lawTells_60, dX12_lawTells_61, dX12_lawTells_62, FT_X12_74, dX12_lawTells_65, dX12_lawTells_67, dX12_lawTells_68, dX12_lawTells_69, FT_X12_77, dX12_lawTells_72, dX12_lawTells_74, dX12_lawTells_75, xX12_lawTells_c321, xX12_lawTells_n321, dX12_lawTells_78, dX12_lawTells_80, dX12_lawTells_81, dX12_lawTells_82, dX12_lawTells_85, dX12_lawTells_87, dX12_lawTells_88, dX12_lawTells_89, FT_X12_80, dX12_lawTells_92, dX12_lawTells_94, dX12_lawTells_95, dX12_lawTells_98, dX12_lawTells_100, dX12_lawTells_101, FT_X12_288, dX12_lawTells_104, xX12_lawTells_t104, dX12_lawTells_107, dX12_lawTells_108, dX12_lawTells_109, dX12_lawTells_111, dX12_lawTells_113, xX12_lawTells_t113, dX12_lawTells_116, xX12_lawTells_t116, dX12_lawTells_119, dX12_lawTells_120, dX12_lawTells_121, dX12_lawTells_124, dX12_lawTells_126, dX12_lawTells_127, dX12_lawTells_128, FT_X12_83, dX12_lawTells_131, dX12_lawTells_133, dX12_lawTells_134, dX12_lawTells_137, dX12_lawTells_139, dX12_lawTells_140, dX12_lawTells_143, xX12_lawTells_t143, dX12_lawTells_146, dX12_lawTells_147, xX12_lawTells_t147, dX12_lawTells_150, dX12_lawTells_152, dX12_lawTells_153, dX12_lawTells_156, xX12_lawTells_t156, dX12_lawTells_159, dX12_lawTells_160, xX12_lawTells_SH, xX12_lawTells_KF, xX12_lawTells_rt, xX12_lawTells_FT, xX12_lawTells_PT, xX12_lawTells_CT, xX12_lawTells_KT, xX12_lawTells_LT, xX12_lawTells_NT, o_aload_n, o_baload, o_getfield, o_goto, o_iadd, o_iaload, o_iconst, o_ifCond_eq, o_if_icmp_ge, o_if_icmp_lt, o_if_icmp_ne, o_iinc, o_iload, o_iload_n, o_imul, o_invokevirtual, o_ireturn, o_istore, o_istore_n, o_putfield, SH_51, KF_51_18, KF_51_34, SH_71, KF_51_30, SH_68, KF_51_33, SH_70, KF_51_36, SH_73, KF_51_32, SH_69, KF_51_29, SH_67, KF_51_35, SH_72, KF_51_44, am_ty, am_vc, am_opt, am_cl, am_find, am_ldi, am_ldl, am_lda, am_v, am_1, am_1l, am_1a, am_2, am_2l, am_ix, am_ri, am_arr, am_pf, am_rc, am_mask, am_lg, am_av, am_nat, fv_0, fv_1, fv_2, fv_3, fw_0, fw_1, List.getElem?_cons_zero, List.getElem?_cons_succ, List.set_cons_zero, List.set_cons_succ, List.length_cons, List.length_nil, List.take_succ_cons, List.take_zero, List.drop_succ_cons, List.drop_zero, List.reverse_cons, List.reverse_nil, List.nil_append, List.cons_append, List.append_nil, List.map_cons, List.map_nil, List.sum_cons, List.sum_nil, Value.category, Option.toList_some, Option.toList_none, Nat.reduceAdd, Nat.reduceLT, Nat.reduceLeDiff, Nat.reduceEqDiff, Nat.reduceSub, Nat.add_zero, Nat.le_refl, Nat.zero_le, Int.reduceNeg, Int.reduceLE, Int.reduceLT, true_and, and_true, and_self, if_true, if_false, ite_true, ite_false, eq_self_iff_true, reduceIte, reduceCtorEq, not_false_eq_true, not_true_eq_false, or_true, true_or, or_false, false_or, Nat.lt_irrefl, Nat.zero_lt_succ]
  refine hA [] 12 _ _ _ _ _ ?_
  try simp only [dX12_lawTells_0, dX12_lawTells_1, dX12_lawTells_2, FT_X12_221, dX12_lawTells_5, dX12_lawTells_6, dX12_lawTells_7, dX12_lawTells_8, dX12_lawTells_9, dX12_lawTells_10, FT_X12_64, dX12_lawTells_13, dX12_lawTells_14, dX12_lawTells_15, dX12_lawTells_16, FT_X12_67, dX12_lawTells_19, dX12_lawTells_20, dX12_lawTells_21, xX12_lawTells_t21, dX12_lawTells_24, dX12_lawTells_25, dX12_lawTells_26, dX12_lawTells_27, dX12_lawTells_28, PT_X12_288, dX12_lawTells_31, dX12_lawTells_32, dX12_lawTells_35, dX12_lawTells_36, dX12_lawTells_37, dX12_lawTells_39, dX12_lawTells_41, dX12_lawTells_42, dX12_lawTells_45, dX12_lawTells_46, dX12_lawTells_47, xX12_lawTells_t47, dX12_lawTells_50, dX12_lawTells_51, FT_X12_70, dX12_lawTells_54, dX12_lawTells_56, dX12_lawTells_57, xX12_lawTells_t57, dX12_lawTells_60, dX12_lawTells_61, dX12_lawTells_62, FT_X12_74, dX12_lawTells_65, dX12_lawTells_67, dX12_lawTells_68, dX12_lawTells_69, FT_X12_77, dX12_lawTells_72, dX12_lawTells_74, dX12_lawTells_75, xX12_lawTells_c321, xX12_lawTells_n321, dX12_lawTells_78, dX12_lawTells_80, dX12_lawTells_81, dX12_lawTells_82, dX12_lawTells_85, dX12_lawTells_87, dX12_lawTells_88, dX12_lawTells_89, FT_X12_80, dX12_lawTells_92, dX12_lawTells_94, dX12_lawTells_95, dX12_lawTells_98, dX12_lawTells_100, dX12_lawTells_101, FT_X12_288, dX12_lawTells_104, xX12_lawTells_t104, dX12_lawTells_107, dX12_lawTells_108, dX12_lawTells_109, dX12_lawTells_111, dX12_lawTells_113, xX12_lawTells_t113, dX12_lawTells_116, xX12_lawTells_t116, dX12_lawTells_119, dX12_lawTells_120, dX12_lawTells_121, dX12_lawTells_124, dX12_lawTells_126, dX12_lawTells_127, dX12_lawTells_128, FT_X12_83, dX12_lawTells_131, dX12_lawTells_133, dX12_lawTells_134, dX12_lawTells_137, dX12_lawTells_139, dX12_lawTells_140, dX12_lawTells_143, xX12_lawTells_t143, dX12_lawTells_146, dX12_lawTells_147, xX12_lawTells_t147, dX12_lawTells_150, dX12_lawTells_152, dX12_lawTells_153, dX12_lawTells_156, xX12_lawTells_t156, dX12_lawTells_159, dX12_lawTells_160, xX12_lawTells_SH, xX12_lawTells_KF, xX12_lawTells_rt, xX12_lawTells_FT, xX12_lawTells_PT, xX12_lawTells_CT, xX12_lawTells_KT, xX12_lawTells_LT, xX12_lawTells_NT, o_aload_n, o_baload, o_getfield, o_goto, o_iadd, o_iaload, o_iconst, o_ifCond_eq, o_if_icmp_ge, o_if_icmp_lt, o_if_icmp_ne, o_iinc, o_iload, o_iload_n, o_imul, o_invokevirtual, o_ireturn, o_istore, o_istore_n, o_putfield, SH_51, KF_51_18, KF_51_34, SH_71, KF_51_30, SH_68, KF_51_33, SH_70, KF_51_36, SH_73, KF_51_32, SH_69, KF_51_29, SH_67, KF_51_35, SH_72, KF_51_44, am_ty, am_vc, am_opt, am_cl, am_find, am_ldi, am_ldl, am_lda, am_v, am_1, am_1l, am_1a, am_2, am_2l, am_ix, am_ri, am_arr, am_pf, am_rc, am_mask, am_lg, am_av, am_nat, fv_0, fv_1, fv_2, fv_3, fw_0, fw_1, List.getElem?_cons_zero, List.getElem?_cons_succ, List.set_cons_zero, List.set_cons_succ, List.length_cons, List.length_nil, List.take_succ_cons, List.take_zero, List.drop_succ_cons, List.drop_zero, List.reverse_cons, List.reverse_nil, List.nil_append, List.cons_append, List.append_nil, List.map_cons, List.map_nil, List.sum_cons, List.sum_nil, Value.category, Option.toList_some, Option.toList_none, Nat.reduceAdd, Nat.reduceLT, Nat.reduceLeDiff, Nat.reduceEqDiff, Nat.reduceSub, Nat.add_zero, Nat.le_refl, Nat.zero_le, Int.reduceNeg, Int.reduceLE, Int.reduceLT, true_and, and_true, and_self, if_true, if_false, ite_true, ite_false, eq_self_iff_true, reduceIte, reduceCtorEq, not_false_eq_true, not_true_eq_false, or_true, true_or, or_false, false_or, Nat.lt_irrefl, Nat.zero_lt_succ]
  try simp (disch := omega) only [ii_0, ii_1, ii_t, ii_add, ii_sub, ii_mul, ii_lt, ii_le, ii_eq, ij_in, ii_c, Int.toNat_natCast, Int.toNat_zero, Int.reduceToNat, Int.reduceEq, Int.reduceNe, Int.reduceLE, Int.reduceLT, Int.reduceAdd, Int.reduceSub, Int.reduceMul, Int.reduceNeg, Nat.reduceLT, Nat.reduceAdd, Nat.reduceMul, not_false_eq_true, not_true_eq_false, true_and, and_true, and_self, false_and, and_false, true_implies, false_implies, implies_true, forall_const, if_true, if_false, ite_true, ite_false, reduceIte, eq_self_iff_true, Int.natCast_nonneg, Int.zero_add, Int.add_zero, pi_s, pi_n, e6, e7]
  refine ⟨⟨by omega, by omega⟩, ⟨by omega, by omega⟩, _, _, _, rfl, by rw [← ii_of, ← ii_of], hI2.1, lt_J hI2 hJ, ⟨hl1, hl2⟩, Jpost_of (lt_c hI2) j2, fun y υ hI' => ?_⟩
  have hI3 := lt_t hI2 hI'
  try simp only [dX12_lawTells_0, dX12_lawTells_1, dX12_lawTells_2, FT_X12_221, dX12_lawTells_5, dX12_lawTells_6, dX12_lawTells_7, dX12_lawTells_8, dX12_lawTells_9, dX12_lawTells_10, FT_X12_64, dX12_lawTells_13, dX12_lawTells_14, dX12_lawTells_15, dX12_lawTells_16, FT_X12_67, dX12_lawTells_19, dX12_lawTells_20, dX12_lawTells_21, xX12_lawTells_t21, dX12_lawTells_24, dX12_lawTells_25, dX12_lawTells_26, dX12_lawTells_27, dX12_lawTells_28, PT_X12_288, dX12_lawTells_31, dX12_lawTells_32, dX12_lawTells_35, dX12_lawTells_36, dX12_lawTells_37, dX12_lawTells_39, dX12_lawTells_41, dX12_lawTells_42, dX12_lawTells_45, dX12_lawTells_46, dX12_lawTells_47, xX12_lawTells_t47, dX12_lawTells_50, dX12_lawTells_51, FT_X12_70, dX12_lawTells_54, dX12_lawTells_56, dX12_lawTells_57, xX12_lawTells_t57, dX12_lawTells_60, dX12_lawTells_61, dX12_lawTells_62, FT_X12_74, dX12_lawTells_65, dX12_lawTells_67, dX12_lawTells_68, dX12_lawTells_69, FT_X12_77, dX12_lawTells_72, dX12_lawTells_74, dX12_lawTells_75, xX12_lawTells_c321, xX12_lawTells_n321, dX12_lawTells_78, dX12_lawTells_80, dX12_lawTells_81, dX12_lawTells_82, dX12_lawTells_85, dX12_lawTells_87, dX12_lawTells_88, dX12_lawTells_89, FT_X12_80, dX12_lawTells_92, dX12_lawTells_94, dX12_lawTells_95, dX12_lawTells_98, dX12_lawTells_100, dX12_lawTells_101, FT_X12_288, dX12_lawTells_104, xX12_lawTells_t104, dX12_lawTells_107, dX12_lawTells_108, dX12_lawTells_109, dX12_lawTells_111, dX12_lawTells_113, xX12_lawTells_t113, dX12_lawTells_116, xX12_lawTells_t116, dX12_lawTells_119, dX12_lawTells_120, dX12_lawTells_121, dX12_lawTells_124, dX12_lawTells_126, dX12_lawTells_127, dX12_lawTells_128, FT_X12_83, dX12_lawTells_131, dX12_lawTells_133, dX12_lawTells_134, dX12_lawTells_137, dX12_lawTells_139, dX12_lawTells_140, dX12_lawTells_143, xX12_lawTells_t143, dX12_lawTells_146, dX12_lawTells_147, xX12_lawTells_t147, dX12_lawTells_150, dX12_lawTells_152, dX12_lawTells_153, dX12_lawTells_156, xX12_lawTells_t156, dX12_lawTells_159, dX12_lawTells_160, xX12_lawTells_SH, xX12_lawTells_KF, xX12_lawTells_rt, xX12_lawTells_FT, xX12_lawTells_PT, xX12_lawTells_CT, xX12_lawTells_KT, xX12_lawTells_LT, xX12_lawTells_NT, o_aload_n, o_baload, o_getfield, o_goto, o_iadd, o_iaload, o_iconst, o_ifCond_eq, o_if_icmp_ge, o_if_icmp_lt, o_if_icmp_ne, o_iinc, o_iload, o_iload_n, o_imul, o_invokevirtual, o_ireturn, o_istore, o_istore_n, o_putfield, SH_51, KF_51_18, KF_51_34, SH_71, KF_51_30, SH_68, KF_51_33, SH_70, KF_51_36, SH_73, KF_51_32, SH_69, KF_51_29, SH_67, KF_51_35, SH_72, KF_51_44, am_ty, am_vc, am_opt, am_cl, am_find, am_ldi, am_ldl, am_lda, am_v, am_1, am_1l, am_1a, am_2, am_2l, am_ix, am_ri, am_arr, am_pf, am_rc, am_mask, am_lg, am_av, am_nat, fv_0, fv_1, fv_2, fv_3, fw_0, fw_1, List.getElem?_cons_zero, List.getElem?_cons_succ, List.set_cons_zero, List.set_cons_succ, List.length_cons, List.length_nil, List.take_succ_cons, List.take_zero, List.drop_succ_cons, List.drop_zero, List.reverse_cons, List.reverse_nil, List.nil_append, List.cons_append, List.append_nil, List.map_cons, List.map_nil, List.sum_cons, List.sum_nil, Value.category, Option.toList_some, Option.toList_none, Nat.reduceAdd, Nat.reduceLT, Nat.reduceLeDiff, Nat.reduceEqDiff, Nat.reduceSub, Nat.add_zero, Nat.le_refl, Nat.zero_le, Int.reduceNeg, Int.reduceLE, Int.reduceLT, true_and, and_true, and_self, if_true, if_false, ite_true, ite_false, eq_self_iff_true, reduceIte, reduceCtorEq, not_false_eq_true, not_true_eq_false, or_true, true_or, or_false, false_or, Nat.lt_irrefl, Nat.zero_lt_succ]
  refine hA [(119, 5), (39, 5)] 12 _ _ _ _ _ ?_
  try simp only [dX12_lawTells_0, dX12_lawTells_1, dX12_lawTells_2, FT_X12_221, dX12_lawTells_5, dX12_lawTells_6, dX12_lawTells_7, dX12_lawTells_8, dX12_lawTells_9, dX12_lawTells_10, FT_X12_64, dX12_lawTells_13, dX12_lawTells_14, dX12_lawTells_15, dX12_lawTells_16, FT_X12_67, dX12_lawTells_19, dX12_lawTells_20, dX12_lawTells_21, xX12_lawTells_t21, dX12_lawTells_24, dX12_lawTells_25, dX12_lawTells_26, dX12_lawTells_27, dX12_lawTells_28, PT_X12_288, dX12_lawTells_31, dX12_lawTells_32, dX12_lawTells_35, dX12_lawTells_36, dX12_lawTells_37, dX12_lawTells_39, dX12_lawTells_41, dX12_lawTells_42, dX12_lawTells_45, dX12_lawTells_46, dX12_lawTells_47, xX12_lawTells_t47, dX12_lawTells_50, dX12_lawTells_51, FT_X12_70, dX12_lawTells_54, dX12_lawTells_56, dX12_lawTells_57, xX12_lawTells_t57, dX12_lawTells_60, dX12_lawTells_61, dX12_lawTells_62, FT_X12_74, dX12_lawTells_65, dX12_lawTells_67, dX12_lawTells_68, dX12_lawTells_69, FT_X12_77, dX12_lawTells_72, dX12_lawTells_74, dX12_lawTells_75, xX12_lawTells_c321, xX12_lawTells_n321, dX12_lawTells_78, dX12_lawTells_80, dX12_lawTells_81, dX12_lawTells_82, dX12_lawTells_85, dX12_lawTells_87, dX12_lawTells_88, dX12_lawTells_89, FT_X12_80, dX12_lawTells_92, dX12_lawTells_94, dX12_lawTells_95, dX12_lawTells_98, dX12_lawTells_100, dX12_lawTells_101, FT_X12_288, dX12_lawTells_104, xX12_lawTells_t104, dX12_lawTells_107, dX12_lawTells_108, dX12_lawTells_109, dX12_lawTells_111, dX12_lawTells_113, xX12_lawTells_t113, dX12_lawTells_116, xX12_lawTells_t116, dX12_lawTells_119, dX12_lawTells_120, dX12_lawTells_121, dX12_lawTells_124, dX12_lawTells_126, dX12_lawTells_127, dX12_lawTells_128, FT_X12_83, dX12_lawTells_131, dX12_lawTells_133, dX12_lawTells_134, dX12_lawTells_137, dX12_lawTells_139, dX12_lawTells_140, dX12_lawTells_143, xX12_lawTells_t143, dX12_lawTells_146, dX12_lawTells_147, xX12_lawTells_t147, dX12_lawTells_150, dX12_lawTells_152, dX12_lawTells_153, dX12_lawTells_156, xX12_lawTells_t156, dX12_lawTells_159, dX12_lawTells_160, xX12_lawTells_SH, xX12_lawTells_KF, xX12_lawTells_rt, xX12_lawTells_FT, xX12_lawTells_PT, xX12_lawTells_CT, xX12_lawTells_KT, xX12_lawTells_LT, xX12_lawTells_NT, o_aload_n, o_baload, o_getfield, o_goto, o_iadd, o_iaload, o_iconst, o_ifCond_eq, o_if_icmp_ge, o_if_icmp_lt, o_if_icmp_ne, o_iinc, o_iload, o_iload_n, o_imul, o_invokevirtual, o_ireturn, o_istore, o_istore_n, o_putfield, SH_51, KF_51_18, KF_51_34, SH_71, KF_51_30, SH_68, KF_51_33, SH_70, KF_51_36, SH_73, KF_51_32, SH_69, KF_51_29, SH_67, KF_51_35, SH_72, KF_51_44, am_ty, am_vc, am_opt, am_cl, am_find, am_ldi, am_ldl, am_lda, am_v, am_1, am_1l, am_1a, am_2, am_2l, am_ix, am_ri, am_arr, am_pf, am_rc, am_mask, am_lg, am_av, am_nat, fv_0, fv_1, fv_2, fv_3, fw_0, fw_1, List.getElem?_cons_zero, List.getElem?_cons_succ, List.set_cons_zero, List.set_cons_succ, List.length_cons, List.length_nil, List.take_succ_cons, List.take_zero, List.drop_succ_cons, List.drop_zero, List.reverse_cons, List.reverse_nil, List.nil_append, List.cons_append, List.append_nil, List.map_cons, List.map_nil, List.sum_cons, List.sum_nil, Value.category, Option.toList_some, Option.toList_none, Nat.reduceAdd, Nat.reduceLT, Nat.reduceLeDiff, Nat.reduceEqDiff, Nat.reduceSub, Nat.add_zero, Nat.le_refl, Nat.zero_le, Int.reduceNeg, Int.reduceLE, Int.reduceLT, true_and, and_true, and_self, if_true, if_false, ite_true, ite_false, eq_self_iff_true, reduceIte, reduceCtorEq, not_false_eq_true, not_true_eq_false, or_true, true_or, or_false, false_or, Nat.lt_irrefl, Nat.zero_lt_succ]
  try simp (disch := omega) only [ii_0, ii_1, ii_t, ii_add, ii_sub, ii_mul, ii_lt, ii_le, ii_eq, ij_in, ii_c, Int.toNat_natCast, Int.toNat_zero, Int.reduceToNat, Int.reduceEq, Int.reduceNe, Int.reduceLE, Int.reduceLT, Int.reduceAdd, Int.reduceSub, Int.reduceMul, Int.reduceNeg, Nat.reduceLT, Nat.reduceAdd, Nat.reduceMul, not_false_eq_true, not_true_eq_false, true_and, and_true, and_self, false_and, and_false, true_implies, false_implies, implies_true, forall_const, if_true, if_false, ite_true, ite_false, reduceIte, eq_self_iff_true, Int.natCast_nonneg, Int.zero_add, Int.add_zero, pi_s, pi_n]
  refine ⟨fun _ => ⟨fun _ => lt_119 hA hJ hpost ⟨hl1, hl2⟩ ⟨by omega, by omega⟩ hjb hI3, fun _ => ih _ (by omega) (b + 1) υ (by omega) (by omega) rfl hI3⟩, fun _ => hpost _ _ hI3⟩
set_option maxRecDepth 100000 in
theorem pX12_lawTells : am_B cX12_lawTells xX12_lawTells 7 0 (sp_w JJ BB SH 92 wX12_lawTells) := by
  intro n0 as σ post AA hA h
  obtain ⟨rfl, hB, hJ, a, ha, has, h⟩ := h
  have ea : a = ([.inr (.inl 51), .inl (0, 3), .inl (-2147483648, 2147483647)], [(some (.inl (-2147483648, 2147483647)), [])], lt_M) := List.mem_singleton.mp ha
  subst ea
  match as, has with
  | [v0, v1, v2], ⟨h0, ⟨k, hk0, hk1, hk2⟩, ⟨p, hp0, _⟩, _⟩ =>
  have h0 : v0 = .ref 51 := h0
  subst h0; subst hk0; subst hp0
  have hk1 : 0 ≤ k.toInt := hk1
  have hk2 : k.toInt ≤ 3 := hk2
  have hpost : ∀ x τ, sI BB SH lt_M σ τ → post (some (.int x)) τ := fun x τ hI => h _ τ hI.1 (lt_J hI hJ) hI.2 ⟨_, List.mem_cons_self, ⟨x, rfl, ii_lo x, by have := ii_hi x; show x.toInt ≤ 2147483647; omega⟩, fun q hq => absurd hq List.not_mem_nil⟩
  have hI0 : sI BB SH lt_M σ σ := ⟨hB, sb_fr_r _ _⟩
  have hlv := hB.2 51 12 18 rfl
  have hl1 : (0 : Int) ≤ (σ.1 51 18).toInt := hlv.1
  have hl2 : (σ.1 51 18).toInt ≤ 1 := hlv.2
  obtain ⟨lv, elv⟩ : ∃ lv, lv = (σ.1 51 18).toInt := ⟨_, rfl⟩
  obtain ⟨kk, ekk⟩ : ∃ kk : Nat, (kk : Int) = k.toInt := ⟨k.toInt.toNat, by omega⟩
  have e1 : σ.1 51 18 = Int32.ofInt lv := by rw [elv, ← ii_of]
  have e2 : k = Int32.ofInt (kk : Int) := by rw [ekk, ← ii_of]
  rw [← elv] at hl1 hl2
  rw [← ekk] at hk1 hk2
  have hat : 0 ≤ 4 * lv + (kk : Int) ∧ 4 * lv + (kk : Int) < 8 := by omega
  have hf := hB.1 67 (0, 8) (4 * lv + (kk : Int)).toNat rfl (by show (4 * lv + (kk : Int)).toNat < 8; omega)
  rw [sb_1 (q := (0, 260)) rfl] at hf
  have hf1 : (0 : Int) ≤ (σ.1 67 (4 * lv + (kk : Int)).toNat).toInt := hf.1
  have hf2 : (σ.1 67 (4 * lv + (kk : Int)).toNat).toInt ≤ 260 := hf.2
  refine ⟨by simp [am_sl, Value.category], ?_⟩
  show AA 0 [some (.ref 51), some (.int k), some (.int p), none, none, none, none] [] 92 σ
  refine hA [(26, 4)] 20 _ _ _ _ _ ?_
  try simp only [dX12_lawTells_0, dX12_lawTells_1, dX12_lawTells_2, FT_X12_221, dX12_lawTells_5, dX12_lawTells_6, dX12_lawTells_7, dX12_lawTells_8, dX12_lawTells_9, dX12_lawTells_10, FT_X12_64, dX12_lawTells_13, dX12_lawTells_14, dX12_lawTells_15, dX12_lawTells_16, FT_X12_67, dX12_lawTells_19, dX12_lawTells_20, dX12_lawTells_21, xX12_lawTells_t21, dX12_lawTells_24, dX12_lawTells_25, dX12_lawTells_26, dX12_lawTells_27, dX12_lawTells_28, PT_X12_288, dX12_lawTells_31, dX12_lawTells_32, dX12_lawTells_35, dX12_lawTells_36, dX12_lawTells_37, dX12_lawTells_39, dX12_lawTells_41, dX12_lawTells_42, dX12_lawTells_45, dX12_lawTells_46, dX12_lawTells_47, xX12_lawTells_t47, dX12_lawTells_50, dX12_lawTells_51, FT_X12_70, dX12_lawTells_54, dX12_lawTells_56, dX12_lawTells_57, xX12_lawTells_t57, dX12_lawTells_60, dX12_lawTells_61, dX12_lawTells_62, FT_X12_74, dX12_lawTells_65, dX12_lawTells_67, dX12_lawTells_68, dX12_lawTells_69, FT_X12_77, dX12_lawTells_72, dX12_lawTells_74, dX12_lawTells_75, xX12_lawTells_c321, xX12_lawTells_n321, dX12_lawTells_78, dX12_lawTells_80, dX12_lawTells_81, dX12_lawTells_82, dX12_lawTells_85, dX12_lawTells_87, dX12_lawTells_88, dX12_lawTells_89, FT_X12_80, dX12_lawTells_92, dX12_lawTells_94, dX12_lawTells_95, dX12_lawTells_98, dX12_lawTells_100, dX12_lawTells_101, FT_X12_288, dX12_lawTells_104, xX12_lawTells_t104, dX12_lawTells_107, dX12_lawTells_108, dX12_lawTells_109, dX12_lawTells_111, dX12_lawTells_113, xX12_lawTells_t113, dX12_lawTells_116, xX12_lawTells_t116, dX12_lawTells_119, dX12_lawTells_120, dX12_lawTells_121, dX12_lawTells_124, dX12_lawTells_126, dX12_lawTells_127, dX12_lawTells_128, FT_X12_83, dX12_lawTells_131, dX12_lawTells_133, dX12_lawTells_134, dX12_lawTells_137, dX12_lawTells_139, dX12_lawTells_140, dX12_lawTells_143, xX12_lawTells_t143, dX12_lawTells_146, dX12_lawTells_147, xX12_lawTells_t147, dX12_lawTells_150, dX12_lawTells_152, dX12_lawTells_153, dX12_lawTells_156, xX12_lawTells_t156, dX12_lawTells_159, dX12_lawTells_160, xX12_lawTells_SH, xX12_lawTells_KF, xX12_lawTells_rt, xX12_lawTells_FT, xX12_lawTells_PT, xX12_lawTells_CT, xX12_lawTells_KT, xX12_lawTells_LT, xX12_lawTells_NT, o_aload_n, o_baload, o_getfield, o_goto, o_iadd, o_iaload, o_iconst, o_ifCond_eq, o_if_icmp_ge, o_if_icmp_lt, o_if_icmp_ne, o_iinc, o_iload, o_iload_n, o_imul, o_invokevirtual, o_ireturn, o_istore, o_istore_n, o_putfield, SH_51, KF_51_18, KF_51_34, SH_71, KF_51_30, SH_68, KF_51_33, SH_70, KF_51_36, SH_73, KF_51_32, SH_69, KF_51_29, SH_67, KF_51_35, SH_72, KF_51_44, am_ty, am_vc, am_opt, am_cl, am_find, am_ldi, am_ldl, am_lda, am_v, am_1, am_1l, am_1a, am_2, am_2l, am_ix, am_ri, am_arr, am_pf, am_rc, am_mask, am_lg, am_av, am_nat, fv_0, fv_1, fv_2, fv_3, fw_0, fw_1, List.getElem?_cons_zero, List.getElem?_cons_succ, List.set_cons_zero, List.set_cons_succ, List.length_cons, List.length_nil, List.take_succ_cons, List.take_zero, List.drop_succ_cons, List.drop_zero, List.reverse_cons, List.reverse_nil, List.nil_append, List.cons_append, List.append_nil, List.map_cons, List.map_nil, List.sum_cons, List.sum_nil, Value.category, Option.toList_some, Option.toList_none, Nat.reduceAdd, Nat.reduceLT, Nat.reduceLeDiff, Nat.reduceEqDiff, Nat.reduceSub, Nat.add_zero, Nat.le_refl, Nat.zero_le, Int.reduceNeg, Int.reduceLE, Int.reduceLT, true_and, and_true, and_self, if_true, if_false, ite_true, ite_false, eq_self_iff_true, reduceIte, reduceCtorEq, not_false_eq_true, not_true_eq_false, or_true, true_or, or_false, false_or, Nat.lt_irrefl, Nat.zero_lt_succ, e1, e2]
  try simp (disch := omega) only [ii_0, ii_1, ii_t, ii_add, ii_sub, ii_mul, ii_lt, ii_le, ii_eq, ij_in, ii_c, Int.toNat_natCast, Int.toNat_zero, Int.reduceToNat, Int.reduceEq, Int.reduceNe, Int.reduceLE, Int.reduceLT, Int.reduceAdd, Int.reduceSub, Int.reduceMul, Int.reduceNeg, Nat.reduceLT, Nat.reduceAdd, Nat.reduceMul, not_false_eq_true, not_true_eq_false, true_and, and_true, and_self, false_and, and_false, true_implies, false_implies, implies_true, forall_const, if_true, if_false, ite_true, ite_false, reduceIte, eq_self_iff_true, Int.natCast_nonneg, Int.zero_add, Int.add_zero, pi_s, pi_n, e1, e2]
  refine ⟨⟨by omega, by omega⟩, ⟨by omega, by omega⟩, ?_⟩
  refine ⟨fun _ => ?_, fun _ => hpost _ _ hI0⟩
  have hI1 := lt_put (v := 0) hI0 ⟨by omega, by omega⟩
  have e3 : (am_pi σ 51 44 (Int32.ofInt 0)).1 67 (4 * lv + (kk : Int)).toNat = Int32.ofInt (σ.1 67 (4 * lv + (kk : Int)).toNat).toInt := by rw [pi_n _ _ _ _ (fun h => absurd h.1 (by decide)), ← ii_of]
  refine hA [(39, 5)] 10 _ _ _ _ _ ?_
  try simp only [dX12_lawTells_0, dX12_lawTells_1, dX12_lawTells_2, FT_X12_221, dX12_lawTells_5, dX12_lawTells_6, dX12_lawTells_7, dX12_lawTells_8, dX12_lawTells_9, dX12_lawTells_10, FT_X12_64, dX12_lawTells_13, dX12_lawTells_14, dX12_lawTells_15, dX12_lawTells_16, FT_X12_67, dX12_lawTells_19, dX12_lawTells_20, dX12_lawTells_21, xX12_lawTells_t21, dX12_lawTells_24, dX12_lawTells_25, dX12_lawTells_26, dX12_lawTells_27, dX12_lawTells_28, PT_X12_288, dX12_lawTells_31, dX12_lawTells_32, dX12_lawTells_35, dX12_lawTells_36, dX12_lawTells_37, dX12_lawTells_39, dX12_lawTells_41, dX12_lawTells_42, dX12_lawTells_45, dX12_lawTells_46, dX12_lawTells_47, xX12_lawTells_t47, dX12_lawTells_50, dX12_lawTells_51, FT_X12_70, dX12_lawTells_54, dX12_lawTells_56, dX12_lawTells_57, xX12_lawTells_t57, dX12_lawTells_60, dX12_lawTells_61, dX12_lawTells_62, FT_X12_74, dX12_lawTells_65, dX12_lawTells_67, dX12_lawTells_68, dX12_lawTells_69, FT_X12_77, dX12_lawTells_72, dX12_lawTells_74, dX12_lawTells_75, xX12_lawTells_c321, xX12_lawTells_n321, dX12_lawTells_78, dX12_lawTells_80, dX12_lawTells_81, dX12_lawTells_82, dX12_lawTells_85, dX12_lawTells_87, dX12_lawTells_88, dX12_lawTells_89, FT_X12_80, dX12_lawTells_92, dX12_lawTells_94, dX12_lawTells_95, dX12_lawTells_98, dX12_lawTells_100, dX12_lawTells_101, FT_X12_288, dX12_lawTells_104, xX12_lawTells_t104, dX12_lawTells_107, dX12_lawTells_108, dX12_lawTells_109, dX12_lawTells_111, dX12_lawTells_113, xX12_lawTells_t113, dX12_lawTells_116, xX12_lawTells_t116, dX12_lawTells_119, dX12_lawTells_120, dX12_lawTells_121, dX12_lawTells_124, dX12_lawTells_126, dX12_lawTells_127, dX12_lawTells_128, FT_X12_83, dX12_lawTells_131, dX12_lawTells_133, dX12_lawTells_134, dX12_lawTells_137, dX12_lawTells_139, dX12_lawTells_140, dX12_lawTells_143, xX12_lawTells_t143, dX12_lawTells_146, dX12_lawTells_147, xX12_lawTells_t147, dX12_lawTells_150, dX12_lawTells_152, dX12_lawTells_153, dX12_lawTells_156, xX12_lawTells_t156, dX12_lawTells_159, dX12_lawTells_160, xX12_lawTells_SH, xX12_lawTells_KF, xX12_lawTells_rt, xX12_lawTells_FT, xX12_lawTells_PT, xX12_lawTells_CT, xX12_lawTells_KT, xX12_lawTells_LT, xX12_lawTells_NT, o_aload_n, o_baload, o_getfield, o_goto, o_iadd, o_iaload, o_iconst, o_ifCond_eq, o_if_icmp_ge, o_if_icmp_lt, o_if_icmp_ne, o_iinc, o_iload, o_iload_n, o_imul, o_invokevirtual, o_ireturn, o_istore, o_istore_n, o_putfield, SH_51, KF_51_18, KF_51_34, SH_71, KF_51_30, SH_68, KF_51_33, SH_70, KF_51_36, SH_73, KF_51_32, SH_69, KF_51_29, SH_67, KF_51_35, SH_72, KF_51_44, am_ty, am_vc, am_opt, am_cl, am_find, am_ldi, am_ldl, am_lda, am_v, am_1, am_1l, am_1a, am_2, am_2l, am_ix, am_ri, am_arr, am_pf, am_rc, am_mask, am_lg, am_av, am_nat, fv_0, fv_1, fv_2, fv_3, fw_0, fw_1, List.getElem?_cons_zero, List.getElem?_cons_succ, List.set_cons_zero, List.set_cons_succ, List.length_cons, List.length_nil, List.take_succ_cons, List.take_zero, List.drop_succ_cons, List.drop_zero, List.reverse_cons, List.reverse_nil, List.nil_append, List.cons_append, List.append_nil, List.map_cons, List.map_nil, List.sum_cons, List.sum_nil, Value.category, Option.toList_some, Option.toList_none, Nat.reduceAdd, Nat.reduceLT, Nat.reduceLeDiff, Nat.reduceEqDiff, Nat.reduceSub, Nat.add_zero, Nat.le_refl, Nat.zero_le, Int.reduceNeg, Int.reduceLE, Int.reduceLT, true_and, and_true, and_self, if_true, if_false, ite_true, ite_false, eq_self_iff_true, reduceIte, reduceCtorEq, not_false_eq_true, not_true_eq_false, or_true, true_or, or_false, false_or, Nat.lt_irrefl, Nat.zero_lt_succ, nb_0]
  try simp (disch := omega) only [ii_0, ii_1, ii_t, ii_add, ii_sub, ii_mul, ii_lt, ii_le, ii_eq, ij_in, ii_c, Int.toNat_natCast, Int.toNat_zero, Int.reduceToNat, Int.reduceEq, Int.reduceNe, Int.reduceLE, Int.reduceLT, Int.reduceAdd, Int.reduceSub, Int.reduceMul, Int.reduceNeg, Nat.reduceLT, Nat.reduceAdd, Nat.reduceMul, not_false_eq_true, not_true_eq_false, true_and, and_true, and_self, false_and, and_false, true_implies, false_implies, implies_true, forall_const, if_true, if_false, ite_true, ite_false, reduceIte, eq_self_iff_true, Int.natCast_nonneg, Int.zero_add, Int.add_zero, pi_s, pi_n, nb_0, e3]
  refine ⟨⟨by omega, by omega⟩, ?_⟩
  have q := lt_loop (k := Int32.ofInt (kk : Int)) (p := p) hA hJ hB hpost (kk := kk) (by omega) (by rw [← elv]) _ _ _ (Int.le_refl _) (by omega) rfl hI1
  rw [← ii_of] at q
  exact q
theorem nX12_lawTells (l : Launch) : am_M l TB NB vwCl SH KF yX12_lawTells cX12_lawTells 7 (some .int) 3 0 0 (sp_w JJ BB SH 92 wX12_lawTells) := by
  refine am_M.of xX12_lawTells (by decide +kernel) TB_good GF rfl rfl rfl (by decide) ⟨FT_X12_ok, PT_X12_ok _, CT_X12_ok, KT_X12_ok, LT_X12_ok, NT_X12_ok, ?_⟩ pX12_lawTells
  exact List.forall_mem_cons.mpr ⟨⟨yX12_termOf, cX12_termOf, 8, (some .int), 2, 2, mX12_termOf l, by decide, by decide, tk_1653, tk_120, ⟨by decide +kernel, by decide +kernel, by decide +kernel⟩, rfl, tk_1650, tk_1652, ⟨(RX12, TX12, 63), rfl, tb_at 68 (by decide +kernel) (by decide +kernel)⟩⟩, fun _ h => absurd h List.not_mem_nil⟩
