/-! THE REFERENCE'S SENTENCES: what a step leaves; a term. Printed from wip/am/chk/hand/s1.in. -/
theorem rST_fr {b : Nat → Int} {Z : Nat} {σ τ : am_S} {s : ST} (h : rST b Z σ s) (h1 : ∀ o i, 54 ≤ o → o ≤ 56 → τ.1 o i = σ.1 o i) (h2 : ∀ i, τ.2 57 i = σ.2 57 i) (h3 : τ.1 51 11 = σ.1 51 11) (h4 : τ.1 51 13 = σ.1 51 13) (h5 : τ.1 51 14 = σ.1 51 14) : rST b Z τ s := by
  have e1 : pT τ = pT σ := by unfold pT; rw [h3]
  have e2 : pF τ = pF σ := by unfold pF; rw [h4]
  have e3 : pFp τ = pFp σ := by unfold pFp; rw [h5]
  refine ⟨wVR_fr h.1 h1 h2, ?_⟩
  cases s with
  | inl t => exact ⟨h.2.1, e1.trans h.2.2.1, e2.trans h.2.2.2⟩
  | inr q => exact ⟨h.2.1, e2.trans h.2.2.1, e3.trans h.2.2.2⟩
/-- the codes from p to q -/
def rSg (σ : am_S) (p q : Int) (c : List (Int × Int)) : Prop := 0 ≤ p ∧ p ≤ q ∧ CLn σ p.toNat (q - p).toNat = c
theorem rSg_cg {σ τ : am_S} {p q : Int} {c : List (Int × Int)} (h : rSg σ p q c) (g : ∀ i : Nat, p ≤ (i : Int) → (i : Int) < q → cd τ i = cd σ i ∧ cI τ i = cI σ i) : rSg τ p q c := by
  obtain ⟨h1, h2, h3⟩ := h
  exact ⟨h1, h2, by rw [← h3]; exact CLn_of (fun i a b => g i (by omega) (by omega))⟩
theorem rSg_lw {σ τ : am_S} {p q : Int} {c : List (Int × Int)} (h : rSg σ p q c) (g : lwF σ τ) (hq : q ≤ pC σ) : rSg τ p q c := rSg_cg h (fun i _ b => g.2.2.1 i (Or.inl (by omega)))
theorem CL_sg {σ : am_S} {p : Int} {c : List (Int × Int)} (h : CL σ p.toNat = c) (h0 : 0 ≤ p) (h1 : p ≤ pC σ) : rSg σ p (pC σ) c := by
  unfold CL at h
  rw [Int.toNat_of_nonneg h0] at h
  exact ⟨h0, h1, h⟩
/-- the term that term has told -/
def tmL (σ τ : am_S) (c : List (Int × Int)) : Prop := rSg τ (τ.1 72 (pB σ).toNat).toInt (τ.1 73 (pB σ).toNat).toInt c
/-- the status, and what is held for wrong as it was -/
def rW (b : Nat → Int) (Z : Nat) (σ0 σ : am_S) (s : ST) : Prop := rST b Z σ s ∧ wX σ0 σ
theorem rW_at {b : Nat → Int} {Z : Nat} {σ0 σ : am_S} {s : ST} {o i : Nat} {x : Int32} (h : rW b Z σ0 σ s) (ho : o ≠ 51 ∧ (o < 54 ∨ 56 < o)) : rW b Z σ0 (am_pi σ o i x) s :=
  ⟨rST_fr h.1 (fun o' i' a c => pi_n _ _ _ _ (fun z => by omega)) (fun _ => rfl) (pi_n _ _ _ _ (fun z => ho.1 z.1.symm)) (pi_n _ _ _ _ (fun z => ho.1 z.1.symm)) (pi_n _ _ _ _ (fun z => ho.1 z.1.symm)), wX_t h.2 ⟨pi_n _ _ _ _ (fun z => ho.1 z.1.symm), pi_n _ _ _ _ (fun z => ho.1 z.1.symm)⟩⟩
theorem rW_fld {b : Nat → Int} {Z : Nat} {σ0 σ : am_S} {s : ST} {i : Nat} {x : Int32} (h : rW b Z σ0 σ s) (ho : i ≠ 11 ∧ (i < 13 ∨ 16 < i)) : rW b Z σ0 (am_pi σ 51 i x) s :=
  ⟨rST_fr h.1 (fun o' i' a c => pi_n _ _ _ _ (fun z => by omega)) (fun _ => rfl) (pi_n _ _ _ _ (fun z => by omega)) (pi_n _ _ _ _ (fun z => by omega)) (pi_n _ _ _ _ (fun z => by omega)), wX_t h.2 ⟨pi_n _ _ _ _ (fun z => by omega), pi_n _ _ _ _ (fun z => by omega)⟩⟩
theorem rW_must {b : Nat → Int} {Z : Nat} {σ0 σ : am_S} {s : ST} {k : Int} (hB : sb_ok BB SH σ) (hk : 1 ≤ k ∧ k ≤ 38) (h : rW b Z σ0 σ s) : rW b Z σ0 (muS k σ) (stT b Z k s) := ⟨rST_must hB hk h.1, wX_t h.2 wX_m⟩
theorem rW_fail {b : Nat → Int} {Z : Nat} {σ0 σ : am_S} {s : ST} {k : Int} (hB : sb_ok BB SH σ) (hk : 1 ≤ k ∧ k ≤ 2) (h : rW b Z σ0 σ s) : rW b Z σ0 (failS k σ) (stF b Z k s) := ⟨rST_fail hB hk h.1, wX_t h.2 wX_f⟩
theorem rW_expr {b : Nat → Int} {Z : Nat} {σ0 σ τ : am_S} {s : ST} {as : List Value} {v : Option Value} (h : xExpr as σ v τ) (hs : rW b Z σ0 σ s) : rW b Z σ0 τ (spE b Z s).1 := ⟨(rST_expr h hs.1).1, wX_t hs.2 (wX_expr h)⟩
theorem rST_0 {b : Nat → Int} {Z : Nat} {σ : am_S} {s : ST} (h : rST b Z σ s) (hf : pF σ = 0) : ∃ t, s = .inl t := by
  cases s with
  | inl t => exact ⟨t, rfl⟩
  | inr q =>
    obtain ⟨h1, h2, h3⟩ := h.2
    omega
theorem rST_n {b : Nat → Int} {Z : Nat} {σ : am_S} {s : ST} (h : rST b Z σ s) (hf : pF σ ≠ 0) : ∃ q, s = .inr q := by
  cases s with
  | inl t => exact absurd h.2.2.2 hf
  | inr q => exact ⟨q, rfl⟩
/-- goesOn at a token of a known kind -/
theorem rW_go {b : Nat → Int} {Z t : Nat} {σ0 σ : am_S} {k : Int} (hB : sb_ok BB SH σ) (h : rW b Z σ0 σ (.inl t)) (hk : tK b Z t = k) (hk2 : 1 ≤ k ∧ k ≤ 38) : rW b Z σ0 (goS σ) (stT b Z k (.inl t)) := by
  have e : goS σ = muS k σ := by
    unfold muS
    rw [if_pos ⟨h.1.2.2.2, (kd_of h.1.1 h.1.2).trans hk⟩]
  rw [e]
  exact rW_must hB hk2 h
def sX12_termE : am_Sp := fun as n σ post => ∃ (b : Nat → Int) (Z : Nat) (s : ST) (σa : am_S), rW b Z σa σ s ∧ sX12_term as n σ (fun v τ => rW b Z σa τ (spE b Z s).1 → (∀ t', (spE b Z s).1 = .inl t' → tmL σ τ (spE b Z s).2) → post v τ)
def xX12_termE : am_X := (SH, KF, none, FT_X12, PT_X12, CT_X12, KT_X12, LT_X12, NT_X12, [(269, 0, 1, 12, 0, 0, sX12_expressionE)])
theorem xX12_termE_SH : am_SH xX12_termE = SH := rfl
theorem xX12_termE_KF : am_KF xX12_termE = KF := rfl
theorem xX12_termE_rt : am_rt xX12_termE = none := rfl
theorem xX12_termE_FT : am_FT xX12_termE = FT_X12 := rfl
theorem xX12_termE_PT : am_PT xX12_termE = PT_X12 := rfl
theorem xX12_termE_CT : am_CT xX12_termE = CT_X12 := rfl
theorem xX12_termE_KT : am_KT xX12_termE = KT_X12 := rfl
theorem xX12_termE_LT : am_LT xX12_termE = LT_X12 := rfl
theorem xX12_termE_NT : am_NT xX12_termE = NT_X12 := rfl
theorem xX12_termE_c269 : am_find (am_ML xX12_termE) 269 = some (0, 1, 12, 0, 0, sX12_expressionE) := rfl
theorem xX12_termE_n269 : am_find NT_X12 269 = none := rfl
theorem xX12_termE_t17 (k : Nat → Prop) : am_tg 17 (7) k = k 24 := am_tg_eq (by decide)

set_option maxRecDepth 100000 in
theorem ptX12_termE : am_B cX12_term xX12_termE 1 0 sX12_termE := by
  intro n0 as σ post AA hA h
  obtain ⟨bb, Z, s, σa, hs, rfl, hB, hb, hf, rfl, h⟩ := h
  have b := pB_b hB
  have c := pC_b hB
  obtain ⟨l1, f1, c1, n1⟩ := lwF_at (σ := σ) (o := 72) (x := Int32.ofInt (pC σ)) rfl b.1
  have hB1 : sb_ok BB SH (am_pi σ 72 (pB σ).toNat (Int32.ofInt (pC σ))) := at_ok (a := 0) (b := 840) (q := 0) hB hb rfl rfl ⟨by omega, by omega⟩ (by omega)
  have hs1 : rW bb Z σa (am_pi σ 72 (pB σ).toNat (Int32.ofInt (pC σ))) s := rW_at hs ⟨by decide, by decide⟩
  obtain ⟨bv, ebv⟩ : ∃ bv, bv = pB σ := ⟨_, rfl⟩
  obtain ⟨cv, ecv⟩ : ∃ cv, cv = pC σ := ⟨_, rfl⟩
  have e1 : σ.1 51 31 = Int32.ofInt bv := by rw [ebv]; exact ii_of _
  have e2 : σ.1 51 37 = Int32.ofInt cv := by rw [ecv]; exact ii_of _
  obtain ⟨fv, efv⟩ : ∃ fv, fv = pF σ := ⟨_, rfl⟩
  have e3 : σ.1 51 13 = Int32.ofInt fv := by rw [efv]; exact ii_of _
  have fb := pF_b hB
  rw [← efv] at fb
  obtain ⟨σ1, es1⟩ : ∃ σ1, σ1 = am_pi σ 72 (pB σ).toNat (Int32.ofInt (pC σ)) := ⟨_, rfl⟩
  have es2 : am_pi σ 72 bv.toNat (Int32.ofInt cv) = σ1 := by rw [es1, ebv, ecv]
  rw [← es1] at l1 f1 c1 n1 hB1 hs1
  obtain ⟨eC, eT, eF, eO, eB, eW⟩ := lw_C f1
  have c72 : (σ1.1 72 (pB σ).toNat).toInt = pC σ := by rw [c1, ii_t (by omega) (by omega)]
  have at24 : ∀ τ, sb_ok BB SH τ → exF σ1 τ → (pF σ ≠ 0 → pC τ = pC σ) → (pF σ = 0 → pC τ - pC σ ≤ pT τ - pT σ + 1) → (pF τ = 0 → pO τ = 0 ∧ pT σ < pT τ ∧ pC τ - pC σ ≤ pT τ - pT σ ∧ Jdep τ (pC σ).toNat (pC τ - pC σ).toNat = some 1) → rW bb Z σa τ (spE bb Z s).1 → (∀ t', (spE bb Z s).1 = .inl t' → CL τ (pC σ).toNat = (spE bb Z s).2) → AA 24 [some (.ref 51)] [] 92 τ := by
    intro τ hBt hE h1 h2 h3 hw hcl
    have eB2 : pB τ = pB σ := by rw [exF_B hE, eB]
    obtain ⟨t1, t2, t3, t4, t5, t6, t7, t8, t9, t10⟩ := tmS_ok hBt (by omega)
    have hw2 : rW bb Z σa (tmS τ) (spE bb Z s).1 := by
      unfold tmS
      exact rW_fld (rW_at hw ⟨by decide, by decide⟩) ⟨by decide, by decide⟩
    have cb := pC_b hBt
    obtain ⟨cw, ecw⟩ : ∃ cw, cw = pC τ := ⟨_, rfl⟩
    have e1 : τ.1 51 31 = Int32.ofInt bv := by rw [ebv, ← eB2]; exact ii_of _
    have e2 : τ.1 51 37 = Int32.ofInt cw := by rw [ecw]; exact ii_of _
    refine hA [] 30 _ _ _ _ _ ?_
    try simp only [dX12_term_0, dX12_term_1, FT_X12_80, dX12_term_4, dX12_term_5, FT_X12_230, dX12_term_8, dX12_term_9, FT_X12_233, dX12_term_12, dX12_term_13, dX12_term_14, FT_X12_191, dX12_term_17, xX12_termE_t17, dX12_term_20, dX12_term_21, xX12_termE_c269, xX12_termE_n269, dX12_term_24, dX12_term_25, FT_X12_83, dX12_term_28, dX12_term_29, dX12_term_32, dX12_term_33, dX12_term_36, dX12_term_37, dX12_term_38, dX12_term_39, dX12_term_42, dX12_term_43, dX12_term_44, PT_X12_230, dX12_term_47, xX12_termE_SH, xX12_termE_KF, xX12_termE_rt, xX12_termE_FT, xX12_termE_PT, xX12_termE_CT, xX12_termE_KT, xX12_termE_LT, xX12_termE_NT, o_aload_n, o_dup, o_getfield, o_iadd, o_iastore, o_iconst, o_ifCond_ne, o_invokevirtual, o_putfield, o_return_, SH_51, KF_51_13, KF_51_31, KF_51_35, SH_72, KF_51_36, SH_73, KF_51_37, am_ty, am_vc, am_opt, am_cl, am_find, am_ldi, am_ldl, am_lda, am_v, am_1, am_1l, am_1a, am_2, am_2l, am_ix, am_ri, am_arr, am_pf, am_rc, am_mask, am_lg, am_av, am_nat, fv_0, fv_1, fv_2, fv_3, fw_0, fw_1, List.getElem?_cons_zero, List.getElem?_cons_succ, List.set_cons_zero, List.set_cons_succ, List.length_cons, List.length_nil, List.take_succ_cons, List.take_zero, List.drop_succ_cons, List.drop_zero, List.reverse_cons, List.reverse_nil, List.nil_append, List.cons_append, List.append_nil, List.map_cons, List.map_nil, List.sum_cons, List.sum_nil, Value.category, Option.toList_some, Option.toList_none, Nat.reduceAdd, Nat.reduceLT, Nat.reduceLeDiff, Nat.reduceEqDiff, Nat.reduceSub, Nat.add_zero, Nat.le_refl, Nat.zero_le, Int.reduceNeg, Int.reduceLE, Int.reduceLT, true_and, and_true, and_self, if_true, if_false, ite_true, ite_false, eq_self_iff_true, reduceIte, reduceCtorEq, not_false_eq_true, not_true_eq_false, or_true, true_or, or_false, false_or, Nat.lt_irrefl, Nat.zero_lt_succ, e1, e2]
    try simp (disch := omega) only [ii_0, ii_1, ii_t, ii_add, ii_sub, ii_mul, ii_lt, ii_le, ii_eq, ij_in, ii_c, Int.toNat_natCast, Int.toNat_zero, Int.reduceToNat, Int.reduceEq, Int.reduceNe, Int.reduceLE, Int.reduceLT, Int.reduceAdd, Int.reduceSub, Int.reduceMul, Int.reduceNeg, Nat.reduceLT, Nat.reduceAdd, Nat.reduceMul, not_false_eq_true, not_true_eq_false, true_and, and_true, and_self, false_and, and_false, true_implies, false_implies, implies_true, forall_const, if_true, if_false, ite_true, ite_false, reduceIte, eq_self_iff_true, Int.natCast_nonneg, Int.zero_add, Int.add_zero, pi_s, pi_n, e1, e2]
    have et : am_pi (am_pi τ 73 bv.toNat (Int32.ofInt cw)) 51 31 (Int32.ofInt (bv + 1)) = tmS τ := by unfold tmS; rw [ebv, ecw, eB2]
    rw [et]
    have f1 : ((tmS τ).1 72 (pB σ).toNat).toInt = pC σ := by
      rw [t9 _ _ (by decide) (by decide), hE.f1 _ _ (by decide) (by decide) (by decide) (fun z => absurd z.1 (by decide))]
      exact c72
    have f2 : ((tmS τ).1 73 (pB σ).toNat).toInt = pC (tmS τ) := by rw [← eB2, t8, t4]
    have f3 := hE.f5
    rw [eC] at f3
    refine ⟨⟨by omega, by omega⟩, h _ ⟨t1, lwF_t l1 (lwF_t (lwF_ex hE) t2), by omega, f1, f2, fun o i q => ?_, fun q => by have := h1 q; omega, fun q => by have := h2 q; omega, fun q => ?_⟩ hw2 (fun t' e => ?_)⟩
    · rw [t9 _ _ (by rcases q with q | q | q <;> (rw [q]; decide)) (by rcases q with q | q | q <;> (rw [q]; decide)), hE.f1 _ _ (by rcases q with q | q | q <;> (rw [q]; decide)) (by rcases q with q | q | q <;> (rw [q]; decide)) (by rcases q with q | q | q <;> (rw [q]; decide)) (fun z => absurd z.1 (by rcases q with q | q | q <;> (rw [q]; decide))), n1 _ _ (by rcases q with q | q | q <;> (rw [q]; decide))]
    · rw [t6] at q
      obtain ⟨g1, g2, g3, g4⟩ := h3 q
      exact ⟨by omega, by omega, by omega, by rw [t4, Jdep_cg (σ := τ) (fun i _ _ => t10 i)]; exact g4⟩
    · unfold tmL
      rw [f1, f2, t4]
      exact rSg_cg (CL_sg (hcl t' e) c.1 f3) (fun i _ _ => ⟨t10 i, by unfold cI; rw [t9 _ _ (by decide) (by decide)]⟩)
  refine ⟨by simp [am_sl, Value.category], ?_⟩
  show AA 0 [some (.ref 51)] [] 92 σ
  refine hA [(24, 1)] 12 _ _ _ _ _ ?_
  try simp only [dX12_term_0, dX12_term_1, FT_X12_80, dX12_term_4, dX12_term_5, FT_X12_230, dX12_term_8, dX12_term_9, FT_X12_233, dX12_term_12, dX12_term_13, dX12_term_14, FT_X12_191, dX12_term_17, xX12_termE_t17, dX12_term_20, dX12_term_21, xX12_termE_c269, xX12_termE_n269, dX12_term_24, dX12_term_25, FT_X12_83, dX12_term_28, dX12_term_29, dX12_term_32, dX12_term_33, dX12_term_36, dX12_term_37, dX12_term_38, dX12_term_39, dX12_term_42, dX12_term_43, dX12_term_44, PT_X12_230, dX12_term_47, xX12_termE_SH, xX12_termE_KF, xX12_termE_rt, xX12_termE_FT, xX12_termE_PT, xX12_termE_CT, xX12_termE_KT, xX12_termE_LT, xX12_termE_NT, o_aload_n, o_dup, o_getfield, o_iadd, o_iastore, o_iconst, o_ifCond_ne, o_invokevirtual, o_putfield, o_return_, SH_51, KF_51_13, KF_51_31, KF_51_35, SH_72, KF_51_36, SH_73, KF_51_37, am_ty, am_vc, am_opt, am_cl, am_find, am_ldi, am_ldl, am_lda, am_v, am_1, am_1l, am_1a, am_2, am_2l, am_ix, am_ri, am_arr, am_pf, am_rc, am_mask, am_lg, am_av, am_nat, fv_0, fv_1, fv_2, fv_3, fw_0, fw_1, List.getElem?_cons_zero, List.getElem?_cons_succ, List.set_cons_zero, List.set_cons_succ, List.length_cons, List.length_nil, List.take_succ_cons, List.take_zero, List.drop_succ_cons, List.drop_zero, List.reverse_cons, List.reverse_nil, List.nil_append, List.cons_append, List.append_nil, List.map_cons, List.map_nil, List.sum_cons, List.sum_nil, Value.category, Option.toList_some, Option.toList_none, Nat.reduceAdd, Nat.reduceLT, Nat.reduceLeDiff, Nat.reduceEqDiff, Nat.reduceSub, Nat.add_zero, Nat.le_refl, Nat.zero_le, Int.reduceNeg, Int.reduceLE, Int.reduceLT, true_and, and_true, and_self, if_true, if_false, ite_true, ite_false, eq_self_iff_true, reduceIte, reduceCtorEq, not_false_eq_true, not_true_eq_false, or_true, true_or, or_false, false_or, Nat.lt_irrefl, Nat.zero_lt_succ, e1, e2, e3]
  try simp (disch := omega) only [ii_0, ii_1, ii_t, ii_add, ii_sub, ii_mul, ii_lt, ii_le, ii_eq, ij_in, ii_c, Int.toNat_natCast, Int.toNat_zero, Int.reduceToNat, Int.reduceEq, Int.reduceNe, Int.reduceLE, Int.reduceLT, Int.reduceAdd, Int.reduceSub, Int.reduceMul, Int.reduceNeg, Nat.reduceLT, Nat.reduceAdd, Nat.reduceMul, not_false_eq_true, not_true_eq_false, true_and, and_true, and_self, false_and, and_false, true_implies, false_implies, implies_true, forall_const, if_true, if_false, ite_true, ite_false, reduceIte, eq_self_iff_true, Int.natCast_nonneg, Int.zero_add, Int.add_zero, pi_s, pi_n, e1, e2, e3]
  rw [es2]
  refine ⟨⟨by omega, by omega⟩, fun q => at24 σ1 hB1 (exF_r σ1) (fun _ => eC) (fun z => absurd z (by omega)) (fun z => absurd z (by omega)) ?_ ?_, fun q => ?_⟩
  · obtain ⟨q, rfl⟩ := rST_n hs.1 (by omega)
    exact hs1
  · obtain ⟨q, rfl⟩ := rST_n hs.1 (by omega)
    exact fun t' e => by
      have e : (.inr q : ST) = .inl t' := e
      cases e
  obtain ⟨z1, z2⟩ := hf (by omega)
  refine ⟨rfl, hB1, by omega, by omega, rfl, fun τ hR hx => at24 τ hR.r1 hR.r2 (fun z => absurd z (by omega)) (fun _ => by have := hR.r3; omega) (fun z => ?_) (rW_expr hx hs1) (by rw [← eC]; exact (rST_expr hx hs1.1).2)⟩
  obtain ⟨g1, g2, g3, g4⟩ := hR.r4 z
  rw [eC] at g3 g4
  rw [eT] at g2 g3
  exact ⟨g1, g2, g3, g4⟩
theorem mX12_termE (l : Launch) : am_M l TB NB vwCl SH KF yX12_term cX12_term 1 none 6 0 0 sX12_termE := by
  refine am_M.of xX12_termE (by decide +kernel) TB_good GF rfl rfl rfl (by decide) ⟨FT_X12_ok, PT_X12_ok _, CT_X12_ok, KT_X12_ok, LT_X12_ok, NT_X12_ok, ?_⟩ ptX12_termE
  exact List.forall_mem_cons.mpr ⟨⟨yX12_expression, cX12_expression, 3, none, 5, 0, mX12_expressionE l, by decide, by decide, tk_1586, tk_120, ⟨by decide +kernel, by decide +kernel, by decide +kernel⟩, rfl, tk_1583, tk_1585, ⟨(RX12, TX12, 63), rfl, tb_at 55 (by decide +kernel) (by decide +kernel)⟩⟩, fun _ h => absurd h List.not_mem_nil⟩

