/-! THE REFERENCE READS: the answer, the place, the draft, exactly. Printed from wip/am/chk/hand/s6.in. -/
section
variable {b b' : Nat → Int} {Z : Nat}
theorem rn_cg {p : Int → Bool} (h : ∀ i, i < Z → b i = b' i) : ∀ f i, rn p b Z f i = rn p b' Z f i
  | 0, i => rfl
  | f + 1, i => by
    simp only [rn]
    by_cases q : i < Z
    · rw [h i q, rn_cg h f (i + 1)]
    · rw [if_neg (fun z => q z.1), if_neg (fun z => q z.1)]
theorem rr_cg {p : Int → Bool} {i : Nat} (h : ∀ i, i < Z → b i = b' i) : rr p b Z i = rr p b' Z i := rn_cg h _ _
theorem tnx_cg {i : Nat} (h : ∀ i, i < Z → b i = b' i) : tnx b Z i = tnx b' Z i := by
  unfold tnx
  by_cases q : Z ≤ i
  · rw [if_pos q, if_pos q]
  · rw [if_neg q, if_neg q, h i (by omega), rr_cg (p := isLt) h, rr_cg (p := isDg) h]
theorem ps_cg (h : ∀ i, i < Z → b i = b' i) : ∀ j, ps b Z j = ps b' Z j
  | 0 => rr_cg h
  | j + 1 => by
    show rr isBl b Z (tnx b Z (ps b Z j)) = rr isBl b' Z (tnx b' Z (ps b' Z j))
    rw [ps_cg h j, tnx_cg h, rr_cg h]
theorem pk_cg {i : Nat} (h : ∀ i, i < Z → b i = b' i) : ∀ n, i + n ≤ Z → pk b i n = pk b' i n
  | 0, _ => rfl
  | n + 1, q => by
    simp only [pk]
    rw [pk_cg h n (by omega), h (i + n) (by omega)]
theorem dv_cg {i : Nat} (h : ∀ i, i < Z → b i = b' i) : ∀ n, i + n ≤ Z → dv b i n = dv b' i n
  | 0, _ => rfl
  | n + 1, q => by
    simp only [dv]
    rw [dv_cg h n (by omega), h (i + n) (by omega)]
theorem tkd_cg {i : Nat} (h : ∀ i, i < Z → b i = b' i) : tkd b Z i = tkd b' Z i := by
  unfold tkd
  by_cases q : Z ≤ i
  · rw [if_pos q, if_pos q]
  · have l1 := rr_le (p := isLt) (b := b) (Z := Z) (i := i) (by omega)
    have l2 := rr_ge (p := isLt) (b := b) (Z := Z) (i := i)
    rw [if_neg q, if_neg q, h i (by omega), pk_cg h (rr isLt b Z i - i) (by omega), rr_cg (p := isLt) h, rr_cg (p := isDg) h]
theorem tk_cg (h : ∀ i, i < Z → b i = b' i) : (∀ j, tK b Z j = tK b' Z j) ∧ (∀ j, tP b Z j = tP b' Z j) ∧ (∀ j, tV b Z j = tV b' Z j) ∧ ∀ j, tN b Z j = tN b' Z j := by
  refine ⟨fun j => ?_, fun j => ?_, fun j => ?_, fun j => ?_⟩
  · unfold tK
    rw [ps_cg h, tkd_cg h]
  · unfold tP
    rw [ps_cg h]
  · unfold tV twI
    have l0 := ps_le (b := b) (Z := Z) j
    have l1 := rr_le (p := isDg) (b := b) (Z := Z) (i := ps b Z j) l0
    have l2 := rr_ge (p := isDg) (b := b) (Z := Z) (i := ps b Z j)
    rw [dv_cg h _ (by omega), rr_cg (p := isDg) h, ps_cg h]
  · unfold tN twN
    have l0 := ps_le (b := b) (Z := Z) j
    have l1 := rr_le (p := isLt) (b := b) (Z := Z) (i := ps b Z j) l0
    have l2 := rr_ge (p := isLt) (b := b) (Z := Z) (i := ps b Z j)
    rw [pk_cg h _ (by omega), rr_cg (p := isLt) h, ps_cg h]
theorem wVR_cg {σ : am_S} (h : ∀ i, i < Z → b i = b' i) (v : wVR b Z σ) : wVR b' Z σ := by
  obtain ⟨c1, c2, c3, c4⟩ := tk_cg h
  refine ⟨v.1, fun j hj hb => ?_⟩
  have w := v.2 j hj (fun i hi => by rw [c1]; exact hb i hi)
  unfold cR at w ⊢
  rw [c1, c2, c3, c4] at w
  exact w
end
/-- all are on the ladder -/
def aoV (σ : am_S) : Prop := ∀ i : Nat, (i : Int) < pP σ → (σ.1 62 (5 * (pS σ).toNat + i)).toInt < (σ.1 60 (pS σ).toNat).toInt
def sX12_areOnE : am_Sp := fun as n σ post => n = 92 ∧ sb_ok BB SH σ ∧ as = [.ref 51] ∧ ∀ z : Int, (z = 1 ∧ aoV σ ∨ z = 0 ∧ ¬ aoV σ) → post (some (.int (Int32.ofInt z))) σ
def xX12_areOnE : am_X := (SH, KF, (some .boolean), FT_X12, PT_X12, CT_X12, KT_X12, LT_X12, NT_X12, [])
theorem xX12_areOnE_SH : am_SH xX12_areOnE = SH := rfl
theorem xX12_areOnE_KF : am_KF xX12_areOnE = KF := rfl
theorem xX12_areOnE_rt : am_rt xX12_areOnE = (some .boolean) := rfl
theorem xX12_areOnE_FT : am_FT xX12_areOnE = FT_X12 := rfl
theorem xX12_areOnE_PT : am_PT xX12_areOnE = PT_X12 := rfl
theorem xX12_areOnE_CT : am_CT xX12_areOnE = CT_X12 := rfl
theorem xX12_areOnE_KT : am_KT xX12_areOnE = KT_X12 := rfl
theorem xX12_areOnE_LT : am_LT xX12_areOnE = LT_X12 := rfl
theorem xX12_areOnE_NT : am_NT xX12_areOnE = NT_X12 := rfl
theorem xX12_areOnE_t12 (k : Nat → Prop) : am_tg 12 (36) k = k 48 := am_tg_eq (by decide)
theorem xX12_areOnE_t37 (k : Nat → Prop) : am_tg 37 (5) k = k 42 := am_tg_eq (by decide)
theorem xX12_areOnE_t45 (k : Nat → Prop) : am_tg 45 (-43) k = k 2 := am_tg_eq (by decide)

set_option maxRecDepth 100000 in
theorem ao_2 {post : Option Value → am_S → Prop} {AA : Nat → List (Option Value) → List Value → Nat → am_S → Prop} (hA : ∀ cuts f pc ls stk n τ, am_vc cX12_areOn xX12_areOnE (92 + 0) post AA cuts f pc ls stk n τ → AA pc ls stk n τ) {σ : am_S} (hB : sb_ok BB SH σ) (h : ∀ z : Int, (z = 1 ∧ aoV σ ∨ z = 0 ∧ ¬ aoV σ) → post (some (.int (Int32.ofInt z))) σ) : ∀ i : Nat, i ≤ 5 → (i : Int) ≤ pP σ → (∀ j : Nat, j < i → (σ.1 62 (5 * (pS σ).toNat + j)).toInt < (σ.1 60 (pS σ).toNat).toInt) → AA 2 [some (.ref 51), some (.int (Int32.ofInt (i : Int)))] [] 92 σ := by
  refine am_up 5 fun i hi ih hip hl => ?_
  have sb := pS_b hB
  have pb := pP_b hB
  obtain ⟨sv, esv⟩ : ∃ sv, sv = pS σ := ⟨_, rfl⟩
  obtain ⟨pv, epv⟩ : ∃ pv, pv = pP σ := ⟨_, rfl⟩
  have e1 : σ.1 51 19 = Int32.ofInt sv := by rw [esv]; exact ii_of _
  have e2 : σ.1 61 sv.toNat = Int32.ofInt pv := by rw [epv, esv]; exact ii_of _
  obtain ⟨av, eav⟩ : ∃ av, av = (σ.1 62 (5 * sv + (i : Int)).toNat).toInt := ⟨_, rfl⟩
  obtain ⟨hv, ehv⟩ : ∃ hv, hv = (σ.1 60 sv.toNat).toInt := ⟨_, rfl⟩
  have e3 : σ.1 62 (5 * sv + (i : Int)).toNat = Int32.ofInt av := by rw [eav]; exact ii_of _
  have e4 : σ.1 60 sv.toNat = Int32.ofInt hv := by rw [ehv]; exact ii_of _
  have a1 := ii_lo (σ.1 62 (5 * sv + (i : Int)).toNat)
  have a2 := ii_hi (σ.1 62 (5 * sv + (i : Int)).toNat)
  have h1 := ii_lo (σ.1 60 sv.toNat)
  have h2 := ii_hi (σ.1 60 sv.toNat)
  rw [← eav] at a1 a2
  rw [← ehv] at h1 h2
  rw [← esv] at sb
  rw [← epv] at pb hip
  have ex : (5 * sv + (i : Int)).toNat = 5 * (pS σ).toNat + i := by omega
  rw [ex] at eav
  rw [esv] at ehv
  have at42 : av < hv → (i : Int) < pv → AA 42 [some (.ref 51), some (.int (Int32.ofInt (i : Int)))] [] 92 σ := fun q q2 => by
    refine hA [(2, 2)] 3 _ _ _ _ _ ?_
    try simp only [dX12_areOn_0, dX12_areOn_1, dX12_areOn_2, dX12_areOn_3, dX12_areOn_4, FT_X12_46, dX12_areOn_7, dX12_areOn_8, FT_X12_224, dX12_areOn_11, dX12_areOn_12, xX12_areOnE_t12, dX12_areOn_15, dX12_areOn_16, FT_X12_49, dX12_areOn_19, dX12_areOn_20, dX12_areOn_21, dX12_areOn_24, dX12_areOn_25, dX12_areOn_26, dX12_areOn_27, dX12_areOn_28, dX12_areOn_29, FT_X12_43, dX12_areOn_32, dX12_areOn_33, dX12_areOn_36, dX12_areOn_37, xX12_areOnE_t37, dX12_areOn_40, dX12_areOn_41, dX12_areOn_42, dX12_areOn_45, xX12_areOnE_t45, dX12_areOn_48, dX12_areOn_49, xX12_areOnE_SH, xX12_areOnE_KF, xX12_areOnE_rt, xX12_areOnE_FT, xX12_areOnE_PT, xX12_areOnE_CT, xX12_areOnE_KT, xX12_areOnE_LT, xX12_areOnE_NT, o_aload_n, o_getfield, o_goto, o_iadd, o_iaload, o_iconst, o_if_icmp_ge, o_if_icmp_lt, o_iinc, o_iload_n, o_imul, o_ireturn, o_istore_n, SH_51, KF_51_19, KF_51_22, SH_60, KF_51_23, SH_61, KF_51_24, SH_62, am_ty, am_vc, am_opt, am_cl, am_find, am_ldi, am_ldl, am_lda, am_v, am_1, am_1l, am_1a, am_2, am_2l, am_ix, am_ri, am_arr, am_pf, am_rc, am_mask, am_lg, am_av, am_nat, fv_0, fv_1, fv_2, fv_3, fw_0, fw_1, List.getElem?_cons_zero, List.getElem?_cons_succ, List.set_cons_zero, List.set_cons_succ, List.length_cons, List.length_nil, List.take_succ_cons, List.take_zero, List.drop_succ_cons, List.drop_zero, List.reverse_cons, List.reverse_nil, List.nil_append, List.cons_append, List.append_nil, List.map_cons, List.map_nil, List.sum_cons, List.sum_nil, Value.category, Option.toList_some, Option.toList_none, Nat.reduceAdd, Nat.reduceLT, Nat.reduceLeDiff, Nat.reduceEqDiff, Nat.reduceSub, Nat.add_zero, Nat.le_refl, Nat.zero_le, Int.reduceNeg, Int.reduceLE, Int.reduceLT, true_and, and_true, and_self, if_true, if_false, ite_true, ite_false, eq_self_iff_true, reduceIte, reduceCtorEq, not_false_eq_true, not_true_eq_false, or_true, true_or, or_false, false_or, Nat.lt_irrefl, Nat.zero_lt_succ, nb_0, nb_1]
    try simp (disch := omega) only [ii_0, ii_1, ii_t, ii_add, ii_sub, ii_mul, ii_lt, ii_le, ii_eq, ij_in, ii_c, Int.toNat_natCast, Int.toNat_zero, Int.reduceToNat, Int.reduceEq, Int.reduceNe, Int.reduceLE, Int.reduceLT, Int.reduceAdd, Int.reduceSub, Int.reduceMul, Int.reduceNeg, Nat.reduceLT, Nat.reduceAdd, Nat.reduceMul, not_false_eq_true, not_true_eq_false, true_and, and_true, and_self, false_and, and_false, true_implies, false_implies, implies_true, forall_const, if_true, if_false, ite_true, ite_false, reduceIte, eq_self_iff_true, Int.natCast_nonneg, Int.zero_add, Int.add_zero, pi_s, pi_n, ik_s]
    refine ih (by omega) (by rw [← epv]; omega) (fun j hj => ?_)
    by_cases w : j = i
    · subst w
      rw [← eav, ← ehv]
      exact q
    · exact hl j (by omega)
  have at48 : ¬ (i : Int) < pv → AA 48 [some (.ref 51), some (.int (Int32.ofInt (i : Int)))] [] 92 σ := fun q => by
    have hP := h 1 (Or.inl ⟨rfl, fun j hj => hl j (by omega)⟩)
    refine hA [] 2 _ _ _ _ _ ?_
    try simp only [dX12_areOn_0, dX12_areOn_1, dX12_areOn_2, dX12_areOn_3, dX12_areOn_4, FT_X12_46, dX12_areOn_7, dX12_areOn_8, FT_X12_224, dX12_areOn_11, dX12_areOn_12, xX12_areOnE_t12, dX12_areOn_15, dX12_areOn_16, FT_X12_49, dX12_areOn_19, dX12_areOn_20, dX12_areOn_21, dX12_areOn_24, dX12_areOn_25, dX12_areOn_26, dX12_areOn_27, dX12_areOn_28, dX12_areOn_29, FT_X12_43, dX12_areOn_32, dX12_areOn_33, dX12_areOn_36, dX12_areOn_37, xX12_areOnE_t37, dX12_areOn_40, dX12_areOn_41, dX12_areOn_42, dX12_areOn_45, xX12_areOnE_t45, dX12_areOn_48, dX12_areOn_49, xX12_areOnE_SH, xX12_areOnE_KF, xX12_areOnE_rt, xX12_areOnE_FT, xX12_areOnE_PT, xX12_areOnE_CT, xX12_areOnE_KT, xX12_areOnE_LT, xX12_areOnE_NT, o_aload_n, o_getfield, o_goto, o_iadd, o_iaload, o_iconst, o_if_icmp_ge, o_if_icmp_lt, o_iinc, o_iload_n, o_imul, o_ireturn, o_istore_n, SH_51, KF_51_19, KF_51_22, SH_60, KF_51_23, SH_61, KF_51_24, SH_62, am_ty, am_vc, am_opt, am_cl, am_find, am_ldi, am_ldl, am_lda, am_v, am_1, am_1l, am_1a, am_2, am_2l, am_ix, am_ri, am_arr, am_pf, am_rc, am_mask, am_lg, am_av, am_nat, fv_0, fv_1, fv_2, fv_3, fw_0, fw_1, List.getElem?_cons_zero, List.getElem?_cons_succ, List.set_cons_zero, List.set_cons_succ, List.length_cons, List.length_nil, List.take_succ_cons, List.take_zero, List.drop_succ_cons, List.drop_zero, List.reverse_cons, List.reverse_nil, List.nil_append, List.cons_append, List.append_nil, List.map_cons, List.map_nil, List.sum_cons, List.sum_nil, Value.category, Option.toList_some, Option.toList_none, Nat.reduceAdd, Nat.reduceLT, Nat.reduceLeDiff, Nat.reduceEqDiff, Nat.reduceSub, Nat.add_zero, Nat.le_refl, Nat.zero_le, Int.reduceNeg, Int.reduceLE, Int.reduceLT, true_and, and_true, and_self, if_true, if_false, ite_true, ite_false, eq_self_iff_true, reduceIte, reduceCtorEq, not_false_eq_true, not_true_eq_false, or_true, true_or, or_false, false_or, Nat.lt_irrefl, Nat.zero_lt_succ, nb_0, nb_1]
    exact hP
  have no : ¬ av < hv → (i : Int) < pv → post (some (.int (Int32.ofInt 0))) σ := fun q q2 => h 0 (Or.inr ⟨rfl, fun z => q (by
    have := z i (by omega)
    rw [← eav, ← ehv] at this
    exact this)⟩)
  refine hA [(42, 2), (48, 2)] 40 _ _ _ _ _ ?_
  try simp only [dX12_areOn_0, dX12_areOn_1, dX12_areOn_2, dX12_areOn_3, dX12_areOn_4, FT_X12_46, dX12_areOn_7, dX12_areOn_8, FT_X12_224, dX12_areOn_11, dX12_areOn_12, xX12_areOnE_t12, dX12_areOn_15, dX12_areOn_16, FT_X12_49, dX12_areOn_19, dX12_areOn_20, dX12_areOn_21, dX12_areOn_24, dX12_areOn_25, dX12_areOn_26, dX12_areOn_27, dX12_areOn_28, dX12_areOn_29, FT_X12_43, dX12_areOn_32, dX12_areOn_33, dX12_areOn_36, dX12_areOn_37, xX12_areOnE_t37, dX12_areOn_40, dX12_areOn_41, dX12_areOn_42, dX12_areOn_45, xX12_areOnE_t45, dX12_areOn_48, dX12_areOn_49, xX12_areOnE_SH, xX12_areOnE_KF, xX12_areOnE_rt, xX12_areOnE_FT, xX12_areOnE_PT, xX12_areOnE_CT, xX12_areOnE_KT, xX12_areOnE_LT, xX12_areOnE_NT, o_aload_n, o_getfield, o_goto, o_iadd, o_iaload, o_iconst, o_if_icmp_ge, o_if_icmp_lt, o_iinc, o_iload_n, o_imul, o_ireturn, o_istore_n, SH_51, KF_51_19, KF_51_22, SH_60, KF_51_23, SH_61, KF_51_24, SH_62, am_ty, am_vc, am_opt, am_cl, am_find, am_ldi, am_ldl, am_lda, am_v, am_1, am_1l, am_1a, am_2, am_2l, am_ix, am_ri, am_arr, am_pf, am_rc, am_mask, am_lg, am_av, am_nat, fv_0, fv_1, fv_2, fv_3, fw_0, fw_1, List.getElem?_cons_zero, List.getElem?_cons_succ, List.set_cons_zero, List.set_cons_succ, List.length_cons, List.length_nil, List.take_succ_cons, List.take_zero, List.drop_succ_cons, List.drop_zero, List.reverse_cons, List.reverse_nil, List.nil_append, List.cons_append, List.append_nil, List.map_cons, List.map_nil, List.sum_cons, List.sum_nil, Value.category, Option.toList_some, Option.toList_none, Nat.reduceAdd, Nat.reduceLT, Nat.reduceLeDiff, Nat.reduceEqDiff, Nat.reduceSub, Nat.add_zero, Nat.le_refl, Nat.zero_le, Int.reduceNeg, Int.reduceLE, Int.reduceLT, true_and, and_true, and_self, if_true, if_false, ite_true, ite_false, eq_self_iff_true, reduceIte, reduceCtorEq, not_false_eq_true, not_true_eq_false, or_true, true_or, or_false, false_or, Nat.lt_irrefl, Nat.zero_lt_succ, e1, nb_0, nb_1]
  try simp (disch := omega) only [ii_0, ii_1, ii_t, ii_add, ii_sub, ii_mul, ii_lt, ii_le, ii_eq, ij_in, ii_c, Int.toNat_natCast, Int.toNat_zero, Int.reduceToNat, Int.reduceEq, Int.reduceNe, Int.reduceLE, Int.reduceLT, Int.reduceAdd, Int.reduceSub, Int.reduceMul, Int.reduceNeg, Nat.reduceLT, Nat.reduceAdd, Nat.reduceMul, not_false_eq_true, not_true_eq_false, true_and, and_true, and_self, false_and, and_false, true_implies, false_implies, implies_true, forall_const, if_true, if_false, ite_true, ite_false, reduceIte, eq_self_iff_true, Int.natCast_nonneg, Int.zero_add, Int.add_zero, pi_s, pi_n, e1, e2, e3, e4]
  refine ⟨⟨by omega, by omega⟩, fun q => at48 (by omega), fun q => ⟨⟨by omega, by omega⟩, ⟨by omega, by omega⟩, fun q2 => at42 (by omega) (by omega), fun q2 => no (by omega) (by omega)⟩⟩
set_option maxRecDepth 100000 in
theorem ptX12_areOnE : am_B cX12_areOn xX12_areOnE 2 0 sX12_areOnE := by
  intro n0 as σ post AA hA h
  obtain ⟨rfl, hB, rfl, h⟩ := h
  have pb := pP_b hB
  refine ⟨by simp [am_sl, Value.category], ?_⟩
  show AA 0 [some (.ref 51), none] [] 92 σ
  refine hA [(2, 2)] 3 _ _ _ _ _ ?_
  try simp only [dX12_areOn_0, dX12_areOn_1, dX12_areOn_2, dX12_areOn_3, dX12_areOn_4, FT_X12_46, dX12_areOn_7, dX12_areOn_8, FT_X12_224, dX12_areOn_11, dX12_areOn_12, xX12_areOnE_t12, dX12_areOn_15, dX12_areOn_16, FT_X12_49, dX12_areOn_19, dX12_areOn_20, dX12_areOn_21, dX12_areOn_24, dX12_areOn_25, dX12_areOn_26, dX12_areOn_27, dX12_areOn_28, dX12_areOn_29, FT_X12_43, dX12_areOn_32, dX12_areOn_33, dX12_areOn_36, dX12_areOn_37, xX12_areOnE_t37, dX12_areOn_40, dX12_areOn_41, dX12_areOn_42, dX12_areOn_45, xX12_areOnE_t45, dX12_areOn_48, dX12_areOn_49, xX12_areOnE_SH, xX12_areOnE_KF, xX12_areOnE_rt, xX12_areOnE_FT, xX12_areOnE_PT, xX12_areOnE_CT, xX12_areOnE_KT, xX12_areOnE_LT, xX12_areOnE_NT, o_aload_n, o_getfield, o_goto, o_iadd, o_iaload, o_iconst, o_if_icmp_ge, o_if_icmp_lt, o_iinc, o_iload_n, o_imul, o_ireturn, o_istore_n, SH_51, KF_51_19, KF_51_22, SH_60, KF_51_23, SH_61, KF_51_24, SH_62, am_ty, am_vc, am_opt, am_cl, am_find, am_ldi, am_ldl, am_lda, am_v, am_1, am_1l, am_1a, am_2, am_2l, am_ix, am_ri, am_arr, am_pf, am_rc, am_mask, am_lg, am_av, am_nat, fv_0, fv_1, fv_2, fv_3, fw_0, fw_1, List.getElem?_cons_zero, List.getElem?_cons_succ, List.set_cons_zero, List.set_cons_succ, List.length_cons, List.length_nil, List.take_succ_cons, List.take_zero, List.drop_succ_cons, List.drop_zero, List.reverse_cons, List.reverse_nil, List.nil_append, List.cons_append, List.append_nil, List.map_cons, List.map_nil, List.sum_cons, List.sum_nil, Value.category, Option.toList_some, Option.toList_none, Nat.reduceAdd, Nat.reduceLT, Nat.reduceLeDiff, Nat.reduceEqDiff, Nat.reduceSub, Nat.add_zero, Nat.le_refl, Nat.zero_le, Int.reduceNeg, Int.reduceLE, Int.reduceLT, true_and, and_true, and_self, if_true, if_false, ite_true, ite_false, eq_self_iff_true, reduceIte, reduceCtorEq, not_false_eq_true, not_true_eq_false, or_true, true_or, or_false, false_or, Nat.lt_irrefl, Nat.zero_lt_succ, nb_0, nb_1]
  exact ao_2 hA hB h 0 (by decide) pb.1 (fun j hj => absurd hj (Nat.not_lt_zero _))
theorem mX12_areOnE (l : Launch) : am_M l TB NB vwCl SH KF yX12_areOn cX12_areOn 2 (some .boolean) 2 0 0 sX12_areOnE := by
  refine am_M.of xX12_areOnE (by decide +kernel) TB_good GF rfl rfl rfl (by decide) ⟨FT_X12_ok, PT_X12_ok _, CT_X12_ok, KT_X12_ok, LT_X12_ok, NT_X12_ok, ?_⟩ ptX12_areOnE
  exact fun _ h => absurd h List.not_mem_nil

/-- plain, with the seed -/
def plJ (s k : Nat) (σ τ : am_S) : Prop := plI s k σ τ ∧ τ.1 66 s = Int32.ofInt 0
def sX12_plain3 : am_Sp := fun as n σ post => n = 92 ∧ sb_ok BB SH σ ∧ ∃ s : Nat, s < 2 ∧ as = [.ref 51, .int (Int32.ofInt (s : Int))] ∧ ∀ τ, plJ s 4 σ τ → post none τ
theorem plJ_law {s k : Nat} {σ τ : am_S} (h : plJ s k σ τ) (hs : s < 2) (hk : k < 4) : plJ s (k + 1) σ (am_pi (am_pi τ 67 (4 * s + k) (Int32.ofInt 0)) 68 (4 * s + k) (Int32.ofInt 0)) :=
  ⟨plI_law h.1 hs hk, by rw [pi_n _ _ _ _ (fun z => absurd z.1 (by decide)), pi_n _ _ _ _ (fun z => absurd z.1 (by decide))]; exact h.2⟩
set_option maxRecDepth 100000 in
theorem pl3_loop {post : Option Value → am_S → Prop} {AA : Nat → List (Option Value) → List Value → Nat → am_S → Prop} (hA : ∀ cuts f pc ls stk n τ, am_vc cX12_plain xX12_plain (92 + 0) post AA cuts f pc ls stk n τ → AA pc ls stk n τ) {s : Nat} {σ0 : am_S} (hs : s < 2) (h : ∀ τ, plJ s 4 σ0 τ → post none τ) : ∀ k : Nat, k ≤ 4 → ∀ σ, plJ s k σ0 σ → AA 24 [some (.ref 51), some (.int (Int32.ofInt (s : Int))), some (.int (Int32.ofInt (k : Int)))] [] 92 σ := by
  refine am_up 4 fun k hk ih σ hF => ?_
  have e : (4 * (s : Int) + (k : Int)).toNat = 4 * s + k := by omega
  refine hA [(24, 3)] 60 _ _ _ _ _ ?_
  try simp only [dX12_plain_0, dX12_plain_1, FT_X12_43, dX12_plain_4, dX12_plain_5, dX12_plain_7, dX12_plain_8, dX12_plain_9, FT_X12_46, dX12_plain_12, dX12_plain_13, dX12_plain_14, dX12_plain_15, dX12_plain_16, FT_X12_61, dX12_plain_19, dX12_plain_20, dX12_plain_21, dX12_plain_22, dX12_plain_23, dX12_plain_24, dX12_plain_25, dX12_plain_26, xX12_plain_t26, dX12_plain_29, dX12_plain_30, FT_X12_64, dX12_plain_33, dX12_plain_34, dX12_plain_35, dX12_plain_36, dX12_plain_37, dX12_plain_38, dX12_plain_39, dX12_plain_40, dX12_plain_41, FT_X12_67, dX12_plain_44, dX12_plain_45, dX12_plain_46, dX12_plain_47, dX12_plain_48, dX12_plain_49, dX12_plain_50, dX12_plain_51, dX12_plain_54, xX12_plain_t54, dX12_plain_57, xX12_plain_SH, xX12_plain_KF, xX12_plain_rt, xX12_plain_FT, xX12_plain_PT, xX12_plain_CT, xX12_plain_KT, xX12_plain_LT, xX12_plain_NT, o_aload_n, o_bipush, o_getfield, o_goto, o_iadd, o_iastore, o_iconst, o_if_icmp_ge, o_iinc, o_iload_n, o_imul, o_istore_n, o_return_, SH_51, KF_51_22, SH_60, KF_51_23, SH_61, KF_51_28, SH_66, KF_51_29, SH_67, KF_51_30, SH_68, am_ty, am_vc, am_opt, am_cl, am_find, am_ldi, am_ldl, am_lda, am_v, am_1, am_1l, am_1a, am_2, am_2l, am_ix, am_ri, am_arr, am_pf, am_rc, am_mask, am_lg, am_av, am_nat, fv_0, fv_1, fv_2, fv_3, fw_0, fw_1, List.getElem?_cons_zero, List.getElem?_cons_succ, List.set_cons_zero, List.set_cons_succ, List.length_cons, List.length_nil, List.take_succ_cons, List.take_zero, List.drop_succ_cons, List.drop_zero, List.reverse_cons, List.reverse_nil, List.nil_append, List.cons_append, List.append_nil, List.map_cons, List.map_nil, List.sum_cons, List.sum_nil, Value.category, Option.toList_some, Option.toList_none, Nat.reduceAdd, Nat.reduceLT, Nat.reduceLeDiff, Nat.reduceEqDiff, Nat.reduceSub, Nat.add_zero, Nat.le_refl, Nat.zero_le, Int.reduceNeg, Int.reduceLE, Int.reduceLT, true_and, and_true, and_self, if_true, if_false, ite_true, ite_false, eq_self_iff_true, reduceIte, reduceCtorEq, not_false_eq_true, not_true_eq_false, or_true, true_or, or_false, false_or, Nat.lt_irrefl, Nat.zero_lt_succ]
  try simp (disch := omega) only [ii_0, ii_1, ii_t, ii_add, ii_sub, ii_mul, ii_lt, ii_le, ii_eq, ij_in, ii_c, Int.toNat_natCast, Int.toNat_zero, Int.reduceToNat, Int.reduceEq, Int.reduceNe, Int.reduceLE, Int.reduceLT, Int.reduceAdd, Int.reduceSub, Int.reduceMul, Int.reduceNeg, Nat.reduceLT, Nat.reduceAdd, Nat.reduceMul, not_false_eq_true, not_true_eq_false, true_and, and_true, and_self, false_and, and_false, true_implies, false_implies, implies_true, forall_const, if_true, if_false, ite_true, ite_false, reduceIte, eq_self_iff_true, Int.natCast_nonneg, Int.zero_add, Int.add_zero, pi_s, pi_n, ik_s]
  rw [e]
  refine ⟨fun h1 => h _ (by have e4 : k = 4 := by omega
                            rw [e4] at hF
                            exact hF), fun h1 => ⟨⟨by omega, by omega⟩, ⟨by omega, by omega⟩, ih (by omega) _ (plJ_law hF hs (by omega))⟩⟩
set_option maxRecDepth 100000 in
theorem ptX12_plain3 : am_B cX12_plain xX12_plain 3 0 sX12_plain3 := by
  intro n0 as σ post AA hA h
  obtain ⟨rfl, hB, s, hs, rfl, h⟩ := h
  refine ⟨by simp [am_sl, Value.category], ?_⟩
  show AA 0 [some (.ref 51), some (.int (Int32.ofInt (s : Int))), none] [] 92 σ
  refine hA [(24, 3)] 60 _ _ _ _ _ ?_
  try simp only [dX12_plain_0, dX12_plain_1, FT_X12_43, dX12_plain_4, dX12_plain_5, dX12_plain_7, dX12_plain_8, dX12_plain_9, FT_X12_46, dX12_plain_12, dX12_plain_13, dX12_plain_14, dX12_plain_15, dX12_plain_16, FT_X12_61, dX12_plain_19, dX12_plain_20, dX12_plain_21, dX12_plain_22, dX12_plain_23, dX12_plain_24, dX12_plain_25, dX12_plain_26, xX12_plain_t26, dX12_plain_29, dX12_plain_30, FT_X12_64, dX12_plain_33, dX12_plain_34, dX12_plain_35, dX12_plain_36, dX12_plain_37, dX12_plain_38, dX12_plain_39, dX12_plain_40, dX12_plain_41, FT_X12_67, dX12_plain_44, dX12_plain_45, dX12_plain_46, dX12_plain_47, dX12_plain_48, dX12_plain_49, dX12_plain_50, dX12_plain_51, dX12_plain_54, xX12_plain_t54, dX12_plain_57, xX12_plain_SH, xX12_plain_KF, xX12_plain_rt, xX12_plain_FT, xX12_plain_PT, xX12_plain_CT, xX12_plain_KT, xX12_plain_LT, xX12_plain_NT, o_aload_n, o_bipush, o_getfield, o_goto, o_iadd, o_iastore, o_iconst, o_if_icmp_ge, o_iinc, o_iload_n, o_imul, o_istore_n, o_return_, SH_51, KF_51_22, SH_60, KF_51_23, SH_61, KF_51_28, SH_66, KF_51_29, SH_67, KF_51_30, SH_68, am_ty, am_vc, am_opt, am_cl, am_find, am_ldi, am_ldl, am_lda, am_v, am_1, am_1l, am_1a, am_2, am_2l, am_ix, am_ri, am_arr, am_pf, am_rc, am_mask, am_lg, am_av, am_nat, fv_0, fv_1, fv_2, fv_3, fw_0, fw_1, List.getElem?_cons_zero, List.getElem?_cons_succ, List.set_cons_zero, List.set_cons_succ, List.length_cons, List.length_nil, List.take_succ_cons, List.take_zero, List.drop_succ_cons, List.drop_zero, List.reverse_cons, List.reverse_nil, List.nil_append, List.cons_append, List.append_nil, List.map_cons, List.map_nil, List.sum_cons, List.sum_nil, Value.category, Option.toList_some, Option.toList_none, Nat.reduceAdd, Nat.reduceLT, Nat.reduceLeDiff, Nat.reduceEqDiff, Nat.reduceSub, Nat.add_zero, Nat.le_refl, Nat.zero_le, Int.reduceNeg, Int.reduceLE, Int.reduceLT, true_and, and_true, and_self, if_true, if_false, ite_true, ite_false, eq_self_iff_true, reduceIte, reduceCtorEq, not_false_eq_true, not_true_eq_false, or_true, true_or, or_false, false_or, Nat.lt_irrefl, Nat.zero_lt_succ]
  try simp (disch := omega) only [ii_0, ii_1, ii_t, ii_add, ii_sub, ii_mul, ii_lt, ii_le, ii_eq, ij_in, ii_c, Int.toNat_natCast, Int.toNat_zero, Int.reduceToNat, Int.reduceEq, Int.reduceNe, Int.reduceLE, Int.reduceLT, Int.reduceAdd, Int.reduceSub, Int.reduceMul, Int.reduceNeg, Nat.reduceLT, Nat.reduceAdd, Nat.reduceMul, not_false_eq_true, not_true_eq_false, true_and, and_true, and_self, false_and, and_false, true_implies, false_implies, implies_true, forall_const, if_true, if_false, ite_true, ite_false, reduceIte, eq_self_iff_true, Int.natCast_nonneg, Int.zero_add, Int.add_zero, pi_s, pi_n]
  refine ⟨by omega, by omega, by omega, pl3_loop hA hs h 0 (by decide) _ ⟨⟨sI_arr (q := (0, 2)) (sI_arr (q := (0, 2)) (sI_arr (q := (0, 2)) ⟨hB, sb_fr_r _ _⟩ rfl ?_ ⟨(60, s, s + 1), by unfold plM; simp, rfl, Nat.le_refl _, Nat.lt_succ_self _⟩) rfl ?_ ⟨(61, s, s + 1), by unfold plM; simp, rfl, Nat.le_refl _, Nat.lt_succ_self _⟩) rfl ?_ ⟨(66, s, s + 1), by unfold plM; simp, rfl, Nat.le_refl _, Nat.lt_succ_self _⟩, ?_, ?_, fun j hj => absurd hj (Nat.not_lt_zero _)⟩, ?_⟩⟩
  · rw [sb_1 (q := (-2147483648, 2147483647)) rfl]; exact ⟨by decide, by decide⟩
  · rw [sb_1 (q := (0, 5)) rfl]; exact ⟨by decide, by decide⟩
  · rw [sb_1 (q := (-2147483648, 2147483647)) rfl]; exact ⟨by decide, by decide⟩
  · rw [pi_n _ _ _ _ (fun z => absurd z.1 (by decide)), pi_n _ _ _ _ (fun z => absurd z.1 (by decide)), pi_s]
  · rw [pi_n _ _ _ _ (fun z => absurd z.1 (by decide)), pi_s]
  · rw [pi_s]
theorem mX12_plain3 (l : Launch) : am_M l TB NB vwCl SH KF yX12_plain cX12_plain 3 none 2 0 0 sX12_plain3 :=
  am_M.of xX12_plain (by decide +kernel) TB_good GF rfl rfl rfl (by decide) ⟨FT_X12_ok, PT_X12_ok _, CT_X12_ok, KT_X12_ok, LT_X12_ok, NT_X12_ok, fun _ h => absurd h List.not_mem_nil⟩ ptX12_plain3
/-- a draft's depth -/
def dS (d : DR) : Prop := 1 ≤ d.1 ∧ d.1 ≤ 12
theorem dS_O {b : Nat → Int} {Z t : Nat} {u : UT} {d : DR} (hd : dS d) : dS (spO b Z t u d).2.2 := by
  by_cases k1 : tK b Z t = 20
  · rw [spO, if_pos k1]
    exact spQ_b (by decide) _ _
  · by_cases k2 : tK b Z t = 21
    · rw [spO, if_neg k1, if_pos k2]
      by_cases k5 : d.2.2.1.length = 5
      · rw [if_pos k5]; exact hd
      · rw [if_neg k5]; exact hd
    · by_cases k3 : 22 ≤ tK b Z t ∧ tK b Z t ≤ 25
      · rw [spO, if_neg k1, if_neg k2, if_pos k3]
        exact hd
      · by_cases k4 : tK b Z t = 26
        · rw [spO, if_neg k1, if_neg k2, if_neg k3, if_pos k4]
          exact hd
        · rw [spO, if_neg k1, if_neg k2, if_neg k3, if_neg k4]
          exact hd
theorem ao_all {S : Int} {σ : am_S} {d : DR} (eS : pS σ = S) (h : rD S σ d (0, -1)) (h1 : dO d) (h2 : dS d) : aoV σ ↔ d.2.2.1.all (fun p => decide (p.2.1 < d.1)) = true := by
  obtain ⟨⟨⟨l1, _, l3⟩, q⟩, c, _⟩ := h
  have q := q rfl
  have c := (c rfl).1
  rw [List.all_eq_true]
  unfold aoV
  rw [eS, c, ii_t (by have := h2.1; omega) (by have := h2.2; omega), l1]
  constructor
  · intro h p hp
    obtain ⟨j, h3, h4⟩ := List.mem_iff_getElem.mp hp
    have w := h j (by omega)
    have eg : d.2.2.1.getD j pr0 = p := by rw [List.getD_eq_getElem?_getD, List.getElem?_eq_getElem h3]; exact h4
    obtain ⟨_, a2, _⟩ := q j h3
    have b1 := h1 j h3
    rw [eg] at a2 b1
    rw [a2, ii_t (by omega) (by omega)] at w
    exact decide_eq_true w
  · intro h j hj
    have h3 : j < d.2.2.1.length := by omega
    obtain ⟨_, a2, _⟩ := q j h3
    have b1 := h1 j h3
    have eg : d.2.2.1.getD j pr0 = d.2.2.1[j] := by rw [List.getD_eq_getElem?_getD, List.getElem?_eq_getElem h3]; rfl
    have w := of_decide_eq_true (h _ (List.getElem_mem h3))
    rw [a2, ii_t (by omega) (by omega), eg]
    exact w
/-- what the end of read leaves as it was -/
def rL (σ τ : am_S) : Prop := ∀ o i, o ≤ 76 → ¬ (o = 51 ∧ ((17 ≤ i ∧ i ≤ 18) ∨ 41 < i)) → τ.1 o i = σ.1 o i ∧ (o ≠ 51 → τ.2 o i = σ.2 o i)
def rlB (m : Nat × Nat × Nat) : Bool := decide (76 < m.1) || (decide (m.1 = 51) && ((decide (17 ≤ m.2.1) && decide (m.2.2 ≤ 18 + 1)) || decide (41 < m.2.1)))
theorem rL_fr {M : sa_M} {σ τ : am_S} (h : sb_fr M σ τ) (hM : M.all rlB = true) : rL σ τ := fun o i h1 h2 => by
  have w := h o i (fun m hm hh => by
    have q := List.all_eq_true.mp hM m hm
    unfold rlB at q
    simp only [Bool.and_eq_true, Bool.or_eq_true, decide_eq_true_eq] at q
    omega)
  exact ⟨w.1, fun _ => w.2⟩
theorem rL_t {σ τ υ : am_S} (h : rL σ τ) (g : rL τ υ) : rL σ υ := fun o i a c => ⟨(g o i a c).1.trans (h o i a c).1, fun z => ((g o i a c).2 z).trans ((h o i a c).2 z)⟩
theorem rD_L {S : Int} {σ τ : am_S} {d : DR} {u : UT} (h : rD S σ d u) (g : rL σ τ) : rD S τ d u := by
  have eS : pS τ = pS σ := by unfold pS; rw [(g _ _ (by decide) (by decide)).1]
  have eP : pP τ = pP σ := by unfold pP; rw [eS, (g _ _ (by decide) (fun z => absurd z.1 (by decide))).1]
  have eN : pN τ = pN σ := by unfold pN; rw [(g _ _ (by decide) (by decide)).1]
  refine ⟨rQ_m h.1 ⟨fun i => (g _ _ (by decide) (fun z => absurd z.1 (by decide))).2 (by decide), fun o i a c => (g _ _ (by omega) (by omega)).1, fun o i q => by
    unfold hfo at q
    exact (g _ _ (by omega) (by omega)).1⟩ eP eN id, fun z => ?_, rGk_fr h.2.2 (fun o i a c => (g _ _ (by omega) (by omega)).1) (by unfold pB; rw [(g _ _ (by decide) (by decide)).1]) (by unfold pC; rw [(g _ _ (by decide) (by decide)).1])⟩
  rw [(g _ _ (by decide) (fun z => absurd z.1 (by decide))).1, (g 66 _ (by decide) (fun z => absurd z.1 (by decide))).1]
  exact h.2.1 z
def bR (σ : am_S) (i : Nat) : Int := (σ.1 52 i).toInt
/-- what read leaves, by what the text says -/
def rdX (b : Nat → Int) (Z : Nat) (σ0 τ : am_S) : Prop := τ.1 51 17 = Int32.ofInt (spR b Z).2.1 ∧ ((spR b Z).1 = 0 → (τ.1 51 58 = Int32.ofInt 0 ∧ τ.1 51 49 = Int32.ofInt 0 ∧ ∀ i, i < 3 → τ.1 90 i = Int32.ofInt 0) ∧ pS τ = (τ.1 51 18).toInt ∧ rD (pS τ) τ (spR b Z).2.2 (0, -1)) ∧ ((spR b Z).1 ≠ 0 → rF (1 - (σ0.1 51 18).toInt) σ0 τ ∧ rK (1 - (σ0.1 51 18).toInt) σ0 τ)
def kT (σ0 τ : am_S) : Prop := (∀ i, τ.2 58 i = σ0.2 58 i) ∧ (∀ i, τ.1 52 i = σ0.1 52 i) ∧ τ.1 51 2 = 0
abbrev rdE (σ0 : am_S) (b : Nat → Int) (Z : Nat) (post : Option Value → am_S → Prop) : Prop := ∀ τ : am_S, sb_ok BB SH τ → JJ τ → cI' σ0 τ → kT σ0 τ → rdX b Z σ0 τ → post (some (.int (Int32.ofInt (spR b Z).1))) τ
def sX12_readE : am_Sp := fun as n σ post => n = 92 ∧ sb_ok BB SH σ ∧ JJ σ ∧ KR σ ∧ as = [.ref 51] ∧ ∃ (b : Nat → Int) (Z : Nat), Z ≤ 2000 ∧ σ.1 51 2 = Int32.ofInt (Z : Int) ∧ (∀ i, i < Z → b i = bR σ i) ∧ rdE σ b Z post
section
variable {σ0 : am_S} {post : Option Value → am_S → Prop} {AA : Nat → List (Option Value) → List Value → Nat → am_S → Prop}
end
