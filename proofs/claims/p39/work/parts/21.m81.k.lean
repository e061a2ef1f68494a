-- Town()
def VT (o : Nat) (L : List (Nat × Nat × Int32)) : List (Nat × Nat × Int32) := VC (o + 1) ((o, 7, Int32.ofNat (o + 11)) :: (o, 6, Int32.ofNat (o + 10)) :: (o, 5, Int32.ofNat (o + 9)) :: (o, 4, Int32.ofNat (o + 8)) :: (o, 3, Int32.ofNat (o + 2)) :: VL (o + 1) ((o, 2, Int32.ofInt 0) :: (o, 1, Int32.ofInt 0) :: (o, 0, Int32.ofInt 8) :: L))
def sX9_initq : am_Sp := fun as n σ post => ∃ (o : Nat) (L : List (Nat × Nat × Int32)), (o = 3 ∨ o = 20) ∧ n = o + 1 ∧ as = [.ref o] ∧ St L n σ ∧ kb L o ∧ ∀ τ, St (VT o L) (o + 11) τ → post none τ
def xX9_initq : am_X := (SH, K1, none, FT_X9, PI_X9, CT_X9, KT_X9, LT_X9, NT_X9, [(23, 5, 1, 2, 5, 853, sX2_initq), (41, 0, 1, 2, 0, 0, sX2_clearq)])
theorem xX9_initq_SH : am_SH xX9_initq = SH := rfl
theorem xX9_initq_KF : am_KF xX9_initq = K1 := rfl
theorem xX9_initq_rt : am_rt xX9_initq = none := rfl
theorem xX9_initq_FT : am_FT xX9_initq = FT_X9 := rfl
theorem xX9_initq_PT : am_PT xX9_initq = PI_X9 := rfl
theorem xX9_initq_CT : am_CT xX9_initq = CT_X9 := rfl
theorem xX9_initq_KT : am_KT xX9_initq = KT_X9 := rfl
theorem xX9_initq_LT : am_LT xX9_initq = LT_X9 := rfl
theorem xX9_initq_NT : am_NT xX9_initq = NT_X9 := rfl
theorem xX9_initq_c23 : am_find (am_ML xX9_initq) 23 = some (5, 1, 2, 5, 853, sX2_initq) := rfl
theorem xX9_initq_n23 : am_find NT_X9 23 = none := rfl
theorem xX9_initq_c41 : am_find (am_ML xX9_initq) 41 = some (0, 1, 2, 0, 0, sX2_clearq) := rfl
theorem xX9_initq_n41 : am_find NT_X9 41 = none := rfl

set_option maxRecDepth 100000 in
theorem pX9_initq : am_B cX9_init xX9_initq 1 10 sX9_initq := by
  intro n0 as σ post AA hA h
  obtain ⟨o, L, ho, rfl, rfl, hS, hk, h⟩ := h
  refine ⟨by simp [am_sl, Value.category], ?_⟩
  show AA 0 [some (.ref o)] [] (o + 1) σ
  rcases ho with rfl | rfl
  · refine hA [] 15 _ _ _ _ _ ?_
    try simp only [dX9_init_0, dX9_init_1, NT_X9, dX9_init_4, dX9_init_5, dX9_init_7, PI_X9_9, dX9_init_10, dX9_init_11, dX9_init_12, PI_X9_15, dX9_init_15, dX9_init_16, dX9_init_17, PI_X9_18, dX9_init_20, dX9_init_21, dX9_init_24, dX9_init_25, xX9_initq_c23, xX9_initq_n23, dX9_init_28, PI_X9_24, dX9_init_31, dX9_init_32, dX9_init_33, dX9_init_35, PI_X9_28, dX9_init_38, dX9_init_39, dX9_init_40, dX9_init_42, PI_X9_32, dX9_init_45, dX9_init_46, dX9_init_47, dX9_init_49, PI_X9_35, dX9_init_52, dX9_init_53, dX9_init_54, dX9_init_56, PI_X9_38, dX9_init_59, dX9_init_60, FT_X9_24, dX9_init_63, xX9_initq_c41, xX9_initq_n41, dX9_init_66, xX9_initq_SH, xX9_initq_KF, xX9_initq_rt, xX9_initq_FT, xX9_initq_PT, xX9_initq_CT, xX9_initq_KT, xX9_initq_LT, xX9_initq_NT, o_aload_n, o_bipush, o_dup, o_getfield, o_iconst, o_invokespecial, o_invokevirtual, o_new, o_newarray, o_putfield, o_return_, SH_3, K1_3_0, K1_3_1, K1_3_2, K1_3_3, SH_4, K1_3_4, SH_10, K1_3_5, SH_11, K1_3_6, SH_12, K1_3_7, SH_13, SH_20, K1_20_0, K1_20_1, K1_20_2, K1_20_3, SH_21, K1_20_4, SH_27, K1_20_5, SH_28, K1_20_6, SH_29, K1_20_7, SH_30, am_ty, am_vc, am_opt, am_cl, am_find, am_ldi, am_ldl, am_lda, am_v, am_1, am_1l, am_1a, am_2, am_2l, am_ix, am_ri, am_arr, am_pf, am_rc, am_mask, am_lg, am_av, am_nat, fv_0, fv_1, fv_2, fv_3, fw_0, fw_1, List.getElem?_cons_zero, List.getElem?_cons_succ, List.set_cons_zero, List.set_cons_succ, List.length_cons, List.length_nil, List.take_succ_cons, List.take_zero, List.drop_succ_cons, List.drop_zero, List.reverse_cons, List.reverse_nil, List.nil_append, List.cons_append, List.append_nil, List.map_cons, List.map_nil, List.sum_cons, List.sum_nil, Value.category, Option.toList_some, Option.toList_none, Nat.reduceAdd, Nat.reduceLT, Nat.reduceLeDiff, Nat.reduceEqDiff, Nat.reduceSub, Nat.add_zero, Nat.le_refl, Nat.zero_le, Int.reduceNeg, Int.reduceLE, Int.reduceLT, true_and, and_true, and_self, if_true, if_false, ite_true, ite_false, eq_self_iff_true, reduceIte, reduceCtorEq, not_false_eq_true, not_true_eq_false, or_true, true_or, or_false, false_or, Nat.lt_irrefl, Nat.zero_lt_succ, SH_4, SH_21, ka_4, ka_21]
    try simp (disch := omega) only [ii_0, ii_1, ii_t, ii_add, ii_sub, ii_mul, ii_lt, ii_le, ii_eq, ij_in, ii_c, Int.toNat_natCast, Int.toNat_zero, Int.reduceToNat, Int.reduceEq, Int.reduceNe, Int.reduceLE, Int.reduceLT, Int.reduceAdd, Int.reduceSub, Int.reduceMul, Int.reduceNeg, Nat.reduceLT, Nat.reduceAdd, Nat.reduceMul, not_false_eq_true, not_true_eq_false, true_and, and_true, and_self, false_and, and_false, true_implies, false_implies, implies_true, forall_const, if_true, if_false, ite_true, ite_false, reduceIte, eq_self_iff_true, Int.natCast_nonneg, Int.zero_add, Int.add_zero, pi_s, pi_n]
    repeat refine ⟨by decide +kernel, ?_⟩
    refine ⟨4, _, (by first | exact Or.inl rfl | exact Or.inr rfl), rfl, rfl, St_new ?_ (St_pi (St_pi (St_pi hS))), ?_, fun τ1 hS1 => ?_⟩
    · exact kb_cons (by omega) (kb_cons (by omega) (kb_cons (by omega) (kb_up hk (by omega))))
    · exact kb_cons (by omega) (kb_cons (by omega) (kb_cons (by omega) (kb_up hk (by omega))))
    try simp only [dX9_init_0, dX9_init_1, NT_X9, dX9_init_4, dX9_init_5, dX9_init_7, PI_X9_9, dX9_init_10, dX9_init_11, dX9_init_12, PI_X9_15, dX9_init_15, dX9_init_16, dX9_init_17, PI_X9_18, dX9_init_20, dX9_init_21, dX9_init_24, dX9_init_25, xX9_initq_c23, xX9_initq_n23, dX9_init_28, PI_X9_24, dX9_init_31, dX9_init_32, dX9_init_33, dX9_init_35, PI_X9_28, dX9_init_38, dX9_init_39, dX9_init_40, dX9_init_42, PI_X9_32, dX9_init_45, dX9_init_46, dX9_init_47, dX9_init_49, PI_X9_35, dX9_init_52, dX9_init_53, dX9_init_54, dX9_init_56, PI_X9_38, dX9_init_59, dX9_init_60, FT_X9_24, dX9_init_63, xX9_initq_c41, xX9_initq_n41, dX9_init_66, xX9_initq_SH, xX9_initq_KF, xX9_initq_rt, xX9_initq_FT, xX9_initq_PT, xX9_initq_CT, xX9_initq_KT, xX9_initq_LT, xX9_initq_NT, o_aload_n, o_bipush, o_dup, o_getfield, o_iconst, o_invokespecial, o_invokevirtual, o_new, o_newarray, o_putfield, o_return_, SH_3, K1_3_0, K1_3_1, K1_3_2, K1_3_3, SH_4, K1_3_4, SH_10, K1_3_5, SH_11, K1_3_6, SH_12, K1_3_7, SH_13, SH_20, K1_20_0, K1_20_1, K1_20_2, K1_20_3, SH_21, K1_20_4, SH_27, K1_20_5, SH_28, K1_20_6, SH_29, K1_20_7, SH_30, am_ty, am_vc, am_opt, am_cl, am_find, am_ldi, am_ldl, am_lda, am_v, am_1, am_1l, am_1a, am_2, am_2l, am_ix, am_ri, am_arr, am_pf, am_rc, am_mask, am_lg, am_av, am_nat, fv_0, fv_1, fv_2, fv_3, fw_0, fw_1, List.getElem?_cons_zero, List.getElem?_cons_succ, List.set_cons_zero, List.set_cons_succ, List.length_cons, List.length_nil, List.take_succ_cons, List.take_zero, List.drop_succ_cons, List.drop_zero, List.reverse_cons, List.reverse_nil, List.nil_append, List.cons_append, List.append_nil, List.map_cons, List.map_nil, List.sum_cons, List.sum_nil, Value.category, Option.toList_some, Option.toList_none, Nat.reduceAdd, Nat.reduceLT, Nat.reduceLeDiff, Nat.reduceEqDiff, Nat.reduceSub, Nat.add_zero, Nat.le_refl, Nat.zero_le, Int.reduceNeg, Int.reduceLE, Int.reduceLT, true_and, and_true, and_self, if_true, if_false, ite_true, ite_false, eq_self_iff_true, reduceIte, reduceCtorEq, not_false_eq_true, not_true_eq_false, or_true, true_or, or_false, false_or, Nat.lt_irrefl, Nat.zero_lt_succ]
    have hk1 : kb (VL 4 ((3, 2, Int32.ofInt 0) :: (3, 1, Int32.ofInt 0) :: (3, 0, Int32.ofInt 8) :: L)) (4 + 6) := by
      unfold VL
      exact kb_cons (by omega) (kb_cons (by omega) (kb_cons (by omega) (kb_cons (by omega) (kb_cons (by omega) (kb_cons (by omega) (kb_cons (by omega) (kb_cons (by omega) (kb_cons (by omega) (kb_up hk (by omega))))))))))
    generalize hL1 : VL 4 ((3, 2, Int32.ofInt 0) :: (3, 1, Int32.ofInt 0) :: (3, 0, Int32.ofInt 8) :: L) = L1 at hS1 hk1
    refine hA [] 17 _ _ _ _ _ ?_
    try simp only [dX9_init_0, dX9_init_1, NT_X9, dX9_init_4, dX9_init_5, dX9_init_7, PI_X9_9, dX9_init_10, dX9_init_11, dX9_init_12, PI_X9_15, dX9_init_15, dX9_init_16, dX9_init_17, PI_X9_18, dX9_init_20, dX9_init_21, dX9_init_24, dX9_init_25, xX9_initq_c23, xX9_initq_n23, dX9_init_28, PI_X9_24, dX9_init_31, dX9_init_32, dX9_init_33, dX9_init_35, PI_X9_28, dX9_init_38, dX9_init_39, dX9_init_40, dX9_init_42, PI_X9_32, dX9_init_45, dX9_init_46, dX9_init_47, dX9_init_49, PI_X9_35, dX9_init_52, dX9_init_53, dX9_init_54, dX9_init_56, PI_X9_38, dX9_init_59, dX9_init_60, FT_X9_24, dX9_init_63, xX9_initq_c41, xX9_initq_n41, dX9_init_66, xX9_initq_SH, xX9_initq_KF, xX9_initq_rt, xX9_initq_FT, xX9_initq_PT, xX9_initq_CT, xX9_initq_KT, xX9_initq_LT, xX9_initq_NT, o_aload_n, o_bipush, o_dup, o_getfield, o_iconst, o_invokespecial, o_invokevirtual, o_new, o_newarray, o_putfield, o_return_, SH_3, K1_3_0, K1_3_1, K1_3_2, K1_3_3, SH_4, K1_3_4, SH_10, K1_3_5, SH_11, K1_3_6, SH_12, K1_3_7, SH_13, SH_20, K1_20_0, K1_20_1, K1_20_2, K1_20_3, SH_21, K1_20_4, SH_27, K1_20_5, SH_28, K1_20_6, SH_29, K1_20_7, SH_30, am_ty, am_vc, am_opt, am_cl, am_find, am_ldi, am_ldl, am_lda, am_v, am_1, am_1l, am_1a, am_2, am_2l, am_ix, am_ri, am_arr, am_pf, am_rc, am_mask, am_lg, am_av, am_nat, fv_0, fv_1, fv_2, fv_3, fw_0, fw_1, List.getElem?_cons_zero, List.getElem?_cons_succ, List.set_cons_zero, List.set_cons_succ, List.length_cons, List.length_nil, List.take_succ_cons, List.take_zero, List.drop_succ_cons, List.drop_zero, List.reverse_cons, List.reverse_nil, List.nil_append, List.cons_append, List.append_nil, List.map_cons, List.map_nil, List.sum_cons, List.sum_nil, Value.category, Option.toList_some, Option.toList_none, Nat.reduceAdd, Nat.reduceLT, Nat.reduceLeDiff, Nat.reduceEqDiff, Nat.reduceSub, Nat.add_zero, Nat.le_refl, Nat.zero_le, Int.reduceNeg, Int.reduceLE, Int.reduceLT, true_and, and_true, and_self, if_true, if_false, ite_true, ite_false, eq_self_iff_true, reduceIte, reduceCtorEq, not_false_eq_true, not_true_eq_false, or_true, true_or, or_false, false_or, Nat.lt_irrefl, Nat.zero_lt_succ]
    try simp (disch := omega) only [ii_0, ii_1, ii_t, ii_add, ii_sub, ii_mul, ii_lt, ii_le, ii_eq, ij_in, ii_c, Int.toNat_natCast, Int.toNat_zero, Int.reduceToNat, Int.reduceEq, Int.reduceNe, Int.reduceLE, Int.reduceLT, Int.reduceAdd, Int.reduceSub, Int.reduceMul, Int.reduceNeg, Nat.reduceLT, Nat.reduceAdd, Nat.reduceMul, not_false_eq_true, not_true_eq_false, true_and, and_true, and_self, false_and, and_false, true_implies, false_implies, implies_true, forall_const, if_true, if_false, ite_true, ite_false, reduceIte, eq_self_iff_true, Int.natCast_nonneg, Int.zero_add, Int.add_zero, pi_s, pi_n]
    have hS2 := St_pi (o := 3) (k := 7) (v := Int32.ofNat (13 + 1)) (St_new (n := 13) (kb_cons (by omega) (kb_cons (by omega) (kb_cons (by omega) (kb_cons (by omega) (kb_up hk1 (by omega)))))) (St_pi (o := 3) (k := 6) (v := Int32.ofNat (12 + 1)) (St_new (n := 12) (kb_cons (by omega) (kb_cons (by omega) (kb_cons (by omega) (kb_up hk1 (by omega))))) (St_pi (o := 3) (k := 5) (v := Int32.ofNat (11 + 1)) (St_new (n := 11) (kb_cons (by omega) (kb_cons (by omega) (kb_up hk1 (by omega)))) (St_pi (o := 3) (k := 4) (v := Int32.ofNat (10 + 1)) (St_new (n := 10) (kb_cons (by omega) (kb_up hk1 (by omega))) (St_pi (o := 3) (k := 3) (v := Int32.ofNat (4 + 1)) hS1))))))))
    simp only [Nat.reduceAdd] at hS2
    refine hA [] 4 _ _ _ _ _ ?_
    have e3 := hS2.1 3 3 (by decide)
    have e4 : look ((3, 7, Int32.ofNat (13 + 1)) :: (3, 6, Int32.ofNat (12 + 1)) :: (3, 5, Int32.ofNat (11 + 1)) :: (3, 4, Int32.ofNat (10 + 1)) :: (3, 3, Int32.ofNat (4 + 1)) :: L1) 3 3 = Int32.ofNat (4 + 1) := rfl
    have e5 := e3.trans e4
    simp only [Nat.reduceAdd] at e5
    try simp only [dX9_init_0, dX9_init_1, NT_X9, dX9_init_4, dX9_init_5, dX9_init_7, PI_X9_9, dX9_init_10, dX9_init_11, dX9_init_12, PI_X9_15, dX9_init_15, dX9_init_16, dX9_init_17, PI_X9_18, dX9_init_20, dX9_init_21, dX9_init_24, dX9_init_25, xX9_initq_c23, xX9_initq_n23, dX9_init_28, PI_X9_24, dX9_init_31, dX9_init_32, dX9_init_33, dX9_init_35, PI_X9_28, dX9_init_38, dX9_init_39, dX9_init_40, dX9_init_42, PI_X9_32, dX9_init_45, dX9_init_46, dX9_init_47, dX9_init_49, PI_X9_35, dX9_init_52, dX9_init_53, dX9_init_54, dX9_init_56, PI_X9_38, dX9_init_59, dX9_init_60, FT_X9_24, dX9_init_63, xX9_initq_c41, xX9_initq_n41, dX9_init_66, xX9_initq_SH, xX9_initq_KF, xX9_initq_rt, xX9_initq_FT, xX9_initq_PT, xX9_initq_CT, xX9_initq_KT, xX9_initq_LT, xX9_initq_NT, o_aload_n, o_bipush, o_dup, o_getfield, o_iconst, o_invokespecial, o_invokevirtual, o_new, o_newarray, o_putfield, o_return_, SH_3, K1_3_0, K1_3_1, K1_3_2, K1_3_3, SH_4, K1_3_4, SH_10, K1_3_5, SH_11, K1_3_6, SH_12, K1_3_7, SH_13, SH_20, K1_20_0, K1_20_1, K1_20_2, K1_20_3, SH_21, K1_20_4, SH_27, K1_20_5, SH_28, K1_20_6, SH_29, K1_20_7, SH_30, am_ty, am_vc, am_opt, am_cl, am_find, am_ldi, am_ldl, am_lda, am_v, am_1, am_1l, am_1a, am_2, am_2l, am_ix, am_ri, am_arr, am_pf, am_rc, am_mask, am_lg, am_av, am_nat, fv_0, fv_1, fv_2, fv_3, fw_0, fw_1, List.getElem?_cons_zero, List.getElem?_cons_succ, List.set_cons_zero, List.set_cons_succ, List.length_cons, List.length_nil, List.take_succ_cons, List.take_zero, List.drop_succ_cons, List.drop_zero, List.reverse_cons, List.reverse_nil, List.nil_append, List.cons_append, List.append_nil, List.map_cons, List.map_nil, List.sum_cons, List.sum_nil, Value.category, Option.toList_some, Option.toList_none, Nat.reduceAdd, Nat.reduceLT, Nat.reduceLeDiff, Nat.reduceEqDiff, Nat.reduceSub, Nat.add_zero, Nat.le_refl, Nat.zero_le, Int.reduceNeg, Int.reduceLE, Int.reduceLT, true_and, and_true, and_self, if_true, if_false, ite_true, ite_false, eq_self_iff_true, reduceIte, reduceCtorEq, not_false_eq_true, not_true_eq_false, or_true, true_or, or_false, false_or, Nat.lt_irrefl, Nat.zero_lt_succ, e5, nz_5, nz_22, tc_5, tc_22, SH_4, SH_21]
    refine ⟨4, _, (by first | exact Or.inl rfl | exact Or.inr rfl), rfl, rfl, hS2, ?_, ?_, ?_, fun τ2 hS3 => ?_⟩
    · subst hL1; rfl
    · subst hL1; rfl
    · subst hL1; rfl
    try simp only [dX9_init_0, dX9_init_1, NT_X9, dX9_init_4, dX9_init_5, dX9_init_7, PI_X9_9, dX9_init_10, dX9_init_11, dX9_init_12, PI_X9_15, dX9_init_15, dX9_init_16, dX9_init_17, PI_X9_18, dX9_init_20, dX9_init_21, dX9_init_24, dX9_init_25, xX9_initq_c23, xX9_initq_n23, dX9_init_28, PI_X9_24, dX9_init_31, dX9_init_32, dX9_init_33, dX9_init_35, PI_X9_28, dX9_init_38, dX9_init_39, dX9_init_40, dX9_init_42, PI_X9_32, dX9_init_45, dX9_init_46, dX9_init_47, dX9_init_49, PI_X9_35, dX9_init_52, dX9_init_53, dX9_init_54, dX9_init_56, PI_X9_38, dX9_init_59, dX9_init_60, FT_X9_24, dX9_init_63, xX9_initq_c41, xX9_initq_n41, dX9_init_66, xX9_initq_SH, xX9_initq_KF, xX9_initq_rt, xX9_initq_FT, xX9_initq_PT, xX9_initq_CT, xX9_initq_KT, xX9_initq_LT, xX9_initq_NT, o_aload_n, o_bipush, o_dup, o_getfield, o_iconst, o_invokespecial, o_invokevirtual, o_new, o_newarray, o_putfield, o_return_, SH_3, K1_3_0, K1_3_1, K1_3_2, K1_3_3, SH_4, K1_3_4, SH_10, K1_3_5, SH_11, K1_3_6, SH_12, K1_3_7, SH_13, SH_20, K1_20_0, K1_20_1, K1_20_2, K1_20_3, SH_21, K1_20_4, SH_27, K1_20_5, SH_28, K1_20_6, SH_29, K1_20_7, SH_30, am_ty, am_vc, am_opt, am_cl, am_find, am_ldi, am_ldl, am_lda, am_v, am_1, am_1l, am_1a, am_2, am_2l, am_ix, am_ri, am_arr, am_pf, am_rc, am_mask, am_lg, am_av, am_nat, fv_0, fv_1, fv_2, fv_3, fw_0, fw_1, List.getElem?_cons_zero, List.getElem?_cons_succ, List.set_cons_zero, List.set_cons_succ, List.length_cons, List.length_nil, List.take_succ_cons, List.take_zero, List.drop_succ_cons, List.drop_zero, List.reverse_cons, List.reverse_nil, List.nil_append, List.cons_append, List.append_nil, List.map_cons, List.map_nil, List.sum_cons, List.sum_nil, Value.category, Option.toList_some, Option.toList_none, Nat.reduceAdd, Nat.reduceLT, Nat.reduceLeDiff, Nat.reduceEqDiff, Nat.reduceSub, Nat.add_zero, Nat.le_refl, Nat.zero_le, Int.reduceNeg, Int.reduceLE, Int.reduceLT, true_and, and_true, and_self, if_true, if_false, ite_true, ite_false, eq_self_iff_true, reduceIte, reduceCtorEq, not_false_eq_true, not_true_eq_false, or_true, true_or, or_false, false_or, Nat.lt_irrefl, Nat.zero_lt_succ]
    try refine hA [] 2 _ _ _ _ _ ?_
    try simp only [dX9_init_0, dX9_init_1, NT_X9, dX9_init_4, dX9_init_5, dX9_init_7, PI_X9_9, dX9_init_10, dX9_init_11, dX9_init_12, PI_X9_15, dX9_init_15, dX9_init_16, dX9_init_17, PI_X9_18, dX9_init_20, dX9_init_21, dX9_init_24, dX9_init_25, xX9_initq_c23, xX9_initq_n23, dX9_init_28, PI_X9_24, dX9_init_31, dX9_init_32, dX9_init_33, dX9_init_35, PI_X9_28, dX9_init_38, dX9_init_39, dX9_init_40, dX9_init_42, PI_X9_32, dX9_init_45, dX9_init_46, dX9_init_47, dX9_init_49, PI_X9_35, dX9_init_52, dX9_init_53, dX9_init_54, dX9_init_56, PI_X9_38, dX9_init_59, dX9_init_60, FT_X9_24, dX9_init_63, xX9_initq_c41, xX9_initq_n41, dX9_init_66, xX9_initq_SH, xX9_initq_KF, xX9_initq_rt, xX9_initq_FT, xX9_initq_PT, xX9_initq_CT, xX9_initq_KT, xX9_initq_LT, xX9_initq_NT, o_aload_n, o_bipush, o_dup, o_getfield, o_iconst, o_invokespecial, o_invokevirtual, o_new, o_newarray, o_putfield, o_return_, SH_3, K1_3_0, K1_3_1, K1_3_2, K1_3_3, SH_4, K1_3_4, SH_10, K1_3_5, SH_11, K1_3_6, SH_12, K1_3_7, SH_13, SH_20, K1_20_0, K1_20_1, K1_20_2, K1_20_3, SH_21, K1_20_4, SH_27, K1_20_5, SH_28, K1_20_6, SH_29, K1_20_7, SH_30, am_ty, am_vc, am_opt, am_cl, am_find, am_ldi, am_ldl, am_lda, am_v, am_1, am_1l, am_1a, am_2, am_2l, am_ix, am_ri, am_arr, am_pf, am_rc, am_mask, am_lg, am_av, am_nat, fv_0, fv_1, fv_2, fv_3, fw_0, fw_1, List.getElem?_cons_zero, List.getElem?_cons_succ, List.set_cons_zero, List.set_cons_succ, List.length_cons, List.length_nil, List.take_succ_cons, List.take_zero, List.drop_succ_cons, List.drop_zero, List.reverse_cons, List.reverse_nil, List.nil_append, List.cons_append, List.append_nil, List.map_cons, List.map_nil, List.sum_cons, List.sum_nil, Value.category, Option.toList_some, Option.toList_none, Nat.reduceAdd, Nat.reduceLT, Nat.reduceLeDiff, Nat.reduceEqDiff, Nat.reduceSub, Nat.add_zero, Nat.le_refl, Nat.zero_le, Int.reduceNeg, Int.reduceLE, Int.reduceLT, true_and, and_true, and_self, if_true, if_false, ite_true, ite_false, eq_self_iff_true, reduceIte, reduceCtorEq, not_false_eq_true, not_true_eq_false, or_true, true_or, or_false, false_or, Nat.lt_irrefl, Nat.zero_lt_succ]
    subst hL1
    exact h τ2 hS3
  · refine hA [] 15 _ _ _ _ _ ?_
    try simp only [dX9_init_0, dX9_init_1, NT_X9, dX9_init_4, dX9_init_5, dX9_init_7, PI_X9_9, dX9_init_10, dX9_init_11, dX9_init_12, PI_X9_15, dX9_init_15, dX9_init_16, dX9_init_17, PI_X9_18, dX9_init_20, dX9_init_21, dX9_init_24, dX9_init_25, xX9_initq_c23, xX9_initq_n23, dX9_init_28, PI_X9_24, dX9_init_31, dX9_init_32, dX9_init_33, dX9_init_35, PI_X9_28, dX9_init_38, dX9_init_39, dX9_init_40, dX9_init_42, PI_X9_32, dX9_init_45, dX9_init_46, dX9_init_47, dX9_init_49, PI_X9_35, dX9_init_52, dX9_init_53, dX9_init_54, dX9_init_56, PI_X9_38, dX9_init_59, dX9_init_60, FT_X9_24, dX9_init_63, xX9_initq_c41, xX9_initq_n41, dX9_init_66, xX9_initq_SH, xX9_initq_KF, xX9_initq_rt, xX9_initq_FT, xX9_initq_PT, xX9_initq_CT, xX9_initq_KT, xX9_initq_LT, xX9_initq_NT, o_aload_n, o_bipush, o_dup, o_getfield, o_iconst, o_invokespecial, o_invokevirtual, o_new, o_newarray, o_putfield, o_return_, SH_3, K1_3_0, K1_3_1, K1_3_2, K1_3_3, SH_4, K1_3_4, SH_10, K1_3_5, SH_11, K1_3_6, SH_12, K1_3_7, SH_13, SH_20, K1_20_0, K1_20_1, K1_20_2, K1_20_3, SH_21, K1_20_4, SH_27, K1_20_5, SH_28, K1_20_6, SH_29, K1_20_7, SH_30, am_ty, am_vc, am_opt, am_cl, am_find, am_ldi, am_ldl, am_lda, am_v, am_1, am_1l, am_1a, am_2, am_2l, am_ix, am_ri, am_arr, am_pf, am_rc, am_mask, am_lg, am_av, am_nat, fv_0, fv_1, fv_2, fv_3, fw_0, fw_1, List.getElem?_cons_zero, List.getElem?_cons_succ, List.set_cons_zero, List.set_cons_succ, List.length_cons, List.length_nil, List.take_succ_cons, List.take_zero, List.drop_succ_cons, List.drop_zero, List.reverse_cons, List.reverse_nil, List.nil_append, List.cons_append, List.append_nil, List.map_cons, List.map_nil, List.sum_cons, List.sum_nil, Value.category, Option.toList_some, Option.toList_none, Nat.reduceAdd, Nat.reduceLT, Nat.reduceLeDiff, Nat.reduceEqDiff, Nat.reduceSub, Nat.add_zero, Nat.le_refl, Nat.zero_le, Int.reduceNeg, Int.reduceLE, Int.reduceLT, true_and, and_true, and_self, if_true, if_false, ite_true, ite_false, eq_self_iff_true, reduceIte, reduceCtorEq, not_false_eq_true, not_true_eq_false, or_true, true_or, or_false, false_or, Nat.lt_irrefl, Nat.zero_lt_succ, SH_4, SH_21, ka_4, ka_21]
    try simp (disch := omega) only [ii_0, ii_1, ii_t, ii_add, ii_sub, ii_mul, ii_lt, ii_le, ii_eq, ij_in, ii_c, Int.toNat_natCast, Int.toNat_zero, Int.reduceToNat, Int.reduceEq, Int.reduceNe, Int.reduceLE, Int.reduceLT, Int.reduceAdd, Int.reduceSub, Int.reduceMul, Int.reduceNeg, Nat.reduceLT, Nat.reduceAdd, Nat.reduceMul, not_false_eq_true, not_true_eq_false, true_and, and_true, and_self, false_and, and_false, true_implies, false_implies, implies_true, forall_const, if_true, if_false, ite_true, ite_false, reduceIte, eq_self_iff_true, Int.natCast_nonneg, Int.zero_add, Int.add_zero, pi_s, pi_n]
    repeat refine ⟨by decide +kernel, ?_⟩
    refine ⟨21, _, (by first | exact Or.inl rfl | exact Or.inr rfl), rfl, rfl, St_new ?_ (St_pi (St_pi (St_pi hS))), ?_, fun τ1 hS1 => ?_⟩
    · exact kb_cons (by omega) (kb_cons (by omega) (kb_cons (by omega) (kb_up hk (by omega))))
    · exact kb_cons (by omega) (kb_cons (by omega) (kb_cons (by omega) (kb_up hk (by omega))))
    try simp only [dX9_init_0, dX9_init_1, NT_X9, dX9_init_4, dX9_init_5, dX9_init_7, PI_X9_9, dX9_init_10, dX9_init_11, dX9_init_12, PI_X9_15, dX9_init_15, dX9_init_16, dX9_init_17, PI_X9_18, dX9_init_20, dX9_init_21, dX9_init_24, dX9_init_25, xX9_initq_c23, xX9_initq_n23, dX9_init_28, PI_X9_24, dX9_init_31, dX9_init_32, dX9_init_33, dX9_init_35, PI_X9_28, dX9_init_38, dX9_init_39, dX9_init_40, dX9_init_42, PI_X9_32, dX9_init_45, dX9_init_46, dX9_init_47, dX9_init_49, PI_X9_35, dX9_init_52, dX9_init_53, dX9_init_54, dX9_init_56, PI_X9_38, dX9_init_59, dX9_init_60, FT_X9_24, dX9_init_63, xX9_initq_c41, xX9_initq_n41, dX9_init_66, xX9_initq_SH, xX9_initq_KF, xX9_initq_rt, xX9_initq_FT, xX9_initq_PT, xX9_initq_CT, xX9_initq_KT, xX9_initq_LT, xX9_initq_NT, o_aload_n, o_bipush, o_dup, o_getfield, o_iconst, o_invokespecial, o_invokevirtual, o_new, o_newarray, o_putfield, o_return_, SH_3, K1_3_0, K1_3_1, K1_3_2, K1_3_3, SH_4, K1_3_4, SH_10, K1_3_5, SH_11, K1_3_6, SH_12, K1_3_7, SH_13, SH_20, K1_20_0, K1_20_1, K1_20_2, K1_20_3, SH_21, K1_20_4, SH_27, K1_20_5, SH_28, K1_20_6, SH_29, K1_20_7, SH_30, am_ty, am_vc, am_opt, am_cl, am_find, am_ldi, am_ldl, am_lda, am_v, am_1, am_1l, am_1a, am_2, am_2l, am_ix, am_ri, am_arr, am_pf, am_rc, am_mask, am_lg, am_av, am_nat, fv_0, fv_1, fv_2, fv_3, fw_0, fw_1, List.getElem?_cons_zero, List.getElem?_cons_succ, List.set_cons_zero, List.set_cons_succ, List.length_cons, List.length_nil, List.take_succ_cons, List.take_zero, List.drop_succ_cons, List.drop_zero, List.reverse_cons, List.reverse_nil, List.nil_append, List.cons_append, List.append_nil, List.map_cons, List.map_nil, List.sum_cons, List.sum_nil, Value.category, Option.toList_some, Option.toList_none, Nat.reduceAdd, Nat.reduceLT, Nat.reduceLeDiff, Nat.reduceEqDiff, Nat.reduceSub, Nat.add_zero, Nat.le_refl, Nat.zero_le, Int.reduceNeg, Int.reduceLE, Int.reduceLT, true_and, and_true, and_self, if_true, if_false, ite_true, ite_false, eq_self_iff_true, reduceIte, reduceCtorEq, not_false_eq_true, not_true_eq_false, or_true, true_or, or_false, false_or, Nat.lt_irrefl, Nat.zero_lt_succ]
    have hk1 : kb (VL 21 ((20, 2, Int32.ofInt 0) :: (20, 1, Int32.ofInt 0) :: (20, 0, Int32.ofInt 8) :: L)) (21 + 6) := by
      unfold VL
      exact kb_cons (by omega) (kb_cons (by omega) (kb_cons (by omega) (kb_cons (by omega) (kb_cons (by omega) (kb_cons (by omega) (kb_cons (by omega) (kb_cons (by omega) (kb_cons (by omega) (kb_up hk (by omega))))))))))
    generalize hL1 : VL 21 ((20, 2, Int32.ofInt 0) :: (20, 1, Int32.ofInt 0) :: (20, 0, Int32.ofInt 8) :: L) = L1 at hS1 hk1
    refine hA [] 17 _ _ _ _ _ ?_
    try simp only [dX9_init_0, dX9_init_1, NT_X9, dX9_init_4, dX9_init_5, dX9_init_7, PI_X9_9, dX9_init_10, dX9_init_11, dX9_init_12, PI_X9_15, dX9_init_15, dX9_init_16, dX9_init_17, PI_X9_18, dX9_init_20, dX9_init_21, dX9_init_24, dX9_init_25, xX9_initq_c23, xX9_initq_n23, dX9_init_28, PI_X9_24, dX9_init_31, dX9_init_32, dX9_init_33, dX9_init_35, PI_X9_28, dX9_init_38, dX9_init_39, dX9_init_40, dX9_init_42, PI_X9_32, dX9_init_45, dX9_init_46, dX9_init_47, dX9_init_49, PI_X9_35, dX9_init_52, dX9_init_53, dX9_init_54, dX9_init_56, PI_X9_38, dX9_init_59, dX9_init_60, FT_X9_24, dX9_init_63, xX9_initq_c41, xX9_initq_n41, dX9_init_66, xX9_initq_SH, xX9_initq_KF, xX9_initq_rt, xX9_initq_FT, xX9_initq_PT, xX9_initq_CT, xX9_initq_KT, xX9_initq_LT, xX9_initq_NT, o_aload_n, o_bipush, o_dup, o_getfield, o_iconst, o_invokespecial, o_invokevirtual, o_new, o_newarray, o_putfield, o_return_, SH_3, K1_3_0, K1_3_1, K1_3_2, K1_3_3, SH_4, K1_3_4, SH_10, K1_3_5, SH_11, K1_3_6, SH_12, K1_3_7, SH_13, SH_20, K1_20_0, K1_20_1, K1_20_2, K1_20_3, SH_21, K1_20_4, SH_27, K1_20_5, SH_28, K1_20_6, SH_29, K1_20_7, SH_30, am_ty, am_vc, am_opt, am_cl, am_find, am_ldi, am_ldl, am_lda, am_v, am_1, am_1l, am_1a, am_2, am_2l, am_ix, am_ri, am_arr, am_pf, am_rc, am_mask, am_lg, am_av, am_nat, fv_0, fv_1, fv_2, fv_3, fw_0, fw_1, List.getElem?_cons_zero, List.getElem?_cons_succ, List.set_cons_zero, List.set_cons_succ, List.length_cons, List.length_nil, List.take_succ_cons, List.take_zero, List.drop_succ_cons, List.drop_zero, List.reverse_cons, List.reverse_nil, List.nil_append, List.cons_append, List.append_nil, List.map_cons, List.map_nil, List.sum_cons, List.sum_nil, Value.category, Option.toList_some, Option.toList_none, Nat.reduceAdd, Nat.reduceLT, Nat.reduceLeDiff, Nat.reduceEqDiff, Nat.reduceSub, Nat.add_zero, Nat.le_refl, Nat.zero_le, Int.reduceNeg, Int.reduceLE, Int.reduceLT, true_and, and_true, and_self, if_true, if_false, ite_true, ite_false, eq_self_iff_true, reduceIte, reduceCtorEq, not_false_eq_true, not_true_eq_false, or_true, true_or, or_false, false_or, Nat.lt_irrefl, Nat.zero_lt_succ]
    try simp (disch := omega) only [ii_0, ii_1, ii_t, ii_add, ii_sub, ii_mul, ii_lt, ii_le, ii_eq, ij_in, ii_c, Int.toNat_natCast, Int.toNat_zero, Int.reduceToNat, Int.reduceEq, Int.reduceNe, Int.reduceLE, Int.reduceLT, Int.reduceAdd, Int.reduceSub, Int.reduceMul, Int.reduceNeg, Nat.reduceLT, Nat.reduceAdd, Nat.reduceMul, not_false_eq_true, not_true_eq_false, true_and, and_true, and_self, false_and, and_false, true_implies, false_implies, implies_true, forall_const, if_true, if_false, ite_true, ite_false, reduceIte, eq_self_iff_true, Int.natCast_nonneg, Int.zero_add, Int.add_zero, pi_s, pi_n]
    have hS2 := St_pi (o := 20) (k := 7) (v := Int32.ofNat (30 + 1)) (St_new (n := 30) (kb_cons (by omega) (kb_cons (by omega) (kb_cons (by omega) (kb_cons (by omega) (kb_up hk1 (by omega)))))) (St_pi (o := 20) (k := 6) (v := Int32.ofNat (29 + 1)) (St_new (n := 29) (kb_cons (by omega) (kb_cons (by omega) (kb_cons (by omega) (kb_up hk1 (by omega))))) (St_pi (o := 20) (k := 5) (v := Int32.ofNat (28 + 1)) (St_new (n := 28) (kb_cons (by omega) (kb_cons (by omega) (kb_up hk1 (by omega)))) (St_pi (o := 20) (k := 4) (v := Int32.ofNat (27 + 1)) (St_new (n := 27) (kb_cons (by omega) (kb_up hk1 (by omega))) (St_pi (o := 20) (k := 3) (v := Int32.ofNat (21 + 1)) hS1))))))))
    simp only [Nat.reduceAdd] at hS2
    refine hA [] 4 _ _ _ _ _ ?_
    have e3 := hS2.1 20 3 (by decide)
    have e4 : look ((20, 7, Int32.ofNat (30 + 1)) :: (20, 6, Int32.ofNat (29 + 1)) :: (20, 5, Int32.ofNat (28 + 1)) :: (20, 4, Int32.ofNat (27 + 1)) :: (20, 3, Int32.ofNat (21 + 1)) :: L1) 20 3 = Int32.ofNat (21 + 1) := rfl
    have e5 := e3.trans e4
    simp only [Nat.reduceAdd] at e5
    try simp only [dX9_init_0, dX9_init_1, NT_X9, dX9_init_4, dX9_init_5, dX9_init_7, PI_X9_9, dX9_init_10, dX9_init_11, dX9_init_12, PI_X9_15, dX9_init_15, dX9_init_16, dX9_init_17, PI_X9_18, dX9_init_20, dX9_init_21, dX9_init_24, dX9_init_25, xX9_initq_c23, xX9_initq_n23, dX9_init_28, PI_X9_24, dX9_init_31, dX9_init_32, dX9_init_33, dX9_init_35, PI_X9_28, dX9_init_38, dX9_init_39, dX9_init_40, dX9_init_42, PI_X9_32, dX9_init_45, dX9_init_46, dX9_init_47, dX9_init_49, PI_X9_35, dX9_init_52, dX9_init_53, dX9_init_54, dX9_init_56, PI_X9_38, dX9_init_59, dX9_init_60, FT_X9_24, dX9_init_63, xX9_initq_c41, xX9_initq_n41, dX9_init_66, xX9_initq_SH, xX9_initq_KF, xX9_initq_rt, xX9_initq_FT, xX9_initq_PT, xX9_initq_CT, xX9_initq_KT, xX9_initq_LT, xX9_initq_NT, o_aload_n, o_bipush, o_dup, o_getfield, o_iconst, o_invokespecial, o_invokevirtual, o_new, o_newarray, o_putfield, o_return_, SH_3, K1_3_0, K1_3_1, K1_3_2, K1_3_3, SH_4, K1_3_4, SH_10, K1_3_5, SH_11, K1_3_6, SH_12, K1_3_7, SH_13, SH_20, K1_20_0, K1_20_1, K1_20_2, K1_20_3, SH_21, K1_20_4, SH_27, K1_20_5, SH_28, K1_20_6, SH_29, K1_20_7, SH_30, am_ty, am_vc, am_opt, am_cl, am_find, am_ldi, am_ldl, am_lda, am_v, am_1, am_1l, am_1a, am_2, am_2l, am_ix, am_ri, am_arr, am_pf, am_rc, am_mask, am_lg, am_av, am_nat, fv_0, fv_1, fv_2, fv_3, fw_0, fw_1, List.getElem?_cons_zero, List.getElem?_cons_succ, List.set_cons_zero, List.set_cons_succ, List.length_cons, List.length_nil, List.take_succ_cons, List.take_zero, List.drop_succ_cons, List.drop_zero, List.reverse_cons, List.reverse_nil, List.nil_append, List.cons_append, List.append_nil, List.map_cons, List.map_nil, List.sum_cons, List.sum_nil, Value.category, Option.toList_some, Option.toList_none, Nat.reduceAdd, Nat.reduceLT, Nat.reduceLeDiff, Nat.reduceEqDiff, Nat.reduceSub, Nat.add_zero, Nat.le_refl, Nat.zero_le, Int.reduceNeg, Int.reduceLE, Int.reduceLT, true_and, and_true, and_self, if_true, if_false, ite_true, ite_false, eq_self_iff_true, reduceIte, reduceCtorEq, not_false_eq_true, not_true_eq_false, or_true, true_or, or_false, false_or, Nat.lt_irrefl, Nat.zero_lt_succ, e5, nz_5, nz_22, tc_5, tc_22, SH_4, SH_21]
    refine ⟨21, _, (by first | exact Or.inl rfl | exact Or.inr rfl), rfl, rfl, hS2, ?_, ?_, ?_, fun τ2 hS3 => ?_⟩
    · subst hL1; rfl
    · subst hL1; rfl
    · subst hL1; rfl
    try simp only [dX9_init_0, dX9_init_1, NT_X9, dX9_init_4, dX9_init_5, dX9_init_7, PI_X9_9, dX9_init_10, dX9_init_11, dX9_init_12, PI_X9_15, dX9_init_15, dX9_init_16, dX9_init_17, PI_X9_18, dX9_init_20, dX9_init_21, dX9_init_24, dX9_init_25, xX9_initq_c23, xX9_initq_n23, dX9_init_28, PI_X9_24, dX9_init_31, dX9_init_32, dX9_init_33, dX9_init_35, PI_X9_28, dX9_init_38, dX9_init_39, dX9_init_40, dX9_init_42, PI_X9_32, dX9_init_45, dX9_init_46, dX9_init_47, dX9_init_49, PI_X9_35, dX9_init_52, dX9_init_53, dX9_init_54, dX9_init_56, PI_X9_38, dX9_init_59, dX9_init_60, FT_X9_24, dX9_init_63, xX9_initq_c41, xX9_initq_n41, dX9_init_66, xX9_initq_SH, xX9_initq_KF, xX9_initq_rt, xX9_initq_FT, xX9_initq_PT, xX9_initq_CT, xX9_initq_KT, xX9_initq_LT, xX9_initq_NT, o_aload_n, o_bipush, o_dup, o_getfield, o_iconst, o_invokespecial, o_invokevirtual, o_new, o_newarray, o_putfield, o_return_, SH_3, K1_3_0, K1_3_1, K1_3_2, K1_3_3, SH_4, K1_3_4, SH_10, K1_3_5, SH_11, K1_3_6, SH_12, K1_3_7, SH_13, SH_20, K1_20_0, K1_20_1, K1_20_2, K1_20_3, SH_21, K1_20_4, SH_27, K1_20_5, SH_28, K1_20_6, SH_29, K1_20_7, SH_30, am_ty, am_vc, am_opt, am_cl, am_find, am_ldi, am_ldl, am_lda, am_v, am_1, am_1l, am_1a, am_2, am_2l, am_ix, am_ri, am_arr, am_pf, am_rc, am_mask, am_lg, am_av, am_nat, fv_0, fv_1, fv_2, fv_3, fw_0, fw_1, List.getElem?_cons_zero, List.getElem?_cons_succ, List.set_cons_zero, List.set_cons_succ, List.length_cons, List.length_nil, List.take_succ_cons, List.take_zero, List.drop_succ_cons, List.drop_zero, List.reverse_cons, List.reverse_nil, List.nil_append, List.cons_append, List.append_nil, List.map_cons, List.map_nil, List.sum_cons, List.sum_nil, Value.category, Option.toList_some, Option.toList_none, Nat.reduceAdd, Nat.reduceLT, Nat.reduceLeDiff, Nat.reduceEqDiff, Nat.reduceSub, Nat.add_zero, Nat.le_refl, Nat.zero_le, Int.reduceNeg, Int.reduceLE, Int.reduceLT, true_and, and_true, and_self, if_true, if_false, ite_true, ite_false, eq_self_iff_true, reduceIte, reduceCtorEq, not_false_eq_true, not_true_eq_false, or_true, true_or, or_false, false_or, Nat.lt_irrefl, Nat.zero_lt_succ]
    try refine hA [] 2 _ _ _ _ _ ?_
    try simp only [dX9_init_0, dX9_init_1, NT_X9, dX9_init_4, dX9_init_5, dX9_init_7, PI_X9_9, dX9_init_10, dX9_init_11, dX9_init_12, PI_X9_15, dX9_init_15, dX9_init_16, dX9_init_17, PI_X9_18, dX9_init_20, dX9_init_21, dX9_init_24, dX9_init_25, xX9_initq_c23, xX9_initq_n23, dX9_init_28, PI_X9_24, dX9_init_31, dX9_init_32, dX9_init_33, dX9_init_35, PI_X9_28, dX9_init_38, dX9_init_39, dX9_init_40, dX9_init_42, PI_X9_32, dX9_init_45, dX9_init_46, dX9_init_47, dX9_init_49, PI_X9_35, dX9_init_52, dX9_init_53, dX9_init_54, dX9_init_56, PI_X9_38, dX9_init_59, dX9_init_60, FT_X9_24, dX9_init_63, xX9_initq_c41, xX9_initq_n41, dX9_init_66, xX9_initq_SH, xX9_initq_KF, xX9_initq_rt, xX9_initq_FT, xX9_initq_PT, xX9_initq_CT, xX9_initq_KT, xX9_initq_LT, xX9_initq_NT, o_aload_n, o_bipush, o_dup, o_getfield, o_iconst, o_invokespecial, o_invokevirtual, o_new, o_newarray, o_putfield, o_return_, SH_3, K1_3_0, K1_3_1, K1_3_2, K1_3_3, SH_4, K1_3_4, SH_10, K1_3_5, SH_11, K1_3_6, SH_12, K1_3_7, SH_13, SH_20, K1_20_0, K1_20_1, K1_20_2, K1_20_3, SH_21, K1_20_4, SH_27, K1_20_5, SH_28, K1_20_6, SH_29, K1_20_7, SH_30, am_ty, am_vc, am_opt, am_cl, am_find, am_ldi, am_ldl, am_lda, am_v, am_1, am_1l, am_1a, am_2, am_2l, am_ix, am_ri, am_arr, am_pf, am_rc, am_mask, am_lg, am_av, am_nat, fv_0, fv_1, fv_2, fv_3, fw_0, fw_1, List.getElem?_cons_zero, List.getElem?_cons_succ, List.set_cons_zero, List.set_cons_succ, List.length_cons, List.length_nil, List.take_succ_cons, List.take_zero, List.drop_succ_cons, List.drop_zero, List.reverse_cons, List.reverse_nil, List.nil_append, List.cons_append, List.append_nil, List.map_cons, List.map_nil, List.sum_cons, List.sum_nil, Value.category, Option.toList_some, Option.toList_none, Nat.reduceAdd, Nat.reduceLT, Nat.reduceLeDiff, Nat.reduceEqDiff, Nat.reduceSub, Nat.add_zero, Nat.le_refl, Nat.zero_le, Int.reduceNeg, Int.reduceLE, Int.reduceLT, true_and, and_true, and_self, if_true, if_false, ite_true, ite_false, eq_self_iff_true, reduceIte, reduceCtorEq, not_false_eq_true, not_true_eq_false, or_true, true_or, or_false, false_or, Nat.lt_irrefl, Nat.zero_lt_succ]
    subst hL1
    exact h τ2 hS3
theorem mX9_initq (l : Launch) : am_M l TB NB vwCl SH K1 yX9_init cX9_init 1 none 4 10 879 sX9_initq := by
  refine am_M.of xX9_initq (by decide +kernel) TB_good G1 rfl rfl rfl (by decide) ⟨FT_X9_ok, PI_X9_ok, CT_X9_ok, KT_X9_ok, LT_X9_ok, NT_X9_ok, ?_⟩ pX9_initq
  exact List.forall_mem_cons.mpr ⟨⟨yX2_init, cX2_init, 1, none, 2, 0, mX2_initq l, by decide, by decide, tk_148, tk_106, ⟨by decide +kernel, by decide +kernel, by decide +kernel⟩, rfl, ⟨"LadderStreet", nb_at 146 (by decide +kernel)⟩, tk_147, rfl, rfl⟩, List.forall_mem_cons.mpr ⟨⟨yX2_clear, cX2_clear, 1, none, 3, 0, mX2_clearq l, by decide, by decide, tk_174, tk_106, ⟨by decide +kernel, by decide +kernel, by decide +kernel⟩, rfl, tk_171, tk_172, ⟨(RX2, TX2, 6), rfl, tk_173⟩⟩, fun _ h => absurd h List.not_mem_nil⟩⟩

-- Moment(), Shelf(), Course(town), Ways(town, course), Looks, Homes, Rumours
def sX4_initq : am_Sp := fun as n σ post => ∃ (o : Nat) (L : List (Nat × Nat × Int32)), (o = 31 ∨ o = 33) ∧ n = o + 1 ∧ as = [.ref o] ∧ St L n σ ∧ kb L o ∧ ∀ τ, St ((o, 0, Int32.ofNat (o + 2)) :: L) (o + 2) τ → post none τ
def xX4_initq : am_X := (SH, K1, none, FT_X4, PI_X4, CT_X4, KT_X4, LT_X4, NT_X4, [])
theorem xX4_initq_SH : am_SH xX4_initq = SH := rfl
theorem xX4_initq_KF : am_KF xX4_initq = K1 := rfl
theorem xX4_initq_rt : am_rt xX4_initq = none := rfl
theorem xX4_initq_FT : am_FT xX4_initq = FT_X4 := rfl
theorem xX4_initq_PT : am_PT xX4_initq = PI_X4 := rfl
theorem xX4_initq_CT : am_CT xX4_initq = CT_X4 := rfl
theorem xX4_initq_KT : am_KT xX4_initq = KT_X4 := rfl
theorem xX4_initq_LT : am_LT xX4_initq = LT_X4 := rfl
theorem xX4_initq_NT : am_NT xX4_initq = NT_X4 := rfl

set_option maxRecDepth 100000 in
theorem pX4_initq : am_B cX4_init xX4_initq 1 1 sX4_initq := by
  intro n0 as σ post AA hA h
  obtain ⟨o, L, ho, rfl, rfl, hS, hk, h⟩ := h
  refine ⟨by simp [am_sl, Value.category], ?_⟩
  show AA 0 [some (.ref o)] [] (o + 1) σ
  rcases ho with rfl | rfl
  · refine hA [] 10 _ _ _ _ _ ?_
    try simp only [dX4_init_0, dX4_init_1, NT_X4, dX4_init_4, dX4_init_5, dX4_init_7, dX4_init_9, PI_X4_11, dX4_init_12, xX4_initq_SH, xX4_initq_KF, xX4_initq_rt, xX4_initq_FT, xX4_initq_PT, xX4_initq_CT, xX4_initq_KT, xX4_initq_LT, xX4_initq_NT, o_aload_n, o_bipush, o_invokespecial, o_newarray, o_putfield, o_return_, SH_31, K1_31_0, SH_32, SH_33, K1_33_0, SH_34, am_ty, am_vc, am_opt, am_cl, am_find, am_ldi, am_ldl, am_lda, am_v, am_1, am_1l, am_1a, am_2, am_2l, am_ix, am_ri, am_arr, am_pf, am_rc, am_mask, am_lg, am_av, am_nat, fv_0, fv_1, fv_2, fv_3, fw_0, fw_1, List.getElem?_cons_zero, List.getElem?_cons_succ, List.set_cons_zero, List.set_cons_succ, List.length_cons, List.length_nil, List.take_succ_cons, List.take_zero, List.drop_succ_cons, List.drop_zero, List.reverse_cons, List.reverse_nil, List.nil_append, List.cons_append, List.append_nil, List.map_cons, List.map_nil, List.sum_cons, List.sum_nil, Value.category, Option.toList_some, Option.toList_none, Nat.reduceAdd, Nat.reduceLT, Nat.reduceLeDiff, Nat.reduceEqDiff, Nat.reduceSub, Nat.add_zero, Nat.le_refl, Nat.zero_le, Int.reduceNeg, Int.reduceLE, Int.reduceLT, true_and, and_true, and_self, if_true, if_false, ite_true, ite_false, eq_self_iff_true, reduceIte, reduceCtorEq, not_false_eq_true, not_true_eq_false, or_true, true_or, or_false, false_or, Nat.lt_irrefl, Nat.zero_lt_succ]
    try simp (disch := omega) only [ii_0, ii_1, ii_t, ii_add, ii_sub, ii_mul, ii_lt, ii_le, ii_eq, ij_in, ii_c, Int.toNat_natCast, Int.toNat_zero, Int.reduceToNat, Int.reduceEq, Int.reduceNe, Int.reduceLE, Int.reduceLT, Int.reduceAdd, Int.reduceSub, Int.reduceMul, Int.reduceNeg, Nat.reduceLT, Nat.reduceAdd, Nat.reduceMul, not_false_eq_true, not_true_eq_false, true_and, and_true, and_self, false_and, and_false, true_implies, false_implies, implies_true, forall_const, if_true, if_false, ite_true, ite_false, reduceIte, eq_self_iff_true, Int.natCast_nonneg, Int.zero_add, Int.add_zero, pi_s, pi_n]
    refine h _ ?_
    repeat' first
      | exact hS
      | exact hk
      | refine St_new ?_ ?_
      | refine St_pi ?_
      | refine kb_cons (by omega) ?_
      | exact kb_up hk (by omega)
  · refine hA [] 10 _ _ _ _ _ ?_
    try simp only [dX4_init_0, dX4_init_1, NT_X4, dX4_init_4, dX4_init_5, dX4_init_7, dX4_init_9, PI_X4_11, dX4_init_12, xX4_initq_SH, xX4_initq_KF, xX4_initq_rt, xX4_initq_FT, xX4_initq_PT, xX4_initq_CT, xX4_initq_KT, xX4_initq_LT, xX4_initq_NT, o_aload_n, o_bipush, o_invokespecial, o_newarray, o_putfield, o_return_, SH_31, K1_31_0, SH_32, SH_33, K1_33_0, SH_34, am_ty, am_vc, am_opt, am_cl, am_find, am_ldi, am_ldl, am_lda, am_v, am_1, am_1l, am_1a, am_2, am_2l, am_ix, am_ri, am_arr, am_pf, am_rc, am_mask, am_lg, am_av, am_nat, fv_0, fv_1, fv_2, fv_3, fw_0, fw_1, List.getElem?_cons_zero, List.getElem?_cons_succ, List.set_cons_zero, List.set_cons_succ, List.length_cons, List.length_nil, List.take_succ_cons, List.take_zero, List.drop_succ_cons, List.drop_zero, List.reverse_cons, List.reverse_nil, List.nil_append, List.cons_append, List.append_nil, List.map_cons, List.map_nil, List.sum_cons, List.sum_nil, Value.category, Option.toList_some, Option.toList_none, Nat.reduceAdd, Nat.reduceLT, Nat.reduceLeDiff, Nat.reduceEqDiff, Nat.reduceSub, Nat.add_zero, Nat.le_refl, Nat.zero_le, Int.reduceNeg, Int.reduceLE, Int.reduceLT, true_and, and_true, and_self, if_true, if_false, ite_true, ite_false, eq_self_iff_true, reduceIte, reduceCtorEq, not_false_eq_true, not_true_eq_false, or_true, true_or, or_false, false_or, Nat.lt_irrefl, Nat.zero_lt_succ]
    try simp (disch := omega) only [ii_0, ii_1, ii_t, ii_add, ii_sub, ii_mul, ii_lt, ii_le, ii_eq, ij_in, ii_c, Int.toNat_natCast, Int.toNat_zero, Int.reduceToNat, Int.reduceEq, Int.reduceNe, Int.reduceLE, Int.reduceLT, Int.reduceAdd, Int.reduceSub, Int.reduceMul, Int.reduceNeg, Nat.reduceLT, Nat.reduceAdd, Nat.reduceMul, not_false_eq_true, not_true_eq_false, true_and, and_true, and_self, false_and, and_false, true_implies, false_implies, implies_true, forall_const, if_true, if_false, ite_true, ite_false, reduceIte, eq_self_iff_true, Int.natCast_nonneg, Int.zero_add, Int.add_zero, pi_s, pi_n]
    refine h _ ?_
    repeat' first
      | exact hS
      | exact hk
      | refine St_new ?_ ?_
      | refine St_pi ?_
      | refine kb_cons (by omega) ?_
      | exact kb_up hk (by omega)
theorem mX4_initq (l : Launch) : am_M l TB NB vwCl SH K1 yX4_init cX4_init 1 none 2 1 40 sX4_initq := by
  refine am_M.of xX4_initq (by decide +kernel) TB_good G1 rfl rfl rfl (by decide) ⟨FT_X4_ok, PI_X4_ok, CT_X4_ok, KT_X4_ok, LT_X4_ok, NT_X4_ok, ?_⟩ pX4_initq
  exact fun _ h => absurd h List.not_mem_nil

def sX7_initq : am_Sp := fun as n σ post => ∃ (L : List (Nat × Nat × Int32)), n = 35 + 1 ∧ as = [.ref 35] ∧ St L n σ ∧ kb L 35 ∧ ∀ τ, St ((35, 4, Int32.ofInt 0) :: (35, 3, Int32.ofInt 0) :: (35, 2, Int32.ofInt 0) :: (35, 1, Int32.ofNat (35 + 3)) :: (35, 0, Int32.ofNat (35 + 2)) :: L) (35 + 3) τ → post none τ
def xX7_initq : am_X := (SH, K1, none, FT_X7, PI_X7, CT_X7, KT_X7, LT_X7, NT_X7, [])
theorem xX7_initq_SH : am_SH xX7_initq = SH := rfl
theorem xX7_initq_KF : am_KF xX7_initq = K1 := rfl
theorem xX7_initq_rt : am_rt xX7_initq = none := rfl
theorem xX7_initq_FT : am_FT xX7_initq = FT_X7 := rfl
theorem xX7_initq_PT : am_PT xX7_initq = PI_X7 := rfl
theorem xX7_initq_CT : am_CT xX7_initq = CT_X7 := rfl
theorem xX7_initq_KT : am_KT xX7_initq = KT_X7 := rfl
theorem xX7_initq_LT : am_LT xX7_initq = LT_X7 := rfl
theorem xX7_initq_NT : am_NT xX7_initq = NT_X7 := rfl

set_option maxRecDepth 100000 in
theorem pX7_initq : am_B cX7_init xX7_initq 1 2 sX7_initq := by
  intro n0 as σ post AA hA h
  obtain ⟨L, rfl, rfl, hS, hk, h⟩ := h
  refine ⟨by simp [am_sl, Value.category], ?_⟩
  show AA 0 [some (.ref 35)] [] (35 + 1) σ
  refine hA [] 22 _ _ _ _ _ ?_
  try simp only [dX7_init_0, dX7_init_1, NT_X7, dX7_init_4, dX7_init_5, dX7_init_8, dX7_init_10, PI_X7_11, dX7_init_13, dX7_init_14, dX7_init_16, dX7_init_18, PI_X7_15, dX7_init_21, dX7_init_22, dX7_init_23, PI_X7_18, dX7_init_26, dX7_init_27, dX7_init_28, PI_X7_22, dX7_init_31, dX7_init_32, dX7_init_33, PI_X7_25, dX7_init_36, xX7_initq_SH, xX7_initq_KF, xX7_initq_rt, xX7_initq_FT, xX7_initq_PT, xX7_initq_CT, xX7_initq_KT, xX7_initq_LT, xX7_initq_NT, o_aload_n, o_bipush, o_iconst, o_invokespecial, o_newarray, o_putfield, o_return_, o_sipush, SH_35, K1_35_0, SH_36, K1_35_1, SH_37, K1_35_2, K1_35_3, K1_35_4, am_ty, am_vc, am_opt, am_cl, am_find, am_ldi, am_ldl, am_lda, am_v, am_1, am_1l, am_1a, am_2, am_2l, am_ix, am_ri, am_arr, am_pf, am_rc, am_mask, am_lg, am_av, am_nat, fv_0, fv_1, fv_2, fv_3, fw_0, fw_1, List.getElem?_cons_zero, List.getElem?_cons_succ, List.set_cons_zero, List.set_cons_succ, List.length_cons, List.length_nil, List.take_succ_cons, List.take_zero, List.drop_succ_cons, List.drop_zero, List.reverse_cons, List.reverse_nil, List.nil_append, List.cons_append, List.append_nil, List.map_cons, List.map_nil, List.sum_cons, List.sum_nil, Value.category, Option.toList_some, Option.toList_none, Nat.reduceAdd, Nat.reduceLT, Nat.reduceLeDiff, Nat.reduceEqDiff, Nat.reduceSub, Nat.add_zero, Nat.le_refl, Nat.zero_le, Int.reduceNeg, Int.reduceLE, Int.reduceLT, true_and, and_true, and_self, if_true, if_false, ite_true, ite_false, eq_self_iff_true, reduceIte, reduceCtorEq, not_false_eq_true, not_true_eq_false, or_true, true_or, or_false, false_or, Nat.lt_irrefl, Nat.zero_lt_succ]
  try simp (disch := omega) only [ii_0, ii_1, ii_t, ii_add, ii_sub, ii_mul, ii_lt, ii_le, ii_eq, ij_in, ii_c, Int.toNat_natCast, Int.toNat_zero, Int.reduceToNat, Int.reduceEq, Int.reduceNe, Int.reduceLE, Int.reduceLT, Int.reduceAdd, Int.reduceSub, Int.reduceMul, Int.reduceNeg, Nat.reduceLT, Nat.reduceAdd, Nat.reduceMul, not_false_eq_true, not_true_eq_false, true_and, and_true, and_self, false_and, and_false, true_implies, false_implies, implies_true, forall_const, if_true, if_false, ite_true, ite_false, reduceIte, eq_self_iff_true, Int.natCast_nonneg, Int.zero_add, Int.add_zero, pi_s, pi_n]
  refine h _ ?_
  repeat' first
    | exact hS
    | exact hk
    | refine St_new ?_ ?_
    | refine St_pi ?_
    | refine kb_cons (by omega) ?_
    | exact kb_up hk (by omega)
theorem mX7_initq (l : Launch) : am_M l TB NB vwCl SH K1 yX7_init cX7_init 1 none 2 2 1720 sX7_initq := by
  refine am_M.of xX7_initq (by decide +kernel) TB_good G1 rfl rfl rfl (by decide) ⟨FT_X7_ok, PI_X7_ok, CT_X7_ok, KT_X7_ok, LT_X7_ok, NT_X7_ok, ?_⟩ pX7_initq
  exact fun _ h => absurd h List.not_mem_nil

def sX0_initq : am_Sp := fun as n σ post => ∃ (L : List (Nat × Nat × Int32)), n = 38 + 1 ∧ as = [.ref 38, .ref 20] ∧ St L n σ ∧ look L 20 3 = Int32.ofNat (21 + 1) ∧ ∀ τ, St ((38, 1, Int32.ofNat (21 + 1)) :: (38, 0, Int32.ofNat (20 + 1)) :: L) (38 + 1) τ → post none τ
def xX0_initq : am_X := (SH, K1, none, FT_X0, PI_X0, CT_X0, KT_X0, LT_X0, NT_X0, [])
theorem xX0_initq_SH : am_SH xX0_initq = SH := rfl
theorem xX0_initq_KF : am_KF xX0_initq = K1 := rfl
theorem xX0_initq_rt : am_rt xX0_initq = none := rfl
theorem xX0_initq_FT : am_FT xX0_initq = FT_X0 := rfl
theorem xX0_initq_PT : am_PT xX0_initq = PI_X0 := rfl
theorem xX0_initq_CT : am_CT xX0_initq = CT_X0 := rfl
theorem xX0_initq_KT : am_KT xX0_initq = KT_X0 := rfl
theorem xX0_initq_LT : am_LT xX0_initq = LT_X0 := rfl
theorem xX0_initq_NT : am_NT xX0_initq = NT_X0 := rfl

set_option maxRecDepth 100000 in
theorem pX0_initq : am_B cX0_init xX0_initq 2 0 sX0_initq := by
  intro n0 as σ post AA hA h
  obtain ⟨L, rfl, rfl, hS, h3, h⟩ := h
  refine ⟨by simp [am_sl, Value.category], ?_⟩
  show AA 0 [some (.ref 38), some (.ref 20)] [] (38 + 1) σ
  have e3 : ∀ x : Int32, (am_pi σ 38 0 x).1 20 3 = Int32.ofNat (21 + 1) := fun x => (pi_n _ _ _ _ (by rintro ⟨z, _⟩; cases z)).trans ((hS.1 _ _ (by decide)).trans h3)
  simp only [Nat.reduceAdd] at e3
  refine hA [] 12 _ _ _ _ _ ?_
  try simp only [dX0_init_0, dX0_init_1, NT_X0, dX0_init_4, dX0_init_5, dX0_init_6, PI_X0_9, dX0_init_9, dX0_init_10, dX0_init_11, FT_X0_15, dX0_init_14, PI_X0_21, dX0_init_17, xX0_initq_SH, xX0_initq_KF, xX0_initq_rt, xX0_initq_FT, xX0_initq_PT, xX0_initq_CT, xX0_initq_KT, xX0_initq_LT, xX0_initq_NT, o_aload_n, o_getfield, o_invokespecial, o_putfield, o_return_, SH_3, K1_3_3, SH_4, SH_20, K1_20_3, SH_21, SH_38, K1_38_0, K1_38_1, am_ty, am_vc, am_opt, am_cl, am_find, am_ldi, am_ldl, am_lda, am_v, am_1, am_1l, am_1a, am_2, am_2l, am_ix, am_ri, am_arr, am_pf, am_rc, am_mask, am_lg, am_av, am_nat, fv_0, fv_1, fv_2, fv_3, fw_0, fw_1, List.getElem?_cons_zero, List.getElem?_cons_succ, List.set_cons_zero, List.set_cons_succ, List.length_cons, List.length_nil, List.take_succ_cons, List.take_zero, List.drop_succ_cons, List.drop_zero, List.reverse_cons, List.reverse_nil, List.nil_append, List.cons_append, List.append_nil, List.map_cons, List.map_nil, List.sum_cons, List.sum_nil, Value.category, Option.toList_some, Option.toList_none, Nat.reduceAdd, Nat.reduceLT, Nat.reduceLeDiff, Nat.reduceEqDiff, Nat.reduceSub, Nat.add_zero, Nat.le_refl, Nat.zero_le, Int.reduceNeg, Int.reduceLE, Int.reduceLT, true_and, and_true, and_self, if_true, if_false, ite_true, ite_false, eq_self_iff_true, reduceIte, reduceCtorEq, not_false_eq_true, not_true_eq_false, or_true, true_or, or_false, false_or, Nat.lt_irrefl, Nat.zero_lt_succ, e3, nz_22, tc_22]
  try simp (disch := omega) only [ii_0, ii_1, ii_t, ii_add, ii_sub, ii_mul, ii_lt, ii_le, ii_eq, ij_in, ii_c, Int.toNat_natCast, Int.toNat_zero, Int.reduceToNat, Int.reduceEq, Int.reduceNe, Int.reduceLE, Int.reduceLT, Int.reduceAdd, Int.reduceSub, Int.reduceMul, Int.reduceNeg, Nat.reduceLT, Nat.reduceAdd, Nat.reduceMul, not_false_eq_true, not_true_eq_false, true_and, and_true, and_self, false_and, and_false, true_implies, false_implies, implies_true, forall_const, if_true, if_false, ite_true, ite_false, reduceIte, eq_self_iff_true, Int.natCast_nonneg, Int.zero_add, Int.add_zero, pi_s, pi_n]
  refine h _ ?_
  exact St_pi (St_pi hS)
theorem mX0_initq (l : Launch) : am_M l TB NB vwCl SH K1 yX0_init cX0_init 2 none 2 0 0 sX0_initq := by
  refine am_M.of xX0_initq (by decide +kernel) TB_good G1 rfl rfl rfl (by decide) ⟨FT_X0_ok, PI_X0_ok, CT_X0_ok, KT_X0_ok, LT_X0_ok, NT_X0_ok, ?_⟩ pX0_initq
  exact fun _ h => absurd h List.not_mem_nil

def sX10_initq : am_Sp := fun as n σ post => ∃ (L : List (Nat × Nat × Int32)), n = 39 + 1 ∧ as = [.ref 39, .ref 20, .ref 38] ∧ St L n σ ∧ kb L 39 ∧ ∀ τ, St ((39, 1, Int32.ofNat (38 + 1)) :: (39, 0, Int32.ofNat (20 + 1)) :: (39, 4, Int32.ofNat (39 + 4)) :: (39, 3, Int32.ofNat (39 + 3)) :: (39, 2, Int32.ofNat (39 + 2)) :: L) (39 + 4) τ → post none τ
def xX10_initq : am_X := (SH, K1, none, FT_X10, PI_X10, CT_X10, KT_X10, LT_X10, NT_X10, [])
theorem xX10_initq_SH : am_SH xX10_initq = SH := rfl
theorem xX10_initq_KF : am_KF xX10_initq = K1 := rfl
theorem xX10_initq_rt : am_rt xX10_initq = none := rfl
theorem xX10_initq_FT : am_FT xX10_initq = FT_X10 := rfl
theorem xX10_initq_PT : am_PT xX10_initq = PI_X10 := rfl
theorem xX10_initq_CT : am_CT xX10_initq = CT_X10 := rfl
theorem xX10_initq_KT : am_KT xX10_initq = KT_X10 := rfl
theorem xX10_initq_LT : am_LT xX10_initq = LT_X10 := rfl
theorem xX10_initq_NT : am_NT xX10_initq = NT_X10 := rfl

set_option maxRecDepth 100000 in
theorem pX10_initq : am_B cX10_init xX10_initq 3 3 sX10_initq := by
  intro n0 as σ post AA hA h
  obtain ⟨L, rfl, rfl, hS, hk, h⟩ := h
  refine ⟨by simp [am_sl, Value.category], ?_⟩
  show AA 0 [some (.ref 39), some (.ref 20), some (.ref 38)] [] (39 + 1) σ
  refine hA [] 24 _ _ _ _ _ ?_
  try simp only [dX10_init_0, dX10_init_1, NT_X10, dX10_init_4, dX10_init_5, dX10_init_7, dX10_init_9, PI_X10_9, dX10_init_12, dX10_init_13, dX10_init_15, dX10_init_17, PI_X10_15, dX10_init_20, dX10_init_21, dX10_init_23, dX10_init_25, PI_X10_18, dX10_init_28, dX10_init_29, dX10_init_30, PI_X10_21, dX10_init_33, dX10_init_34, dX10_init_35, PI_X10_25, dX10_init_38, xX10_initq_SH, xX10_initq_KF, xX10_initq_rt, xX10_initq_FT, xX10_initq_PT, xX10_initq_CT, xX10_initq_KT, xX10_initq_LT, xX10_initq_NT, o_aload_n, o_bipush, o_invokespecial, o_newarray, o_putfield, o_return_, SH_39, K1_39_0, SH_20, K1_39_1, SH_38, K1_39_2, SH_40, K1_39_3, SH_41, K1_39_4, SH_42, SH_3, am_ty, am_vc, am_opt, am_cl, am_find, am_ldi, am_ldl, am_lda, am_v, am_1, am_1l, am_1a, am_2, am_2l, am_ix, am_ri, am_arr, am_pf, am_rc, am_mask, am_lg, am_av, am_nat, fv_0, fv_1, fv_2, fv_3, fw_0, fw_1, List.getElem?_cons_zero, List.getElem?_cons_succ, List.set_cons_zero, List.set_cons_succ, List.length_cons, List.length_nil, List.take_succ_cons, List.take_zero, List.drop_succ_cons, List.drop_zero, List.reverse_cons, List.reverse_nil, List.nil_append, List.cons_append, List.append_nil, List.map_cons, List.map_nil, List.sum_cons, List.sum_nil, Value.category, Option.toList_some, Option.toList_none, Nat.reduceAdd, Nat.reduceLT, Nat.reduceLeDiff, Nat.reduceEqDiff, Nat.reduceSub, Nat.add_zero, Nat.le_refl, Nat.zero_le, Int.reduceNeg, Int.reduceLE, Int.reduceLT, true_and, and_true, and_self, if_true, if_false, ite_true, ite_false, eq_self_iff_true, reduceIte, reduceCtorEq, not_false_eq_true, not_true_eq_false, or_true, true_or, or_false, false_or, Nat.lt_irrefl, Nat.zero_lt_succ]
  try simp (disch := omega) only [ii_0, ii_1, ii_t, ii_add, ii_sub, ii_mul, ii_lt, ii_le, ii_eq, ij_in, ii_c, Int.toNat_natCast, Int.toNat_zero, Int.reduceToNat, Int.reduceEq, Int.reduceNe, Int.reduceLE, Int.reduceLT, Int.reduceAdd, Int.reduceSub, Int.reduceMul, Int.reduceNeg, Nat.reduceLT, Nat.reduceAdd, Nat.reduceMul, not_false_eq_true, not_true_eq_false, true_and, and_true, and_self, false_and, and_false, true_implies, false_implies, implies_true, forall_const, if_true, if_false, ite_true, ite_false, reduceIte, eq_self_iff_true, Int.natCast_nonneg, Int.zero_add, Int.add_zero, pi_s, pi_n]
  refine h _ ?_
  repeat' first
    | exact hS
    | exact hk
    | refine St_new ?_ ?_
    | refine St_pi ?_
    | refine kb_cons (by omega) ?_
    | exact kb_up hk (by omega)
theorem mX10_initq (l : Launch) : am_M l TB NB vwCl SH K1 yX10_init cX10_init 3 none 2 3 36 sX10_initq := by
  refine am_M.of xX10_initq (by decide +kernel) TB_good G1 rfl rfl rfl (by decide) ⟨FT_X10_ok, PI_X10_ok, CT_X10_ok, KT_X10_ok, LT_X10_ok, NT_X10_ok, ?_⟩ pX10_initq
  exact fun _ h => absurd h List.not_mem_nil

def sX3_initq : am_Sp := fun as n σ post => ∃ (L : List (Nat × Nat × Int32)), n = 43 + 1 ∧ as = [.ref 43, .ref 20, .ref 38] ∧ St L n σ ∧ ∀ τ, St ((43, 1, Int32.ofNat (38 + 1)) :: (43, 0, Int32.ofNat (20 + 1)) :: L) (43 + 1) τ → post none τ
def xX3_initq : am_X := (SH, K1, none, FT_X3, PI_X3, CT_X3, KT_X3, LT_X3, NT_X3, [])
theorem xX3_initq_SH : am_SH xX3_initq = SH := rfl
theorem xX3_initq_KF : am_KF xX3_initq = K1 := rfl
theorem xX3_initq_rt : am_rt xX3_initq = none := rfl
theorem xX3_initq_FT : am_FT xX3_initq = FT_X3 := rfl
theorem xX3_initq_PT : am_PT xX3_initq = PI_X3 := rfl
theorem xX3_initq_CT : am_CT xX3_initq = CT_X3 := rfl
theorem xX3_initq_KT : am_KT xX3_initq = KT_X3 := rfl
theorem xX3_initq_LT : am_LT xX3_initq = LT_X3 := rfl
theorem xX3_initq_NT : am_NT xX3_initq = NT_X3 := rfl

set_option maxRecDepth 100000 in
theorem pX3_initq : am_B cX3_init xX3_initq 3 0 sX3_initq := by
  intro n0 as σ post AA hA h
  obtain ⟨L, rfl, rfl, hS, h⟩ := h
  refine ⟨by simp [am_sl, Value.category], ?_⟩
  show AA 0 [some (.ref 43), some (.ref 20), some (.ref 38)] [] (43 + 1) σ
  refine hA [] 12 _ _ _ _ _ ?_
  try simp only [dX3_init_0, dX3_init_1, NT_X3, dX3_init_4, dX3_init_5, dX3_init_6, PI_X3_9, dX3_init_9, dX3_init_10, dX3_init_11, PI_X3_15, dX3_init_14, xX3_initq_SH, xX3_initq_KF, xX3_initq_rt, xX3_initq_FT, xX3_initq_PT, xX3_initq_CT, xX3_initq_KT, xX3_initq_LT, xX3_initq_NT, o_aload_n, o_invokespecial, o_putfield, o_return_, SH_43, K1_43_0, SH_20, K1_43_1, SH_38, SH_3, am_ty, am_vc, am_opt, am_cl, am_find, am_ldi, am_ldl, am_lda, am_v, am_1, am_1l, am_1a, am_2, am_2l, am_ix, am_ri, am_arr, am_pf, am_rc, am_mask, am_lg, am_av, am_nat, fv_0, fv_1, fv_2, fv_3, fw_0, fw_1, List.getElem?_cons_zero, List.getElem?_cons_succ, List.set_cons_zero, List.set_cons_succ, List.length_cons, List.length_nil, List.take_succ_cons, List.take_zero, List.drop_succ_cons, List.drop_zero, List.reverse_cons, List.reverse_nil, List.nil_append, List.cons_append, List.append_nil, List.map_cons, List.map_nil, List.sum_cons, List.sum_nil, Value.category, Option.toList_some, Option.toList_none, Nat.reduceAdd, Nat.reduceLT, Nat.reduceLeDiff, Nat.reduceEqDiff, Nat.reduceSub, Nat.add_zero, Nat.le_refl, Nat.zero_le, Int.reduceNeg, Int.reduceLE, Int.reduceLT, true_and, and_true, and_self, if_true, if_false, ite_true, ite_false, eq_self_iff_true, reduceIte, reduceCtorEq, not_false_eq_true, not_true_eq_false, or_true, true_or, or_false, false_or, Nat.lt_irrefl, Nat.zero_lt_succ]
  try simp (disch := omega) only [ii_0, ii_1, ii_t, ii_add, ii_sub, ii_mul, ii_lt, ii_le, ii_eq, ij_in, ii_c, Int.toNat_natCast, Int.toNat_zero, Int.reduceToNat, Int.reduceEq, Int.reduceNe, Int.reduceLE, Int.reduceLT, Int.reduceAdd, Int.reduceSub, Int.reduceMul, Int.reduceNeg, Nat.reduceLT, Nat.reduceAdd, Nat.reduceMul, not_false_eq_true, not_true_eq_false, true_and, and_true, and_self, false_and, and_false, true_implies, false_implies, implies_true, forall_const, if_true, if_false, ite_true, ite_false, reduceIte, eq_self_iff_true, Int.natCast_nonneg, Int.zero_add, Int.add_zero, pi_s, pi_n]
  exact h _ (St_pi (St_pi hS))
theorem mX3_initq (l : Launch) : am_M l TB NB vwCl SH K1 yX3_init cX3_init 3 none 2 0 0 sX3_initq := by
  refine am_M.of xX3_initq (by decide +kernel) TB_good G1 rfl rfl rfl (by decide) ⟨FT_X3_ok, PI_X3_ok, CT_X3_ok, KT_X3_ok, LT_X3_ok, NT_X3_ok, ?_⟩ pX3_initq
  exact fun _ h => absurd h List.not_mem_nil

def sX1_initq : am_Sp := fun as n σ post => ∃ (L : List (Nat × Nat × Int32)), n = 44 + 1 ∧ as = [.ref 44, .ref 20, .ref 38] ∧ St L n σ ∧ kb L 44 ∧ ∀ τ, St ((44, 1, Int32.ofNat (38 + 1)) :: (44, 0, Int32.ofNat (20 + 1)) :: (44, 3, Int32.ofNat (44 + 3)) :: (44, 2, Int32.ofNat (44 + 2)) :: L) (44 + 3) τ → post none τ
def xX1_initq : am_X := (SH, K1, none, FT_X1, PI_X1, CT_X1, KT_X1, LT_X1, NT_X1, [])
theorem xX1_initq_SH : am_SH xX1_initq = SH := rfl
theorem xX1_initq_KF : am_KF xX1_initq = K1 := rfl
theorem xX1_initq_rt : am_rt xX1_initq = none := rfl
theorem xX1_initq_FT : am_FT xX1_initq = FT_X1 := rfl
theorem xX1_initq_PT : am_PT xX1_initq = PI_X1 := rfl
theorem xX1_initq_CT : am_CT xX1_initq = CT_X1 := rfl
theorem xX1_initq_KT : am_KT xX1_initq = KT_X1 := rfl
theorem xX1_initq_LT : am_LT xX1_initq = LT_X1 := rfl
theorem xX1_initq_NT : am_NT xX1_initq = NT_X1 := rfl

set_option maxRecDepth 100000 in
theorem pX1_initq : am_B cX1_init xX1_initq 3 2 sX1_initq := by
  intro n0 as σ post AA hA h
  obtain ⟨L, rfl, rfl, hS, hk, h⟩ := h
  refine ⟨by simp [am_sl, Value.category], ?_⟩
  show AA 0 [some (.ref 44), some (.ref 20), some (.ref 38)] [] (44 + 1) σ
  refine hA [] 20 _ _ _ _ _ ?_
  try simp only [dX1_init_0, dX1_init_1, NT_X1, dX1_init_4, dX1_init_5, dX1_init_7, dX1_init_9, PI_X1_9, dX1_init_12, dX1_init_13, dX1_init_14, dX1_init_16, PI_X1_15, dX1_init_19, dX1_init_20, dX1_init_21, PI_X1_18, dX1_init_24, dX1_init_25, dX1_init_26, PI_X1_22, dX1_init_29, xX1_initq_SH, xX1_initq_KF, xX1_initq_rt, xX1_initq_FT, xX1_initq_PT, xX1_initq_CT, xX1_initq_KT, xX1_initq_LT, xX1_initq_NT, o_aload_n, o_bipush, o_iconst, o_invokespecial, o_newarray, o_putfield, o_return_, SH_44, K1_44_0, SH_20, K1_44_1, SH_38, K1_44_2, SH_45, K1_44_3, SH_46, SH_3, am_ty, am_vc, am_opt, am_cl, am_find, am_ldi, am_ldl, am_lda, am_v, am_1, am_1l, am_1a, am_2, am_2l, am_ix, am_ri, am_arr, am_pf, am_rc, am_mask, am_lg, am_av, am_nat, fv_0, fv_1, fv_2, fv_3, fw_0, fw_1, List.getElem?_cons_zero, List.getElem?_cons_succ, List.set_cons_zero, List.set_cons_succ, List.length_cons, List.length_nil, List.take_succ_cons, List.take_zero, List.drop_succ_cons, List.drop_zero, List.reverse_cons, List.reverse_nil, List.nil_append, List.cons_append, List.append_nil, List.map_cons, List.map_nil, List.sum_cons, List.sum_nil, Value.category, Option.toList_some, Option.toList_none, Nat.reduceAdd, Nat.reduceLT, Nat.reduceLeDiff, Nat.reduceEqDiff, Nat.reduceSub, Nat.add_zero, Nat.le_refl, Nat.zero_le, Int.reduceNeg, Int.reduceLE, Int.reduceLT, true_and, and_true, and_self, if_true, if_false, ite_true, ite_false, eq_self_iff_true, reduceIte, reduceCtorEq, not_false_eq_true, not_true_eq_false, or_true, true_or, or_false, false_or, Nat.lt_irrefl, Nat.zero_lt_succ]
  try simp (disch := omega) only [ii_0, ii_1, ii_t, ii_add, ii_sub, ii_mul, ii_lt, ii_le, ii_eq, ij_in, ii_c, Int.toNat_natCast, Int.toNat_zero, Int.reduceToNat, Int.reduceEq, Int.reduceNe, Int.reduceLE, Int.reduceLT, Int.reduceAdd, Int.reduceSub, Int.reduceMul, Int.reduceNeg, Nat.reduceLT, Nat.reduceAdd, Nat.reduceMul, not_false_eq_true, not_true_eq_false, true_and, and_true, and_self, false_and, and_false, true_implies, false_implies, implies_true, forall_const, if_true, if_false, ite_true, ite_false, reduceIte, eq_self_iff_true, Int.natCast_nonneg, Int.zero_add, Int.add_zero, pi_s, pi_n]
  refine h _ ?_
  repeat' first
    | exact hS
    | exact hk
    | refine St_new ?_ ?_
    | refine St_pi ?_
    | refine kb_cons (by omega) ?_
    | exact kb_up hk (by omega)
theorem mX1_initq (l : Launch) : am_M l TB NB vwCl SH K1 yX1_init cX1_init 3 none 2 2 17 sX1_initq := by
  refine am_M.of xX1_initq (by decide +kernel) TB_good G1 rfl rfl rfl (by decide) ⟨FT_X1_ok, PI_X1_ok, CT_X1_ok, KT_X1_ok, LT_X1_ok, NT_X1_ok, ?_⟩ pX1_initq
  exact fun _ h => absurd h List.not_mem_nil

def sX6_initq : am_Sp := fun as n σ post => ∃ (L : List (Nat × Nat × Int32)), n = 47 + 1 ∧ as = [.ref 47, .ref 20] ∧ St L n σ ∧ kb L 47 ∧ ∀ τ, St ((47, 0, Int32.ofNat (20 + 1)) :: (47, 3, Int32.ofInt 0) :: (47, 2, Int32.ofNat (47 + 3)) :: (47, 1, Int32.ofNat (47 + 2)) :: L) (47 + 3) τ → post none τ
def xX6_initq : am_X := (SH, K1, none, FT_X6, PI_X6, CT_X6, KT_X6, LT_X6, NT_X6, [])
theorem xX6_initq_SH : am_SH xX6_initq = SH := rfl
theorem xX6_initq_KF : am_KF xX6_initq = K1 := rfl
theorem xX6_initq_rt : am_rt xX6_initq = none := rfl
theorem xX6_initq_FT : am_FT xX6_initq = FT_X6 := rfl
theorem xX6_initq_PT : am_PT xX6_initq = PI_X6 := rfl
theorem xX6_initq_CT : am_CT xX6_initq = CT_X6 := rfl
theorem xX6_initq_KT : am_KT xX6_initq = KT_X6 := rfl
theorem xX6_initq_LT : am_LT xX6_initq = LT_X6 := rfl
theorem xX6_initq_NT : am_NT xX6_initq = NT_X6 := rfl

set_option maxRecDepth 100000 in
theorem pX6_initq : am_B cX6_init xX6_initq 2 2 sX6_initq := by
  intro n0 as σ post AA hA h
  obtain ⟨L, rfl, rfl, hS, hk, h⟩ := h
  refine ⟨by simp [am_sl, Value.category], ?_⟩
  show AA 0 [some (.ref 47), some (.ref 20)] [] (47 + 1) σ
  refine hA [] 20 _ _ _ _ _ ?_
  try simp only [dX6_init_0, dX6_init_1, NT_X6, dX6_init_4, dX6_init_5, dX6_init_7, dX6_init_9, PI_X6_11, dX6_init_12, dX6_init_13, dX6_init_15, dX6_init_17, PI_X6_15, dX6_init_20, dX6_init_21, dX6_init_22, PI_X6_19, dX6_init_25, dX6_init_26, dX6_init_27, PI_X6_23, dX6_init_30, xX6_initq_SH, xX6_initq_KF, xX6_initq_rt, xX6_initq_FT, xX6_initq_PT, xX6_initq_CT, xX6_initq_KT, xX6_initq_LT, xX6_initq_NT, o_aload_n, o_bipush, o_iconst, o_invokespecial, o_newarray, o_putfield, o_return_, SH_47, K1_47_0, SH_20, K1_47_1, SH_48, K1_47_2, SH_49, K1_47_3, SH_3, am_ty, am_vc, am_opt, am_cl, am_find, am_ldi, am_ldl, am_lda, am_v, am_1, am_1l, am_1a, am_2, am_2l, am_ix, am_ri, am_arr, am_pf, am_rc, am_mask, am_lg, am_av, am_nat, fv_0, fv_1, fv_2, fv_3, fw_0, fw_1, List.getElem?_cons_zero, List.getElem?_cons_succ, List.set_cons_zero, List.set_cons_succ, List.length_cons, List.length_nil, List.take_succ_cons, List.take_zero, List.drop_succ_cons, List.drop_zero, List.reverse_cons, List.reverse_nil, List.nil_append, List.cons_append, List.append_nil, List.map_cons, List.map_nil, List.sum_cons, List.sum_nil, Value.category, Option.toList_some, Option.toList_none, Nat.reduceAdd, Nat.reduceLT, Nat.reduceLeDiff, Nat.reduceEqDiff, Nat.reduceSub, Nat.add_zero, Nat.le_refl, Nat.zero_le, Int.reduceNeg, Int.reduceLE, Int.reduceLT, true_and, and_true, and_self, if_true, if_false, ite_true, ite_false, eq_self_iff_true, reduceIte, reduceCtorEq, not_false_eq_true, not_true_eq_false, or_true, true_or, or_false, false_or, Nat.lt_irrefl, Nat.zero_lt_succ]
  try simp (disch := omega) only [ii_0, ii_1, ii_t, ii_add, ii_sub, ii_mul, ii_lt, ii_le, ii_eq, ij_in, ii_c, Int.toNat_natCast, Int.toNat_zero, Int.reduceToNat, Int.reduceEq, Int.reduceNe, Int.reduceLE, Int.reduceLT, Int.reduceAdd, Int.reduceSub, Int.reduceMul, Int.reduceNeg, Nat.reduceLT, Nat.reduceAdd, Nat.reduceMul, not_false_eq_true, not_true_eq_false, true_and, and_true, and_self, false_and, and_false, true_implies, false_implies, implies_true, forall_const, if_true, if_false, ite_true, ite_false, reduceIte, eq_self_iff_true, Int.natCast_nonneg, Int.zero_add, Int.add_zero, pi_s, pi_n]
  refine h _ ?_
  repeat' first
    | exact hS
    | exact hk
    | refine St_new ?_ ?_
    | refine St_pi ?_
    | refine kb_cons (by omega) ?_
    | exact kb_up hk (by omega)
theorem mX6_initq (l : Launch) : am_M l TB NB vwCl SH K1 yX6_init cX6_init 2 none 2 2 40 sX6_initq := by
  refine am_M.of xX6_initq (by decide +kernel) TB_good G1 rfl rfl rfl (by decide) ⟨FT_X6_ok, PI_X6_ok, CT_X6_ok, KT_X6_ok, LT_X6_ok, NT_X6_ok, ?_⟩ pX6_initq
  exact fun _ h => absurd h List.not_mem_nil

