-- appends, word: some number
def sX12_appends : am_Sp := fun as _ σ post => ∃ (x : Int64) (c : Int32), as = [.long x, .int c] ∧ ∀ y : Int64, post (some (.long y)) σ
def xX12_appends : am_X := (SH, KF, (some .long), FT_X12, PT_X12, CT_X12, KT_X12, LT_X12, NT_X12, [])
theorem xX12_appends_SH : am_SH xX12_appends = SH := rfl
theorem xX12_appends_KF : am_KF xX12_appends = KF := rfl
theorem xX12_appends_rt : am_rt xX12_appends = (some .long) := rfl
theorem xX12_appends_FT : am_FT xX12_appends = FT_X12 := rfl
theorem xX12_appends_PT : am_PT xX12_appends = PT_X12 := rfl
theorem xX12_appends_CT : am_CT xX12_appends = CT_X12 := rfl
theorem xX12_appends_KT : am_KT xX12_appends = KT_X12 := rfl
theorem xX12_appends_LT : am_LT xX12_appends = LT_X12 := rfl
theorem xX12_appends_NT : am_NT xX12_appends = NT_X12 := rfl
theorem xX12_appends_t1 (k : Nat → Prop) : am_tg 1 (7) k = k 8 := am_tg_eq (by decide)
theorem xX12_appends_t5 (k : Nat → Prop) : am_tg 5 (16) k = k 21 := am_tg_eq (by decide)

theorem LT27 : am_find LT_X12 163 = some 27 := rfl
set_option maxRecDepth 100000 in
theorem pX12_appends : am_B cX12_appends xX12_appends 3 0 sX12_appends := by
  intro n0 as σ post AA hA h
  obtain ⟨x, c, rfl, h⟩ := h
  refine ⟨by simp [am_sl, Value.category], ?_⟩
  show AA 0 [some (.long x), none, some (.int c)] [] n0 σ
  refine hA [] 40 _ _ _ _ _ ?_
  try simp only [dX12_appends_0, dX12_appends_1, xX12_appends_t1, dX12_appends_4, dX12_appends_5, xX12_appends_t5, dX12_appends_8, LT_X12, dX12_appends_11, dX12_appends_12, dX12_appends_13, dX12_appends_14, dX12_appends_16, dX12_appends_17, dX12_appends_18, dX12_appends_19, dX12_appends_20, dX12_appends_21, xX12_appends_SH, xX12_appends_KF, xX12_appends_rt, xX12_appends_FT, xX12_appends_PT, xX12_appends_CT, xX12_appends_KT, xX12_appends_LT, xX12_appends_NT, o_bipush, o_goto, o_i2l, o_iadd, o_iconst, o_ifCond_ne, o_iload_n, o_isub, o_ladd, o_ldc2_w, o_lload_n, o_lmul, o_lreturn, am_ty, am_vc, am_opt, am_cl, am_find, am_ldi, am_ldl, am_lda, am_v, am_1, am_1l, am_1a, am_2, am_2l, am_ix, am_ri, am_arr, am_pf, am_rc, am_mask, am_lg, am_av, am_nat, fv_0, fv_1, fv_2, fv_3, fw_0, fw_1, List.getElem?_cons_zero, List.getElem?_cons_succ, List.set_cons_zero, List.set_cons_succ, List.length_cons, List.length_nil, List.take_succ_cons, List.take_zero, List.drop_succ_cons, List.drop_zero, List.reverse_cons, List.reverse_nil, List.nil_append, List.cons_append, List.append_nil, List.map_cons, List.map_nil, List.sum_cons, List.sum_nil, Value.category, Option.toList_some, Option.toList_none, Nat.reduceAdd, Nat.reduceLT, Nat.reduceLeDiff, Nat.reduceEqDiff, Nat.reduceSub, Nat.add_zero, Nat.le_refl, Nat.zero_le, Int.reduceNeg, Int.reduceLE, Int.reduceLT, true_and, and_true, and_self, if_true, if_false, ite_true, ite_false, eq_self_iff_true, reduceIte, reduceCtorEq, not_false_eq_true, not_true_eq_false, or_true, true_or, or_false, false_or, Nat.lt_irrefl, Nat.zero_lt_succ]
  exact ⟨fun _ => h _, fun _ => h _⟩
theorem mX12_appends (l : Launch) : am_M l TB NB vwCl SH KF yX12_appends cX12_appends 3 (some .long) 2 0 0 sX12_appends := by
  refine am_M.of xX12_appends (by decide +kernel) TB_good GF rfl rfl rfl (by decide) ⟨FT_X12_ok, PT_X12_ok _, CT_X12_ok, KT_X12_ok, LT_X12_ok, NT_X12_ok, ?_⟩ pX12_appends
  exact fun _ h => absurd h List.not_mem_nil

def sX12_word : am_Sp := fun as _ σ post => ∃ (a b c d e f g : Int32), as = [.int a, .int b, .int c, .int d, .int e, .int f, .int g] ∧ ∀ y : Int64, post (some (.long y)) σ
def xX12_word : am_X := (SH, KF, (some .long), FT_X12, PT_X12, CT_X12, KT_X12, LT_X12, NT_X12, [(165, 1, 2, 12, 0, 0, sX12_appends)])
theorem xX12_word_SH : am_SH xX12_word = SH := rfl
theorem xX12_word_KF : am_KF xX12_word = KF := rfl
theorem xX12_word_rt : am_rt xX12_word = (some .long) := rfl
theorem xX12_word_FT : am_FT xX12_word = FT_X12 := rfl
theorem xX12_word_PT : am_PT xX12_word = PT_X12 := rfl
theorem xX12_word_CT : am_CT xX12_word = CT_X12 := rfl
theorem xX12_word_KT : am_KT xX12_word = KT_X12 := rfl
theorem xX12_word_LT : am_LT xX12_word = LT_X12 := rfl
theorem xX12_word_NT : am_NT xX12_word = NT_X12 := rfl
theorem xX12_word_c165 : am_find (am_ML xX12_word) 165 = some (1, 2, 12, 0, 0, sX12_appends) := rfl
theorem xX12_word_n165 : am_find NT_X12 165 = none := rfl

set_option maxRecDepth 100000 in
theorem pX12_word : am_B cX12_word xX12_word 7 0 sX12_word := by
  intro n0 as σ post AA hA h
  obtain ⟨a, b, c, d, e, f, g, rfl, h⟩ := h
  refine ⟨by simp [am_sl, Value.category], ?_⟩
  show AA 0 [some (.int a), some (.int b), some (.int c), some (.int d), some (.int e), some (.int f), some (.int g)] [] n0 σ
  refine hA [] 40 _ _ _ _ _ ?_
  try simp only [dX12_word_0, dX12_word_1, dX12_word_2, xX12_word_c165, xX12_word_n165, dX12_word_5, dX12_word_6, dX12_word_9, dX12_word_10, dX12_word_13, dX12_word_14, dX12_word_17, dX12_word_19, dX12_word_22, dX12_word_24, dX12_word_27, dX12_word_29, dX12_word_32, xX12_word_SH, xX12_word_KF, xX12_word_rt, xX12_word_FT, xX12_word_PT, xX12_word_CT, xX12_word_KT, xX12_word_LT, xX12_word_NT, o_iload, o_iload_n, o_invokestatic, o_lconst, o_lreturn, am_ty, am_vc, am_opt, am_cl, am_find, am_ldi, am_ldl, am_lda, am_v, am_1, am_1l, am_1a, am_2, am_2l, am_ix, am_ri, am_arr, am_pf, am_rc, am_mask, am_lg, am_av, am_nat, fv_0, fv_1, fv_2, fv_3, fw_0, fw_1, List.getElem?_cons_zero, List.getElem?_cons_succ, List.set_cons_zero, List.set_cons_succ, List.length_cons, List.length_nil, List.take_succ_cons, List.take_zero, List.drop_succ_cons, List.drop_zero, List.reverse_cons, List.reverse_nil, List.nil_append, List.cons_append, List.append_nil, List.map_cons, List.map_nil, List.sum_cons, List.sum_nil, Value.category, Option.toList_some, Option.toList_none, Nat.reduceAdd, Nat.reduceLT, Nat.reduceLeDiff, Nat.reduceEqDiff, Nat.reduceSub, Nat.add_zero, Nat.le_refl, Nat.zero_le, Int.reduceNeg, Int.reduceLE, Int.reduceLT, true_and, and_true, and_self, if_true, if_false, ite_true, ite_false, eq_self_iff_true, reduceIte, reduceCtorEq, not_false_eq_true, not_true_eq_false, or_true, true_or, or_false, false_or, Nat.lt_irrefl, Nat.zero_lt_succ]
  refine ⟨_, a, rfl, fun y1 => ?_⟩
  try simp only [dX12_word_0, dX12_word_1, dX12_word_2, xX12_word_c165, xX12_word_n165, dX12_word_5, dX12_word_6, dX12_word_9, dX12_word_10, dX12_word_13, dX12_word_14, dX12_word_17, dX12_word_19, dX12_word_22, dX12_word_24, dX12_word_27, dX12_word_29, dX12_word_32, xX12_word_SH, xX12_word_KF, xX12_word_rt, xX12_word_FT, xX12_word_PT, xX12_word_CT, xX12_word_KT, xX12_word_LT, xX12_word_NT, o_iload, o_iload_n, o_invokestatic, o_lconst, o_lreturn, am_ty, am_vc, am_opt, am_cl, am_find, am_ldi, am_ldl, am_lda, am_v, am_1, am_1l, am_1a, am_2, am_2l, am_ix, am_ri, am_arr, am_pf, am_rc, am_mask, am_lg, am_av, am_nat, fv_0, fv_1, fv_2, fv_3, fw_0, fw_1, List.getElem?_cons_zero, List.getElem?_cons_succ, List.set_cons_zero, List.set_cons_succ, List.length_cons, List.length_nil, List.take_succ_cons, List.take_zero, List.drop_succ_cons, List.drop_zero, List.reverse_cons, List.reverse_nil, List.nil_append, List.cons_append, List.append_nil, List.map_cons, List.map_nil, List.sum_cons, List.sum_nil, Value.category, Option.toList_some, Option.toList_none, Nat.reduceAdd, Nat.reduceLT, Nat.reduceLeDiff, Nat.reduceEqDiff, Nat.reduceSub, Nat.add_zero, Nat.le_refl, Nat.zero_le, Int.reduceNeg, Int.reduceLE, Int.reduceLT, true_and, and_true, and_self, if_true, if_false, ite_true, ite_false, eq_self_iff_true, reduceIte, reduceCtorEq, not_false_eq_true, not_true_eq_false, or_true, true_or, or_false, false_or, Nat.lt_irrefl, Nat.zero_lt_succ]
  refine ⟨_, b, rfl, fun y2 => ?_⟩
  try simp only [dX12_word_0, dX12_word_1, dX12_word_2, xX12_word_c165, xX12_word_n165, dX12_word_5, dX12_word_6, dX12_word_9, dX12_word_10, dX12_word_13, dX12_word_14, dX12_word_17, dX12_word_19, dX12_word_22, dX12_word_24, dX12_word_27, dX12_word_29, dX12_word_32, xX12_word_SH, xX12_word_KF, xX12_word_rt, xX12_word_FT, xX12_word_PT, xX12_word_CT, xX12_word_KT, xX12_word_LT, xX12_word_NT, o_iload, o_iload_n, o_invokestatic, o_lconst, o_lreturn, am_ty, am_vc, am_opt, am_cl, am_find, am_ldi, am_ldl, am_lda, am_v, am_1, am_1l, am_1a, am_2, am_2l, am_ix, am_ri, am_arr, am_pf, am_rc, am_mask, am_lg, am_av, am_nat, fv_0, fv_1, fv_2, fv_3, fw_0, fw_1, List.getElem?_cons_zero, List.getElem?_cons_succ, List.set_cons_zero, List.set_cons_succ, List.length_cons, List.length_nil, List.take_succ_cons, List.take_zero, List.drop_succ_cons, List.drop_zero, List.reverse_cons, List.reverse_nil, List.nil_append, List.cons_append, List.append_nil, List.map_cons, List.map_nil, List.sum_cons, List.sum_nil, Value.category, Option.toList_some, Option.toList_none, Nat.reduceAdd, Nat.reduceLT, Nat.reduceLeDiff, Nat.reduceEqDiff, Nat.reduceSub, Nat.add_zero, Nat.le_refl, Nat.zero_le, Int.reduceNeg, Int.reduceLE, Int.reduceLT, true_and, and_true, and_self, if_true, if_false, ite_true, ite_false, eq_self_iff_true, reduceIte, reduceCtorEq, not_false_eq_true, not_true_eq_false, or_true, true_or, or_false, false_or, Nat.lt_irrefl, Nat.zero_lt_succ]
  refine ⟨_, c, rfl, fun y3 => ?_⟩
  try simp only [dX12_word_0, dX12_word_1, dX12_word_2, xX12_word_c165, xX12_word_n165, dX12_word_5, dX12_word_6, dX12_word_9, dX12_word_10, dX12_word_13, dX12_word_14, dX12_word_17, dX12_word_19, dX12_word_22, dX12_word_24, dX12_word_27, dX12_word_29, dX12_word_32, xX12_word_SH, xX12_word_KF, xX12_word_rt, xX12_word_FT, xX12_word_PT, xX12_word_CT, xX12_word_KT, xX12_word_LT, xX12_word_NT, o_iload, o_iload_n, o_invokestatic, o_lconst, o_lreturn, am_ty, am_vc, am_opt, am_cl, am_find, am_ldi, am_ldl, am_lda, am_v, am_1, am_1l, am_1a, am_2, am_2l, am_ix, am_ri, am_arr, am_pf, am_rc, am_mask, am_lg, am_av, am_nat, fv_0, fv_1, fv_2, fv_3, fw_0, fw_1, List.getElem?_cons_zero, List.getElem?_cons_succ, List.set_cons_zero, List.set_cons_succ, List.length_cons, List.length_nil, List.take_succ_cons, List.take_zero, List.drop_succ_cons, List.drop_zero, List.reverse_cons, List.reverse_nil, List.nil_append, List.cons_append, List.append_nil, List.map_cons, List.map_nil, List.sum_cons, List.sum_nil, Value.category, Option.toList_some, Option.toList_none, Nat.reduceAdd, Nat.reduceLT, Nat.reduceLeDiff, Nat.reduceEqDiff, Nat.reduceSub, Nat.add_zero, Nat.le_refl, Nat.zero_le, Int.reduceNeg, Int.reduceLE, Int.reduceLT, true_and, and_true, and_self, if_true, if_false, ite_true, ite_false, eq_self_iff_true, reduceIte, reduceCtorEq, not_false_eq_true, not_true_eq_false, or_true, true_or, or_false, false_or, Nat.lt_irrefl, Nat.zero_lt_succ]
  refine ⟨_, d, rfl, fun y4 => ?_⟩
  try simp only [dX12_word_0, dX12_word_1, dX12_word_2, xX12_word_c165, xX12_word_n165, dX12_word_5, dX12_word_6, dX12_word_9, dX12_word_10, dX12_word_13, dX12_word_14, dX12_word_17, dX12_word_19, dX12_word_22, dX12_word_24, dX12_word_27, dX12_word_29, dX12_word_32, xX12_word_SH, xX12_word_KF, xX12_word_rt, xX12_word_FT, xX12_word_PT, xX12_word_CT, xX12_word_KT, xX12_word_LT, xX12_word_NT, o_iload, o_iload_n, o_invokestatic, o_lconst, o_lreturn, am_ty, am_vc, am_opt, am_cl, am_find, am_ldi, am_ldl, am_lda, am_v, am_1, am_1l, am_1a, am_2, am_2l, am_ix, am_ri, am_arr, am_pf, am_rc, am_mask, am_lg, am_av, am_nat, fv_0, fv_1, fv_2, fv_3, fw_0, fw_1, List.getElem?_cons_zero, List.getElem?_cons_succ, List.set_cons_zero, List.set_cons_succ, List.length_cons, List.length_nil, List.take_succ_cons, List.take_zero, List.drop_succ_cons, List.drop_zero, List.reverse_cons, List.reverse_nil, List.nil_append, List.cons_append, List.append_nil, List.map_cons, List.map_nil, List.sum_cons, List.sum_nil, Value.category, Option.toList_some, Option.toList_none, Nat.reduceAdd, Nat.reduceLT, Nat.reduceLeDiff, Nat.reduceEqDiff, Nat.reduceSub, Nat.add_zero, Nat.le_refl, Nat.zero_le, Int.reduceNeg, Int.reduceLE, Int.reduceLT, true_and, and_true, and_self, if_true, if_false, ite_true, ite_false, eq_self_iff_true, reduceIte, reduceCtorEq, not_false_eq_true, not_true_eq_false, or_true, true_or, or_false, false_or, Nat.lt_irrefl, Nat.zero_lt_succ]
  refine ⟨_, e, rfl, fun y5 => ?_⟩
  try simp only [dX12_word_0, dX12_word_1, dX12_word_2, xX12_word_c165, xX12_word_n165, dX12_word_5, dX12_word_6, dX12_word_9, dX12_word_10, dX12_word_13, dX12_word_14, dX12_word_17, dX12_word_19, dX12_word_22, dX12_word_24, dX12_word_27, dX12_word_29, dX12_word_32, xX12_word_SH, xX12_word_KF, xX12_word_rt, xX12_word_FT, xX12_word_PT, xX12_word_CT, xX12_word_KT, xX12_word_LT, xX12_word_NT, o_iload, o_iload_n, o_invokestatic, o_lconst, o_lreturn, am_ty, am_vc, am_opt, am_cl, am_find, am_ldi, am_ldl, am_lda, am_v, am_1, am_1l, am_1a, am_2, am_2l, am_ix, am_ri, am_arr, am_pf, am_rc, am_mask, am_lg, am_av, am_nat, fv_0, fv_1, fv_2, fv_3, fw_0, fw_1, List.getElem?_cons_zero, List.getElem?_cons_succ, List.set_cons_zero, List.set_cons_succ, List.length_cons, List.length_nil, List.take_succ_cons, List.take_zero, List.drop_succ_cons, List.drop_zero, List.reverse_cons, List.reverse_nil, List.nil_append, List.cons_append, List.append_nil, List.map_cons, List.map_nil, List.sum_cons, List.sum_nil, Value.category, Option.toList_some, Option.toList_none, Nat.reduceAdd, Nat.reduceLT, Nat.reduceLeDiff, Nat.reduceEqDiff, Nat.reduceSub, Nat.add_zero, Nat.le_refl, Nat.zero_le, Int.reduceNeg, Int.reduceLE, Int.reduceLT, true_and, and_true, and_self, if_true, if_false, ite_true, ite_false, eq_self_iff_true, reduceIte, reduceCtorEq, not_false_eq_true, not_true_eq_false, or_true, true_or, or_false, false_or, Nat.lt_irrefl, Nat.zero_lt_succ]
  refine ⟨_, f, rfl, fun y6 => ?_⟩
  try simp only [dX12_word_0, dX12_word_1, dX12_word_2, xX12_word_c165, xX12_word_n165, dX12_word_5, dX12_word_6, dX12_word_9, dX12_word_10, dX12_word_13, dX12_word_14, dX12_word_17, dX12_word_19, dX12_word_22, dX12_word_24, dX12_word_27, dX12_word_29, dX12_word_32, xX12_word_SH, xX12_word_KF, xX12_word_rt, xX12_word_FT, xX12_word_PT, xX12_word_CT, xX12_word_KT, xX12_word_LT, xX12_word_NT, o_iload, o_iload_n, o_invokestatic, o_lconst, o_lreturn, am_ty, am_vc, am_opt, am_cl, am_find, am_ldi, am_ldl, am_lda, am_v, am_1, am_1l, am_1a, am_2, am_2l, am_ix, am_ri, am_arr, am_pf, am_rc, am_mask, am_lg, am_av, am_nat, fv_0, fv_1, fv_2, fv_3, fw_0, fw_1, List.getElem?_cons_zero, List.getElem?_cons_succ, List.set_cons_zero, List.set_cons_succ, List.length_cons, List.length_nil, List.take_succ_cons, List.take_zero, List.drop_succ_cons, List.drop_zero, List.reverse_cons, List.reverse_nil, List.nil_append, List.cons_append, List.append_nil, List.map_cons, List.map_nil, List.sum_cons, List.sum_nil, Value.category, Option.toList_some, Option.toList_none, Nat.reduceAdd, Nat.reduceLT, Nat.reduceLeDiff, Nat.reduceEqDiff, Nat.reduceSub, Nat.add_zero, Nat.le_refl, Nat.zero_le, Int.reduceNeg, Int.reduceLE, Int.reduceLT, true_and, and_true, and_self, if_true, if_false, ite_true, ite_false, eq_self_iff_true, reduceIte, reduceCtorEq, not_false_eq_true, not_true_eq_false, or_true, true_or, or_false, false_or, Nat.lt_irrefl, Nat.zero_lt_succ]
  refine ⟨_, g, rfl, fun y7 => ?_⟩
  try simp only [dX12_word_0, dX12_word_1, dX12_word_2, xX12_word_c165, xX12_word_n165, dX12_word_5, dX12_word_6, dX12_word_9, dX12_word_10, dX12_word_13, dX12_word_14, dX12_word_17, dX12_word_19, dX12_word_22, dX12_word_24, dX12_word_27, dX12_word_29, dX12_word_32, xX12_word_SH, xX12_word_KF, xX12_word_rt, xX12_word_FT, xX12_word_PT, xX12_word_CT, xX12_word_KT, xX12_word_LT, xX12_word_NT, o_iload, o_iload_n, o_invokestatic, o_lconst, o_lreturn, am_ty, am_vc, am_opt, am_cl, am_find, am_ldi, am_ldl, am_lda, am_v, am_1, am_1l, am_1a, am_2, am_2l, am_ix, am_ri, am_arr, am_pf, am_rc, am_mask, am_lg, am_av, am_nat, fv_0, fv_1, fv_2, fv_3, fw_0, fw_1, List.getElem?_cons_zero, List.getElem?_cons_succ, List.set_cons_zero, List.set_cons_succ, List.length_cons, List.length_nil, List.take_succ_cons, List.take_zero, List.drop_succ_cons, List.drop_zero, List.reverse_cons, List.reverse_nil, List.nil_append, List.cons_append, List.append_nil, List.map_cons, List.map_nil, List.sum_cons, List.sum_nil, Value.category, Option.toList_some, Option.toList_none, Nat.reduceAdd, Nat.reduceLT, Nat.reduceLeDiff, Nat.reduceEqDiff, Nat.reduceSub, Nat.add_zero, Nat.le_refl, Nat.zero_le, Int.reduceNeg, Int.reduceLE, Int.reduceLT, true_and, and_true, and_self, if_true, if_false, ite_true, ite_false, eq_self_iff_true, reduceIte, reduceCtorEq, not_false_eq_true, not_true_eq_false, or_true, true_or, or_false, false_or, Nat.lt_irrefl, Nat.zero_lt_succ]
  exact h _
theorem mX12_word (l : Launch) : am_M l TB NB vwCl SH KF yX12_word cX12_word 7 (some .long) 3 0 0 sX12_word := by
  refine am_M.of xX12_word (by decide +kernel) TB_good GF rfl rfl rfl (by decide) ⟨FT_X12_ok, PT_X12_ok _, CT_X12_ok, KT_X12_ok, LT_X12_ok, NT_X12_ok, ?_⟩ pX12_word
  exact List.forall_mem_cons.mpr ⟨⟨yX12_appends, cX12_appends, 3, (some .long), 2, 2, mX12_appends l, by decide, by decide, tb_at 1306 (by decide +kernel) (by decide +kernel), tb_at 120 (by decide +kernel) (by decide +kernel), ⟨by decide +kernel, by decide +kernel, by decide +kernel⟩, rfl, tb_at 1304 (by decide +kernel) (by decide +kernel), tb_at 1305 (by decide +kernel) (by decide +kernel)⟩, fun _ h => absurd h List.not_mem_nil⟩

-- plain(s)
def sX12_plain : am_Sp := fun as n σ post => ∃ (s : Nat) (b : Int), s < 2 ∧ n = 92 ∧ as = [.ref 51, .int (Int32.ofInt (s : Int))] ∧ FZ b σ ∧ ∀ τ, FZ (if s = 0 then 8 else b) τ → Lo σ τ → post none τ
theorem FZ_law {b : Int} {σ : am_S} {o k : Nat} (h : FZ b σ) (ho : o = 67 ∨ o = 68) : FZ b (am_pi σ o k (Int32.ofInt 0)) := by
  obtain ⟨⟨a1, a2, a3, a4, a5⟩, b1, c1, ⟨d1, d2, d3⟩, e1⟩ := h
  refine ⟨⟨?_, ?_, ?_, ?_, ?_⟩, fun j hj => ?_, ?_, ⟨?_, ?_, ?_⟩, fun j hj => ⟨?_, ?_⟩⟩
  · rw [pi_n _ _ _ _ (by omega)]; exact a1
  · rw [pi_n _ _ _ _ (by omega)]; exact a2
  · rw [pi_n _ _ _ _ (by omega)]; exact a3
  · rw [pi_n _ _ _ _ (by omega)]; exact a4
  · rw [pi_n _ _ _ _ (by omega)]; exact a5
  · rw [pi_n _ _ _ _ (by omega)]; exact b1 j hj
  · rw [pi_n _ _ _ _ (by omega)]; exact c1
  · rw [pi_n _ _ _ _ (by omega)]; exact d1
  · rw [pi_n _ _ _ _ (by omega)]; exact d2
  · rw [pi_n _ _ _ _ (by omega)]; exact d3
  · by_cases q : 67 = o ∧ j = k
    · obtain ⟨rfl, rfl⟩ := q; rw [pi_s]
    · rw [pi_n _ _ _ _ q]; exact (e1 j hj).1
  · by_cases q : 68 = o ∧ j = k
    · obtain ⟨rfl, rfl⟩ := q; rw [pi_s]
    · rw [pi_n _ _ _ _ q]; exact (e1 j hj).2
def xX12_plain : am_X := (SH, KF, none, FT_X12, PT_X12, CT_X12, KT_X12, LT_X12, NT_X12, [])
theorem xX12_plain_SH : am_SH xX12_plain = SH := rfl
theorem xX12_plain_KF : am_KF xX12_plain = KF := rfl
theorem xX12_plain_rt : am_rt xX12_plain = none := rfl
theorem xX12_plain_FT : am_FT xX12_plain = FT_X12 := rfl
theorem xX12_plain_PT : am_PT xX12_plain = PT_X12 := rfl
theorem xX12_plain_CT : am_CT xX12_plain = CT_X12 := rfl
theorem xX12_plain_KT : am_KT xX12_plain = KT_X12 := rfl
theorem xX12_plain_LT : am_LT xX12_plain = LT_X12 := rfl
theorem xX12_plain_NT : am_NT xX12_plain = NT_X12 := rfl
theorem xX12_plain_t26 (k : Nat → Prop) : am_tg 26 (31) k = k 57 := am_tg_eq (by decide)
theorem xX12_plain_t54 (k : Nat → Prop) : am_tg 54 (-30) k = k 24 := am_tg_eq (by decide)

set_option maxRecDepth 100000 in
theorem pl_loop {post : Option Value → am_S → Prop} {AA : Nat → List (Option Value) → List Value → Nat → am_S → Prop} (hA : ∀ cuts f pc ls stk n τ, am_vc cX12_plain xX12_plain (92 + 0) post AA cuts f pc ls stk n τ → AA pc ls stk n τ) {s : Nat} {b : Int} {σ0 : am_S} (hs : s < 2) (h : ∀ τ, FZ b τ → Lo σ0 τ → post none τ) : ∀ k : Nat, k ≤ 4 → ∀ σ, FZ b σ → Lo σ0 σ → AA 24 [some (.ref 51), some (.int (Int32.ofInt (s : Int))), some (.int (Int32.ofInt (k : Int)))] [] 92 σ := by
  refine am_up 4 fun k hk ih σ hF hL => ?_
  refine hA [(24, 3)] 60 _ _ _ _ _ ?_
  try simp only [dX12_plain_0, dX12_plain_1, FT_X12_43, dX12_plain_4, dX12_plain_5, dX12_plain_7, dX12_plain_8, dX12_plain_9, FT_X12_46, dX12_plain_12, dX12_plain_13, dX12_plain_14, dX12_plain_15, dX12_plain_16, FT_X12_61, dX12_plain_19, dX12_plain_20, dX12_plain_21, dX12_plain_22, dX12_plain_23, dX12_plain_24, dX12_plain_25, dX12_plain_26, xX12_plain_t26, dX12_plain_29, dX12_plain_30, FT_X12_64, dX12_plain_33, dX12_plain_34, dX12_plain_35, dX12_plain_36, dX12_plain_37, dX12_plain_38, dX12_plain_39, dX12_plain_40, dX12_plain_41, FT_X12_67, dX12_plain_44, dX12_plain_45, dX12_plain_46, dX12_plain_47, dX12_plain_48, dX12_plain_49, dX12_plain_50, dX12_plain_51, dX12_plain_54, xX12_plain_t54, dX12_plain_57, xX12_plain_SH, xX12_plain_KF, xX12_plain_rt, xX12_plain_FT, xX12_plain_PT, xX12_plain_CT, xX12_plain_KT, xX12_plain_LT, xX12_plain_NT, o_aload_n, o_bipush, o_getfield, o_goto, o_iadd, o_iastore, o_iconst, o_if_icmp_ge, o_iinc, o_iload_n, o_imul, o_istore_n, o_return_, SH_51, KF_51_30, SH_68, KF_51_23, SH_61, KF_51_29, SH_67, KF_51_22, SH_60, KF_51_28, SH_66, am_ty, am_vc, am_opt, am_cl, am_find, am_ldi, am_ldl, am_lda, am_v, am_1, am_1l, am_1a, am_2, am_2l, am_ix, am_ri, am_arr, am_pf, am_rc, am_mask, am_lg, am_av, am_nat, fv_0, fv_1, fv_2, fv_3, fw_0, fw_1, List.getElem?_cons_zero, List.getElem?_cons_succ, List.set_cons_zero, List.set_cons_succ, List.length_cons, List.length_nil, List.take_succ_cons, List.take_zero, List.drop_succ_cons, List.drop_zero, List.reverse_cons, List.reverse_nil, List.nil_append, List.cons_append, List.append_nil, List.map_cons, List.map_nil, List.sum_cons, List.sum_nil, Value.category, Option.toList_some, Option.toList_none, Nat.reduceAdd, Nat.reduceLT, Nat.reduceLeDiff, Nat.reduceEqDiff, Nat.reduceSub, Nat.add_zero, Nat.le_refl, Nat.zero_le, Int.reduceNeg, Int.reduceLE, Int.reduceLT, true_and, and_true, and_self, if_true, if_false, ite_true, ite_false, eq_self_iff_true, reduceIte, reduceCtorEq, not_false_eq_true, not_true_eq_false, or_true, true_or, or_false, false_or, Nat.lt_irrefl, Nat.zero_lt_succ]
  try simp (disch := omega) only [ii_0, ii_1, ii_t, ii_add, ii_sub, ii_mul, ii_lt, ii_le, ii_eq, ij_in, ii_c, Int.toNat_natCast, Int.toNat_zero, Int.reduceToNat, Int.reduceEq, Int.reduceNe, Int.reduceLE, Int.reduceLT, Int.reduceAdd, Int.reduceSub, Int.reduceMul, Int.reduceNeg, Nat.reduceLT, Nat.reduceAdd, Nat.reduceMul, not_false_eq_true, not_true_eq_false, true_and, and_true, and_self, false_and, and_false, true_implies, false_implies, implies_true, forall_const, if_true, if_false, ite_true, ite_false, reduceIte, eq_self_iff_true, Int.natCast_nonneg, Int.zero_add, Int.add_zero, pi_s, pi_n, ik_s]
  refine ⟨fun h1 => h _ hF hL, fun h1 => ⟨⟨by omega, by omega⟩, ⟨by omega, by omega⟩, ih (by omega) _ ?_ ?_⟩⟩
  · exact FZ_law (FZ_law hF (Or.inl rfl)) (Or.inr rfl)
  · exact Lo_pi (Lo_pi hL (by decide)) (by decide)
theorem FZ_half {b : Int} {σ : am_S} {s : Nat} (hs : s < 2) (h : FZ b σ) : FZ (if s = 0 then 8 else b) (am_pi (am_pi (am_pi σ 60 s (Int32.ofInt 8)) 61 s (Int32.ofInt 0)) 66 s (Int32.ofInt 0)) := by
  obtain ⟨⟨a1, a2, a3, a4, a5⟩, b1, c1, ⟨d1, d2, d3⟩, e1⟩ := h
  have hs2 : s = 0 ∨ s = 1 := by omega
  rcases hs2 with rfl | rfl
  · refine ⟨⟨?_, ?_, ?_, ?_, ?_⟩, fun j hj => ?_, ?_, ⟨?_, ?_, ?_⟩, fun j hj => ⟨?_, ?_⟩⟩ <;> simp [am_pi] <;> first | assumption | exact b1 j hj | exact (e1 j hj).1 | exact (e1 j hj).2
  · refine ⟨⟨?_, ?_, ?_, ?_, ?_⟩, fun j hj => ?_, ?_, ⟨?_, ?_, ?_⟩, fun j hj => ⟨?_, ?_⟩⟩ <;> simp [am_pi] <;> first | assumption | exact b1 j hj | exact (e1 j hj).1 | exact (e1 j hj).2
set_option maxRecDepth 100000 in
theorem pX12_plain : am_B cX12_plain xX12_plain 3 0 sX12_plain := by
  intro n0 as σ post AA hA h
  obtain ⟨s, b, hs, rfl, rfl, hF, h⟩ := h
  refine ⟨by simp [am_sl, Value.category], ?_⟩
  show AA 0 [some (.ref 51), some (.int (Int32.ofInt (s : Int))), none] [] 92 σ
  refine hA [(24, 3)] 60 _ _ _ _ _ ?_
  try simp only [dX12_plain_0, dX12_plain_1, FT_X12_43, dX12_plain_4, dX12_plain_5, dX12_plain_7, dX12_plain_8, dX12_plain_9, FT_X12_46, dX12_plain_12, dX12_plain_13, dX12_plain_14, dX12_plain_15, dX12_plain_16, FT_X12_61, dX12_plain_19, dX12_plain_20, dX12_plain_21, dX12_plain_22, dX12_plain_23, dX12_plain_24, dX12_plain_25, dX12_plain_26, xX12_plain_t26, dX12_plain_29, dX12_plain_30, FT_X12_64, dX12_plain_33, dX12_plain_34, dX12_plain_35, dX12_plain_36, dX12_plain_37, dX12_plain_38, dX12_plain_39, dX12_plain_40, dX12_plain_41, FT_X12_67, dX12_plain_44, dX12_plain_45, dX12_plain_46, dX12_plain_47, dX12_plain_48, dX12_plain_49, dX12_plain_50, dX12_plain_51, dX12_plain_54, xX12_plain_t54, dX12_plain_57, xX12_plain_SH, xX12_plain_KF, xX12_plain_rt, xX12_plain_FT, xX12_plain_PT, xX12_plain_CT, xX12_plain_KT, xX12_plain_LT, xX12_plain_NT, o_aload_n, o_bipush, o_getfield, o_goto, o_iadd, o_iastore, o_iconst, o_if_icmp_ge, o_iinc, o_iload_n, o_imul, o_istore_n, o_return_, SH_51, KF_51_30, SH_68, KF_51_23, SH_61, KF_51_29, SH_67, KF_51_22, SH_60, KF_51_28, SH_66, am_ty, am_vc, am_opt, am_cl, am_find, am_ldi, am_ldl, am_lda, am_v, am_1, am_1l, am_1a, am_2, am_2l, am_ix, am_ri, am_arr, am_pf, am_rc, am_mask, am_lg, am_av, am_nat, fv_0, fv_1, fv_2, fv_3, fw_0, fw_1, List.getElem?_cons_zero, List.getElem?_cons_succ, List.set_cons_zero, List.set_cons_succ, List.length_cons, List.length_nil, List.take_succ_cons, List.take_zero, List.drop_succ_cons, List.drop_zero, List.reverse_cons, List.reverse_nil, List.nil_append, List.cons_append, List.append_nil, List.map_cons, List.map_nil, List.sum_cons, List.sum_nil, Value.category, Option.toList_some, Option.toList_none, Nat.reduceAdd, Nat.reduceLT, Nat.reduceLeDiff, Nat.reduceEqDiff, Nat.reduceSub, Nat.add_zero, Nat.le_refl, Nat.zero_le, Int.reduceNeg, Int.reduceLE, Int.reduceLT, true_and, and_true, and_self, if_true, if_false, ite_true, ite_false, eq_self_iff_true, reduceIte, reduceCtorEq, not_false_eq_true, not_true_eq_false, or_true, true_or, or_false, false_or, Nat.lt_irrefl, Nat.zero_lt_succ]
  try simp (disch := omega) only [ii_0, ii_1, ii_t, ii_add, ii_sub, ii_mul, ii_lt, ii_le, ii_eq, ij_in, ii_c, Int.toNat_natCast, Int.toNat_zero, Int.reduceToNat, Int.reduceEq, Int.reduceNe, Int.reduceLE, Int.reduceLT, Int.reduceAdd, Int.reduceSub, Int.reduceMul, Int.reduceNeg, Nat.reduceLT, Nat.reduceAdd, Nat.reduceMul, not_false_eq_true, not_true_eq_false, true_and, and_true, and_self, false_and, and_false, true_implies, false_implies, implies_true, forall_const, if_true, if_false, ite_true, ite_false, reduceIte, eq_self_iff_true, Int.natCast_nonneg, Int.zero_add, Int.add_zero, pi_s, pi_n]
  refine ⟨by omega, by omega, by omega, ?_⟩
  exact pl_loop hA hs h 0 (by omega) _ (FZ_half hs hF) (Lo_pi (Lo_pi (Lo_pi (Lo.refl σ) (by decide)) (by decide)) (by decide))
theorem mX12_plain (l : Launch) : am_M l TB NB vwCl SH KF yX12_plain cX12_plain 3 none 2 0 0 sX12_plain := by
  refine am_M.of xX12_plain (by decide +kernel) TB_good GF rfl rfl rfl (by decide) ⟨FT_X12_ok, PT_X12_ok _, CT_X12_ok, KT_X12_ok, LT_X12_ok, NT_X12_ok, ?_⟩ pX12_plain
  exact fun _ h => absurd h List.not_mem_nil

