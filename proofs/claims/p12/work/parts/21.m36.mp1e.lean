-- keepsRow()
-- records()
-- pours(w)
-- isWater, isLong, isWidth
def sX12_isWater : am_Sp := fun as _ σ post => ∃ v : Int, (-2147483648 ≤ v ∧ v < 2147483648) ∧ as = [.int (Int32.ofInt v)] ∧ post (some (.int (Int32.ofInt (if 0 ≤ v ∧ v ≤ 99 then 1 else 0)))) σ
def xX12_isWater : am_X := (SH, KF, (some .boolean), FT_X12, PT_X12, CT_X12, KT_X12, LT_X12, NT_X12, [(292, 1, 3, 12, 0, 0, sX12_in)])
theorem xX12_isWater_SH : am_SH xX12_isWater = SH := rfl
theorem xX12_isWater_KF : am_KF xX12_isWater = KF := rfl
theorem xX12_isWater_rt : am_rt xX12_isWater = (some .boolean) := rfl
theorem xX12_isWater_FT : am_FT xX12_isWater = FT_X12 := rfl
theorem xX12_isWater_PT : am_PT xX12_isWater = PT_X12 := rfl
theorem xX12_isWater_CT : am_CT xX12_isWater = CT_X12 := rfl
theorem xX12_isWater_KT : am_KT xX12_isWater = KT_X12 := rfl
theorem xX12_isWater_LT : am_LT xX12_isWater = LT_X12 := rfl
theorem xX12_isWater_NT : am_NT xX12_isWater = NT_X12 := rfl
theorem xX12_isWater_c292 : am_find (am_ML xX12_isWater) 292 = some (1, 3, 12, 0, 0, sX12_in) := rfl
theorem xX12_isWater_n292 : am_find NT_X12 292 = none := rfl

set_option maxRecDepth 100000 in
theorem pX12_isWater : am_B cX12_isWater xX12_isWater 1 0 sX12_isWater := by
  intro n0 as σ post AA hA h
  obtain ⟨v, hv, rfl, h⟩ := h
  refine ⟨by simp [am_sl, Value.category], ?_⟩
  show AA 0 [some (.int (Int32.ofInt v))] [] n0 σ
  refine hA [] 20 _ _ _ _ _ ?_
  try simp only [dX12_isWater_0, dX12_isWater_1, dX12_isWater_2, dX12_isWater_4, xX12_isWater_c292, xX12_isWater_n292, dX12_isWater_7, xX12_isWater_SH, xX12_isWater_KF, xX12_isWater_rt, xX12_isWater_FT, xX12_isWater_PT, xX12_isWater_CT, xX12_isWater_KT, xX12_isWater_LT, xX12_isWater_NT, o_bipush, o_iconst, o_iload_n, o_invokestatic, o_ireturn, am_ty, am_vc, am_opt, am_cl, am_find, am_ldi, am_ldl, am_lda, am_v, am_1, am_1l, am_1a, am_2, am_2l, am_ix, am_ri, am_arr, am_pf, am_rc, am_mask, am_lg, am_av, am_nat, fv_0, fv_1, fv_2, fv_3, fw_0, fw_1, List.getElem?_cons_zero, List.getElem?_cons_succ, List.set_cons_zero, List.set_cons_succ, List.length_cons, List.length_nil, List.take_succ_cons, List.take_zero, List.drop_succ_cons, List.drop_zero, List.reverse_cons, List.reverse_nil, List.nil_append, List.cons_append, List.append_nil, List.map_cons, List.map_nil, List.sum_cons, List.sum_nil, Value.category, Option.toList_some, Option.toList_none, Nat.reduceAdd, Nat.reduceLT, Nat.reduceLeDiff, Nat.reduceEqDiff, Nat.reduceSub, Nat.add_zero, Nat.le_refl, Nat.zero_le, Int.reduceNeg, Int.reduceLE, Int.reduceLT, true_and, and_true, and_self, if_true, if_false, ite_true, ite_false, eq_self_iff_true, reduceIte, reduceCtorEq, not_false_eq_true, not_true_eq_false, or_true, true_or, or_false, false_or, Nat.lt_irrefl, Nat.zero_lt_succ]
  refine ⟨v, 0, 99, hv, by omega, by omega, rfl, ?_⟩
  try simp only [dX12_isWater_0, dX12_isWater_1, dX12_isWater_2, dX12_isWater_4, xX12_isWater_c292, xX12_isWater_n292, dX12_isWater_7, xX12_isWater_SH, xX12_isWater_KF, xX12_isWater_rt, xX12_isWater_FT, xX12_isWater_PT, xX12_isWater_CT, xX12_isWater_KT, xX12_isWater_LT, xX12_isWater_NT, o_bipush, o_iconst, o_iload_n, o_invokestatic, o_ireturn, am_ty, am_vc, am_opt, am_cl, am_find, am_ldi, am_ldl, am_lda, am_v, am_1, am_1l, am_1a, am_2, am_2l, am_ix, am_ri, am_arr, am_pf, am_rc, am_mask, am_lg, am_av, am_nat, fv_0, fv_1, fv_2, fv_3, fw_0, fw_1, List.getElem?_cons_zero, List.getElem?_cons_succ, List.set_cons_zero, List.set_cons_succ, List.length_cons, List.length_nil, List.take_succ_cons, List.take_zero, List.drop_succ_cons, List.drop_zero, List.reverse_cons, List.reverse_nil, List.nil_append, List.cons_append, List.append_nil, List.map_cons, List.map_nil, List.sum_cons, List.sum_nil, Value.category, Option.toList_some, Option.toList_none, Nat.reduceAdd, Nat.reduceLT, Nat.reduceLeDiff, Nat.reduceEqDiff, Nat.reduceSub, Nat.add_zero, Nat.le_refl, Nat.zero_le, Int.reduceNeg, Int.reduceLE, Int.reduceLT, true_and, and_true, and_self, if_true, if_false, ite_true, ite_false, eq_self_iff_true, reduceIte, reduceCtorEq, not_false_eq_true, not_true_eq_false, or_true, true_or, or_false, false_or, Nat.lt_irrefl, Nat.zero_lt_succ]
  exact ⟨nb_if, h⟩
theorem mX12_isWater (l : Launch) : am_M l TB NB vwCl SH KF yX12_isWater cX12_isWater 1 (some .boolean) 3 0 0 sX12_isWater := by
  refine am_M.of xX12_isWater (by decide +kernel) TB_good GF rfl rfl rfl (by decide) ⟨FT_X12_ok, PT_X12_ok _, CT_X12_ok, KT_X12_ok, LT_X12_ok, NT_X12_ok, ?_⟩ pX12_isWater
  exact List.forall_mem_cons.mpr ⟨⟨yX12_in, cX12_in, 3, (some .boolean), 2, 3, mX12_in l, by decide, by decide, tk_1621, tk_120, ⟨by decide +kernel, by decide +kernel, by decide +kernel⟩, rfl, tk_1619, tk_1620⟩, fun _ h => absurd h List.not_mem_nil⟩

def sX12_isLong : am_Sp := fun as _ σ post => ∃ v : Int, (-2147483648 ≤ v ∧ v < 2147483648) ∧ as = [.int (Int32.ofInt v)] ∧ post (some (.int (Int32.ofInt (if 0 ≤ v ∧ v ≤ 60 then 1 else 0)))) σ
def xX12_isLong : am_X := (SH, KF, (some .boolean), FT_X12, PT_X12, CT_X12, KT_X12, LT_X12, NT_X12, [(292, 1, 3, 12, 0, 0, sX12_in)])
theorem xX12_isLong_SH : am_SH xX12_isLong = SH := rfl
theorem xX12_isLong_KF : am_KF xX12_isLong = KF := rfl
theorem xX12_isLong_rt : am_rt xX12_isLong = (some .boolean) := rfl
theorem xX12_isLong_FT : am_FT xX12_isLong = FT_X12 := rfl
theorem xX12_isLong_PT : am_PT xX12_isLong = PT_X12 := rfl
theorem xX12_isLong_CT : am_CT xX12_isLong = CT_X12 := rfl
theorem xX12_isLong_KT : am_KT xX12_isLong = KT_X12 := rfl
theorem xX12_isLong_LT : am_LT xX12_isLong = LT_X12 := rfl
theorem xX12_isLong_NT : am_NT xX12_isLong = NT_X12 := rfl
theorem xX12_isLong_c292 : am_find (am_ML xX12_isLong) 292 = some (1, 3, 12, 0, 0, sX12_in) := rfl
theorem xX12_isLong_n292 : am_find NT_X12 292 = none := rfl

set_option maxRecDepth 100000 in
theorem pX12_isLong : am_B cX12_isLong xX12_isLong 1 0 sX12_isLong := by
  intro n0 as σ post AA hA h
  obtain ⟨v, hv, rfl, h⟩ := h
  refine ⟨by simp [am_sl, Value.category], ?_⟩
  show AA 0 [some (.int (Int32.ofInt v))] [] n0 σ
  refine hA [] 20 _ _ _ _ _ ?_
  try simp only [dX12_isLong_0, dX12_isLong_1, dX12_isLong_2, dX12_isLong_4, xX12_isLong_c292, xX12_isLong_n292, dX12_isLong_7, xX12_isLong_SH, xX12_isLong_KF, xX12_isLong_rt, xX12_isLong_FT, xX12_isLong_PT, xX12_isLong_CT, xX12_isLong_KT, xX12_isLong_LT, xX12_isLong_NT, o_bipush, o_iconst, o_iload_n, o_invokestatic, o_ireturn, am_ty, am_vc, am_opt, am_cl, am_find, am_ldi, am_ldl, am_lda, am_v, am_1, am_1l, am_1a, am_2, am_2l, am_ix, am_ri, am_arr, am_pf, am_rc, am_mask, am_lg, am_av, am_nat, fv_0, fv_1, fv_2, fv_3, fw_0, fw_1, List.getElem?_cons_zero, List.getElem?_cons_succ, List.set_cons_zero, List.set_cons_succ, List.length_cons, List.length_nil, List.take_succ_cons, List.take_zero, List.drop_succ_cons, List.drop_zero, List.reverse_cons, List.reverse_nil, List.nil_append, List.cons_append, List.append_nil, List.map_cons, List.map_nil, List.sum_cons, List.sum_nil, Value.category, Option.toList_some, Option.toList_none, Nat.reduceAdd, Nat.reduceLT, Nat.reduceLeDiff, Nat.reduceEqDiff, Nat.reduceSub, Nat.add_zero, Nat.le_refl, Nat.zero_le, Int.reduceNeg, Int.reduceLE, Int.reduceLT, true_and, and_true, and_self, if_true, if_false, ite_true, ite_false, eq_self_iff_true, reduceIte, reduceCtorEq, not_false_eq_true, not_true_eq_false, or_true, true_or, or_false, false_or, Nat.lt_irrefl, Nat.zero_lt_succ]
  refine ⟨v, 0, 60, hv, by omega, by omega, rfl, ?_⟩
  try simp only [dX12_isLong_0, dX12_isLong_1, dX12_isLong_2, dX12_isLong_4, xX12_isLong_c292, xX12_isLong_n292, dX12_isLong_7, xX12_isLong_SH, xX12_isLong_KF, xX12_isLong_rt, xX12_isLong_FT, xX12_isLong_PT, xX12_isLong_CT, xX12_isLong_KT, xX12_isLong_LT, xX12_isLong_NT, o_bipush, o_iconst, o_iload_n, o_invokestatic, o_ireturn, am_ty, am_vc, am_opt, am_cl, am_find, am_ldi, am_ldl, am_lda, am_v, am_1, am_1l, am_1a, am_2, am_2l, am_ix, am_ri, am_arr, am_pf, am_rc, am_mask, am_lg, am_av, am_nat, fv_0, fv_1, fv_2, fv_3, fw_0, fw_1, List.getElem?_cons_zero, List.getElem?_cons_succ, List.set_cons_zero, List.set_cons_succ, List.length_cons, List.length_nil, List.take_succ_cons, List.take_zero, List.drop_succ_cons, List.drop_zero, List.reverse_cons, List.reverse_nil, List.nil_append, List.cons_append, List.append_nil, List.map_cons, List.map_nil, List.sum_cons, List.sum_nil, Value.category, Option.toList_some, Option.toList_none, Nat.reduceAdd, Nat.reduceLT, Nat.reduceLeDiff, Nat.reduceEqDiff, Nat.reduceSub, Nat.add_zero, Nat.le_refl, Nat.zero_le, Int.reduceNeg, Int.reduceLE, Int.reduceLT, true_and, and_true, and_self, if_true, if_false, ite_true, ite_false, eq_self_iff_true, reduceIte, reduceCtorEq, not_false_eq_true, not_true_eq_false, or_true, true_or, or_false, false_or, Nat.lt_irrefl, Nat.zero_lt_succ]
  exact ⟨nb_if, h⟩
theorem mX12_isLong (l : Launch) : am_M l TB NB vwCl SH KF yX12_isLong cX12_isLong 1 (some .boolean) 3 0 0 sX12_isLong := by
  refine am_M.of xX12_isLong (by decide +kernel) TB_good GF rfl rfl rfl (by decide) ⟨FT_X12_ok, PT_X12_ok _, CT_X12_ok, KT_X12_ok, LT_X12_ok, NT_X12_ok, ?_⟩ pX12_isLong
  exact List.forall_mem_cons.mpr ⟨⟨yX12_in, cX12_in, 3, (some .boolean), 2, 3, mX12_in l, by decide, by decide, tk_1621, tk_120, ⟨by decide +kernel, by decide +kernel, by decide +kernel⟩, rfl, tk_1619, tk_1620⟩, fun _ h => absurd h List.not_mem_nil⟩
