def sX7_bringBack : am_Sp := fun as n σ post => n = 92 ∧ as = [.ref 35, .ref 31] ∧ FS σ ∧ post (some (.int (Int32.ofInt 0))) σ
def sX4_copyFrom : am_Sp := fun _ _ _ _ => False
theorem mX4_copyFrom (l : Launch) : am_M l TB NB vwCl SH KF yX4_copyFrom cX4_copyFrom 3 none 2 0 0 sX4_copyFrom := am_never

def xX7_bringBack : am_X := (SH, KF, (some .boolean), FT_X7, PT_X7, CT_X7, KT_X7, LT_X7, NT_X7, [(44, 0, 3, 4, 0, 0, sX4_copyFrom)])
theorem xX7_bringBack_SH : am_SH xX7_bringBack = SH := rfl
theorem xX7_bringBack_KF : am_KF xX7_bringBack = KF := rfl
theorem xX7_bringBack_rt : am_rt xX7_bringBack = (some .boolean) := rfl
theorem xX7_bringBack_FT : am_FT xX7_bringBack = FT_X7 := rfl
theorem xX7_bringBack_PT : am_PT xX7_bringBack = PT_X7 := rfl
theorem xX7_bringBack_CT : am_CT xX7_bringBack = CT_X7 := rfl
theorem xX7_bringBack_KT : am_KT xX7_bringBack = KT_X7 := rfl
theorem xX7_bringBack_LT : am_LT xX7_bringBack = LT_X7 := rfl
theorem xX7_bringBack_NT : am_NT xX7_bringBack = NT_X7 := rfl
theorem xX7_bringBack_c44 : am_find (am_ML xX7_bringBack) 44 = some (0, 3, 4, 0, 0, sX4_copyFrom) := rfl
theorem xX7_bringBack_n44 : am_find NT_X7 44 = none := rfl
theorem xX7_bringBack_t4 (k : Nat → Prop) : am_tg 4 (5) k = k 9 := am_tg_eq (by decide)
theorem xX7_bringBack_t14 (k : Nat → Prop) : am_tg 14 (12) k = k 26 := am_tg_eq (by decide)
theorem xX7_bringBack_t23 (k : Nat → Prop) : am_tg 23 (5) k = k 28 := am_tg_eq (by decide)

set_option maxRecDepth 100000 in
theorem pX7_bringBack : am_B cX7_bringBack xX7_bringBack 2 0 sX7_bringBack := by
  intro n0 as σ post AA hA h
  obtain ⟨rfl, rfl, hF, h⟩ := h
  refine ⟨by simp [am_sl, Value.category], ?_⟩
  show AA 0 [some (.ref 35), some (.ref 31)] [] 92 σ
  have e1 := hF.2.1
  refine hA [] 6 _ _ _ _ _ ?_
  try simp only [dX7_bringBack_0, dX7_bringBack_1, FT_X7_22, dX7_bringBack_4, xX7_bringBack_t4, dX7_bringBack_7, dX7_bringBack_8, dX7_bringBack_9, dX7_bringBack_10, dX7_bringBack_11, FT_X7_18, dX7_bringBack_14, xX7_bringBack_t14, dX7_bringBack_17, dX7_bringBack_18, dX7_bringBack_21, dX7_bringBack_22, dX7_bringBack_23, xX7_bringBack_t23, dX7_bringBack_26, dX7_bringBack_28, PT_X7_18, dX7_bringBack_31, dX7_bringBack_32, dX7_bringBack_33, dX7_bringBack_36, dX7_bringBack_37, dX7_bringBack_38, PT_X7_22, dX7_bringBack_41, dX7_bringBack_42, dX7_bringBack_43, FT_X7_11, dX7_bringBack_46, dX7_bringBack_47, dX7_bringBack_50, dX7_bringBack_52, dX7_bringBack_53, xX7_bringBack_c44, xX7_bringBack_n44, dX7_bringBack_56, dX7_bringBack_57, xX7_bringBack_SH, xX7_bringBack_KF, xX7_bringBack_rt, xX7_bringBack_FT, xX7_bringBack_PT, xX7_bringBack_CT, xX7_bringBack_KT, xX7_bringBack_LT, xX7_bringBack_NT, o_aload_n, o_bipush, o_dup, o_getfield, o_goto, o_iconst, o_ifCond_gt, o_ifCond_le, o_imul, o_invokevirtual, o_ireturn, o_isub, o_putfield, SH_31, SH_33, SH_35, KF_35_2, KF_35_3, KF_35_0, SH_36, am_ty, am_vc, am_opt, am_cl, am_find, am_ldi, am_ldl, am_lda, am_v, am_1, am_1l, am_1a, am_2, am_2l, am_ix, am_ri, am_arr, am_pf, am_rc, am_mask, am_lg, am_av, am_nat, fv_0, fv_1, fv_2, fv_3, fw_0, fw_1, List.getElem?_cons_zero, List.getElem?_cons_succ, List.set_cons_zero, List.set_cons_succ, List.length_cons, List.length_nil, List.take_succ_cons, List.take_zero, List.drop_succ_cons, List.drop_zero, List.reverse_cons, List.reverse_nil, List.nil_append, List.cons_append, List.append_nil, List.map_cons, List.map_nil, List.sum_cons, List.sum_nil, Value.category, Option.toList_some, Option.toList_none, Nat.reduceAdd, Nat.reduceLT, Nat.reduceLeDiff, Nat.reduceEqDiff, Nat.reduceSub, Nat.add_zero, Nat.le_refl, Nat.zero_le, Int.reduceNeg, Int.reduceLE, Int.reduceLT, true_and, and_true, and_self, if_true, if_false, ite_true, ite_false, eq_self_iff_true, reduceIte, reduceCtorEq, not_false_eq_true, not_true_eq_false, or_true, true_or, or_false, false_or, Nat.lt_irrefl, Nat.zero_lt_succ, nb_0, e1]
  try simp (disch := omega) only [ii_0, ii_1, ii_t, ii_add, ii_sub, ii_mul, ii_lt, ii_le, ii_eq, ij_in, ii_c, Int.toNat_natCast, Int.toNat_zero, Int.reduceToNat, Int.reduceEq, Int.reduceNe, Int.reduceLE, Int.reduceLT, Int.reduceAdd, Int.reduceSub, Int.reduceMul, Int.reduceNeg, Nat.reduceLT, Nat.reduceAdd, Nat.reduceMul, not_false_eq_true, not_true_eq_false, true_and, and_true, and_self, false_and, and_false, true_implies, false_implies, implies_true, forall_const, if_true, if_false, ite_true, ite_false, reduceIte, eq_self_iff_true, Int.natCast_nonneg, Int.zero_add, Int.add_zero, pi_s, pi_n, nb_0]
  exact h
theorem mX7_bringBack (l : Launch) : am_M l TB NB vwCl SH KF yX7_bringBack cX7_bringBack 2 (some .boolean) 3 0 0 sX7_bringBack := by
  refine am_M.of xX7_bringBack (by decide +kernel) TB_good GF rfl rfl rfl (by decide) ⟨FT_X7_ok, PT_X7_ok _, CT_X7_ok, KT_X7_ok, LT_X7_ok, NT_X7_ok, ?_⟩ pX7_bringBack
  exact List.forall_mem_cons.mpr ⟨⟨yX4_copyFrom, cX4_copyFrom, 3, none, 2, 2, mX4_copyFrom l, by decide, by decide, tb_at 965 (by decide +kernel) (by decide +kernel), tb_at 112 (by decide +kernel) (by decide +kernel), ⟨by decide +kernel, by decide +kernel, by decide +kernel⟩, rfl, tb_at 962 (by decide +kernel) (by decide +kernel), tb_at 963 (by decide +kernel) (by decide +kernel), ⟨(RX4, TX4, 1), rfl, tb_at 964 (by decide +kernel) (by decide +kernel)⟩⟩, fun _ h => absurd h List.not_mem_nil⟩

def sX7_goOnFrom : am_Sp := fun as n σ post => ∃ c : Int, (-2147483648 ≤ c ∧ c < 2147483648) ∧ n = 92 ∧ as = [.ref 35, .int (Int32.ofInt c), .ref 31] ∧ FS σ ∧ post (some (.int (Int32.ofInt 0))) σ
def xX7_goOnFrom : am_X := (SH, KF, (some .boolean), FT_X7, PT_X7, CT_X7, KT_X7, LT_X7, NT_X7, [(44, 0, 3, 4, 0, 0, sX4_copyFrom), (47, 4, 2, 11, 0, 0, sX11_hasBit)])
theorem xX7_goOnFrom_SH : am_SH xX7_goOnFrom = SH := rfl
theorem xX7_goOnFrom_KF : am_KF xX7_goOnFrom = KF := rfl
theorem xX7_goOnFrom_rt : am_rt xX7_goOnFrom = (some .boolean) := rfl
theorem xX7_goOnFrom_FT : am_FT xX7_goOnFrom = FT_X7 := rfl
theorem xX7_goOnFrom_PT : am_PT xX7_goOnFrom = PT_X7 := rfl
theorem xX7_goOnFrom_CT : am_CT xX7_goOnFrom = CT_X7 := rfl
theorem xX7_goOnFrom_KT : am_KT xX7_goOnFrom = KT_X7 := rfl
theorem xX7_goOnFrom_LT : am_LT xX7_goOnFrom = LT_X7 := rfl
theorem xX7_goOnFrom_NT : am_NT xX7_goOnFrom = NT_X7 := rfl
theorem xX7_goOnFrom_c44 : am_find (am_ML xX7_goOnFrom) 44 = some (0, 3, 4, 0, 0, sX4_copyFrom) := rfl
theorem xX7_goOnFrom_n44 : am_find NT_X7 44 = none := rfl
theorem xX7_goOnFrom_c47 : am_find (am_ML xX7_goOnFrom) 47 = some (4, 2, 11, 0, 0, sX11_hasBit) := rfl
theorem xX7_goOnFrom_n47 : am_find NT_X7 47 = none := rfl
theorem xX7_goOnFrom_t1 (k : Nat → Prop) : am_tg 1 (19) k = k 20 := am_tg_eq (by decide)
theorem xX7_goOnFrom_t6 (k : Nat → Prop) : am_tg 6 (14) k = k 20 := am_tg_eq (by decide)
theorem xX7_goOnFrom_t17 (k : Nat → Prop) : am_tg 17 (5) k = k 22 := am_tg_eq (by decide)

set_option maxRecDepth 100000 in
theorem pX7_goOnFrom : am_B cX7_goOnFrom xX7_goOnFrom 3 0 sX7_goOnFrom := by
  intro n0 as σ post AA hA h
  obtain ⟨c, hc, rfl, rfl, hF, h⟩ := h
  refine ⟨by simp [am_sl, Value.category], ?_⟩
  show AA 0 [some (.ref 35), some (.int (Int32.ofInt c)), some (.ref 31)] [] 92 σ
  have e1 := hF.2.2
  refine hA [(18, 3)] 12 _ _ _ _ _ ?_
  try simp only [dX7_goOnFrom_0, dX7_goOnFrom_1, xX7_goOnFrom_t1, dX7_goOnFrom_4, dX7_goOnFrom_5, dX7_goOnFrom_6, xX7_goOnFrom_t6, dX7_goOnFrom_9, dX7_goOnFrom_10, FT_X7_25, dX7_goOnFrom_13, dX7_goOnFrom_14, xX7_goOnFrom_c47, xX7_goOnFrom_n47, dX7_goOnFrom_17, xX7_goOnFrom_t17, dX7_goOnFrom_20, dX7_goOnFrom_21, dX7_goOnFrom_22, dX7_goOnFrom_23, dX7_goOnFrom_24, FT_X7_15, dX7_goOnFrom_27, dX7_goOnFrom_28, dX7_goOnFrom_30, dX7_goOnFrom_31, xX7_goOnFrom_c44, xX7_goOnFrom_n44, dX7_goOnFrom_34, dX7_goOnFrom_35, dX7_goOnFrom_36, PT_X7_22, dX7_goOnFrom_39, dX7_goOnFrom_40, xX7_goOnFrom_SH, xX7_goOnFrom_KF, xX7_goOnFrom_rt, xX7_goOnFrom_FT, xX7_goOnFrom_PT, xX7_goOnFrom_CT, xX7_goOnFrom_KT, xX7_goOnFrom_LT, xX7_goOnFrom_NT, o_aload_n, o_bipush, o_getfield, o_iconst, o_ifCond_lt, o_ifCond_ne, o_if_icmp_ge, o_iload_n, o_imul, o_invokestatic, o_invokevirtual, o_ireturn, o_putfield, SH_31, SH_33, SH_35, KF_35_4, KF_35_3, KF_35_1, SH_37, am_ty, am_vc, am_opt, am_cl, am_find, am_ldi, am_ldl, am_lda, am_v, am_1, am_1l, am_1a, am_2, am_2l, am_ix, am_ri, am_arr, am_pf, am_rc, am_mask, am_lg, am_av, am_nat, fv_0, fv_1, fv_2, fv_3, fw_0, fw_1, List.getElem?_cons_zero, List.getElem?_cons_succ, List.set_cons_zero, List.set_cons_succ, List.length_cons, List.length_nil, List.take_succ_cons, List.take_zero, List.drop_succ_cons, List.drop_zero, List.reverse_cons, List.reverse_nil, List.nil_append, List.cons_append, List.append_nil, List.map_cons, List.map_nil, List.sum_cons, List.sum_nil, Value.category, Option.toList_some, Option.toList_none, Nat.reduceAdd, Nat.reduceLT, Nat.reduceLeDiff, Nat.reduceEqDiff, Nat.reduceSub, Nat.add_zero, Nat.le_refl, Nat.zero_le, Int.reduceNeg, Int.reduceLE, Int.reduceLT, true_and, and_true, and_self, if_true, if_false, ite_true, ite_false, eq_self_iff_true, reduceIte, reduceCtorEq, not_false_eq_true, not_true_eq_false, or_true, true_or, or_false, false_or, Nat.lt_irrefl, Nat.zero_lt_succ, nb_0, e1]
  try simp (disch := omega) only [ii_0, ii_1, ii_t, ii_add, ii_sub, ii_mul, ii_lt, ii_le, ii_eq, ij_in, ii_c, Int.toNat_natCast, Int.toNat_zero, Int.reduceToNat, Int.reduceEq, Int.reduceNe, Int.reduceLE, Int.reduceLT, Int.reduceAdd, Int.reduceSub, Int.reduceMul, Int.reduceNeg, Nat.reduceLT, Nat.reduceAdd, Nat.reduceMul, not_false_eq_true, not_true_eq_false, true_and, and_true, and_self, false_and, and_false, true_implies, false_implies, implies_true, forall_const, if_true, if_false, ite_true, ite_false, reduceIte, eq_self_iff_true, Int.natCast_nonneg, Int.zero_add, Int.add_zero, pi_s, pi_n, nb_0]
  refine ⟨fun _ => h, fun _ => ⟨fun _ => h, fun _ => ?_⟩⟩
  refine ⟨c, hc, rfl, rfl, ?_⟩
  try simp only [dX7_goOnFrom_0, dX7_goOnFrom_1, xX7_goOnFrom_t1, dX7_goOnFrom_4, dX7_goOnFrom_5, dX7_goOnFrom_6, xX7_goOnFrom_t6, dX7_goOnFrom_9, dX7_goOnFrom_10, FT_X7_25, dX7_goOnFrom_13, dX7_goOnFrom_14, xX7_goOnFrom_c47, xX7_goOnFrom_n47, dX7_goOnFrom_17, xX7_goOnFrom_t17, dX7_goOnFrom_20, dX7_goOnFrom_21, dX7_goOnFrom_22, dX7_goOnFrom_23, dX7_goOnFrom_24, FT_X7_15, dX7_goOnFrom_27, dX7_goOnFrom_28, dX7_goOnFrom_30, dX7_goOnFrom_31, xX7_goOnFrom_c44, xX7_goOnFrom_n44, dX7_goOnFrom_34, dX7_goOnFrom_35, dX7_goOnFrom_36, PT_X7_22, dX7_goOnFrom_39, dX7_goOnFrom_40, xX7_goOnFrom_SH, xX7_goOnFrom_KF, xX7_goOnFrom_rt, xX7_goOnFrom_FT, xX7_goOnFrom_PT, xX7_goOnFrom_CT, xX7_goOnFrom_KT, xX7_goOnFrom_LT, xX7_goOnFrom_NT, o_aload_n, o_bipush, o_getfield, o_iconst, o_ifCond_lt, o_ifCond_ne, o_if_icmp_ge, o_iload_n, o_imul, o_invokestatic, o_invokevirtual, o_ireturn, o_putfield, SH_31, SH_33, SH_35, KF_35_4, KF_35_3, KF_35_1, SH_37, am_ty, am_vc, am_opt, am_cl, am_find, am_ldi, am_ldl, am_lda, am_v, am_1, am_1l, am_1a, am_2, am_2l, am_ix, am_ri, am_arr, am_pf, am_rc, am_mask, am_lg, am_av, am_nat, fv_0, fv_1, fv_2, fv_3, fw_0, fw_1, List.getElem?_cons_zero, List.getElem?_cons_succ, List.set_cons_zero, List.set_cons_succ, List.length_cons, List.length_nil, List.take_succ_cons, List.take_zero, List.drop_succ_cons, List.drop_zero, List.reverse_cons, List.reverse_nil, List.nil_append, List.cons_append, List.append_nil, List.map_cons, List.map_nil, List.sum_cons, List.sum_nil, Value.category, Option.toList_some, Option.toList_none, Nat.reduceAdd, Nat.reduceLT, Nat.reduceLeDiff, Nat.reduceEqDiff, Nat.reduceSub, Nat.add_zero, Nat.le_refl, Nat.zero_le, Int.reduceNeg, Int.reduceLE, Int.reduceLT, true_and, and_true, and_self, if_true, if_false, ite_true, ite_false, eq_self_iff_true, reduceIte, reduceCtorEq, not_false_eq_true, not_true_eq_false, or_true, true_or, or_false, false_or, Nat.lt_irrefl, Nat.zero_lt_succ, nb_0]
  try simp (disch := omega) only [ii_0, ii_1, ii_t, ii_add, ii_sub, ii_mul, ii_lt, ii_le, ii_eq, ij_in, ii_c, Int.toNat_natCast, Int.toNat_zero, Int.reduceToNat, Int.reduceEq, Int.reduceNe, Int.reduceLE, Int.reduceLT, Int.reduceAdd, Int.reduceSub, Int.reduceMul, Int.reduceNeg, Nat.reduceLT, Nat.reduceAdd, Nat.reduceMul, not_false_eq_true, not_true_eq_false, true_and, and_true, and_self, false_and, and_false, true_implies, false_implies, implies_true, forall_const, if_true, if_false, ite_true, ite_false, reduceIte, eq_self_iff_true, Int.natCast_nonneg, Int.zero_add, Int.add_zero, pi_s, pi_n, nb_0]
  first | exact h | exact ⟨fun q => absurd rfl q, fun _ => ⟨rfl, h⟩⟩
theorem mX7_goOnFrom (l : Launch) : am_M l TB NB vwCl SH KF yX7_goOnFrom cX7_goOnFrom 3 (some .boolean) 3 0 0 sX7_goOnFrom := by
  refine am_M.of xX7_goOnFrom (by decide +kernel) TB_good GF rfl rfl rfl (by decide) ⟨FT_X7_ok, PT_X7_ok _, CT_X7_ok, KT_X7_ok, LT_X7_ok, NT_X7_ok, ?_⟩ pX7_goOnFrom
  exact List.forall_mem_cons.mpr ⟨⟨yX4_copyFrom, cX4_copyFrom, 3, none, 2, 2, mX4_copyFrom l, by decide, by decide, tb_at 965 (by decide +kernel) (by decide +kernel), tb_at 112 (by decide +kernel) (by decide +kernel), ⟨by decide +kernel, by decide +kernel, by decide +kernel⟩, rfl, tb_at 962 (by decide +kernel) (by decide +kernel), tb_at 963 (by decide +kernel) (by decide +kernel), ⟨(RX4, TX4, 1), rfl, tb_at 964 (by decide +kernel) (by decide +kernel)⟩⟩, List.forall_mem_cons.mpr ⟨⟨yX11_hasBit, cX11_hasBit, 2, (some .boolean), 2, 2, mX11_hasBit l, by decide, by decide, tb_at 768 (by decide +kernel) (by decide +kernel), tb_at 103 (by decide +kernel) (by decide +kernel), ⟨by decide +kernel, by decide +kernel, by decide +kernel⟩, rfl, ⟨"LadderStreet", nb_at 982 (by decide +kernel)⟩, tb_at 767 (by decide +kernel) (by decide +kernel)⟩, fun _ h => absurd h List.not_mem_nil⟩⟩

-- the public ones over them
def sX11_undo : am_Sp := fun as n σ post => n = 92 ∧ as = [.ref 0] ∧ FS σ ∧ post (some (.int (Int32.ofInt 0))) σ
def xX11_undo : am_X := (SH, KF, (some .boolean), FT_X11, PT_X11, CT_X11, KT_X11, LT_X11, NT_X11, [(249, 0, 2, 7, 0, 0, sX7_bringBack)])
theorem xX11_undo_SH : am_SH xX11_undo = SH := rfl
theorem xX11_undo_KF : am_KF xX11_undo = KF := rfl
theorem xX11_undo_rt : am_rt xX11_undo = (some .boolean) := rfl
theorem xX11_undo_FT : am_FT xX11_undo = FT_X11 := rfl
theorem xX11_undo_PT : am_PT xX11_undo = PT_X11 := rfl
theorem xX11_undo_CT : am_CT xX11_undo = CT_X11 := rfl
theorem xX11_undo_KT : am_KT xX11_undo = KT_X11 := rfl
theorem xX11_undo_LT : am_LT xX11_undo = LT_X11 := rfl
theorem xX11_undo_NT : am_NT xX11_undo = NT_X11 := rfl
theorem xX11_undo_c249 : am_find (am_ML xX11_undo) 249 = some (0, 2, 7, 0, 0, sX7_bringBack) := rfl
theorem xX11_undo_n249 : am_find NT_X11 249 = none := rfl

set_option maxRecDepth 100000 in
theorem pX11_undo : am_B cX11_undo xX11_undo 1 0 sX11_undo := by
  intro n0 as σ post AA hA h
  obtain ⟨rfl, rfl, hF, h⟩ := h
  refine ⟨by simp [am_sl, Value.category], ?_⟩
  show AA 0 [some (.ref 0)] [] 92 σ
  refine hA [] 40 _ _ _ _ _ ?_
  try simp only [dX11_undo_0, dX11_undo_1, FT_X11_47, dX11_undo_4, dX11_undo_5, FT_X11_37, dX11_undo_8, xX11_undo_c249, xX11_undo_n249, dX11_undo_11, xX11_undo_SH, xX11_undo_KF, xX11_undo_rt, xX11_undo_FT, xX11_undo_PT, xX11_undo_CT, xX11_undo_KT, xX11_undo_LT, xX11_undo_NT, o_aload_n, o_getfield, o_invokevirtual, o_ireturn, SH_0, KF_0_5, SH_31, KF_0_7, SH_35, am_ty, am_vc, am_opt, am_cl, am_find, am_ldi, am_ldl, am_lda, am_v, am_1, am_1l, am_1a, am_2, am_2l, am_ix, am_ri, am_arr, am_pf, am_rc, am_mask, am_lg, am_av, am_nat, fv_0, fv_1, fv_2, fv_3, fw_0, fw_1, List.getElem?_cons_zero, List.getElem?_cons_succ, List.set_cons_zero, List.set_cons_succ, List.length_cons, List.length_nil, List.take_succ_cons, List.take_zero, List.drop_succ_cons, List.drop_zero, List.reverse_cons, List.reverse_nil, List.nil_append, List.cons_append, List.append_nil, List.map_cons, List.map_nil, List.sum_cons, List.sum_nil, Value.category, Option.toList_some, Option.toList_none, Nat.reduceAdd, Nat.reduceLT, Nat.reduceLeDiff, Nat.reduceEqDiff, Nat.reduceSub, Nat.add_zero, Nat.le_refl, Nat.zero_le, Int.reduceNeg, Int.reduceLE, Int.reduceLT, true_and, and_true, and_self, if_true, if_false, ite_true, ite_false, eq_self_iff_true, reduceIte, reduceCtorEq, not_false_eq_true, not_true_eq_false, or_true, true_or, or_false, false_or, Nat.lt_irrefl, Nat.zero_lt_succ]
  refine ⟨rfl, rfl, hF, ?_⟩
  try simp only [dX11_undo_0, dX11_undo_1, FT_X11_47, dX11_undo_4, dX11_undo_5, FT_X11_37, dX11_undo_8, xX11_undo_c249, xX11_undo_n249, dX11_undo_11, xX11_undo_SH, xX11_undo_KF, xX11_undo_rt, xX11_undo_FT, xX11_undo_PT, xX11_undo_CT, xX11_undo_KT, xX11_undo_LT, xX11_undo_NT, o_aload_n, o_getfield, o_invokevirtual, o_ireturn, SH_0, KF_0_5, SH_31, KF_0_7, SH_35, am_ty, am_vc, am_opt, am_cl, am_find, am_ldi, am_ldl, am_lda, am_v, am_1, am_1l, am_1a, am_2, am_2l, am_ix, am_ri, am_arr, am_pf, am_rc, am_mask, am_lg, am_av, am_nat, fv_0, fv_1, fv_2, fv_3, fw_0, fw_1, List.getElem?_cons_zero, List.getElem?_cons_succ, List.set_cons_zero, List.set_cons_succ, List.length_cons, List.length_nil, List.take_succ_cons, List.take_zero, List.drop_succ_cons, List.drop_zero, List.reverse_cons, List.reverse_nil, List.nil_append, List.cons_append, List.append_nil, List.map_cons, List.map_nil, List.sum_cons, List.sum_nil, Value.category, Option.toList_some, Option.toList_none, Nat.reduceAdd, Nat.reduceLT, Nat.reduceLeDiff, Nat.reduceEqDiff, Nat.reduceSub, Nat.add_zero, Nat.le_refl, Nat.zero_le, Int.reduceNeg, Int.reduceLE, Int.reduceLT, true_and, and_true, and_self, if_true, if_false, ite_true, ite_false, eq_self_iff_true, reduceIte, reduceCtorEq, not_false_eq_true, not_true_eq_false, or_true, true_or, or_false, false_or, Nat.lt_irrefl, Nat.zero_lt_succ, nb_0]
  exact h
theorem mX11_undo (l : Launch) : am_M l TB NB vwCl SH KF yX11_undo cX11_undo 1 (some .boolean) 4 0 0 sX11_undo := by
  refine am_M.of xX11_undo (by decide +kernel) TB_good GF rfl rfl rfl (by decide) ⟨FT_X11_ok, PT_X11_ok _, CT_X11_ok, KT_X11_ok, LT_X11_ok, NT_X11_ok, ?_⟩ pX11_undo
  exact List.forall_mem_cons.mpr ⟨⟨yX7_bringBack, cX7_bringBack, 2, (some .boolean), 3, 1, mX7_bringBack l, by decide, by decide, tb_at 961 (by decide +kernel) (by decide +kernel), tb_at 113 (by decide +kernel) (by decide +kernel), ⟨by decide +kernel, by decide +kernel, by decide +kernel⟩, rfl, tb_at 958 (by decide +kernel) (by decide +kernel), tb_at 959 (by decide +kernel) (by decide +kernel), ⟨(RX7, TX7, 5), rfl, tb_at 960 (by decide +kernel) (by decide +kernel)⟩⟩, fun _ h => absurd h List.not_mem_nil⟩

def sX11_restore : am_Sp := fun as n σ post => ∃ c : Int, (-2147483648 ≤ c ∧ c < 2147483648) ∧ n = 92 ∧ as = [.ref 0, .int (Int32.ofInt c)] ∧ FS σ ∧ post (some (.int (Int32.ofInt 0))) σ
def xX11_restore : am_X := (SH, KF, (some .boolean), FT_X11, PT_X11, CT_X11, KT_X11, LT_X11, NT_X11, [(257, 0, 3, 7, 0, 0, sX7_goOnFrom)])
theorem xX11_restore_SH : am_SH xX11_restore = SH := rfl
theorem xX11_restore_KF : am_KF xX11_restore = KF := rfl
theorem xX11_restore_rt : am_rt xX11_restore = (some .boolean) := rfl
theorem xX11_restore_FT : am_FT xX11_restore = FT_X11 := rfl
theorem xX11_restore_PT : am_PT xX11_restore = PT_X11 := rfl
theorem xX11_restore_CT : am_CT xX11_restore = CT_X11 := rfl
theorem xX11_restore_KT : am_KT xX11_restore = KT_X11 := rfl
theorem xX11_restore_LT : am_LT xX11_restore = LT_X11 := rfl
theorem xX11_restore_NT : am_NT xX11_restore = NT_X11 := rfl
theorem xX11_restore_c257 : am_find (am_ML xX11_restore) 257 = some (0, 3, 7, 0, 0, sX7_goOnFrom) := rfl
theorem xX11_restore_n257 : am_find NT_X11 257 = none := rfl

set_option maxRecDepth 100000 in
theorem pX11_restore : am_B cX11_restore xX11_restore 2 0 sX11_restore := by
  intro n0 as σ post AA hA h
  obtain ⟨c, hc, rfl, rfl, hF, h⟩ := h
  refine ⟨by simp [am_sl, Value.category], ?_⟩
  show AA 0 [some (.ref 0), some (.int (Int32.ofInt c))] [] 92 σ
  refine hA [] 40 _ _ _ _ _ ?_
  try simp only [dX11_restore_0, dX11_restore_1, FT_X11_47, dX11_restore_4, dX11_restore_5, dX11_restore_6, FT_X11_37, dX11_restore_9, xX11_restore_c257, xX11_restore_n257, dX11_restore_12, xX11_restore_SH, xX11_restore_KF, xX11_restore_rt, xX11_restore_FT, xX11_restore_PT, xX11_restore_CT, xX11_restore_KT, xX11_restore_LT, xX11_restore_NT, o_aload_n, o_getfield, o_iload_n, o_invokevirtual, o_ireturn, SH_0, KF_0_5, SH_31, KF_0_7, SH_35, am_ty, am_vc, am_opt, am_cl, am_find, am_ldi, am_ldl, am_lda, am_v, am_1, am_1l, am_1a, am_2, am_2l, am_ix, am_ri, am_arr, am_pf, am_rc, am_mask, am_lg, am_av, am_nat, fv_0, fv_1, fv_2, fv_3, fw_0, fw_1, List.getElem?_cons_zero, List.getElem?_cons_succ, List.set_cons_zero, List.set_cons_succ, List.length_cons, List.length_nil, List.take_succ_cons, List.take_zero, List.drop_succ_cons, List.drop_zero, List.reverse_cons, List.reverse_nil, List.nil_append, List.cons_append, List.append_nil, List.map_cons, List.map_nil, List.sum_cons, List.sum_nil, Value.category, Option.toList_some, Option.toList_none, Nat.reduceAdd, Nat.reduceLT, Nat.reduceLeDiff, Nat.reduceEqDiff, Nat.reduceSub, Nat.add_zero, Nat.le_refl, Nat.zero_le, Int.reduceNeg, Int.reduceLE, Int.reduceLT, true_and, and_true, and_self, if_true, if_false, ite_true, ite_false, eq_self_iff_true, reduceIte, reduceCtorEq, not_false_eq_true, not_true_eq_false, or_true, true_or, or_false, false_or, Nat.lt_irrefl, Nat.zero_lt_succ]
  refine ⟨c, hc, rfl, rfl, hF, ?_⟩
  try simp only [dX11_restore_0, dX11_restore_1, FT_X11_47, dX11_restore_4, dX11_restore_5, dX11_restore_6, FT_X11_37, dX11_restore_9, xX11_restore_c257, xX11_restore_n257, dX11_restore_12, xX11_restore_SH, xX11_restore_KF, xX11_restore_rt, xX11_restore_FT, xX11_restore_PT, xX11_restore_CT, xX11_restore_KT, xX11_restore_LT, xX11_restore_NT, o_aload_n, o_getfield, o_iload_n, o_invokevirtual, o_ireturn, SH_0, KF_0_5, SH_31, KF_0_7, SH_35, am_ty, am_vc, am_opt, am_cl, am_find, am_ldi, am_ldl, am_lda, am_v, am_1, am_1l, am_1a, am_2, am_2l, am_ix, am_ri, am_arr, am_pf, am_rc, am_mask, am_lg, am_av, am_nat, fv_0, fv_1, fv_2, fv_3, fw_0, fw_1, List.getElem?_cons_zero, List.getElem?_cons_succ, List.set_cons_zero, List.set_cons_succ, List.length_cons, List.length_nil, List.take_succ_cons, List.take_zero, List.drop_succ_cons, List.drop_zero, List.reverse_cons, List.reverse_nil, List.nil_append, List.cons_append, List.append_nil, List.map_cons, List.map_nil, List.sum_cons, List.sum_nil, Value.category, Option.toList_some, Option.toList_none, Nat.reduceAdd, Nat.reduceLT, Nat.reduceLeDiff, Nat.reduceEqDiff, Nat.reduceSub, Nat.add_zero, Nat.le_refl, Nat.zero_le, Int.reduceNeg, Int.reduceLE, Int.reduceLT, true_and, and_true, and_self, if_true, if_false, ite_true, ite_false, eq_self_iff_true, reduceIte, reduceCtorEq, not_false_eq_true, not_true_eq_false, or_true, true_or, or_false, false_or, Nat.lt_irrefl, Nat.zero_lt_succ, nb_0]
  exact h
theorem mX11_restore (l : Launch) : am_M l TB NB vwCl SH KF yX11_restore cX11_restore 2 (some .boolean) 4 0 0 sX11_restore := by
  refine am_M.of xX11_restore (by decide +kernel) TB_good GF rfl rfl rfl (by decide) ⟨FT_X11_ok, PT_X11_ok _, CT_X11_ok, KT_X11_ok, LT_X11_ok, NT_X11_ok, ?_⟩ pX11_restore
  exact List.forall_mem_cons.mpr ⟨⟨yX7_goOnFrom, cX7_goOnFrom, 3, (some .boolean), 3, 2, mX7_goOnFrom l, by decide, by decide, tb_at 981 (by decide +kernel) (by decide +kernel), tb_at 113 (by decide +kernel) (by decide +kernel), ⟨by decide +kernel, by decide +kernel, by decide +kernel⟩, rfl, tb_at 978 (by decide +kernel) (by decide +kernel), tb_at 979 (by decide +kernel) (by decide +kernel), ⟨(RX7, TX7, 5), rfl, tb_at 980 (by decide +kernel) (by decide +kernel)⟩⟩, fun _ h => absurd h List.not_mem_nil⟩

def sX11_back : am_Sp := fun as n σ post => ∃ c mn : Int, (-2147483648 ≤ c ∧ c < 2147483648) ∧ n = 92 ∧ as = [.ref 0, .int (Int32.ofInt c)] ∧ FB mn σ ∧ ∀ τ, Hi σ τ → post (some (.int (Int32.ofInt (if c = 0 then 0 else -1)))) τ
def xX11_back : am_X := (SH, KF, (some .int), FT_X11, PT_X11, CT_X11, KT_X11, LT_X11, NT_X11, [])
theorem xX11_back_SH : am_SH xX11_back = SH := rfl
theorem xX11_back_KF : am_KF xX11_back = KF := rfl
theorem xX11_back_rt : am_rt xX11_back = (some .int) := rfl
theorem xX11_back_FT : am_FT xX11_back = FT_X11 := rfl
theorem xX11_back_PT : am_PT xX11_back = PT_X11 := rfl
theorem xX11_back_CT : am_CT xX11_back = CT_X11 := rfl
theorem xX11_back_KT : am_KT xX11_back = KT_X11 := rfl
theorem xX11_back_LT : am_LT xX11_back = LT_X11 := rfl
theorem xX11_back_NT : am_NT xX11_back = NT_X11 := rfl
theorem xX11_back_t1 (k : Nat → Prop) : am_tg 1 (11) k = k 12 := am_tg_eq (by decide)
theorem xX11_back_t9 (k : Nat → Prop) : am_tg 9 (5) k = k 14 := am_tg_eq (by decide)

set_option maxRecDepth 100000 in
theorem pX11_back : am_B cX11_back xX11_back 2 0 sX11_back := by
  intro n0 as σ post AA hA h
  obtain ⟨c, mn, hc, rfl, rfl, hF, h⟩ := h
  refine ⟨by simp [am_sl, Value.category], ?_⟩
  show AA 0 [some (.ref 0), some (.int (Int32.ofInt c))] [] 92 σ
  have e1 := FB_t hF
  refine hA [] 40 _ _ _ _ _ ?_
  try simp only [dX11_back_0, dX11_back_1, xX11_back_t1, dX11_back_4, dX11_back_5, dX11_back_6, FT_X11_13, dX11_back_9, xX11_back_t9, dX11_back_12, dX11_back_13, dX11_back_14, dX11_back_15, dX11_back_16, dX11_back_19, dX11_back_20, dX11_back_21, PT_X11_13, dX11_back_24, dX11_back_25, dX11_back_28, xX11_back_SH, xX11_back_KF, xX11_back_rt, xX11_back_FT, xX11_back_PT, xX11_back_CT, xX11_back_KT, xX11_back_LT, xX11_back_NT, o_aload_n, o_dup, o_getfield, o_iconst, o_ifCond_lt, o_if_icmp_le, o_iload_n, o_ireturn, o_isub, o_putfield, SH_0, KF_0_1, am_ty, am_vc, am_opt, am_cl, am_find, am_ldi, am_ldl, am_lda, am_v, am_1, am_1l, am_1a, am_2, am_2l, am_ix, am_ri, am_arr, am_pf, am_rc, am_mask, am_lg, am_av, am_nat, fv_0, fv_1, fv_2, fv_3, fw_0, fw_1, List.getElem?_cons_zero, List.getElem?_cons_succ, List.set_cons_zero, List.set_cons_succ, List.length_cons, List.length_nil, List.take_succ_cons, List.take_zero, List.drop_succ_cons, List.drop_zero, List.reverse_cons, List.reverse_nil, List.nil_append, List.cons_append, List.append_nil, List.map_cons, List.map_nil, List.sum_cons, List.sum_nil, Value.category, Option.toList_some, Option.toList_none, Nat.reduceAdd, Nat.reduceLT, Nat.reduceLeDiff, Nat.reduceEqDiff, Nat.reduceSub, Nat.add_zero, Nat.le_refl, Nat.zero_le, Int.reduceNeg, Int.reduceLE, Int.reduceLT, true_and, and_true, and_self, if_true, if_false, ite_true, ite_false, eq_self_iff_true, reduceIte, reduceCtorEq, not_false_eq_true, not_true_eq_false, or_true, true_or, or_false, false_or, Nat.lt_irrefl, Nat.zero_lt_succ, e1, pi_s]
  try simp (disch := omega) only [ii_0, ii_1, ii_t, ii_add, ii_sub, ii_mul, ii_lt, ii_le, ii_eq, ij_in, ii_c, Int.toNat_natCast, Int.toNat_zero, Int.reduceToNat, Int.reduceEq, Int.reduceNe, Int.reduceLE, Int.reduceLT, Int.reduceAdd, Int.reduceSub, Int.reduceMul, Int.reduceNeg, Nat.reduceLT, Nat.reduceAdd, Nat.reduceMul, not_false_eq_true, not_true_eq_false, true_and, and_true, and_self, false_and, and_false, true_implies, false_implies, implies_true, forall_const, if_true, if_false, ite_true, ite_false, reduceIte, eq_self_iff_true, Int.natCast_nonneg, Int.zero_add, Int.add_zero, pi_s, pi_n]
  refine ⟨fun q => ?_, fun q => ⟨fun q2 => ?_, fun q2 => ?_⟩⟩
  · rw [if_neg (by omega)] at h; exact h _ (Hi_r _)
  · have e : c = 0 := by omega
    subst e
    exact h _ (Hi_pi (Hi_r _) (by decide))
  · rw [if_neg (by omega)] at h; exact h _ (Hi_r _)
theorem mX11_back (l : Launch) : am_M l TB NB vwCl SH KF yX11_back cX11_back 2 (some .int) 2 0 0 sX11_back := by
  refine am_M.of xX11_back (by decide +kernel) TB_good GF rfl rfl rfl (by decide) ⟨FT_X11_ok, PT_X11_ok _, CT_X11_ok, KT_X11_ok, LT_X11_ok, NT_X11_ok, ?_⟩ pX11_back
  exact fun _ h => absurd h List.not_mem_nil

