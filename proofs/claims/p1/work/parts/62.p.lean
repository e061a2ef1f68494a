/-! THE CLASS NEWLY MADE: its short public methods. -/
def sX9_widthOf : am_Sp := fun _ _ _ _ => False
theorem mX9_widthOf (l : Launch) : am_M l TB NB vwCl SH KF yX9_widthOf cX9_widthOf 2 (some .int) 3 0 0 sX9_widthOf := am_never
def sX9_temperOf : am_Sp := fun _ _ _ _ => False
theorem mX9_temperOf (l : Launch) : am_M l TB NB vwCl SH KF yX9_temperOf cX9_temperOf 2 (some .int) 3 0 0 sX9_temperOf := am_never
def sX9_thirstOf : am_Sp := fun _ _ _ _ => False
theorem mX9_thirstOf (l : Launch) : am_M l TB NB vwCl SH KF yX9_thirstOf cX9_thirstOf 2 (some .int) 3 0 0 sX9_thirstOf := am_never
def sX4_makeWhole : am_Sp := fun _ _ _ _ => False
theorem mX4_makeWhole (l : Launch) : am_M l TB NB vwCl SH KF yX4_makeWhole cX4_makeWhole 2 none 2 0 0 sX4_makeWhole := am_never

-- place, person, areThere, areTwo
def sX11_place : am_Sp := fun as n σ post => ∃ (mn : Int), n = 92 ∧ as = [.ref 0] ∧ FB mn σ ∧ post (some (.int (Int32.ofInt (-1)))) σ
def xX11_place : am_X := (SH, KF, (some .int), FT_X11, PT_X11, CT_X11, KT_X11, LT_X11, NT_X11, [])
theorem xX11_place_SH : am_SH xX11_place = SH := rfl
theorem xX11_place_KF : am_KF xX11_place = KF := rfl
theorem xX11_place_rt : am_rt xX11_place = (some .int) := rfl
theorem xX11_place_FT : am_FT xX11_place = FT_X11 := rfl
theorem xX11_place_PT : am_PT xX11_place = PT_X11 := rfl
theorem xX11_place_CT : am_CT xX11_place = CT_X11 := rfl
theorem xX11_place_KT : am_KT xX11_place = KT_X11 := rfl
theorem xX11_place_LT : am_LT xX11_place = LT_X11 := rfl
theorem xX11_place_NT : am_NT xX11_place = NT_X11 := rfl

set_option maxRecDepth 100000 in
theorem pX11_place : am_B cX11_place xX11_place 1 0 sX11_place := by
  intro n0 as σ post AA hA h
  obtain ⟨mn, rfl, rfl, hF, h⟩ := h
  refine ⟨by simp [am_sl, Value.category], ?_⟩
  show AA 0 [some (.ref 0)] [] 92 σ
  have e1 := FB_f hF
  refine hA [] 40 _ _ _ _ _ ?_
  try simp only [dX11_place_0, dX11_place_1, FT_X11_17, dX11_place_4, xX11_place_SH, xX11_place_KF, xX11_place_rt, xX11_place_FT, xX11_place_PT, xX11_place_CT, xX11_place_KT, xX11_place_LT, xX11_place_NT, o_aload_n, o_getfield, o_ireturn, SH_0, KF_0_2, am_ty, am_vc, am_opt, am_cl, am_find, am_ldi, am_ldl, am_lda, am_v, am_1, am_1l, am_1a, am_2, am_2l, am_ix, am_ri, am_arr, am_pf, am_rc, am_mask, am_lg, am_av, am_nat, fv_0, fv_1, fv_2, fv_3, fw_0, fw_1, List.getElem?_cons_zero, List.getElem?_cons_succ, List.set_cons_zero, List.set_cons_succ, List.length_cons, List.length_nil, List.take_succ_cons, List.take_zero, List.drop_succ_cons, List.drop_zero, List.reverse_cons, List.reverse_nil, List.nil_append, List.cons_append, List.append_nil, List.map_cons, List.map_nil, List.sum_cons, List.sum_nil, Value.category, Option.toList_some, Option.toList_none, Nat.reduceAdd, Nat.reduceLT, Nat.reduceLeDiff, Nat.reduceEqDiff, Nat.reduceSub, Nat.add_zero, Nat.le_refl, Nat.zero_le, Int.reduceNeg, Int.reduceLE, Int.reduceLT, true_and, and_true, and_self, if_true, if_false, ite_true, ite_false, eq_self_iff_true, reduceIte, reduceCtorEq, not_false_eq_true, not_true_eq_false, or_true, true_or, or_false, false_or, Nat.lt_irrefl, Nat.zero_lt_succ, e1]
  exact h
theorem mX11_place (l : Launch) : am_M l TB NB vwCl SH KF yX11_place cX11_place 1 (some .int) 2 0 0 sX11_place := by
  refine am_M.of xX11_place (by decide +kernel) TB_good GF rfl rfl rfl (by decide) ⟨FT_X11_ok, PT_X11_ok _, CT_X11_ok, KT_X11_ok, LT_X11_ok, NT_X11_ok, ?_⟩ pX11_place
  exact fun _ h => absurd h List.not_mem_nil

def sX11_person : am_Sp := fun as n σ post => ∃ (p w mn : Int), (-2147483648 ≤ p ∧ p < 2147483648) ∧ (-2147483648 ≤ w ∧ w < 2147483648) ∧ n = 92 ∧ as = [.ref 0, .int (Int32.ofInt p), .int (Int32.ofInt w)] ∧ FB mn σ ∧ post (some (.int (Int32.ofInt (-1)))) σ
def xX11_person : am_X := (SH, KF, (some .int), FT_X11, PT_X11, CT_X11, KT_X11, LT_X11, NT_X11, [(131, 0, 2, 9, 0, 0, sX9_hasPerson), (135, 0, 3, 4, 0, 0, sX4_of), (139, 0, 2, 9, 0, 0, sX9_widthOf), (143, 0, 2, 9, 0, 0, sX9_temperOf), (146, 0, 2, 9, 0, 0, sX9_thirstOf)])
theorem xX11_person_SH : am_SH xX11_person = SH := rfl
theorem xX11_person_KF : am_KF xX11_person = KF := rfl
theorem xX11_person_rt : am_rt xX11_person = (some .int) := rfl
theorem xX11_person_FT : am_FT xX11_person = FT_X11 := rfl
theorem xX11_person_PT : am_PT xX11_person = PT_X11 := rfl
theorem xX11_person_CT : am_CT xX11_person = CT_X11 := rfl
theorem xX11_person_KT : am_KT xX11_person = KT_X11 := rfl
theorem xX11_person_LT : am_LT xX11_person = LT_X11 := rfl
theorem xX11_person_NT : am_NT xX11_person = NT_X11 := rfl
theorem xX11_person_c131 : am_find (am_ML xX11_person) 131 = some (0, 2, 9, 0, 0, sX9_hasPerson) := rfl
theorem xX11_person_n131 : am_find NT_X11 131 = none := rfl
theorem xX11_person_c135 : am_find (am_ML xX11_person) 135 = some (0, 3, 4, 0, 0, sX4_of) := rfl
theorem xX11_person_n135 : am_find NT_X11 135 = none := rfl
theorem xX11_person_c139 : am_find (am_ML xX11_person) 139 = some (0, 2, 9, 0, 0, sX9_widthOf) := rfl
theorem xX11_person_n139 : am_find NT_X11 139 = none := rfl
theorem xX11_person_c143 : am_find (am_ML xX11_person) 143 = some (0, 2, 9, 0, 0, sX9_temperOf) := rfl
theorem xX11_person_n143 : am_find NT_X11 143 = none := rfl
theorem xX11_person_c146 : am_find (am_ML xX11_person) 146 = some (0, 2, 9, 0, 0, sX9_thirstOf) := rfl
theorem xX11_person_n146 : am_find NT_X11 146 = none := rfl
theorem xX11_person_t8 (k : Nat → Prop) : am_tg 8 (5) k = k 13 := am_tg_eq (by decide)
theorem xX11_person_t14_46 (k : Nat → Prop) : am_tg 14 46 k = k 60 := am_tg_eq (by decide)
theorem xX11_person_t14_56 (k : Nat → Prop) : am_tg 14 56 k = k 70 := am_tg_eq (by decide)
theorem xX11_person_t14_65 (k : Nat → Prop) : am_tg 14 65 k = k 79 := am_tg_eq (by decide)
theorem xX11_person_t14_74 (k : Nat → Prop) : am_tg 14 74 k = k 88 := am_tg_eq (by decide)
theorem xX11_person_t14_83 (k : Nat → Prop) : am_tg 14 83 k = k 97 := am_tg_eq (by decide)
theorem xX11_person_t14_94 (k : Nat → Prop) : am_tg 14 94 k = k 108 := am_tg_eq (by decide)
theorem xX11_person_t14_105 (k : Nat → Prop) : am_tg 14 105 k = k 119 := am_tg_eq (by decide)
theorem xX11_person_t14_116 (k : Nat → Prop) : am_tg 14 116 k = k 130 := am_tg_eq (by decide)
theorem xX11_person_t14_127 (k : Nat → Prop) : am_tg 14 127 k = k 141 := am_tg_eq (by decide)

set_option maxRecDepth 100000 in
theorem pX11_person : am_B cX11_person xX11_person 3 0 sX11_person := by
  intro n0 as σ post AA hA h
  obtain ⟨p, w, mn, hp, hw, rfl, rfl, hF, h⟩ := h
  refine ⟨by simp [am_sl, Value.category], ?_⟩
  show AA 0 [some (.ref 0), some (.int (Int32.ofInt p)), some (.int (Int32.ofInt w))] [] 92 σ
  refine hA [] 4 _ _ _ _ _ ?_
  try simp only [dX11_person_0, dX11_person_1, FT_X11_30, dX11_person_4, dX11_person_5, xX11_person_c131, xX11_person_n131, dX11_person_8, xX11_person_t8, dX11_person_11, dX11_person_12, dX11_person_13, dX11_person_14, xX11_person_t14_46, xX11_person_t14_56, xX11_person_t14_65, xX11_person_t14_74, xX11_person_t14_83, xX11_person_t14_94, xX11_person_t14_105, xX11_person_t14_116, xX11_person_t14_127, am_ts, List.toList_toArray, List.size_toArray, dX11_person_60, dX11_person_61, FT_X11_37, dX11_person_64, dX11_person_65, dX11_person_66, xX11_person_c135, xX11_person_n135, dX11_person_69, dX11_person_70, dX11_person_71, dX11_person_74, dX11_person_75, xX11_person_c139, xX11_person_n139, dX11_person_78, dX11_person_79, dX11_person_80, dX11_person_83, dX11_person_84, xX11_person_c143, xX11_person_n143, dX11_person_87, dX11_person_88, dX11_person_89, dX11_person_92, dX11_person_93, xX11_person_c146, xX11_person_n146, dX11_person_96, dX11_person_97, dX11_person_98, dX11_person_101, dX11_person_103, dX11_person_104, dX11_person_107, dX11_person_108, dX11_person_109, dX11_person_112, dX11_person_114, dX11_person_115, dX11_person_118, dX11_person_119, dX11_person_120, dX11_person_123, dX11_person_125, dX11_person_126, dX11_person_129, dX11_person_130, dX11_person_131, dX11_person_134, dX11_person_136, dX11_person_137, dX11_person_140, dX11_person_141, dX11_person_142, xX11_person_SH, xX11_person_KF, xX11_person_rt, xX11_person_FT, xX11_person_PT, xX11_person_CT, xX11_person_KT, xX11_person_LT, xX11_person_NT, o_aload_n, o_bipush, o_getfield, o_iconst, o_ifCond_ne, o_iload_n, o_invokevirtual, o_ireturn, o_tableswitch, SH_0, KF_0_4, SH_20, KF_0_5, SH_31, SH_3, SH_33, am_ty, am_vc, am_opt, am_cl, am_find, am_ldi, am_ldl, am_lda, am_v, am_1, am_1l, am_1a, am_2, am_2l, am_ix, am_ri, am_arr, am_pf, am_rc, am_mask, am_lg, am_av, am_nat, fv_0, fv_1, fv_2, fv_3, fw_0, fw_1, List.getElem?_cons_zero, List.getElem?_cons_succ, List.set_cons_zero, List.set_cons_succ, List.length_cons, List.length_nil, List.take_succ_cons, List.take_zero, List.drop_succ_cons, List.drop_zero, List.reverse_cons, List.reverse_nil, List.nil_append, List.cons_append, List.append_nil, List.map_cons, List.map_nil, List.sum_cons, List.sum_nil, Value.category, Option.toList_some, Option.toList_none, Nat.reduceAdd, Nat.reduceLT, Nat.reduceLeDiff, Nat.reduceEqDiff, Nat.reduceSub, Nat.add_zero, Nat.le_refl, Nat.zero_le, Int.reduceNeg, Int.reduceLE, Int.reduceLT, true_and, and_true, and_self, if_true, if_false, ite_true, ite_false, eq_self_iff_true, reduceIte, reduceCtorEq, not_false_eq_true, not_true_eq_false, or_true, true_or, or_false, false_or, Nat.lt_irrefl, Nat.zero_lt_succ]
  refine ⟨p, hp, rfl, rfl, FB_p hF, ?_⟩
  try simp only [dX11_person_0, dX11_person_1, FT_X11_30, dX11_person_4, dX11_person_5, xX11_person_c131, xX11_person_n131, dX11_person_8, xX11_person_t8, dX11_person_11, dX11_person_12, dX11_person_13, dX11_person_14, xX11_person_t14_46, xX11_person_t14_56, xX11_person_t14_65, xX11_person_t14_74, xX11_person_t14_83, xX11_person_t14_94, xX11_person_t14_105, xX11_person_t14_116, xX11_person_t14_127, am_ts, List.toList_toArray, List.size_toArray, dX11_person_60, dX11_person_61, FT_X11_37, dX11_person_64, dX11_person_65, dX11_person_66, xX11_person_c135, xX11_person_n135, dX11_person_69, dX11_person_70, dX11_person_71, dX11_person_74, dX11_person_75, xX11_person_c139, xX11_person_n139, dX11_person_78, dX11_person_79, dX11_person_80, dX11_person_83, dX11_person_84, xX11_person_c143, xX11_person_n143, dX11_person_87, dX11_person_88, dX11_person_89, dX11_person_92, dX11_person_93, xX11_person_c146, xX11_person_n146, dX11_person_96, dX11_person_97, dX11_person_98, dX11_person_101, dX11_person_103, dX11_person_104, dX11_person_107, dX11_person_108, dX11_person_109, dX11_person_112, dX11_person_114, dX11_person_115, dX11_person_118, dX11_person_119, dX11_person_120, dX11_person_123, dX11_person_125, dX11_person_126, dX11_person_129, dX11_person_130, dX11_person_131, dX11_person_134, dX11_person_136, dX11_person_137, dX11_person_140, dX11_person_141, dX11_person_142, xX11_person_SH, xX11_person_KF, xX11_person_rt, xX11_person_FT, xX11_person_PT, xX11_person_CT, xX11_person_KT, xX11_person_LT, xX11_person_NT, o_aload_n, o_bipush, o_getfield, o_iconst, o_ifCond_ne, o_iload_n, o_invokevirtual, o_ireturn, o_tableswitch, SH_0, KF_0_4, SH_20, KF_0_5, SH_31, SH_3, SH_33, am_ty, am_vc, am_opt, am_cl, am_find, am_ldi, am_ldl, am_lda, am_v, am_1, am_1l, am_1a, am_2, am_2l, am_ix, am_ri, am_arr, am_pf, am_rc, am_mask, am_lg, am_av, am_nat, fv_0, fv_1, fv_2, fv_3, fw_0, fw_1, List.getElem?_cons_zero, List.getElem?_cons_succ, List.set_cons_zero, List.set_cons_succ, List.length_cons, List.length_nil, List.take_succ_cons, List.take_zero, List.drop_succ_cons, List.drop_zero, List.reverse_cons, List.reverse_nil, List.nil_append, List.cons_append, List.append_nil, List.map_cons, List.map_nil, List.sum_cons, List.sum_nil, Value.category, Option.toList_some, Option.toList_none, Nat.reduceAdd, Nat.reduceLT, Nat.reduceLeDiff, Nat.reduceEqDiff, Nat.reduceSub, Nat.add_zero, Nat.le_refl, Nat.zero_le, Int.reduceNeg, Int.reduceLE, Int.reduceLT, true_and, and_true, and_self, if_true, if_false, ite_true, ite_false, eq_self_iff_true, reduceIte, reduceCtorEq, not_false_eq_true, not_true_eq_false, or_true, true_or, or_false, false_or, Nat.lt_irrefl, Nat.zero_lt_succ]
  refine hA [] 4 _ _ _ _ _ ?_
  try simp only [dX11_person_0, dX11_person_1, FT_X11_30, dX11_person_4, dX11_person_5, xX11_person_c131, xX11_person_n131, dX11_person_8, xX11_person_t8, dX11_person_11, dX11_person_12, dX11_person_13, dX11_person_14, xX11_person_t14_46, xX11_person_t14_56, xX11_person_t14_65, xX11_person_t14_74, xX11_person_t14_83, xX11_person_t14_94, xX11_person_t14_105, xX11_person_t14_116, xX11_person_t14_127, am_ts, List.toList_toArray, List.size_toArray, dX11_person_60, dX11_person_61, FT_X11_37, dX11_person_64, dX11_person_65, dX11_person_66, xX11_person_c135, xX11_person_n135, dX11_person_69, dX11_person_70, dX11_person_71, dX11_person_74, dX11_person_75, xX11_person_c139, xX11_person_n139, dX11_person_78, dX11_person_79, dX11_person_80, dX11_person_83, dX11_person_84, xX11_person_c143, xX11_person_n143, dX11_person_87, dX11_person_88, dX11_person_89, dX11_person_92, dX11_person_93, xX11_person_c146, xX11_person_n146, dX11_person_96, dX11_person_97, dX11_person_98, dX11_person_101, dX11_person_103, dX11_person_104, dX11_person_107, dX11_person_108, dX11_person_109, dX11_person_112, dX11_person_114, dX11_person_115, dX11_person_118, dX11_person_119, dX11_person_120, dX11_person_123, dX11_person_125, dX11_person_126, dX11_person_129, dX11_person_130, dX11_person_131, dX11_person_134, dX11_person_136, dX11_person_137, dX11_person_140, dX11_person_141, dX11_person_142, xX11_person_SH, xX11_person_KF, xX11_person_rt, xX11_person_FT, xX11_person_PT, xX11_person_CT, xX11_person_KT, xX11_person_LT, xX11_person_NT, o_aload_n, o_bipush, o_getfield, o_iconst, o_ifCond_ne, o_iload_n, o_invokevirtual, o_ireturn, o_tableswitch, SH_0, KF_0_4, SH_20, KF_0_5, SH_31, SH_3, SH_33, am_ty, am_vc, am_opt, am_cl, am_find, am_ldi, am_ldl, am_lda, am_v, am_1, am_1l, am_1a, am_2, am_2l, am_ix, am_ri, am_arr, am_pf, am_rc, am_mask, am_lg, am_av, am_nat, fv_0, fv_1, fv_2, fv_3, fw_0, fw_1, List.getElem?_cons_zero, List.getElem?_cons_succ, List.set_cons_zero, List.set_cons_succ, List.length_cons, List.length_nil, List.take_succ_cons, List.take_zero, List.drop_succ_cons, List.drop_zero, List.reverse_cons, List.reverse_nil, List.nil_append, List.cons_append, List.append_nil, List.map_cons, List.map_nil, List.sum_cons, List.sum_nil, Value.category, Option.toList_some, Option.toList_none, Nat.reduceAdd, Nat.reduceLT, Nat.reduceLeDiff, Nat.reduceEqDiff, Nat.reduceSub, Nat.add_zero, Nat.le_refl, Nat.zero_le, Int.reduceNeg, Int.reduceLE, Int.reduceLT, true_and, and_true, and_self, if_true, if_false, ite_true, ite_false, eq_self_iff_true, reduceIte, reduceCtorEq, not_false_eq_true, not_true_eq_false, or_true, true_or, or_false, false_or, Nat.lt_irrefl, Nat.zero_lt_succ]
  try simp (disch := omega) only [ii_0, ii_1, ii_t, ii_add, ii_sub, ii_mul, ii_lt, ii_le, ii_eq, ij_in, ii_c, Int.toNat_natCast, Int.toNat_zero, Int.reduceToNat, Int.reduceEq, Int.reduceNe, Int.reduceLE, Int.reduceLT, Int.reduceAdd, Int.reduceSub, Int.reduceMul, Int.reduceNeg, Nat.reduceLT, Nat.reduceAdd, Nat.reduceMul, not_false_eq_true, not_true_eq_false, true_and, and_true, and_self, false_and, and_false, true_implies, false_implies, implies_true, forall_const, if_true, if_false, ite_true, ite_false, reduceIte, eq_self_iff_true, Int.natCast_nonneg, Int.zero_add, Int.add_zero, pi_s, pi_n]
  exact h
theorem mX11_person (l : Launch) : am_M l TB NB vwCl SH KF yX11_person cX11_person 3 (some .int) 4 0 0 sX11_person := by
  refine am_M.of xX11_person (by decide +kernel) TB_good GF rfl rfl rfl (by decide) ⟨FT_X11_ok, PT_X11_ok _, CT_X11_ok, KT_X11_ok, LT_X11_ok, NT_X11_ok, ?_⟩ pX11_person
  exact List.forall_mem_cons.mpr ⟨⟨yX9_hasPerson, cX9_hasPerson, 2, (some .boolean), 2, 1, mX9_hasPerson l, by decide, by decide, tb_at 698 (by decide +kernel) (by decide +kernel), tb_at 105 (by decide +kernel) (by decide +kernel), ⟨by decide +kernel, by decide +kernel, by decide +kernel⟩, rfl, tb_at 695 (by decide +kernel) (by decide +kernel), tb_at 696 (by decide +kernel) (by decide +kernel), ⟨(RX9, TX9, 8), rfl, tb_at 697 (by decide +kernel) (by decide +kernel)⟩⟩, List.forall_mem_cons.mpr ⟨⟨yX4_of, cX4_of, 3, (some .int), 3, 2, mX4_of l, by decide, by decide, tb_at 702 (by decide +kernel) (by decide +kernel), tb_at 112 (by decide +kernel) (by decide +kernel), ⟨by decide +kernel, by decide +kernel, by decide +kernel⟩, rfl, tb_at 699 (by decide +kernel) (by decide +kernel), tb_at 700 (by decide +kernel) (by decide +kernel), ⟨(RX4, TX4, 1), rfl, tb_at 701 (by decide +kernel) (by decide +kernel)⟩⟩, List.forall_mem_cons.mpr ⟨⟨yX9_widthOf, cX9_widthOf, 2, (some .int), 3, 1, mX9_widthOf l, by decide, by decide, tb_at 707 (by decide +kernel) (by decide +kernel), tb_at 105 (by decide +kernel) (by decide +kernel), ⟨by decide +kernel, by decide +kernel, by decide +kernel⟩, rfl, tb_at 704 (by decide +kernel) (by decide +kernel), tb_at 705 (by decide +kernel) (by decide +kernel), ⟨(RX9, TX9, 8), rfl, tb_at 706 (by decide +kernel) (by decide +kernel)⟩⟩, List.forall_mem_cons.mpr ⟨⟨yX9_temperOf, cX9_temperOf, 2, (some .int), 3, 1, mX9_temperOf l, by decide, by decide, tb_at 711 (by decide +kernel) (by decide +kernel), tb_at 105 (by decide +kernel) (by decide +kernel), ⟨by decide +kernel, by decide +kernel, by decide +kernel⟩, rfl, tb_at 708 (by decide +kernel) (by decide +kernel), tb_at 709 (by decide +kernel) (by decide +kernel), ⟨(RX9, TX9, 8), rfl, tb_at 710 (by decide +kernel) (by decide +kernel)⟩⟩, List.forall_mem_cons.mpr ⟨⟨yX9_thirstOf, cX9_thirstOf, 2, (some .int), 3, 1, mX9_thirstOf l, by decide, by decide, tb_at 715 (by decide +kernel) (by decide +kernel), tb_at 105 (by decide +kernel) (by decide +kernel), ⟨by decide +kernel, by decide +kernel, by decide +kernel⟩, rfl, tb_at 712 (by decide +kernel) (by decide +kernel), tb_at 713 (by decide +kernel) (by decide +kernel), ⟨(RX9, TX9, 8), rfl, tb_at 714 (by decide +kernel) (by decide +kernel)⟩⟩, fun _ h => absurd h List.not_mem_nil⟩⟩⟩⟩⟩

def sX11_areThere : am_Sp := fun as n σ post => ∃ (p c mn : Int), (-2147483648 ≤ p ∧ p < 2147483648) ∧ (-2147483648 ≤ c ∧ c < 2147483648) ∧ n = 92 ∧ as = [.ref 0, .int (Int32.ofInt p), .int (Int32.ofInt c)] ∧ FB mn σ ∧ post (some (.int (Int32.ofInt 0))) σ
def xX11_areThere : am_X := (SH, KF, (some .boolean), FT_X11, PT_X11, CT_X11, KT_X11, LT_X11, NT_X11, [(131, 0, 2, 9, 0, 0, sX9_hasPerson), (149, 0, 2, 9, 0, 0, sX9_hasRung)])
theorem xX11_areThere_SH : am_SH xX11_areThere = SH := rfl
theorem xX11_areThere_KF : am_KF xX11_areThere = KF := rfl
theorem xX11_areThere_rt : am_rt xX11_areThere = (some .boolean) := rfl
theorem xX11_areThere_FT : am_FT xX11_areThere = FT_X11 := rfl
theorem xX11_areThere_PT : am_PT xX11_areThere = PT_X11 := rfl
theorem xX11_areThere_CT : am_CT xX11_areThere = CT_X11 := rfl
theorem xX11_areThere_KT : am_KT xX11_areThere = KT_X11 := rfl
theorem xX11_areThere_LT : am_LT xX11_areThere = LT_X11 := rfl
theorem xX11_areThere_NT : am_NT xX11_areThere = NT_X11 := rfl
theorem xX11_areThere_c131 : am_find (am_ML xX11_areThere) 131 = some (0, 2, 9, 0, 0, sX9_hasPerson) := rfl
theorem xX11_areThere_n131 : am_find NT_X11 131 = none := rfl
theorem xX11_areThere_c149 : am_find (am_ML xX11_areThere) 149 = some (0, 2, 9, 0, 0, sX9_hasRung) := rfl
theorem xX11_areThere_n149 : am_find NT_X11 149 = none := rfl
theorem xX11_areThere_t8 (k : Nat → Prop) : am_tg 8 (18) k = k 26 := am_tg_eq (by decide)
theorem xX11_areThere_t19 (k : Nat → Prop) : am_tg 19 (7) k = k 26 := am_tg_eq (by decide)
theorem xX11_areThere_t23 (k : Nat → Prop) : am_tg 23 (4) k = k 27 := am_tg_eq (by decide)

set_option maxRecDepth 100000 in
theorem pX11_areThere : am_B cX11_areThere xX11_areThere 3 0 sX11_areThere := by
  intro n0 as σ post AA hA h
  obtain ⟨p, c, mn, hp, hc, rfl, rfl, hF, h⟩ := h
  refine ⟨by simp [am_sl, Value.category], ?_⟩
  show AA 0 [some (.ref 0), some (.int (Int32.ofInt p)), some (.int (Int32.ofInt c))] [] 92 σ
  refine hA [] 40 _ _ _ _ _ ?_
  try simp only [dX11_areThere_0, dX11_areThere_1, FT_X11_30, dX11_areThere_4, dX11_areThere_5, xX11_areThere_c131, xX11_areThere_n131, dX11_areThere_8, xX11_areThere_t8, dX11_areThere_11, dX11_areThere_12, dX11_areThere_15, dX11_areThere_16, xX11_areThere_c149, xX11_areThere_n149, dX11_areThere_19, xX11_areThere_t19, dX11_areThere_22, dX11_areThere_23, xX11_areThere_t23, dX11_areThere_26, dX11_areThere_27, xX11_areThere_SH, xX11_areThere_KF, xX11_areThere_rt, xX11_areThere_FT, xX11_areThere_PT, xX11_areThere_CT, xX11_areThere_KT, xX11_areThere_LT, xX11_areThere_NT, o_aload_n, o_getfield, o_goto, o_iconst, o_ifCond_eq, o_iload_n, o_invokevirtual, o_ireturn, SH_0, KF_0_4, SH_20, SH_3, am_ty, am_vc, am_opt, am_cl, am_find, am_ldi, am_ldl, am_lda, am_v, am_1, am_1l, am_1a, am_2, am_2l, am_ix, am_ri, am_arr, am_pf, am_rc, am_mask, am_lg, am_av, am_nat, fv_0, fv_1, fv_2, fv_3, fw_0, fw_1, List.getElem?_cons_zero, List.getElem?_cons_succ, List.set_cons_zero, List.set_cons_succ, List.length_cons, List.length_nil, List.take_succ_cons, List.take_zero, List.drop_succ_cons, List.drop_zero, List.reverse_cons, List.reverse_nil, List.nil_append, List.cons_append, List.append_nil, List.map_cons, List.map_nil, List.sum_cons, List.sum_nil, Value.category, Option.toList_some, Option.toList_none, Nat.reduceAdd, Nat.reduceLT, Nat.reduceLeDiff, Nat.reduceEqDiff, Nat.reduceSub, Nat.add_zero, Nat.le_refl, Nat.zero_le, Int.reduceNeg, Int.reduceLE, Int.reduceLT, true_and, and_true, and_self, if_true, if_false, ite_true, ite_false, eq_self_iff_true, reduceIte, reduceCtorEq, not_false_eq_true, not_true_eq_false, or_true, true_or, or_false, false_or, Nat.lt_irrefl, Nat.zero_lt_succ, nb_0]
  refine ⟨p, hp, rfl, rfl, FB_p hF, ?_⟩
  try simp only [dX11_areThere_0, dX11_areThere_1, FT_X11_30, dX11_areThere_4, dX11_areThere_5, xX11_areThere_c131, xX11_areThere_n131, dX11_areThere_8, xX11_areThere_t8, dX11_areThere_11, dX11_areThere_12, dX11_areThere_15, dX11_areThere_16, xX11_areThere_c149, xX11_areThere_n149, dX11_areThere_19, xX11_areThere_t19, dX11_areThere_22, dX11_areThere_23, xX11_areThere_t23, dX11_areThere_26, dX11_areThere_27, xX11_areThere_SH, xX11_areThere_KF, xX11_areThere_rt, xX11_areThere_FT, xX11_areThere_PT, xX11_areThere_CT, xX11_areThere_KT, xX11_areThere_LT, xX11_areThere_NT, o_aload_n, o_getfield, o_goto, o_iconst, o_ifCond_eq, o_iload_n, o_invokevirtual, o_ireturn, SH_0, KF_0_4, SH_20, SH_3, am_ty, am_vc, am_opt, am_cl, am_find, am_ldi, am_ldl, am_lda, am_v, am_1, am_1l, am_1a, am_2, am_2l, am_ix, am_ri, am_arr, am_pf, am_rc, am_mask, am_lg, am_av, am_nat, fv_0, fv_1, fv_2, fv_3, fw_0, fw_1, List.getElem?_cons_zero, List.getElem?_cons_succ, List.set_cons_zero, List.set_cons_succ, List.length_cons, List.length_nil, List.take_succ_cons, List.take_zero, List.drop_succ_cons, List.drop_zero, List.reverse_cons, List.reverse_nil, List.nil_append, List.cons_append, List.append_nil, List.map_cons, List.map_nil, List.sum_cons, List.sum_nil, Value.category, Option.toList_some, Option.toList_none, Nat.reduceAdd, Nat.reduceLT, Nat.reduceLeDiff, Nat.reduceEqDiff, Nat.reduceSub, Nat.add_zero, Nat.le_refl, Nat.zero_le, Int.reduceNeg, Int.reduceLE, Int.reduceLT, true_and, and_true, and_self, if_true, if_false, ite_true, ite_false, eq_self_iff_true, reduceIte, reduceCtorEq, not_false_eq_true, not_true_eq_false, or_true, true_or, or_false, false_or, Nat.lt_irrefl, Nat.zero_lt_succ, nb_0]
  try simp (disch := omega) only [ii_0, ii_1, ii_t, ii_add, ii_sub, ii_mul, ii_lt, ii_le, ii_eq, ij_in, ii_c, Int.toNat_natCast, Int.toNat_zero, Int.reduceToNat, Int.reduceEq, Int.reduceNe, Int.reduceLE, Int.reduceLT, Int.reduceAdd, Int.reduceSub, Int.reduceMul, Int.reduceNeg, Nat.reduceLT, Nat.reduceAdd, Nat.reduceMul, not_false_eq_true, not_true_eq_false, true_and, and_true, and_self, false_and, and_false, true_implies, false_implies, implies_true, forall_const, if_true, if_false, ite_true, ite_false, reduceIte, eq_self_iff_true, Int.natCast_nonneg, Int.zero_add, Int.add_zero, pi_s, pi_n, nb_0]
  exact h
theorem mX11_areThere (l : Launch) : am_M l TB NB vwCl SH KF yX11_areThere cX11_areThere 3 (some .boolean) 3 0 0 sX11_areThere := by
  refine am_M.of xX11_areThere (by decide +kernel) TB_good GF rfl rfl rfl (by decide) ⟨FT_X11_ok, PT_X11_ok _, CT_X11_ok, KT_X11_ok, LT_X11_ok, NT_X11_ok, ?_⟩ pX11_areThere
  exact List.forall_mem_cons.mpr ⟨⟨yX9_hasPerson, cX9_hasPerson, 2, (some .boolean), 2, 1, mX9_hasPerson l, by decide, by decide, tb_at 698 (by decide +kernel) (by decide +kernel), tb_at 105 (by decide +kernel) (by decide +kernel), ⟨by decide +kernel, by decide +kernel, by decide +kernel⟩, rfl, tb_at 695 (by decide +kernel) (by decide +kernel), tb_at 696 (by decide +kernel) (by decide +kernel), ⟨(RX9, TX9, 8), rfl, tb_at 697 (by decide +kernel) (by decide +kernel)⟩⟩, List.forall_mem_cons.mpr ⟨⟨yX9_hasRung, cX9_hasRung, 2, (some .boolean), 2, 1, mX9_hasRung l, by decide, by decide, tb_at 662 (by decide +kernel) (by decide +kernel), tb_at 105 (by decide +kernel) (by decide +kernel), ⟨by decide +kernel, by decide +kernel, by decide +kernel⟩, rfl, tb_at 720 (by decide +kernel) (by decide +kernel), tb_at 660 (by decide +kernel) (by decide +kernel), ⟨(RX9, TX9, 8), rfl, tb_at 661 (by decide +kernel) (by decide +kernel)⟩⟩, fun _ h => absurd h List.not_mem_nil⟩⟩

def sX11_areTwo : am_Sp := fun as n σ post => ∃ (p c mn : Int), (-2147483648 ≤ p ∧ p < 2147483648) ∧ (-2147483648 ≤ c ∧ c < 2147483648) ∧ n = 92 ∧ as = [.ref 0, .int (Int32.ofInt p), .int (Int32.ofInt c)] ∧ FB mn σ ∧ post (some (.int (Int32.ofInt 0))) σ
def xX11_areTwo : am_X := (SH, KF, (some .boolean), FT_X11, PT_X11, CT_X11, KT_X11, LT_X11, NT_X11, [(131, 0, 2, 9, 0, 0, sX9_hasPerson)])
theorem xX11_areTwo_SH : am_SH xX11_areTwo = SH := rfl
theorem xX11_areTwo_KF : am_KF xX11_areTwo = KF := rfl
theorem xX11_areTwo_rt : am_rt xX11_areTwo = (some .boolean) := rfl
theorem xX11_areTwo_FT : am_FT xX11_areTwo = FT_X11 := rfl
theorem xX11_areTwo_PT : am_PT xX11_areTwo = PT_X11 := rfl
theorem xX11_areTwo_CT : am_CT xX11_areTwo = CT_X11 := rfl
theorem xX11_areTwo_KT : am_KT xX11_areTwo = KT_X11 := rfl
theorem xX11_areTwo_LT : am_LT xX11_areTwo = LT_X11 := rfl
theorem xX11_areTwo_NT : am_NT xX11_areTwo = NT_X11 := rfl
theorem xX11_areTwo_c131 : am_find (am_ML xX11_areTwo) 131 = some (0, 2, 9, 0, 0, sX9_hasPerson) := rfl
theorem xX11_areTwo_n131 : am_find NT_X11 131 = none := rfl
theorem xX11_areTwo_t8 (k : Nat → Prop) : am_tg 8 (23) k = k 31 := am_tg_eq (by decide)
theorem xX11_areTwo_t19 (k : Nat → Prop) : am_tg 19 (12) k = k 31 := am_tg_eq (by decide)
theorem xX11_areTwo_t24 (k : Nat → Prop) : am_tg 24 (7) k = k 31 := am_tg_eq (by decide)
theorem xX11_areTwo_t28 (k : Nat → Prop) : am_tg 28 (4) k = k 32 := am_tg_eq (by decide)

set_option maxRecDepth 100000 in
theorem pX11_areTwo : am_B cX11_areTwo xX11_areTwo 3 0 sX11_areTwo := by
  intro n0 as σ post AA hA h
  obtain ⟨p, c, mn, hp, hc, rfl, rfl, hF, h⟩ := h
  refine ⟨by simp [am_sl, Value.category], ?_⟩
  show AA 0 [some (.ref 0), some (.int (Int32.ofInt p)), some (.int (Int32.ofInt c))] [] 92 σ
  refine hA [] 40 _ _ _ _ _ ?_
  try simp only [dX11_areTwo_0, dX11_areTwo_1, FT_X11_30, dX11_areTwo_4, dX11_areTwo_5, xX11_areTwo_c131, xX11_areTwo_n131, dX11_areTwo_8, xX11_areTwo_t8, dX11_areTwo_11, dX11_areTwo_12, dX11_areTwo_15, dX11_areTwo_16, dX11_areTwo_19, xX11_areTwo_t19, dX11_areTwo_22, dX11_areTwo_23, dX11_areTwo_24, xX11_areTwo_t24, dX11_areTwo_27, dX11_areTwo_28, xX11_areTwo_t28, dX11_areTwo_31, dX11_areTwo_32, xX11_areTwo_SH, xX11_areTwo_KF, xX11_areTwo_rt, xX11_areTwo_FT, xX11_areTwo_PT, xX11_areTwo_CT, xX11_areTwo_KT, xX11_areTwo_LT, xX11_areTwo_NT, o_aload_n, o_getfield, o_goto, o_iconst, o_ifCond_eq, o_if_icmp_eq, o_iload_n, o_invokevirtual, o_ireturn, SH_0, KF_0_4, SH_20, SH_3, am_ty, am_vc, am_opt, am_cl, am_find, am_ldi, am_ldl, am_lda, am_v, am_1, am_1l, am_1a, am_2, am_2l, am_ix, am_ri, am_arr, am_pf, am_rc, am_mask, am_lg, am_av, am_nat, fv_0, fv_1, fv_2, fv_3, fw_0, fw_1, List.getElem?_cons_zero, List.getElem?_cons_succ, List.set_cons_zero, List.set_cons_succ, List.length_cons, List.length_nil, List.take_succ_cons, List.take_zero, List.drop_succ_cons, List.drop_zero, List.reverse_cons, List.reverse_nil, List.nil_append, List.cons_append, List.append_nil, List.map_cons, List.map_nil, List.sum_cons, List.sum_nil, Value.category, Option.toList_some, Option.toList_none, Nat.reduceAdd, Nat.reduceLT, Nat.reduceLeDiff, Nat.reduceEqDiff, Nat.reduceSub, Nat.add_zero, Nat.le_refl, Nat.zero_le, Int.reduceNeg, Int.reduceLE, Int.reduceLT, true_and, and_true, and_self, if_true, if_false, ite_true, ite_false, eq_self_iff_true, reduceIte, reduceCtorEq, not_false_eq_true, not_true_eq_false, or_true, true_or, or_false, false_or, Nat.lt_irrefl, Nat.zero_lt_succ, nb_0]
  refine ⟨p, hp, rfl, rfl, FB_p hF, ?_⟩
  try simp only [dX11_areTwo_0, dX11_areTwo_1, FT_X11_30, dX11_areTwo_4, dX11_areTwo_5, xX11_areTwo_c131, xX11_areTwo_n131, dX11_areTwo_8, xX11_areTwo_t8, dX11_areTwo_11, dX11_areTwo_12, dX11_areTwo_15, dX11_areTwo_16, dX11_areTwo_19, xX11_areTwo_t19, dX11_areTwo_22, dX11_areTwo_23, dX11_areTwo_24, xX11_areTwo_t24, dX11_areTwo_27, dX11_areTwo_28, xX11_areTwo_t28, dX11_areTwo_31, dX11_areTwo_32, xX11_areTwo_SH, xX11_areTwo_KF, xX11_areTwo_rt, xX11_areTwo_FT, xX11_areTwo_PT, xX11_areTwo_CT, xX11_areTwo_KT, xX11_areTwo_LT, xX11_areTwo_NT, o_aload_n, o_getfield, o_goto, o_iconst, o_ifCond_eq, o_if_icmp_eq, o_iload_n, o_invokevirtual, o_ireturn, SH_0, KF_0_4, SH_20, SH_3, am_ty, am_vc, am_opt, am_cl, am_find, am_ldi, am_ldl, am_lda, am_v, am_1, am_1l, am_1a, am_2, am_2l, am_ix, am_ri, am_arr, am_pf, am_rc, am_mask, am_lg, am_av, am_nat, fv_0, fv_1, fv_2, fv_3, fw_0, fw_1, List.getElem?_cons_zero, List.getElem?_cons_succ, List.set_cons_zero, List.set_cons_succ, List.length_cons, List.length_nil, List.take_succ_cons, List.take_zero, List.drop_succ_cons, List.drop_zero, List.reverse_cons, List.reverse_nil, List.nil_append, List.cons_append, List.append_nil, List.map_cons, List.map_nil, List.sum_cons, List.sum_nil, Value.category, Option.toList_some, Option.toList_none, Nat.reduceAdd, Nat.reduceLT, Nat.reduceLeDiff, Nat.reduceEqDiff, Nat.reduceSub, Nat.add_zero, Nat.le_refl, Nat.zero_le, Int.reduceNeg, Int.reduceLE, Int.reduceLT, true_and, and_true, and_self, if_true, if_false, ite_true, ite_false, eq_self_iff_true, reduceIte, reduceCtorEq, not_false_eq_true, not_true_eq_false, or_true, true_or, or_false, false_or, Nat.lt_irrefl, Nat.zero_lt_succ, nb_0]
  try simp (disch := omega) only [ii_0, ii_1, ii_t, ii_add, ii_sub, ii_mul, ii_lt, ii_le, ii_eq, ij_in, ii_c, Int.toNat_natCast, Int.toNat_zero, Int.reduceToNat, Int.reduceEq, Int.reduceNe, Int.reduceLE, Int.reduceLT, Int.reduceAdd, Int.reduceSub, Int.reduceMul, Int.reduceNeg, Nat.reduceLT, Nat.reduceAdd, Nat.reduceMul, not_false_eq_true, not_true_eq_false, true_and, and_true, and_self, false_and, and_false, true_implies, false_implies, implies_true, forall_const, if_true, if_false, ite_true, ite_false, reduceIte, eq_self_iff_true, Int.natCast_nonneg, Int.zero_add, Int.add_zero, pi_s, pi_n, nb_0]
  exact h
theorem mX11_areTwo (l : Launch) : am_M l TB NB vwCl SH KF yX11_areTwo cX11_areTwo 3 (some .boolean) 3 0 0 sX11_areTwo := by
  refine am_M.of xX11_areTwo (by decide +kernel) TB_good GF rfl rfl rfl (by decide) ⟨FT_X11_ok, PT_X11_ok _, CT_X11_ok, KT_X11_ok, LT_X11_ok, NT_X11_ok, ?_⟩ pX11_areTwo
  exact List.forall_mem_cons.mpr ⟨⟨yX9_hasPerson, cX9_hasPerson, 2, (some .boolean), 2, 1, mX9_hasPerson l, by decide, by decide, tb_at 698 (by decide +kernel) (by decide +kernel), tb_at 105 (by decide +kernel) (by decide +kernel), ⟨by decide +kernel, by decide +kernel, by decide +kernel⟩, rfl, tb_at 695 (by decide +kernel) (by decide +kernel), tb_at 696 (by decide +kernel) (by decide +kernel), ⟨(RX9, TX9, 8), rfl, tb_at 697 (by decide +kernel) (by decide +kernel)⟩⟩, fun _ h => absurd h List.not_mem_nil⟩

-- the Shelf
def sX4_copyTo : am_Sp := fun as n σ post => ∃ (o L : Nat) (f : Int), o < 92 ∧ SH o = .inr (0, L) ∧ 40 ≤ L ∧ L < 10000 ∧ 0 ≤ f ∧ f + 40 ≤ L ∧ n = 92 ∧ as = [.ref 31, .ref o, .int (Int32.ofInt f)] ∧ (∀ τ : am_S, (∀ o' k, ¬ o' = o → τ.1 o' k = σ.1 o' k) → τ.2 = σ.2 → post none τ)
def xX4_copyTo : am_X := (SH, KF, none, FT_X4, PT_X4, CT_X4, KT_X4, LT_X4, NT_X4, [])
theorem xX4_copyTo_SH : am_SH xX4_copyTo = SH := rfl
theorem xX4_copyTo_KF : am_KF xX4_copyTo = KF := rfl
theorem xX4_copyTo_rt : am_rt xX4_copyTo = none := rfl
theorem xX4_copyTo_FT : am_FT xX4_copyTo = FT_X4 := rfl
theorem xX4_copyTo_PT : am_PT xX4_copyTo = PT_X4 := rfl
theorem xX4_copyTo_CT : am_CT xX4_copyTo = CT_X4 := rfl
theorem xX4_copyTo_KT : am_KT xX4_copyTo = KT_X4 := rfl
theorem xX4_copyTo_LT : am_LT xX4_copyTo = LT_X4 := rfl
theorem xX4_copyTo_NT : am_NT xX4_copyTo = NT_X4 := rfl
theorem xX4_copyTo_t1 (k : Nat → Prop) : am_tg 1 (24) k = k 25 := am_tg_eq (by decide)
theorem xX4_copyTo_t10 (k : Nat → Prop) : am_tg 10 (15) k = k 25 := am_tg_eq (by decide)

set_option maxRecDepth 100000 in
theorem pX4_copyTo : am_B cX4_copyTo xX4_copyTo 3 0 sX4_copyTo := by
  intro n0 as σ post AA hA h
  obtain ⟨o, L, f, ho, hs, hL, hL2, hf, hf2, rfl, rfl, h⟩ := h
  refine ⟨by simp [am_sl, Value.category], ?_⟩
  show AA 0 [some (.ref 31), some (.ref o), some (.int (Int32.ofInt f))] [] 92 σ
  refine hA [] 40 _ _ _ _ _ ?_
  try simp only [dX4_copyTo_0, dX4_copyTo_1, xX4_copyTo_t1, dX4_copyTo_4, dX4_copyTo_5, dX4_copyTo_6, dX4_copyTo_7, dX4_copyTo_9, dX4_copyTo_10, xX4_copyTo_t10, dX4_copyTo_13, dX4_copyTo_14, FT_X4_11, dX4_copyTo_17, dX4_copyTo_18, dX4_copyTo_19, dX4_copyTo_20, dX4_copyTo_22, NT_X4, dX4_copyTo_25, xX4_copyTo_SH, xX4_copyTo_KF, xX4_copyTo_rt, xX4_copyTo_FT, xX4_copyTo_PT, xX4_copyTo_CT, xX4_copyTo_KT, xX4_copyTo_LT, xX4_copyTo_NT, o_aload_n, o_arraylength, o_bipush, o_getfield, o_iconst, o_ifCond_lt, o_if_icmp_gt, o_iload_n, o_invokestatic, o_isub, o_return_, SH_31, KF_31_0, SH_32, SH_33, KF_33_0, SH_34, am_ty, am_vc, am_opt, am_cl, am_find, am_ldi, am_ldl, am_lda, am_v, am_1, am_1l, am_1a, am_2, am_2l, am_ix, am_ri, am_arr, am_pf, am_rc, am_mask, am_lg, am_av, am_nat, fv_0, fv_1, fv_2, fv_3, fw_0, fw_1, List.getElem?_cons_zero, List.getElem?_cons_succ, List.set_cons_zero, List.set_cons_succ, List.length_cons, List.length_nil, List.take_succ_cons, List.take_zero, List.drop_succ_cons, List.drop_zero, List.reverse_cons, List.reverse_nil, List.nil_append, List.cons_append, List.append_nil, List.map_cons, List.map_nil, List.sum_cons, List.sum_nil, Value.category, Option.toList_some, Option.toList_none, Nat.reduceAdd, Nat.reduceLT, Nat.reduceLeDiff, Nat.reduceEqDiff, Nat.reduceSub, Nat.add_zero, Nat.le_refl, Nat.zero_le, Int.reduceNeg, Int.reduceLE, Int.reduceLT, true_and, and_true, and_self, if_true, if_false, ite_true, ite_false, eq_self_iff_true, reduceIte, reduceCtorEq, not_false_eq_true, not_true_eq_false, or_true, true_or, or_false, false_or, Nat.lt_irrefl, Nat.zero_lt_succ, hs, on_i, ho]
  try simp (disch := omega) only [ii_0, ii_1, ii_t, ii_add, ii_sub, ii_mul, ii_lt, ii_le, ii_eq, ij_in, ii_c, Int.toNat_natCast, Int.toNat_zero, Int.reduceToNat, Int.reduceEq, Int.reduceNe, Int.reduceLE, Int.reduceLT, Int.reduceAdd, Int.reduceSub, Int.reduceMul, Int.reduceNeg, Nat.reduceLT, Nat.reduceAdd, Nat.reduceMul, not_false_eq_true, not_true_eq_false, true_and, and_true, and_self, false_and, and_false, true_implies, false_implies, implies_true, forall_const, if_true, if_false, ite_true, ite_false, reduceIte, eq_self_iff_true, Int.natCast_nonneg, Int.zero_add, Int.add_zero, pi_s, pi_n, on_i, ho]
  refine ⟨fun q => absurd q (by omega), fun _ => ⟨fun q => absurd q (by omega), fun _ => ⟨by omega, by decide, by omega, h _ (fun o' k q => ?_) rfl⟩⟩⟩
  show (if o' = o then _ else _) = _
  rw [if_neg q]
theorem mX4_copyTo (l : Launch) : am_M l TB NB vwCl SH KF yX4_copyTo cX4_copyTo 3 none 2 0 0 sX4_copyTo := by
  refine am_M.of xX4_copyTo (by decide +kernel) TB_good GF rfl rfl rfl (by decide) ⟨FT_X4_ok, PT_X4_ok _, CT_X4_ok, KT_X4_ok, LT_X4_ok, NT_X4_ok, ?_⟩ pX4_copyTo
  exact fun _ h => absurd h List.not_mem_nil

