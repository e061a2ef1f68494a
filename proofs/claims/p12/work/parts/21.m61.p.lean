/-! THE CLASS NEWLY MADE, AND ONE CALL ON IT (for p1): what is as it was at first, as far as the short methods ask. -/
def c0w (k : Nat) : Int := if 8 ≤ k ∧ k < 13 then -2 else 0
theorem on_i (L : Nat) : Int32.ofNat L = Int32.ofInt (L : Int) := rfl
-- at(row, i)
def sX11_at : am_Sp := fun as n σ post => ∃ (o L : Nat) (i : Int), o < 92 ∧ (-2147483648 ≤ i ∧ i < 2147483648) ∧ SH o = .inr (0, L) ∧ L < 2147483648 ∧ n = 92 ∧ as = [.ref o, .int (Int32.ofInt i)] ∧ post (some (.int (if 0 ≤ i ∧ i.toNat < L then σ.1 o i.toNat else Int32.ofInt 0))) σ
def xX11_at : am_X := (SH, KF, (some .int), FT_X11, PT_X11, CT_X11, KT_X11, LT_X11, NT_X11, [])
theorem xX11_at_SH : am_SH xX11_at = SH := rfl
theorem xX11_at_KF : am_KF xX11_at = KF := rfl
theorem xX11_at_rt : am_rt xX11_at = (some .int) := rfl
theorem xX11_at_FT : am_FT xX11_at = FT_X11 := rfl
theorem xX11_at_PT : am_PT xX11_at = PT_X11 := rfl
theorem xX11_at_CT : am_CT xX11_at = CT_X11 := rfl
theorem xX11_at_KT : am_KT xX11_at = KT_X11 := rfl
theorem xX11_at_LT : am_LT xX11_at = LT_X11 := rfl
theorem xX11_at_NT : am_NT xX11_at = NT_X11 := rfl
theorem xX11_at_t1 (k : Nat → Prop) : am_tg 1 (15) k = k 16 := am_tg_eq (by decide)
theorem xX11_at_t7 (k : Nat → Prop) : am_tg 7 (9) k = k 16 := am_tg_eq (by decide)
theorem xX11_at_t13 (k : Nat → Prop) : am_tg 13 (4) k = k 17 := am_tg_eq (by decide)

set_option maxRecDepth 100000 in
theorem pX11_at : am_B cX11_at xX11_at 2 0 sX11_at := by
  intro n0 as σ post AA hA h
  obtain ⟨o, L, i, ho, hi, hs, hL, rfl, rfl, h⟩ := h
  refine ⟨by simp [am_sl, Value.category], ?_⟩
  show AA 0 [some (.ref o), some (.int (Int32.ofInt i))] [] 92 σ
  refine hA [] 40 _ _ _ _ _ ?_
  try simp only [dX11_at_0, dX11_at_1, xX11_at_t1, dX11_at_4, dX11_at_5, dX11_at_6, dX11_at_7, xX11_at_t7, dX11_at_10, dX11_at_11, dX11_at_12, dX11_at_13, xX11_at_t13, dX11_at_16, dX11_at_17, xX11_at_SH, xX11_at_KF, xX11_at_rt, xX11_at_FT, xX11_at_PT, xX11_at_CT, xX11_at_KT, xX11_at_LT, xX11_at_NT, o_aload_n, o_arraylength, o_goto, o_iaload, o_iconst, o_ifCond_lt, o_if_icmp_ge, o_iload_n, o_ireturn, am_ty, am_vc, am_opt, am_cl, am_find, am_ldi, am_ldl, am_lda, am_v, am_1, am_1l, am_1a, am_2, am_2l, am_ix, am_ri, am_arr, am_pf, am_rc, am_mask, am_lg, am_av, am_nat, fv_0, fv_1, fv_2, fv_3, fw_0, fw_1, List.getElem?_cons_zero, List.getElem?_cons_succ, List.set_cons_zero, List.set_cons_succ, List.length_cons, List.length_nil, List.take_succ_cons, List.take_zero, List.drop_succ_cons, List.drop_zero, List.reverse_cons, List.reverse_nil, List.nil_append, List.cons_append, List.append_nil, List.map_cons, List.map_nil, List.sum_cons, List.sum_nil, Value.category, Option.toList_some, Option.toList_none, Nat.reduceAdd, Nat.reduceLT, Nat.reduceLeDiff, Nat.reduceEqDiff, Nat.reduceSub, Nat.add_zero, Nat.le_refl, Nat.zero_le, Int.reduceNeg, Int.reduceLE, Int.reduceLT, true_and, and_true, and_self, if_true, if_false, ite_true, ite_false, eq_self_iff_true, reduceIte, reduceCtorEq, not_false_eq_true, not_true_eq_false, or_true, true_or, or_false, false_or, Nat.lt_irrefl, Nat.zero_lt_succ, hs, on_i, ho]
  try simp (disch := omega) only [ii_0, ii_1, ii_t, ii_add, ii_sub, ii_mul, ii_lt, ii_le, ii_eq, ij_in, ii_c, Int.toNat_natCast, Int.toNat_zero, Int.reduceToNat, Int.reduceEq, Int.reduceNe, Int.reduceLE, Int.reduceLT, Int.reduceAdd, Int.reduceSub, Int.reduceMul, Int.reduceNeg, Nat.reduceLT, Nat.reduceAdd, Nat.reduceMul, not_false_eq_true, not_true_eq_false, true_and, and_true, and_self, false_and, and_false, true_implies, false_implies, implies_true, forall_const, if_true, if_false, ite_true, ite_false, reduceIte, eq_self_iff_true, Int.natCast_nonneg, Int.zero_add, Int.add_zero, pi_s, pi_n, on_i, ho]
  refine ⟨fun h1 => ?_, fun h1 => ⟨fun h2 => ?_, fun h2 => ?_⟩⟩
  · rw [if_neg (by omega)] at h; exact h
  · rw [if_neg (by omega)] at h; exact h
  · rw [if_pos (by omega)] at h; refine ⟨⟨by omega, by omega⟩, ?_⟩; rw [ii_c (by omega) (by omega)]; exact h
theorem mX11_at (l : Launch) : am_M l TB NB vwCl SH KF yX11_at cX11_at 2 (some .int) 2 0 0 sX11_at := by
  refine am_M.of xX11_at (by decide +kernel) TB_good GF rfl rfl rfl (by decide) ⟨FT_X11_ok, PT_X11_ok _, CT_X11_ok, KT_X11_ok, LT_X11_ok, NT_X11_ok, ?_⟩ pX11_at
  exact fun _ h => absurd h List.not_mem_nil

-- hasBit(0, i): no bit
def sX11_isWithin : am_Sp := fun as n σ post => ∃ v a b : Int, (-2147483648 ≤ v ∧ v < 2147483648) ∧ (-2147483648 ≤ a ∧ a < 2147483648) ∧ (-2147483648 ≤ b ∧ b < 2147483648) ∧ n = 92 ∧ as = [.int (Int32.ofInt v), .int (Int32.ofInt a), .int (Int32.ofInt b)] ∧ post (some (.int (Int32.ofInt (if a ≤ v ∧ v ≤ b then 1 else 0)))) σ
def xX11_isWithin : am_X := (SH, KF, (some .boolean), FT_X11, PT_X11, CT_X11, KT_X11, LT_X11, NT_X11, [])
theorem xX11_isWithin_SH : am_SH xX11_isWithin = SH := rfl
theorem xX11_isWithin_KF : am_KF xX11_isWithin = KF := rfl
theorem xX11_isWithin_rt : am_rt xX11_isWithin = (some .boolean) := rfl
theorem xX11_isWithin_FT : am_FT xX11_isWithin = FT_X11 := rfl
theorem xX11_isWithin_PT : am_PT xX11_isWithin = PT_X11 := rfl
theorem xX11_isWithin_CT : am_CT xX11_isWithin = CT_X11 := rfl
theorem xX11_isWithin_KT : am_KT xX11_isWithin = KT_X11 := rfl
theorem xX11_isWithin_LT : am_LT xX11_isWithin = LT_X11 := rfl
theorem xX11_isWithin_NT : am_NT xX11_isWithin = NT_X11 := rfl
theorem xX11_isWithin_t2 (k : Nat → Prop) : am_tg 2 (12) k = k 14 := am_tg_eq (by decide)
theorem xX11_isWithin_t7 (k : Nat → Prop) : am_tg 7 (7) k = k 14 := am_tg_eq (by decide)
theorem xX11_isWithin_t11 (k : Nat → Prop) : am_tg 11 (4) k = k 15 := am_tg_eq (by decide)

set_option maxRecDepth 100000 in
theorem pX11_isWithin : am_B cX11_isWithin xX11_isWithin 3 0 sX11_isWithin := by
  intro n0 as σ post AA hA h
  obtain ⟨v, a, b, hv, ha, hb, rfl, rfl, h⟩ := h
  refine ⟨by simp [am_sl, Value.category], ?_⟩
  show AA 0 [some (.int (Int32.ofInt v)), some (.int (Int32.ofInt a)), some (.int (Int32.ofInt b))] [] 92 σ
  refine hA [] 40 _ _ _ _ _ ?_
  simp (disch := omega) only [dX11_isWithin_0, dX11_isWithin_1, dX11_isWithin_2, xX11_isWithin_t2, dX11_isWithin_5, dX11_isWithin_6, dX11_isWithin_7, xX11_isWithin_t7, dX11_isWithin_10, dX11_isWithin_11, xX11_isWithin_t11, dX11_isWithin_14, dX11_isWithin_15, xX11_isWithin_SH, xX11_isWithin_KF, xX11_isWithin_rt, xX11_isWithin_FT, xX11_isWithin_PT, xX11_isWithin_CT, xX11_isWithin_KT, xX11_isWithin_LT, xX11_isWithin_NT, o_goto, o_iconst, o_if_icmp_gt, o_if_icmp_lt, o_iload_n, o_ireturn, am_ty, am_vc, am_opt, am_cl, am_find, am_ldi, am_ldl, am_lda, am_v, am_1, am_1l, am_1a, am_2, am_2l, am_ix, am_ri, am_arr, am_pf, am_rc, am_mask, am_lg, am_av, am_nat, fv_0, fv_1, fv_2, fv_3, fw_0, fw_1, List.getElem?_cons_zero, List.getElem?_cons_succ, List.set_cons_zero, List.set_cons_succ, List.length_cons, List.length_nil, List.take_succ_cons, List.take_zero, List.drop_succ_cons, List.drop_zero, List.reverse_cons, List.reverse_nil, List.nil_append, List.cons_append, List.append_nil, List.map_cons, List.map_nil, List.sum_cons, List.sum_nil, Value.category, Option.toList_some, Option.toList_none, Nat.reduceAdd, Nat.reduceLT, Nat.reduceLeDiff, Nat.reduceEqDiff, Nat.reduceSub, Nat.add_zero, Nat.le_refl, Nat.zero_le, Int.reduceNeg, Int.reduceLE, Int.reduceLT, true_and, and_true, and_self, if_true, if_false, ite_true, ite_false, eq_self_iff_true, reduceIte, reduceCtorEq, not_false_eq_true, not_true_eq_false, or_true, true_or, or_false, false_or, Nat.lt_irrefl, Nat.zero_lt_succ, nb_0, nb_1, ii_lt, ii_le]
  repeat' (first | refine And.intro ?_ ?_ | intro _)
  all_goals (refine am_pe h ?_; (repeat' split) <;> omega)
theorem mX11_isWithin (l : Launch) : am_M l TB NB vwCl SH KF yX11_isWithin cX11_isWithin 3 (some .boolean) 2 0 0 sX11_isWithin := by
  refine am_M.of xX11_isWithin (by decide +kernel) TB_good GF rfl rfl rfl (by decide) ⟨FT_X11_ok, PT_X11_ok _, CT_X11_ok, KT_X11_ok, LT_X11_ok, NT_X11_ok, ?_⟩ pX11_isWithin
  exact fun _ h => absurd h List.not_mem_nil

-- Town's
-- Moment's: of what is now, and of what is later
def Mo (m : Nat) : Prop := m = 31 ∨ m = 33
def sX4_of : am_Sp := fun as n σ post => ∃ (m : Nat) (a i : Int), Mo m ∧ 0 ≤ a ∧ 0 ≤ i ∧ a + i < 40 ∧ n = 92 ∧ as = [.ref m, .int (Int32.ofInt a), .int (Int32.ofInt i)] ∧ post (some (.int (σ.1 (m + 1) (a + i).toNat))) σ
def xX4_of : am_X := (SH, KF, (some .int), FT_X4, PT_X4, CT_X4, KT_X4, LT_X4, NT_X4, [(37, 4, 2, 11, 0, 0, sX11_at)])
theorem xX4_of_SH : am_SH xX4_of = SH := rfl
theorem xX4_of_KF : am_KF xX4_of = KF := rfl
theorem xX4_of_rt : am_rt xX4_of = (some .int) := rfl
theorem xX4_of_FT : am_FT xX4_of = FT_X4 := rfl
theorem xX4_of_PT : am_PT xX4_of = PT_X4 := rfl
theorem xX4_of_CT : am_CT xX4_of = CT_X4 := rfl
theorem xX4_of_KT : am_KT xX4_of = KT_X4 := rfl
theorem xX4_of_LT : am_LT xX4_of = LT_X4 := rfl
theorem xX4_of_NT : am_NT xX4_of = NT_X4 := rfl
theorem xX4_of_c37 : am_find (am_ML xX4_of) 37 = some (4, 2, 11, 0, 0, sX11_at) := rfl
theorem xX4_of_n37 : am_find NT_X4 37 = none := rfl

set_option maxRecDepth 100000 in
theorem pX4_of : am_B cX4_of xX4_of 3 0 sX4_of := by
  intro n0 as σ post AA hA h
  obtain ⟨m, a, i, hm, ha, hi, hs, rfl, rfl, h⟩ := h
  refine ⟨by simp [am_sl, Value.category], ?_⟩
  show AA 0 [some (.ref m), some (.int (Int32.ofInt a)), some (.int (Int32.ofInt i))] [] 92 σ
  rcases hm with rfl | rfl
  · refine hA [] 40 _ _ _ _ _ ?_
    try simp only [dX4_of_0, dX4_of_1, FT_X4_11, dX4_of_4, dX4_of_5, dX4_of_6, dX4_of_7, xX4_of_c37, xX4_of_n37, dX4_of_10, xX4_of_SH, xX4_of_KF, xX4_of_rt, xX4_of_FT, xX4_of_PT, xX4_of_CT, xX4_of_KT, xX4_of_LT, xX4_of_NT, o_aload_n, o_getfield, o_iadd, o_iload_n, o_invokestatic, o_ireturn, SH_31, KF_31_0, SH_32, SH_33, KF_33_0, SH_34, am_ty, am_vc, am_opt, am_cl, am_find, am_ldi, am_ldl, am_lda, am_v, am_1, am_1l, am_1a, am_2, am_2l, am_ix, am_ri, am_arr, am_pf, am_rc, am_mask, am_lg, am_av, am_nat, fv_0, fv_1, fv_2, fv_3, fw_0, fw_1, List.getElem?_cons_zero, List.getElem?_cons_succ, List.set_cons_zero, List.set_cons_succ, List.length_cons, List.length_nil, List.take_succ_cons, List.take_zero, List.drop_succ_cons, List.drop_zero, List.reverse_cons, List.reverse_nil, List.nil_append, List.cons_append, List.append_nil, List.map_cons, List.map_nil, List.sum_cons, List.sum_nil, Value.category, Option.toList_some, Option.toList_none, Nat.reduceAdd, Nat.reduceLT, Nat.reduceLeDiff, Nat.reduceEqDiff, Nat.reduceSub, Nat.add_zero, Nat.le_refl, Nat.zero_le, Int.reduceNeg, Int.reduceLE, Int.reduceLT, true_and, and_true, and_self, if_true, if_false, ite_true, ite_false, eq_self_iff_true, reduceIte, reduceCtorEq, not_false_eq_true, not_true_eq_false, or_true, true_or, or_false, false_or, Nat.lt_irrefl, Nat.zero_lt_succ]
    try simp (disch := omega) only [ii_0, ii_1, ii_t, ii_add, ii_sub, ii_mul, ii_lt, ii_le, ii_eq, ij_in, ii_c, Int.toNat_natCast, Int.toNat_zero, Int.reduceToNat, Int.reduceEq, Int.reduceNe, Int.reduceLE, Int.reduceLT, Int.reduceAdd, Int.reduceSub, Int.reduceMul, Int.reduceNeg, Nat.reduceLT, Nat.reduceAdd, Nat.reduceMul, not_false_eq_true, not_true_eq_false, true_and, and_true, and_self, false_and, and_false, true_implies, false_implies, implies_true, forall_const, if_true, if_false, ite_true, ite_false, reduceIte, eq_self_iff_true, Int.natCast_nonneg, Int.zero_add, Int.add_zero, pi_s, pi_n]
    refine ⟨32, 40, a + i, by decide, by omega, rfl, by omega, rfl, rfl, ?_⟩
    rw [if_pos (by omega)]
    try simp only [dX4_of_0, dX4_of_1, FT_X4_11, dX4_of_4, dX4_of_5, dX4_of_6, dX4_of_7, xX4_of_c37, xX4_of_n37, dX4_of_10, xX4_of_SH, xX4_of_KF, xX4_of_rt, xX4_of_FT, xX4_of_PT, xX4_of_CT, xX4_of_KT, xX4_of_LT, xX4_of_NT, o_aload_n, o_getfield, o_iadd, o_iload_n, o_invokestatic, o_ireturn, SH_31, KF_31_0, SH_32, SH_33, KF_33_0, SH_34, am_ty, am_vc, am_opt, am_cl, am_find, am_ldi, am_ldl, am_lda, am_v, am_1, am_1l, am_1a, am_2, am_2l, am_ix, am_ri, am_arr, am_pf, am_rc, am_mask, am_lg, am_av, am_nat, fv_0, fv_1, fv_2, fv_3, fw_0, fw_1, List.getElem?_cons_zero, List.getElem?_cons_succ, List.set_cons_zero, List.set_cons_succ, List.length_cons, List.length_nil, List.take_succ_cons, List.take_zero, List.drop_succ_cons, List.drop_zero, List.reverse_cons, List.reverse_nil, List.nil_append, List.cons_append, List.append_nil, List.map_cons, List.map_nil, List.sum_cons, List.sum_nil, Value.category, Option.toList_some, Option.toList_none, Nat.reduceAdd, Nat.reduceLT, Nat.reduceLeDiff, Nat.reduceEqDiff, Nat.reduceSub, Nat.add_zero, Nat.le_refl, Nat.zero_le, Int.reduceNeg, Int.reduceLE, Int.reduceLT, true_and, and_true, and_self, if_true, if_false, ite_true, ite_false, eq_self_iff_true, reduceIte, reduceCtorEq, not_false_eq_true, not_true_eq_false, or_true, true_or, or_false, false_or, Nat.lt_irrefl, Nat.zero_lt_succ]
    exact h
  · refine hA [] 40 _ _ _ _ _ ?_
    try simp only [dX4_of_0, dX4_of_1, FT_X4_11, dX4_of_4, dX4_of_5, dX4_of_6, dX4_of_7, xX4_of_c37, xX4_of_n37, dX4_of_10, xX4_of_SH, xX4_of_KF, xX4_of_rt, xX4_of_FT, xX4_of_PT, xX4_of_CT, xX4_of_KT, xX4_of_LT, xX4_of_NT, o_aload_n, o_getfield, o_iadd, o_iload_n, o_invokestatic, o_ireturn, SH_31, KF_31_0, SH_32, SH_33, KF_33_0, SH_34, am_ty, am_vc, am_opt, am_cl, am_find, am_ldi, am_ldl, am_lda, am_v, am_1, am_1l, am_1a, am_2, am_2l, am_ix, am_ri, am_arr, am_pf, am_rc, am_mask, am_lg, am_av, am_nat, fv_0, fv_1, fv_2, fv_3, fw_0, fw_1, List.getElem?_cons_zero, List.getElem?_cons_succ, List.set_cons_zero, List.set_cons_succ, List.length_cons, List.length_nil, List.take_succ_cons, List.take_zero, List.drop_succ_cons, List.drop_zero, List.reverse_cons, List.reverse_nil, List.nil_append, List.cons_append, List.append_nil, List.map_cons, List.map_nil, List.sum_cons, List.sum_nil, Value.category, Option.toList_some, Option.toList_none, Nat.reduceAdd, Nat.reduceLT, Nat.reduceLeDiff, Nat.reduceEqDiff, Nat.reduceSub, Nat.add_zero, Nat.le_refl, Nat.zero_le, Int.reduceNeg, Int.reduceLE, Int.reduceLT, true_and, and_true, and_self, if_true, if_false, ite_true, ite_false, eq_self_iff_true, reduceIte, reduceCtorEq, not_false_eq_true, not_true_eq_false, or_true, true_or, or_false, false_or, Nat.lt_irrefl, Nat.zero_lt_succ]
    try simp (disch := omega) only [ii_0, ii_1, ii_t, ii_add, ii_sub, ii_mul, ii_lt, ii_le, ii_eq, ij_in, ii_c, Int.toNat_natCast, Int.toNat_zero, Int.reduceToNat, Int.reduceEq, Int.reduceNe, Int.reduceLE, Int.reduceLT, Int.reduceAdd, Int.reduceSub, Int.reduceMul, Int.reduceNeg, Nat.reduceLT, Nat.reduceAdd, Nat.reduceMul, not_false_eq_true, not_true_eq_false, true_and, and_true, and_self, false_and, and_false, true_implies, false_implies, implies_true, forall_const, if_true, if_false, ite_true, ite_false, reduceIte, eq_self_iff_true, Int.natCast_nonneg, Int.zero_add, Int.add_zero, pi_s, pi_n]
    refine ⟨34, 40, a + i, by decide, by omega, rfl, by omega, rfl, rfl, ?_⟩
    rw [if_pos (by omega)]
    try simp only [dX4_of_0, dX4_of_1, FT_X4_11, dX4_of_4, dX4_of_5, dX4_of_6, dX4_of_7, xX4_of_c37, xX4_of_n37, dX4_of_10, xX4_of_SH, xX4_of_KF, xX4_of_rt, xX4_of_FT, xX4_of_PT, xX4_of_CT, xX4_of_KT, xX4_of_LT, xX4_of_NT, o_aload_n, o_getfield, o_iadd, o_iload_n, o_invokestatic, o_ireturn, SH_31, KF_31_0, SH_32, SH_33, KF_33_0, SH_34, am_ty, am_vc, am_opt, am_cl, am_find, am_ldi, am_ldl, am_lda, am_v, am_1, am_1l, am_1a, am_2, am_2l, am_ix, am_ri, am_arr, am_pf, am_rc, am_mask, am_lg, am_av, am_nat, fv_0, fv_1, fv_2, fv_3, fw_0, fw_1, List.getElem?_cons_zero, List.getElem?_cons_succ, List.set_cons_zero, List.set_cons_succ, List.length_cons, List.length_nil, List.take_succ_cons, List.take_zero, List.drop_succ_cons, List.drop_zero, List.reverse_cons, List.reverse_nil, List.nil_append, List.cons_append, List.append_nil, List.map_cons, List.map_nil, List.sum_cons, List.sum_nil, Value.category, Option.toList_some, Option.toList_none, Nat.reduceAdd, Nat.reduceLT, Nat.reduceLeDiff, Nat.reduceEqDiff, Nat.reduceSub, Nat.add_zero, Nat.le_refl, Nat.zero_le, Int.reduceNeg, Int.reduceLE, Int.reduceLT, true_and, and_true, and_self, if_true, if_false, ite_true, ite_false, eq_self_iff_true, reduceIte, reduceCtorEq, not_false_eq_true, not_true_eq_false, or_true, true_or, or_false, false_or, Nat.lt_irrefl, Nat.zero_lt_succ]
    exact h
theorem mX4_of (l : Launch) : am_M l TB NB vwCl SH KF yX4_of cX4_of 3 (some .int) 3 0 0 sX4_of := by
  refine am_M.of xX4_of (by decide +kernel) TB_good GF rfl rfl rfl (by decide) ⟨FT_X4_ok, PT_X4_ok _, CT_X4_ok, KT_X4_ok, LT_X4_ok, NT_X4_ok, ?_⟩ pX4_of
  exact List.forall_mem_cons.mpr ⟨⟨yX11_at, cX11_at, 2, (some .int), 2, 2, mX11_at l, by decide, by decide, tk_469, tk_103, ⟨by decide +kernel, by decide +kernel, by decide +kernel⟩, rfl, ⟨"LadderStreet", nb_at 703 (by decide +kernel)⟩, tk_468⟩, fun _ h => absurd h List.not_mem_nil⟩

def sX4_minute : am_Sp := fun as n σ post => ∃ (m : Nat), Mo m ∧ n = 92 ∧ as = [.ref m] ∧ post (some (.int (σ.1 (m + 1) 0))) σ
def xX4_minute : am_X := (SH, KF, (some .int), FT_X4, PT_X4, CT_X4, KT_X4, LT_X4, NT_X4, [])
theorem xX4_minute_SH : am_SH xX4_minute = SH := rfl
theorem xX4_minute_KF : am_KF xX4_minute = KF := rfl
theorem xX4_minute_rt : am_rt xX4_minute = (some .int) := rfl
theorem xX4_minute_FT : am_FT xX4_minute = FT_X4 := rfl
theorem xX4_minute_PT : am_PT xX4_minute = PT_X4 := rfl
theorem xX4_minute_CT : am_CT xX4_minute = CT_X4 := rfl
theorem xX4_minute_KT : am_KT xX4_minute = KT_X4 := rfl
theorem xX4_minute_LT : am_LT xX4_minute = LT_X4 := rfl
theorem xX4_minute_NT : am_NT xX4_minute = NT_X4 := rfl

set_option maxRecDepth 100000 in
theorem pX4_minute : am_B cX4_minute xX4_minute 1 0 sX4_minute := by
  intro n0 as σ post AA hA h
  obtain ⟨m, hm, rfl, rfl, h⟩ := h
  refine ⟨by simp [am_sl, Value.category], ?_⟩
  show AA 0 [some (.ref m)] [] 92 σ
  rcases hm with rfl | rfl
  · refine hA [] 40 _ _ _ _ _ ?_
    try simp only [dX4_minute_0, dX4_minute_1, FT_X4_11, dX4_minute_4, dX4_minute_5, dX4_minute_6, xX4_minute_SH, xX4_minute_KF, xX4_minute_rt, xX4_minute_FT, xX4_minute_PT, xX4_minute_CT, xX4_minute_KT, xX4_minute_LT, xX4_minute_NT, o_aload_n, o_getfield, o_iaload, o_iconst, o_ireturn, SH_31, KF_31_0, SH_32, SH_33, KF_33_0, SH_34, am_ty, am_vc, am_opt, am_cl, am_find, am_ldi, am_ldl, am_lda, am_v, am_1, am_1l, am_1a, am_2, am_2l, am_ix, am_ri, am_arr, am_pf, am_rc, am_mask, am_lg, am_av, am_nat, fv_0, fv_1, fv_2, fv_3, fw_0, fw_1, List.getElem?_cons_zero, List.getElem?_cons_succ, List.set_cons_zero, List.set_cons_succ, List.length_cons, List.length_nil, List.take_succ_cons, List.take_zero, List.drop_succ_cons, List.drop_zero, List.reverse_cons, List.reverse_nil, List.nil_append, List.cons_append, List.append_nil, List.map_cons, List.map_nil, List.sum_cons, List.sum_nil, Value.category, Option.toList_some, Option.toList_none, Nat.reduceAdd, Nat.reduceLT, Nat.reduceLeDiff, Nat.reduceEqDiff, Nat.reduceSub, Nat.add_zero, Nat.le_refl, Nat.zero_le, Int.reduceNeg, Int.reduceLE, Int.reduceLT, true_and, and_true, and_self, if_true, if_false, ite_true, ite_false, eq_self_iff_true, reduceIte, reduceCtorEq, not_false_eq_true, not_true_eq_false, or_true, true_or, or_false, false_or, Nat.lt_irrefl, Nat.zero_lt_succ]
    try simp (disch := omega) only [ii_0, ii_1, ii_t, ii_add, ii_sub, ii_mul, ii_lt, ii_le, ii_eq, ij_in, ii_c, Int.toNat_natCast, Int.toNat_zero, Int.reduceToNat, Int.reduceEq, Int.reduceNe, Int.reduceLE, Int.reduceLT, Int.reduceAdd, Int.reduceSub, Int.reduceMul, Int.reduceNeg, Nat.reduceLT, Nat.reduceAdd, Nat.reduceMul, not_false_eq_true, not_true_eq_false, true_and, and_true, and_self, false_and, and_false, true_implies, false_implies, implies_true, forall_const, if_true, if_false, ite_true, ite_false, reduceIte, eq_self_iff_true, Int.natCast_nonneg, Int.zero_add, Int.add_zero, pi_s, pi_n]
    first | exact h | exact ⟨by decide, h⟩
  · refine hA [] 40 _ _ _ _ _ ?_
    try simp only [dX4_minute_0, dX4_minute_1, FT_X4_11, dX4_minute_4, dX4_minute_5, dX4_minute_6, xX4_minute_SH, xX4_minute_KF, xX4_minute_rt, xX4_minute_FT, xX4_minute_PT, xX4_minute_CT, xX4_minute_KT, xX4_minute_LT, xX4_minute_NT, o_aload_n, o_getfield, o_iaload, o_iconst, o_ireturn, SH_31, KF_31_0, SH_32, SH_33, KF_33_0, SH_34, am_ty, am_vc, am_opt, am_cl, am_find, am_ldi, am_ldl, am_lda, am_v, am_1, am_1l, am_1a, am_2, am_2l, am_ix, am_ri, am_arr, am_pf, am_rc, am_mask, am_lg, am_av, am_nat, fv_0, fv_1, fv_2, fv_3, fw_0, fw_1, List.getElem?_cons_zero, List.getElem?_cons_succ, List.set_cons_zero, List.set_cons_succ, List.length_cons, List.length_nil, List.take_succ_cons, List.take_zero, List.drop_succ_cons, List.drop_zero, List.reverse_cons, List.reverse_nil, List.nil_append, List.cons_append, List.append_nil, List.map_cons, List.map_nil, List.sum_cons, List.sum_nil, Value.category, Option.toList_some, Option.toList_none, Nat.reduceAdd, Nat.reduceLT, Nat.reduceLeDiff, Nat.reduceEqDiff, Nat.reduceSub, Nat.add_zero, Nat.le_refl, Nat.zero_le, Int.reduceNeg, Int.reduceLE, Int.reduceLT, true_and, and_true, and_self, if_true, if_false, ite_true, ite_false, eq_self_iff_true, reduceIte, reduceCtorEq, not_false_eq_true, not_true_eq_false, or_true, true_or, or_false, false_or, Nat.lt_irrefl, Nat.zero_lt_succ]
    try simp (disch := omega) only [ii_0, ii_1, ii_t, ii_add, ii_sub, ii_mul, ii_lt, ii_le, ii_eq, ij_in, ii_c, Int.toNat_natCast, Int.toNat_zero, Int.reduceToNat, Int.reduceEq, Int.reduceNe, Int.reduceLE, Int.reduceLT, Int.reduceAdd, Int.reduceSub, Int.reduceMul, Int.reduceNeg, Nat.reduceLT, Nat.reduceAdd, Nat.reduceMul, not_false_eq_true, not_true_eq_false, true_and, and_true, and_self, false_and, and_false, true_implies, false_implies, implies_true, forall_const, if_true, if_false, ite_true, ite_false, reduceIte, eq_self_iff_true, Int.natCast_nonneg, Int.zero_add, Int.add_zero, pi_s, pi_n]
    first | exact h | exact ⟨by decide, h⟩
theorem mX4_minute (l : Launch) : am_M l TB NB vwCl SH KF yX4_minute cX4_minute 1 (some .int) 2 0 0 sX4_minute := by
  refine am_M.of xX4_minute (by decide +kernel) TB_good GF rfl rfl rfl (by decide) ⟨FT_X4_ok, PT_X4_ok _, CT_X4_ok, KT_X4_ok, LT_X4_ok, NT_X4_ok, ?_⟩ pX4_minute
  exact fun _ h => absurd h List.not_mem_nil

-- put: of any moment
def sX4_put : am_Sp := fun as n σ post => ∃ (m : Nat) (a i : Int) (v : Int32), Mo m ∧ 0 ≤ a ∧ 0 ≤ i ∧ a + i < 40 ∧ n = 92 ∧ as = [.ref m, .int (Int32.ofInt a), .int (Int32.ofInt i), .int v] ∧ post none (am_pi σ (m + 1) (a + i).toNat v)
def xX4_put : am_X := (SH, KF, none, FT_X4, PT_X4, CT_X4, KT_X4, LT_X4, NT_X4, [])
theorem xX4_put_SH : am_SH xX4_put = SH := rfl
theorem xX4_put_KF : am_KF xX4_put = KF := rfl
theorem xX4_put_rt : am_rt xX4_put = none := rfl
theorem xX4_put_FT : am_FT xX4_put = FT_X4 := rfl
theorem xX4_put_PT : am_PT xX4_put = PT_X4 := rfl
theorem xX4_put_CT : am_CT xX4_put = CT_X4 := rfl
theorem xX4_put_KT : am_KT xX4_put = KT_X4 := rfl
theorem xX4_put_LT : am_LT xX4_put = LT_X4 := rfl
theorem xX4_put_NT : am_NT xX4_put = NT_X4 := rfl
theorem xX4_put_t7 (k : Nat → Prop) : am_tg 7 (21) k = k 28 := am_tg_eq (by decide)
theorem xX4_put_t17 (k : Nat → Prop) : am_tg 17 (11) k = k 28 := am_tg_eq (by decide)

set_option maxRecDepth 100000 in
theorem pX4_put : am_B cX4_put xX4_put 5 0 sX4_put := by
  intro n0 as σ post AA hA h
  obtain ⟨m, a, i, v, hm, ha, hi, hs, rfl, rfl, h⟩ := h
  refine ⟨by simp [am_sl, Value.category], ?_⟩
  show AA 0 [some (.ref m), some (.int (Int32.ofInt a)), some (.int (Int32.ofInt i)), some (.int v), none] [] 92 σ
  rcases hm with rfl | rfl
  · refine hA [] 40 _ _ _ _ _ ?_
    try simp only [dX4_put_0, dX4_put_1, dX4_put_2, dX4_put_3, dX4_put_5, dX4_put_7, xX4_put_t7, dX4_put_10, dX4_put_12, dX4_put_13, FT_X4_11, dX4_put_16, dX4_put_17, xX4_put_t17, dX4_put_20, dX4_put_21, dX4_put_24, dX4_put_26, dX4_put_27, dX4_put_28, xX4_put_SH, xX4_put_KF, xX4_put_rt, xX4_put_FT, xX4_put_PT, xX4_put_CT, xX4_put_KT, xX4_put_LT, xX4_put_NT, o_aload_n, o_arraylength, o_getfield, o_iadd, o_iastore, o_ifCond_lt, o_if_icmp_ge, o_iload, o_iload_n, o_istore, o_return_, SH_31, KF_31_0, SH_32, SH_33, KF_33_0, SH_34, am_ty, am_vc, am_opt, am_cl, am_find, am_ldi, am_ldl, am_lda, am_v, am_1, am_1l, am_1a, am_2, am_2l, am_ix, am_ri, am_arr, am_pf, am_rc, am_mask, am_lg, am_av, am_nat, fv_0, fv_1, fv_2, fv_3, fw_0, fw_1, List.getElem?_cons_zero, List.getElem?_cons_succ, List.set_cons_zero, List.set_cons_succ, List.length_cons, List.length_nil, List.take_succ_cons, List.take_zero, List.drop_succ_cons, List.drop_zero, List.reverse_cons, List.reverse_nil, List.nil_append, List.cons_append, List.append_nil, List.map_cons, List.map_nil, List.sum_cons, List.sum_nil, Value.category, Option.toList_some, Option.toList_none, Nat.reduceAdd, Nat.reduceLT, Nat.reduceLeDiff, Nat.reduceEqDiff, Nat.reduceSub, Nat.add_zero, Nat.le_refl, Nat.zero_le, Int.reduceNeg, Int.reduceLE, Int.reduceLT, true_and, and_true, and_self, if_true, if_false, ite_true, ite_false, eq_self_iff_true, reduceIte, reduceCtorEq, not_false_eq_true, not_true_eq_false, or_true, true_or, or_false, false_or, Nat.lt_irrefl, Nat.zero_lt_succ, on_i]
    try simp (disch := omega) only [ii_0, ii_1, ii_t, ii_add, ii_sub, ii_mul, ii_lt, ii_le, ii_eq, ij_in, ii_c, Int.toNat_natCast, Int.toNat_zero, Int.reduceToNat, Int.reduceEq, Int.reduceNe, Int.reduceLE, Int.reduceLT, Int.reduceAdd, Int.reduceSub, Int.reduceMul, Int.reduceNeg, Nat.reduceLT, Nat.reduceAdd, Nat.reduceMul, not_false_eq_true, not_true_eq_false, true_and, and_true, and_self, false_and, and_false, true_implies, false_implies, implies_true, forall_const, if_true, if_false, ite_true, ite_false, reduceIte, eq_self_iff_true, Int.natCast_nonneg, Int.zero_add, Int.add_zero, pi_s, pi_n, on_i]
    refine ⟨fun _ => by omega, fun _ => ⟨fun _ => by omega, fun _ => ⟨by omega, h⟩⟩⟩
  · refine hA [] 40 _ _ _ _ _ ?_
    try simp only [dX4_put_0, dX4_put_1, dX4_put_2, dX4_put_3, dX4_put_5, dX4_put_7, xX4_put_t7, dX4_put_10, dX4_put_12, dX4_put_13, FT_X4_11, dX4_put_16, dX4_put_17, xX4_put_t17, dX4_put_20, dX4_put_21, dX4_put_24, dX4_put_26, dX4_put_27, dX4_put_28, xX4_put_SH, xX4_put_KF, xX4_put_rt, xX4_put_FT, xX4_put_PT, xX4_put_CT, xX4_put_KT, xX4_put_LT, xX4_put_NT, o_aload_n, o_arraylength, o_getfield, o_iadd, o_iastore, o_ifCond_lt, o_if_icmp_ge, o_iload, o_iload_n, o_istore, o_return_, SH_31, KF_31_0, SH_32, SH_33, KF_33_0, SH_34, am_ty, am_vc, am_opt, am_cl, am_find, am_ldi, am_ldl, am_lda, am_v, am_1, am_1l, am_1a, am_2, am_2l, am_ix, am_ri, am_arr, am_pf, am_rc, am_mask, am_lg, am_av, am_nat, fv_0, fv_1, fv_2, fv_3, fw_0, fw_1, List.getElem?_cons_zero, List.getElem?_cons_succ, List.set_cons_zero, List.set_cons_succ, List.length_cons, List.length_nil, List.take_succ_cons, List.take_zero, List.drop_succ_cons, List.drop_zero, List.reverse_cons, List.reverse_nil, List.nil_append, List.cons_append, List.append_nil, List.map_cons, List.map_nil, List.sum_cons, List.sum_nil, Value.category, Option.toList_some, Option.toList_none, Nat.reduceAdd, Nat.reduceLT, Nat.reduceLeDiff, Nat.reduceEqDiff, Nat.reduceSub, Nat.add_zero, Nat.le_refl, Nat.zero_le, Int.reduceNeg, Int.reduceLE, Int.reduceLT, true_and, and_true, and_self, if_true, if_false, ite_true, ite_false, eq_self_iff_true, reduceIte, reduceCtorEq, not_false_eq_true, not_true_eq_false, or_true, true_or, or_false, false_or, Nat.lt_irrefl, Nat.zero_lt_succ, on_i]
    try simp (disch := omega) only [ii_0, ii_1, ii_t, ii_add, ii_sub, ii_mul, ii_lt, ii_le, ii_eq, ij_in, ii_c, Int.toNat_natCast, Int.toNat_zero, Int.reduceToNat, Int.reduceEq, Int.reduceNe, Int.reduceLE, Int.reduceLT, Int.reduceAdd, Int.reduceSub, Int.reduceMul, Int.reduceNeg, Nat.reduceLT, Nat.reduceAdd, Nat.reduceMul, not_false_eq_true, not_true_eq_false, true_and, and_true, and_self, false_and, and_false, true_implies, false_implies, implies_true, forall_const, if_true, if_false, ite_true, ite_false, reduceIte, eq_self_iff_true, Int.natCast_nonneg, Int.zero_add, Int.add_zero, pi_s, pi_n, on_i]
    refine ⟨fun _ => by omega, fun _ => ⟨fun _ => by omega, fun _ => ⟨by omega, h⟩⟩⟩
theorem mX4_put (l : Launch) : am_M l TB NB vwCl SH KF yX4_put cX4_put 5 none 2 0 0 sX4_put := by
  refine am_M.of xX4_put (by decide +kernel) TB_good GF rfl rfl rfl (by decide) ⟨FT_X4_ok, PT_X4_ok _, CT_X4_ok, KT_X4_ok, LT_X4_ok, NT_X4_ok, ?_⟩ pX4_put
  exact fun _ h => absurd h List.not_mem_nil

