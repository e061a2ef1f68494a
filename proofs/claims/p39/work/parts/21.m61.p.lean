/-! THE CLASS NEWLY MADE, AND ONE CALL ON IT (for p1): what is as it was at first, as far as the short methods ask. -/
def c0w (k : Nat) : Int := if 8 ≤ k ∧ k < 13 then -2 else 0
theorem on_i (L : Nat) : Int32.ofNat L = Int32.ofInt (L : Int) := rfl
-- at(row, i)
def sX11_at : am_Sp := fun as n σ post => ∃ (o L : Nat) (i : Int), o < 92 ∧ (-2147483648 ≤ i ∧ i < 2147483648) ∧ SH o = .inr (0, L) ∧ L < 2147483648 ∧ n = 92 ∧ as = [.ref o, .int (Int32.ofInt i)] ∧ post (some (.int (if 0 ≤ i ∧ i.toNat < L then σ.1 o i.toNat else Int32.ofInt 0))) σ
def xX11_at : am_X := (SH, KF, (some .int), FT_X11, PT_X11, CT_X11, KT_X11, LT_X11, NT_X11, [])
theorem xX11_at_SH : am_SH xX11_at = SH := rfl
theorem xX11_at_KF : am_KF xX11_at = KF := rfl
theorem xX11_at_rt : am_rt xX11_at = (some .int) := rfl
theorem xX11_at_FT : am_FT xX11_at = FT_X11 := rfl
theorem xX11_at_PT : am_PT xX11_at = PT_X11 := rfl
theorem xX11_at_CT : am_CT xX11_at = CT_X11 := rfl
theorem xX11_at_KT : am_KT xX11_at = KT_X11 := rfl
theorem xX11_at_LT : am_LT xX11_at = LT_X11 := rfl
theorem xX11_at_NT : am_NT xX11_at = NT_X11 := rfl
theorem xX11_at_t1 (k : Nat → Prop) : am_tg 1 (15) k = k 16 := am_tg_eq (by decide)
theorem xX11_at_t7 (k : Nat → Prop) : am_tg 7 (9) k = k 16 := am_tg_eq (by decide)
theorem xX11_at_t13 (k : Nat → Prop) : am_tg 13 (4) k = k 17 := am_tg_eq (by decide)

set_option maxRecDepth 100000 in
theorem pX11_at : am_B cX11_at xX11_at 2 0 sX11_at := by
  intro n0 as σ post AA hA h
  obtain ⟨o, L, i, ho, hi, hs, hL, rfl, rfl, h⟩ := h
  refine ⟨by simp [am_sl, Value.category], ?_⟩
  show AA 0 [some (.ref o), some (.int (Int32.ofInt i))] [] 92 σ
  refine hA [] 40 _ _ _ _ _ ?_
  try simp only [dX11_at_0, dX11_at_1, xX11_at_t1, dX11_at_4, dX11_at_5, dX11_at_6, dX11_at_7, xX11_at_t7, dX11_at_10, dX11_at_11, dX11_at_12, dX11_at_13, xX11_at_t13, dX11_at_16, dX11_at_17, xX11_at_SH, xX11_at_KF, xX11_at_rt, xX11_at_FT, xX11_at_PT, xX11_at_CT, xX11_at_KT, xX11_at_LT, xX11_at_NT, o_aload_n, o_arraylength, o_goto, o_iaload, o_iconst, o_ifCond_lt, o_if_icmp_ge, o_iload_n, o_ireturn, am_ty, am_vc, am_opt, am_cl, am_find, am_ldi, am_ldl, am_lda, am_v, am_1, am_1l, am_1a, am_2, am_2l, am_ix, am_ri, am_arr, am_pf, am_rc, am_mask, am_lg, am_av, am_nat, fv_0, fv_1, fv_2, fv_3, fw_0, fw_1, List.getElem?_cons_zero, List.getElem?_cons_succ, List.set_cons_zero, List.set_cons_succ, List.length_cons, List.length_nil, List.take_succ_cons, List.take_zero, List.drop_succ_cons, List.drop_zero, List.reverse_cons, List.reverse_nil, List.nil_append, List.cons_append, List.append_nil, List.map_cons, List.map_nil, List.sum_cons, List.sum_nil, Value.category, Option.toList_some, Option.toList_none, Nat.reduceAdd, Nat.reduceLT, Nat.reduceLeDiff, Nat.reduceEqDiff, Nat.reduceSub, Nat.add_zero, Nat.le_refl, Nat.zero_le, Int.reduceNeg, Int.reduceLE, Int.reduceLT, true_and, and_true, and_self, if_true, if_false, ite_true, ite_false, eq_self_iff_true, reduceIte, reduceCtorEq, not_false_eq_true, not_true_eq_false, or_true, true_or, or_false, false_or, Nat.lt_irrefl, Nat.zero_lt_succ, hs, on_i, ho]
  try simp (disch := omega) only [ii_0, ii_1, ii_t, ii_add, ii_sub, ii_mul, ii_lt, ii_le, ii_eq, ij_in, ii_c, Int.toNat_natCast, Int.toNat_zero, Int.reduceToNat, Int.reduceEq, Int.reduceNe, Int.reduceLE, Int.reduceLT, Int.reduceAdd, Int.reduceSub, Int.reduceMul, Int.reduceNeg, Nat.reduceLT, Nat.reduceAdd, Nat.reduceMul, not_false_eq_true, not_true_eq_false, true_and, and_true, and_self, false_and, and_false, true_implies, false_implies, implies_true, forall_const, if_true, if_false, ite_true, ite_false, reduceIte, eq_self_iff_true, Int.natCast_nonneg, Int.zero_add, Int.add_zero, pi_s, pi_n, on_i, ho]
  refine ⟨fun h1 => ?_, fun h1 => ⟨fun h2 => ?_, fun h2 => ?_⟩⟩
  · rw [if_neg (by omega)] at h; exact h
  · rw [if_neg (by omega)] at h; exact h
  · rw [if_pos (by omega)] at h; refine ⟨⟨by omega, by omega⟩, ?_⟩; rw [ii_c (by omega) (by omega)]; exact h
theorem mX11_at (l : Launch) : am_M l TB NB vwCl SH KF yX11_at cX11_at 2 (some .int) 2 0 0 sX11_at := by
  refine am_M.of xX11_at (by decide +kernel) TB_good GF rfl rfl rfl (by decide) ⟨FT_X11_ok, PT_X11_ok _, CT_X11_ok, KT_X11_ok, LT_X11_ok, NT_X11_ok, ?_⟩ pX11_at
  exact fun _ h => absurd h List.not_mem_nil

-- hasBit(0, i): no bit
def sX11_isWithin : am_Sp := fun as n σ post => ∃ v a b : Int, (-2147483648 ≤ v ∧ v < 2147483648) ∧ (-2147483648 ≤ a ∧ a < 2147483648) ∧ (-2147483648 ≤ b ∧ b < 2147483648) ∧ n = 92 ∧ as = [.int (Int32.ofInt v), .int (Int32.ofInt a), .int (Int32.ofInt b)] ∧ post (some (.int (Int32.ofInt (if a ≤ v ∧ v ≤ b then 1 else 0)))) σ
def xX11_isWithin : am_X := (SH, KF, (some .boolean), FT_X11, PT_X11, CT_X11, KT_X11, LT_X11, NT_X11, [])
theorem xX11_isWithin_SH : am_SH xX11_isWithin = SH := rfl
theorem xX11_isWithin_KF : am_KF xX11_isWithin = KF := rfl
theorem xX11_isWithin_rt : am_rt xX11_isWithin = (some .boolean) := rfl
theorem xX11_isWithin_FT : am_FT xX11_isWithin = FT_X11 := rfl
theorem xX11_isWithin_PT : am_PT xX11_isWithin = PT_X11 := rfl
theorem xX11_isWithin_CT : am_CT xX11_isWithin = CT_X11 := rfl
theorem xX11_isWithin_KT : am_KT xX11_isWithin = KT_X11 := rfl
theorem xX11_isWithin_LT : am_LT xX11_isWithin = LT_X11 := rfl
theorem xX11_isWithin_NT : am_NT xX11_isWithin = NT_X11 := rfl
theorem xX11_isWithin_t2 (k : Nat → Prop) : am_tg 2 (12) k = k 14 := am_tg_eq (by decide)
theorem xX11_isWithin_t7 (k : Nat → Prop) : am_tg 7 (7) k = k 14 := am_tg_eq (by decide)
theorem xX11_isWithin_t11 (k : Nat → Prop) : am_tg 11 (4) k = k 15 := am_tg_eq (by decide)

set_option maxRecDepth 100000 in
theorem pX11_isWithin : am_B cX11_isWithin xX11_isWithin 3 0 sX11_isWithin := by
  intro n0 as σ post AA hA h
  obtain ⟨v, a, b, hv, ha, hb, rfl, rfl, h⟩ := h
  refine ⟨by simp [am_sl, Value.category], ?_⟩
  show AA 0 [some (.int (Int32.ofInt v)), some (.int (Int32.ofInt a)), some (.int (Int32.ofInt b))] [] 92 σ
  refine hA [] 40 _ _ _ _ _ ?_
  simp (disch := omega) only [dX11_isWithin_0, dX11_isWithin_1, dX11_isWithin_2, xX11_isWithin_t2, dX11_isWithin_5, dX11_isWithin_6, dX11_isWithin_7, xX11_isWithin_t7, dX11_isWithin_10, dX11_isWithin_11, xX11_isWithin_t11, dX11_isWithin_14, dX11_isWithin_15, xX11_isWithin_SH, xX11_isWithin_KF, xX11_isWithin_rt, xX11_isWithin_FT, xX11_isWithin_PT, xX11_isWithin_CT, xX11_isWithin_KT, xX11_isWithin_LT, xX11_isWithin_NT, o_goto, o_iconst, o_if_icmp_gt, o_if_icmp_lt, o_iload_n, o_ireturn, am_ty, am_vc, am_opt, am_cl, am_find, am_ldi, am_ldl, am_lda, am_v, am_1, am_1l, am_1a, am_2, am_2l, am_ix, am_ri, am_arr, am_pf, am_rc, am_mask, am_lg, am_av, am_nat, fv_0, fv_1, fv_2, fv_3, fw_0, fw_1, List.getElem?_cons_zero, List.getElem?_cons_succ, List.set_cons_zero, List.set_cons_succ, List.length_cons, List.length_nil, List.take_succ_cons, List.take_zero, List.drop_succ_cons, List.drop_zero, List.reverse_cons, List.reverse_nil, List.nil_append, List.cons_append, List.append_nil, List.map_cons, List.map_nil, List.sum_cons, List.sum_nil, Value.category, Option.toList_some, Option.toList_none, Nat.reduceAdd, Nat.reduceLT, Nat.reduceLeDiff, Nat.reduceEqDiff, Nat.reduceSub, Nat.add_zero, Nat.le_refl, Nat.zero_le, Int.reduceNeg, Int.reduceLE, Int.reduceLT, true_and, and_true, and_self, if_true, if_false, ite_true, ite_false, eq_self_iff_true, reduceIte, reduceCtorEq, not_false_eq_true, not_true_eq_false, or_true, true_or, or_false, false_or, Nat.lt_irrefl, Nat.zero_lt_succ, nb_0, nb_1, ii_lt, ii_le]
  repeat' (first | refine And.intro ?_ ?_ | intro _)
  all_goals (refine am_pe h ?_; (repeat' split) <;> omega)
theorem mX11_isWithin (l : Launch) : am_M l TB NB vwCl SH KF yX11_isWithin cX11_isWithin 3 (some .boolean) 2 0 0 sX11_isWithin := by
  refine am_M.of xX11_isWithin (by decide +kernel) TB_good GF rfl rfl rfl (by decide) ⟨FT_X11_ok, PT_X11_ok _, CT_X11_ok, KT_X11_ok, LT_X11_ok, NT_X11_ok, ?_⟩ pX11_isWithin
  exact fun _ h => absurd h List.not_mem_nil

-- Town's
-- Moment's: of what is now, and of what is later
def Mo (m : Nat) : Prop := m = 31 ∨ m = 33
def sX4_of : am_Sp := fun as n σ post => ∃ (m : Nat) (a i : Int), Mo m ∧ 0 ≤ a ∧ 0 ≤ i ∧ a + i < 40 ∧ n = 92 ∧ as = [.ref m, .int (Int32.ofInt a), .int (Int32.ofInt i)] ∧ post (some (.int (σ.1 (m + 1) (a + i).toNat))) σ
def xX4_of : am_X := (SH, KF, (some .int), FT_X4, PT_X4, CT_X4, KT_X4, LT_X4, NT_X4, [(37, 4, 2, 11, 0, 0, sX11_at)])
theorem xX4_of_SH : am_SH xX4_of = SH := rfl
theorem xX4_of_KF : am_KF xX4_of = KF := rfl
theorem xX4_of_rt : am_rt xX4_of = (some .int) := rfl
theorem xX4_of_FT : am_FT xX4_of = FT_X4 := rfl
theorem xX4_of_PT : am_PT xX4_of = PT_X4 := rfl
theorem xX4_of_CT : am_CT xX4_of = CT_X4 := rfl
theorem xX4_of_KT : am_KT xX4_of = KT_X4 := rfl
theorem xX4_of_LT : am_LT xX4_of = LT_X4 := rfl
theorem xX4_of_NT : am_NT xX4_of = NT_X4 := rfl
theorem xX4_of_c37 : am_find (am_ML xX4_of) 37 = some (4, 2, 11, 0, 0, sX11_at) := rfl
theorem xX4_of_n37 : am_find NT_X4 37 = none := rfl

set_option maxRecDepth 100000 in
theorem pX4_of : am_B cX4_of xX4_of 3 0 sX4_of := by
  intro n0 as σ post AA hA h
  obtain ⟨m, a, i, hm, ha, hi, hs, rfl, rfl, h⟩ := h
  refine ⟨by simp [am_sl, Value.category], ?_⟩
  show AA 0 [some (.ref m), some (.int (Int32.ofInt a)), some (.int (Int32.ofInt i))] [] 92 σ
  rcases hm with rfl | rfl
  · refine hA [] 40 _ _ _ _ _ ?_
    try simp only [dX4_of_0, dX4_of_1, FT_X4_11, dX4_of_4, dX4_of_5, dX4_of_6, dX4_of_7, xX4_of_c37, xX4_of_n37, dX4_of_10, xX4_of_SH, xX4_of_KF, xX4_of_rt, xX4_of_FT, xX4_of_PT, xX4_of_CT, xX4_of_KT, xX4_of_LT, xX4_of_NT, o_aload_n, o_getfield, o_iadd, o_iload_n, o_invokestatic, o_ireturn, SH_31, KF_31_0, SH_32, SH_33, KF_33_0, SH_34, am_ty, am_vc, am_opt, am_cl, am_find, am_ldi, am_ldl, am_lda, am_v, am_1, am_1l, am_1a, am_2, am_2l, am_ix, am_ri, am_arr, am_pf, am_rc, am_mask, am_lg, am_av, am_nat, fv_0, fv_1, fv_2, fv_3, fw_0, fw_1, List.getElem?_cons_zero, List.getElem?_cons_succ, List.set_cons_zero, List.set_cons_succ, List.length_cons, List.length_nil, List.take_succ_cons, List.take_zero, List.drop_succ_cons, List.drop_zero, List.reverse_cons, List.reverse_nil, List.nil_append, List.cons_append, List.append_nil, List.map_cons, List.map_nil, List.sum_cons, List.sum_nil, Value.category, Option.toList_some, Option.toList_none, Nat.reduceAdd, Nat.reduceLT, Nat.reduceLeDiff, Nat.reduceEqDiff, Nat.reduceSub, Nat.add_zero, Nat.le_refl, Nat.zero_le, Int.reduceNeg, Int.reduceLE, Int.reduceLT, true_and, and_true, and_self, if_true, if_false, ite_true, ite_false, eq_self_iff_true, reduceIte, reduceCtorEq, not_false_eq_true, not_true_eq_false, or_true, true_or, or_false, false_or, Nat.lt_irrefl, Nat.zero_lt_succ]
    try simp (disch := omega) only [ii_0, ii_1, ii_t, ii_add, ii_sub, ii_mul, ii_lt, ii_le, ii_eq, ij_in, ii_c, Int.toNat_natCast, Int.toNat_zero, Int.reduceToNat, Int.reduceEq, Int.reduceNe, Int.reduceLE, Int.reduceLT, Int.reduceAdd, Int.reduceSub, Int.reduceMul, Int.reduceNeg, Nat.reduceLT, Nat.reduceAdd, Nat.reduceMul, not_false_eq_true, not_true_eq_false, true_and, and_true, and_self, false_and, and_false, true_implies, false_implies, implies_true, forall_const, if_true, if_false, ite_true, ite_false, reduceIte, eq_self_iff_true, Int.natCast_nonneg, Int.zero_add, Int.add_zero, pi_s, pi_n]
    refine ⟨32, 40, a + i, by decide, by omega, rfl, by omega, rfl, rfl, ?_⟩
    rw [if_pos (by omega)]
    try simp only [dX4_of_0, dX4_of_1, FT_X4_11, dX4_of_4, dX4_of_5, dX4_of_6, dX4_of_7, xX4_of_c37, xX4_of_n37, dX4_of_10, xX4_of_SH, xX4_of_KF, xX4_of_rt, xX4_of_FT, xX4_of_PT, xX4_of_CT, xX4_of_KT, xX4_of_LT, xX4_of_NT, o_aload_n, o_getfield, o_iadd, o_iload_n, o_invokestatic, o_ireturn, SH_31, KF_31_0, SH_32, SH_33, KF_33_0, SH_34, am_ty, am_vc, am_opt, am_cl, am_find, am_ldi, am_ldl, am_lda, am_v, am_1, am_1l, am_1a, am_2, am_2l, am_ix, am_ri, am_arr, am_pf, am_rc, am_mask, am_lg, am_av, am_nat, fv_0, fv_1, fv_2, fv_3, fw_0, fw_1, List.getElem?_cons_zero, List.getElem?_cons_succ, List.set_cons_zero, List.set_cons_succ, List.length_cons, List.length_nil, List.take_succ_cons, List.take_zero, List.drop_succ_cons, List.drop_zero, List.reverse_cons, List.reverse_nil, List.nil_append, List.cons_append, List.append_nil, List.map_cons, List.map_nil, List.sum_cons, List.sum_nil, Value.category, Option.toList_some, Option.toList_none, Nat.reduceAdd, Nat.reduceLT, Nat.reduceLeDiff, Nat.reduceEqDiff, Nat.reduceSub, Nat.add_zero, Nat.le_refl, Nat.zero_le, Int.reduceNeg, Int.reduceLE, Int.reduceLT, true_and, and_true, and_self, if_true, if_false, ite_true, ite_false, eq_self_iff_true, reduceIte, reduceCtorEq, not_false_eq_true, not_true_eq_false, or_true, true_or, or_false, false_or, Nat.lt_irrefl, Nat.zero_lt_succ]
    exact h
  · refine hA [] 40 _ _ _ _ _ ?_
    try simp only [dX4_of_0, dX4_of_1, FT_X4_11, dX4_of_4, dX4_of_5, dX4_of_6, dX4_of_7, xX4_of_c37, xX4_of_n37, dX4_of_10, xX4_of_SH, xX4_of_KF, xX4_of_rt, xX4_of_FT, xX4_of_PT, xX4_of_CT, xX4_of_KT, xX4_of_LT, xX4_of_NT, o_aload_n, o_getfield, o_iadd, o_iload_n, o_invokestatic, o_ireturn, SH_31, KF_31_0, SH_32, SH_33, KF_33_0, SH_34, am_ty, am_vc, am_opt, am_cl, am_find, am_ldi, am_ldl, am_lda, am_v, am_1, am_1l, am_1a, am_2, am_2l, am_ix, am_ri, am_arr, am_pf, am_rc, am_mask, am_lg, am_av, am_nat, fv_0, fv_1, fv_2, fv_3, fw_0, fw_1, List.getElem?_cons_zero, List.getElem?_cons_succ, List.set_cons_zero, List.set_cons_succ, List.length_cons, List.length_nil, List.take_succ_cons, List.take_zero, List.drop_succ_cons, List.drop_zero, List.reverse_cons, List.reverse_nil, List.nil_append, List.cons_append, List.append_nil, List.map_cons, List.map_nil, List.sum_cons, List.sum_nil, Value.category, Option.toList_some, Option.toList_none, Nat.reduceAdd, Nat.reduceLT, Nat.reduceLeDiff, Nat.reduceEqDiff, Nat.reduceSub, Nat.add_zero, Nat.le_refl, Nat.zero_le, Int.reduceNeg, Int.reduceLE, Int.reduceLT, true_and, and_true, and_self, if_true, if_false, ite_true, ite_false, eq_self_iff_true, reduceIte, reduceCtorEq, not_false_eq_true, not_true_eq_false, or_true, true_or, or_false, false_or, Nat.lt_irrefl, Nat.zero_lt_succ]
    try simp (disch := omega) only [ii_0, ii_1, ii_t, ii_add, ii_sub, ii_mul, ii_lt, ii_le, ii_eq, ij_in, ii_c, Int.toNat_natCast, Int.toNat_zero, Int.reduceToNat, Int.reduceEq, Int.reduceNe, Int.reduceLE, Int.reduceLT, Int.reduceAdd, Int.reduceSub, Int.reduceMul, Int.reduceNeg, Nat.reduceLT, Nat.reduceAdd, Nat.reduceMul, not_false_eq_true, not_true_eq_false, true_and, and_true, and_self, false_and, and_false, true_implies, false_implies, implies_true, forall_const, if_true, if_false, ite_true, ite_false, reduceIte, eq_self_iff_true, Int.natCast_nonneg, Int.zero_add, Int.add_zero, pi_s, pi_n]
    refine ⟨34, 40, a + i, by decide, by omega, rfl, by omega, rfl, rfl, ?_⟩
    rw [if_pos (by omega)]
    try simp only [dX4_of_0, dX4_of_1, FT_X4_11, dX4_of_4, dX4_of_5, dX4_of_6, dX4_of_7, xX4_of_c37, xX4_of_n37, dX4_of_10, xX4_of_SH, xX4_of_KF, xX4_of_rt, xX4_of_FT, xX4_of_PT, xX4_of_CT, xX4_of_KT, xX4_of_LT, xX4_of_NT, o_aload_n, o_getfield, o_iadd, o_iload_n, o_invokestatic, o_ireturn, SH_31, KF_31_0, SH_32, SH_33, KF_33_0, SH_34, am_ty, am_vc, am_opt, am_cl, am_find, am_ldi, am_ldl, am_lda, am_v, am_1, am_1l, am_1a, am_2, am_2l, am_ix, am_ri, am_arr, am_pf, am_rc, am_mask, am_lg, am_av, am_nat, fv_0, fv_1, fv_2, fv_3, fw_0, fw_1, List.getElem?_cons_zero, List.getElem?_cons_succ, List.set_cons_zero, List.set_cons_succ, List.length_cons, List.length_nil, List.take_succ_cons, List.take_zero, List.drop_succ_cons, List.drop_zero, List.reverse_cons, List.reverse_nil, List.nil_append, List.cons_append, List.append_nil, List.map_cons, List.map_nil, List.sum_cons, List.sum_nil, Value.category, Option.toList_some, Option.toList_none, Nat.reduceAdd, Nat.reduceLT, Nat.reduceLeDiff, Nat.reduceEqDiff, Nat.reduceSub, Nat.add_zero, Nat.le_refl, Nat.zero_le, Int.reduceNeg, Int.reduceLE, Int.reduceLT, true_and, and_true, and_self, if_true, if_false, ite_true, ite_false, eq_self_iff_true, reduceIte, reduceCtorEq, not_false_eq_true, not_true_eq_false, or_true, true_or, or_false, false_or, Nat.lt_irrefl, Nat.zero_lt_succ]
    exact h
theorem mX4_of (l : Launch) : am_M l TB NB vwCl SH KF yX4_of cX4_of 3 (some .int) 3 0 0 sX4_of := by
  refine am_M.of xX4_of (by decide +kernel) TB_good GF rfl rfl rfl (by decide) ⟨FT_X4_ok, PT_X4_ok _, CT_X4_ok, KT_X4_ok, LT_X4_ok, NT_X4_ok, ?_⟩ pX4_of
  exact List.forall_mem_cons.mpr ⟨⟨yX11_at, cX11_at, 2, (some .int), 2, 2, mX11_at l, by decide, by decide, tk_469, tk_103, ⟨by decide +kernel, by decide +kernel, by decide +kernel⟩, rfl, ⟨"LadderStreet", nb_at 703 (by decide +kernel)⟩, tk_468⟩, fun _ h => absurd h List.not_mem_nil⟩

def sX4_minute : am_Sp := fun as n σ post => ∃ (m : Nat), Mo m ∧ n = 92 ∧ as = [.ref m] ∧ post (some (.int (σ.1 (m + 1) 0))) σ
def xX4_minute : am_X := (SH, KF, (some .int), FT_X4, PT_X4, CT_X4, KT_X4, LT_X4, NT_X4, [])
theorem xX4_minute_SH : am_SH xX4_minute = SH := rfl
theorem xX4_minute_KF : am_KF xX4_minute = KF := rfl
theorem xX4_minute_rt : am_rt xX4_minute = (some .int) := rfl
theorem xX4_minute_FT : am_FT xX4_minute = FT_X4 := rfl
theorem xX4_minute_PT : am_PT xX4_minute = PT_X4 := rfl
theorem xX4_minute_CT : am_CT xX4_minute = CT_X4 := rfl
theorem xX4_minute_KT : am_KT xX4_minute = KT_X4 := rfl
theorem xX4_minute_LT : am_LT xX4_minute = LT_X4 := rfl
theorem xX4_minute_NT : am_NT xX4_minute = NT_X4 := rfl

set_option maxRecDepth 100000 in
theorem pX4_minute : am_B cX4_minute xX4_minute 1 0 sX4_minute := by
  intro n0 as σ post AA hA h
  obtain ⟨m, hm, rfl, rfl, h⟩ := h
  refine ⟨by simp [am_sl, Value.category], ?_⟩
  show AA 0 [some (.ref m)] [] 92 σ
  rcases hm with rfl | rfl
  · refine hA [] 40 _ _ _ _ _ ?_
    try simp only [dX4_minute_0, dX4_minute_1, FT_X4_11, dX4_minute_4, dX4_minute_5, dX4_minute_6, xX4_minute_SH, xX4_minute_KF, xX4_minute_rt, xX4_minute_FT, xX4_minute_PT, xX4_minute_CT, xX4_minute_KT, xX4_minute_LT, xX4_minute_NT, o_aload_n, o_getfield, o_iaload, o_iconst, o_ireturn, SH_31, KF_31_0, SH_32, SH_33, KF_33_0, SH_34, am_ty, am_vc, am_opt, am_cl, am_find, am_ldi, am_ldl, am_lda, am_v, am_1, am_1l, am_1a, am_2, am_2l, am_ix, am_ri, am_arr, am_pf, am_rc, am_mask, am_lg, am_av, am_nat, fv_0, fv_1, fv_2, fv_3, fw_0, fw_1, List.getElem?_cons_zero, List.getElem?_cons_succ, List.set_cons_zero, List.set_cons_succ, List.length_cons, List.length_nil, List.take_succ_cons, List.take_zero, List.drop_succ_cons, List.drop_zero, List.reverse_cons, List.reverse_nil, List.nil_append, List.cons_append, List.append_nil, List.map_cons, List.map_nil, List.sum_cons, List.sum_nil, Value.category, Option.toList_some, Option.toList_none, Nat.reduceAdd, Nat.reduceLT, Nat.reduceLeDiff, Nat.reduceEqDiff, Nat.reduceSub, Nat.add_zero, Nat.le_refl, Nat.zero_le, Int.reduceNeg, Int.reduceLE, Int.reduceLT, true_and, and_true, and_self, if_true, if_false, ite_true, ite_false, eq_self_iff_true, reduceIte, reduceCtorEq, not_false_eq_true, not_true_eq_false, or_true, true_or, or_false, false_or, Nat.lt_irrefl, Nat.zero_lt_succ]
    try simp (disch := omega) only [ii_0, ii_1, ii_t, ii_add, ii_sub, ii_mul, ii_lt, ii_le, ii_eq, ij_in, ii_c, Int.toNat_natCast, Int.toNat_zero, Int.reduceToNat, Int.reduceEq, Int.reduceNe, Int.reduceLE, Int.reduceLT, Int.reduceAdd, Int.reduceSub, Int.reduceMul, Int.reduceNeg, Nat.reduceLT, Nat.reduceAdd, Nat.reduceMul, not_false_eq_true, not_true_eq_false, true_and, and_true, and_self, false_and, and_false, true_implies, false_implies, implies_true, forall_const, if_true, if_false, ite_true, ite_false, reduceIte, eq_self_iff_true, Int.natCast_nonneg, Int.zero_add, Int.add_zero, pi_s, pi_n]
    first | exact h | exact ⟨by decide, h⟩
  · refine hA [] 40 _ _ _ _ _ ?_
    try simp only [dX4_minute_0, dX4_minute_1, FT_X4_11, dX4_minute_4, dX4_minute_5, dX4_minute_6, xX4_minute_SH, xX4_minute_KF, xX4_minute_rt, xX4_minute_FT, xX4_minute_PT, xX4_minute_CT, xX4_minute_KT, xX4_minute_LT, xX4_minute_NT, o_aload_n, o_getfield, o_iaload, o_iconst, o_ireturn, SH_31, KF_31_0, SH_32, SH_33, KF_33_0, SH_34, am_ty, am_vc, am_opt, am_cl, am_find, am_ldi, am_ldl, am_lda, am_v, am_1, am_1l, am_1a, am_2, am_2l, am_ix, am_ri, am_arr, am_pf, am_rc, am_mask, am_lg, am_av, am_nat, fv_0, fv_1, fv_2, fv_3, fw_0, fw_1, List.getElem?_cons_zero, List.getElem?_cons_succ, List.set_cons_zero, List.set_cons_succ, List.length_cons, List.length_nil, List.take_succ_cons, List.take_zero, List.drop_succ_cons, List.drop_zero, List.reverse_cons, List.reverse_nil, List.nil_append, List.cons_append, List.append_nil, List.map_cons, List.map_nil, List.sum_cons, List.sum_nil, Value.category, Option.toList_some, Option.toList_none, Nat.reduceAdd, Nat.reduceLT, Nat.reduceLeDiff, Nat.reduceEqDiff, Nat.reduceSub, Nat.add_zero, Nat.le_refl, Nat.zero_le, Int.reduceNeg, Int.reduceLE, Int.reduceLT, true_and, and_true, and_self, if_true, if_false, ite_true, ite_false, eq_self_iff_true, reduceIte, reduceCtorEq, not_false_eq_true, not_true_eq_false, or_true, true_or, or_false, false_or, Nat.lt_irrefl, Nat.zero_lt_succ]
    try simp (disch := omega) only [ii_0, ii_1, ii_t, ii_add, ii_sub, ii_mul, ii_lt, ii_le, ii_eq, ij_in, ii_c, Int.toNat_natCast, Int.toNat_zero, Int.reduceToNat, Int.reduceEq, Int.reduceNe, Int.reduceLE, Int.reduceLT, Int.reduceAdd, Int.reduceSub, Int.reduceMul, Int.reduceNeg, Nat.reduceLT, Nat.reduceAdd, Nat.reduceMul, not_false_eq_true, not_true_eq_false, true_and, and_true, and_self, false_and, and_false, true_implies, false_implies, implies_true, forall_const, if_true, if_false, ite_true, ite_false, reduceIte, eq_self_iff_true, Int.natCast_nonneg, Int.zero_add, Int.add_zero, pi_s, pi_n]
    first | exact h | exact ⟨by decide, h⟩
theorem mX4_minute (l : Launch) : am_M l TB NB vwCl SH KF yX4_minute cX4_minute 1 (some .int) 2 0 0 sX4_minute := by
  refine am_M.of xX4_minute (by decide +kernel) TB_good GF rfl rfl rfl (by decide) ⟨FT_X4_ok, PT_X4_ok _, CT_X4_ok, KT_X4_ok, LT_X4_ok, NT_X4_ok, ?_⟩ pX4_minute
  exact fun _ h => absurd h List.not_mem_nil

-- put: of any moment
def sX4_put : am_Sp := fun as n σ post => ∃ (m : Nat) (a i : Int) (v : Int32), Mo m ∧ 0 ≤ a ∧ 0 ≤ i ∧ a + i < 40 ∧ n = 92 ∧ as = [.ref m, .int (Int32.ofInt a), .int (Int32.ofInt i), .int v] ∧ post none (am_pi σ (m + 1) (a + i).toNat v)
def xX4_put : am_X := (SH, KF, none, FT_X4, PT_X4, CT_X4, KT_X4, LT_X4, NT_X4, [])
theorem xX4_put_SH : am_SH xX4_put = SH := rfl
theorem xX4_put_KF : am_KF xX4_put = KF := rfl
theorem xX4_put_rt : am_rt xX4_put = none := rfl
theorem xX4_put_FT : am_FT xX4_put = FT_X4 := rfl
theorem xX4_put_PT : am_PT xX4_put = PT_X4 := rfl
theorem xX4_put_CT : am_CT xX4_put = CT_X4 := rfl
theorem xX4_put_KT : am_KT xX4_put = KT_X4 := rfl
theorem xX4_put_LT : am_LT xX4_put = LT_X4 := rfl
theorem xX4_put_NT : am_NT xX4_put = NT_X4 := rfl
theorem xX4_put_t7 (k : Nat → Prop) : am_tg 7 (21) k = k 28 := am_tg_eq (by decide)
theorem xX4_put_t17 (k : Nat → Prop) : am_tg 17 (11) k = k 28 := am_tg_eq (by decide)

set_option maxRecDepth 100000 in
theorem pX4_put : am_B cX4_put xX4_put 5 0 sX4_put := by
  intro n0 as σ post AA hA h
  obtain ⟨m, a, i, v, hm, ha, hi, hs, rfl, rfl, h⟩ := h
  refine ⟨by simp [am_sl, Value.category], ?_⟩
  show AA 0 [some (.ref m), some (.int (Int32.ofInt a)), some (.int (Int32.ofInt i)), some (.int v), none] [] 92 σ
  rcases hm with rfl | rfl
  · refine hA [] 40 _ _ _ _ _ ?_
    try simp only [dX4_put_0, dX4_put_1, dX4_put_2, dX4_put_3, dX4_put_5, dX4_put_7, xX4_put_t7, dX4_put_10, dX4_put_12, dX4_put_13, FT_X4_11, dX4_put_16, dX4_put_17, xX4_put_t17, dX4_put_20, dX4_put_21, dX4_put_24, dX4_put_26, dX4_put_27, dX4_put_28, xX4_put_SH, xX4_put_KF, xX4_put_rt, xX4_put_FT, xX4_put_PT, xX4_put_CT, xX4_put_KT, xX4_put_LT, xX4_put_NT, o_aload_n, o_arraylength, o_getfield, o_iadd, o_iastore, o_ifCond_lt, o_if_icmp_ge, o_iload, o_iload_n, o_istore, o_return_, SH_31, KF_31_0, SH_32, SH_33, KF_33_0, SH_34, am_ty, am_vc, am_opt, am_cl, am_find, am_ldi, am_ldl, am_lda, am_v, am_1, am_1l, am_1a, am_2, am_2l, am_ix, am_ri, am_arr, am_pf, am_rc, am_mask, am_lg, am_av, am_nat, fv_0, fv_1, fv_2, fv_3, fw_0, fw_1, List.getElem?_cons_zero, List.getElem?_cons_succ, List.set_cons_zero, List.set_cons_succ, List.length_cons, List.length_nil, List.take_succ_cons, List.take_zero, List.drop_succ_cons, List.drop_zero, List.reverse_cons, List.reverse_nil, List.nil_append, List.cons_append, List.append_nil, List.map_cons, List.map_nil, List.sum_cons, List.sum_nil, Value.category, Option.toList_some, Option.toList_none, Nat.reduceAdd, Nat.reduceLT, Nat.reduceLeDiff, Nat.reduceEqDiff, Nat.reduceSub, Nat.add_zero, Nat.le_refl, Nat.zero_le, Int.reduceNeg, Int.reduceLE, Int.reduceLT, true_and, and_true, and_self, if_true, if_false, ite_true, ite_false, eq_self_iff_true, reduceIte, reduceCtorEq, not_false_eq_true, not_true_eq_false, or_true, true_or, or_false, false_or, Nat.lt_irrefl, Nat.zero_lt_succ, on_i]
    try simp (disch := omega) only [ii_0, ii_1, ii_t, ii_add, ii_sub, ii_mul, ii_lt, ii_le, ii_eq, ij_in, ii_c, Int.toNat_natCast, Int.toNat_zero, Int.reduceToNat, Int.reduceEq, Int.reduceNe, Int.reduceLE, Int.reduceLT, Int.reduceAdd, Int.reduceSub, Int.reduceMul, Int.reduceNeg, Nat.reduceLT, Nat.reduceAdd, Nat.reduceMul, not_false_eq_true, not_true_eq_false, true_and, and_true, and_self, false_and, and_false, true_implies, false_implies, implies_true, forall_const, if_true, if_false, ite_true, ite_false, reduceIte, eq_self_iff_true, Int.natCast_nonneg, Int.zero_add, Int.add_zero, pi_s, pi_n, on_i]
    refine ⟨fun _ => by omega, fun _ => ⟨fun _ => by omega, fun _ => ⟨by omega, h⟩⟩⟩
  · refine hA [] 40 _ _ _ _ _ ?_
    try simp only [dX4_put_0, dX4_put_1, dX4_put_2, dX4_put_3, dX4_put_5, dX4_put_7, xX4_put_t7, dX4_put_10, dX4_put_12, dX4_put_13, FT_X4_11, dX4_put_16, dX4_put_17, xX4_put_t17, dX4_put_20, dX4_put_21, dX4_put_24, dX4_put_26, dX4_put_27, dX4_put_28, xX4_put_SH, xX4_put_KF, xX4_put_rt, xX4_put_FT, xX4_put_PT, xX4_put_CT, xX4_put_KT, xX4_put_LT, xX4_put_NT, o_aload_n, o_arraylength, o_getfield, o_iadd, o_iastore, o_ifCond_lt, o_if_icmp_ge, o_iload, o_iload_n, o_istore, o_return_, SH_31, KF_31_0, SH_32, SH_33, KF_33_0, SH_34, am_ty, am_vc, am_opt, am_cl, am_find, am_ldi, am_ldl, am_lda, am_v, am_1, am_1l, am_1a, am_2, am_2l, am_ix, am_ri, am_arr, am_pf, am_rc, am_mask, am_lg, am_av, am_nat, fv_0, fv_1, fv_2, fv_3, fw_0, fw_1, List.getElem?_cons_zero, List.getElem?_cons_succ, List.set_cons_zero, List.set_cons_succ, List.length_cons, List.length_nil, List.take_succ_cons, List.take_zero, List.drop_succ_cons, List.drop_zero, List.reverse_cons, List.reverse_nil, List.nil_append, List.cons_append, List.append_nil, List.map_cons, List.map_nil, List.sum_cons, List.sum_nil, Value.category, Option.toList_some, Option.toList_none, Nat.reduceAdd, Nat.reduceLT, Nat.reduceLeDiff, Nat.reduceEqDiff, Nat.reduceSub, Nat.add_zero, Nat.le_refl, Nat.zero_le, Int.reduceNeg, Int.reduceLE, Int.reduceLT, true_and, and_true, and_self, if_true, if_false, ite_true, ite_false, eq_self_iff_true, reduceIte, reduceCtorEq, not_false_eq_true, not_true_eq_false, or_true, true_or, or_false, false_or, Nat.lt_irrefl, Nat.zero_lt_succ, on_i]
    try simp (disch := omega) only [ii_0, ii_1, ii_t, ii_add, ii_sub, ii_mul, ii_lt, ii_le, ii_eq, ij_in, ii_c, Int.toNat_natCast, Int.toNat_zero, Int.reduceToNat, Int.reduceEq, Int.reduceNe, Int.reduceLE, Int.reduceLT, Int.reduceAdd, Int.reduceSub, Int.reduceMul, Int.reduceNeg, Nat.reduceLT, Nat.reduceAdd, Nat.reduceMul, not_false_eq_true, not_true_eq_false, true_and, and_true, and_self, false_and, and_false, true_implies, false_implies, implies_true, forall_const, if_true, if_false, ite_true, ite_false, reduceIte, eq_self_iff_true, Int.natCast_nonneg, Int.zero_add, Int.add_zero, pi_s, pi_n, on_i]
    refine ⟨fun _ => by omega, fun _ => ⟨fun _ => by omega, fun _ => ⟨by omega, h⟩⟩⟩
theorem mX4_put (l : Launch) : am_M l TB NB vwCl SH KF yX4_put cX4_put 5 none 2 0 0 sX4_put := by
  refine am_M.of xX4_put (by decide +kernel) TB_good GF rfl rfl rfl (by decide) ⟨FT_X4_ok, PT_X4_ok _, CT_X4_ok, KT_X4_ok, LT_X4_ok, NT_X4_ok, ?_⟩ pX4_put
  exact fun _ h => absurd h List.not_mem_nil

-- Laws that no text has told
def sX2_set : am_Sp := fun as n σ post => ∃ (k : Int) (w : Int32), (0 ≤ k ∧ k < 9) ∧ n = 92 ∧ as = [.ref 21, .int (Int32.ofInt k), .int w] ∧ post none (am_pi σ 25 k.toNat w)
def xX2_set : am_X := (SH, KF, none, FT_X2, PT_X2, CT_X2, KT_X2, LT_X2, NT_X2, [])
theorem xX2_set_SH : am_SH xX2_set = SH := rfl
theorem xX2_set_KF : am_KF xX2_set = KF := rfl
theorem xX2_set_rt : am_rt xX2_set = none := rfl
theorem xX2_set_FT : am_FT xX2_set = FT_X2 := rfl
theorem xX2_set_PT : am_PT xX2_set = PT_X2 := rfl
theorem xX2_set_CT : am_CT xX2_set = CT_X2 := rfl
theorem xX2_set_KT : am_KT xX2_set = KT_X2 := rfl
theorem xX2_set_LT : am_LT xX2_set = LT_X2 := rfl
theorem xX2_set_NT : am_NT xX2_set = NT_X2 := rfl
theorem xX2_set_t1 (k : Nat → Prop) : am_tg 1 (19) k = k 20 := am_tg_eq (by decide)
theorem xX2_set_t10 (k : Nat → Prop) : am_tg 10 (10) k = k 20 := am_tg_eq (by decide)

set_option maxRecDepth 100000 in
theorem pX2_set : am_B cX2_set xX2_set 3 0 sX2_set := by
  intro n0 as σ post AA hA h
  obtain ⟨k, w, hk, rfl, rfl, h⟩ := h
  refine ⟨by simp [am_sl, Value.category], ?_⟩
  show AA 0 [some (.ref 21), some (.int (Int32.ofInt k)), some (.int w)] [] 92 σ
  refine hA [] 40 _ _ _ _ _ ?_
  try simp only [dX2_set_0, dX2_set_1, xX2_set_t1, dX2_set_4, dX2_set_5, dX2_set_6, FT_X2_21, dX2_set_9, dX2_set_10, xX2_set_t10, dX2_set_13, dX2_set_14, dX2_set_17, dX2_set_18, dX2_set_19, dX2_set_20, xX2_set_SH, xX2_set_KF, xX2_set_rt, xX2_set_FT, xX2_set_PT, xX2_set_CT, xX2_set_KT, xX2_set_LT, xX2_set_NT, o_aload_n, o_arraylength, o_getfield, o_iastore, o_ifCond_lt, o_if_icmp_ge, o_iload_n, o_return_, SH_4, KF_4_3, SH_8, SH_21, KF_21_3, SH_25, am_ty, am_vc, am_opt, am_cl, am_find, am_ldi, am_ldl, am_lda, am_v, am_1, am_1l, am_1a, am_2, am_2l, am_ix, am_ri, am_arr, am_pf, am_rc, am_mask, am_lg, am_av, am_nat, fv_0, fv_1, fv_2, fv_3, fw_0, fw_1, List.getElem?_cons_zero, List.getElem?_cons_succ, List.set_cons_zero, List.set_cons_succ, List.length_cons, List.length_nil, List.take_succ_cons, List.take_zero, List.drop_succ_cons, List.drop_zero, List.reverse_cons, List.reverse_nil, List.nil_append, List.cons_append, List.append_nil, List.map_cons, List.map_nil, List.sum_cons, List.sum_nil, Value.category, Option.toList_some, Option.toList_none, Nat.reduceAdd, Nat.reduceLT, Nat.reduceLeDiff, Nat.reduceEqDiff, Nat.reduceSub, Nat.add_zero, Nat.le_refl, Nat.zero_le, Int.reduceNeg, Int.reduceLE, Int.reduceLT, true_and, and_true, and_self, if_true, if_false, ite_true, ite_false, eq_self_iff_true, reduceIte, reduceCtorEq, not_false_eq_true, not_true_eq_false, or_true, true_or, or_false, false_or, Nat.lt_irrefl, Nat.zero_lt_succ, on_i]
  try simp (disch := omega) only [ii_0, ii_1, ii_t, ii_add, ii_sub, ii_mul, ii_lt, ii_le, ii_eq, ij_in, ii_c, Int.toNat_natCast, Int.toNat_zero, Int.reduceToNat, Int.reduceEq, Int.reduceNe, Int.reduceLE, Int.reduceLT, Int.reduceAdd, Int.reduceSub, Int.reduceMul, Int.reduceNeg, Nat.reduceLT, Nat.reduceAdd, Nat.reduceMul, not_false_eq_true, not_true_eq_false, true_and, and_true, and_self, false_and, and_false, true_implies, false_implies, implies_true, forall_const, if_true, if_false, ite_true, ite_false, reduceIte, eq_self_iff_true, Int.natCast_nonneg, Int.zero_add, Int.add_zero, pi_s, pi_n, on_i]
  exact ⟨fun _ => by omega, fun _ => ⟨fun _ => by omega, fun _ => ⟨by omega, h⟩⟩⟩
theorem mX2_set (l : Launch) : am_M l TB NB vwCl SH KF yX2_set cX2_set 3 none 2 0 0 sX2_set := by
  refine am_M.of xX2_set (by decide +kernel) TB_good GF rfl rfl rfl (by decide) ⟨FT_X2_ok, PT_X2_ok _, CT_X2_ok, KT_X2_ok, LT_X2_ok, NT_X2_ok, ?_⟩ pX2_set
  exact fun _ h => absurd h List.not_mem_nil

-- Arrays.fill, setAll
def fl (σ : am_S) (o : Nat) (v : Int32) (k : Nat) : am_S := (fun o' j => if o' = o ∧ j < k then v else σ.1 o' j, σ.2)
theorem fl_0 (σ : am_S) (o : Nat) (v : Int32) : fl σ o v 0 = σ := am_Sext (fun o' k => by simp [fl]) rfl
theorem fl_s (σ : am_S) (o : Nat) (v : Int32) (k : Nat) : am_pi (fl σ o v k) o k v = fl σ o v (k + 1) := by
  refine am_Sext (fun o' j => ?_) rfl
  by_cases h : o' = o ∧ j = k
  · obtain ⟨rfl, rfl⟩ := h
    rw [pi_s]; simp [fl]
  · rw [pi_n _ _ _ _ h]
    simp only [fl]
    by_cases h2 : o' = o ∧ j < k
    · rw [if_pos h2, if_pos ⟨h2.1, by omega⟩]
    · rw [if_neg h2, if_neg (fun q => h2 ⟨q.1, by omega⟩)]
theorem fl_n (σ : am_S) (o : Nat) (v : Int32) (k o' j : Nat) (h : ¬ o' = o) : (fl σ o v k).1 o' j = σ.1 o' j := by simp [fl, h]
theorem fl_i (σ : am_S) (o : Nat) (v : Int32) (k j : Nat) (h : j < k) : (fl σ o v k).1 o j = v := by simp [fl, h]
def sJ7_fill_53178 : am_Sp := fun as n σ post => ∃ (o L : Nat) (v : Int32), o < 92 ∧ SH o = .inr (0, L) ∧ L < 10000 ∧ n = 92 ∧ as = [.ref o, .int v] ∧ post none (fl σ o v L)
def xJ7_fill_53178 : am_X := (SH, KF, none, FT_J7, PT_J7, CT_J7, KT_J7, LT_J7, NT_J7, [])
theorem xJ7_fill_53178_SH : am_SH xJ7_fill_53178 = SH := rfl
theorem xJ7_fill_53178_KF : am_KF xJ7_fill_53178 = KF := rfl
theorem xJ7_fill_53178_rt : am_rt xJ7_fill_53178 = none := rfl
theorem xJ7_fill_53178_FT : am_FT xJ7_fill_53178 = FT_J7 := rfl
theorem xJ7_fill_53178_PT : am_PT xJ7_fill_53178 = PT_J7 := rfl
theorem xJ7_fill_53178_CT : am_CT xJ7_fill_53178 = CT_J7 := rfl
theorem xJ7_fill_53178_KT : am_KT xJ7_fill_53178 = KT_J7 := rfl
theorem xJ7_fill_53178_LT : am_LT xJ7_fill_53178 = LT_J7 := rfl
theorem xJ7_fill_53178_NT : am_NT xJ7_fill_53178 = NT_J7 := rfl
theorem xJ7_fill_53178_t7 (k : Nat → Prop) : am_tg 7 (13) k = k 20 := am_tg_eq (by decide)
theorem xJ7_fill_53178_t17 (k : Nat → Prop) : am_tg 17 (-12) k = k 5 := am_tg_eq (by decide)

set_option maxRecDepth 100000 in
theorem fl_loop {σ : am_S} {post : Option Value → am_S → Prop} {AA : Nat → List (Option Value) → List Value → Nat → am_S → Prop} (hA : ∀ cuts f pc ls stk n τ, am_vc cJ7_fill_53178 xJ7_fill_53178 (92 + 0) post AA cuts f pc ls stk n τ → AA pc ls stk n τ) {o L : Nat} {v : Int32} (ho : o < 92) (hs : SH o = .inr (0, L)) (hL : L < 10000) (h : post none (fl σ o v L)) : ∀ k : Nat, k ≤ L → AA 5 [some (.ref o), some (.int v), some (.int (Int32.ofInt (k : Int))), some (.int (Int32.ofInt (L : Int)))] [] 92 (fl σ o v k) := by
  refine am_up L fun k hk ih => ?_
  refine hA [(5, 4)] 60 _ _ _ _ _ ?_
  try simp only [dJ7_fill_53178_0, dJ7_fill_53178_1, dJ7_fill_53178_2, dJ7_fill_53178_3, dJ7_fill_53178_4, dJ7_fill_53178_5, dJ7_fill_53178_6, dJ7_fill_53178_7, xJ7_fill_53178_t7, dJ7_fill_53178_10, dJ7_fill_53178_11, dJ7_fill_53178_12, dJ7_fill_53178_13, dJ7_fill_53178_14, dJ7_fill_53178_17, xJ7_fill_53178_t17, dJ7_fill_53178_20, xJ7_fill_53178_SH, xJ7_fill_53178_KF, xJ7_fill_53178_rt, xJ7_fill_53178_FT, xJ7_fill_53178_PT, xJ7_fill_53178_CT, xJ7_fill_53178_KT, xJ7_fill_53178_LT, xJ7_fill_53178_NT, o_aload_n, o_arraylength, o_goto, o_iastore, o_iconst, o_if_icmp_ge, o_iinc, o_iload_n, o_istore_n, o_return_, am_ty, am_vc, am_opt, am_cl, am_find, am_ldi, am_ldl, am_lda, am_v, am_1, am_1l, am_1a, am_2, am_2l, am_ix, am_ri, am_arr, am_pf, am_rc, am_mask, am_lg, am_av, am_nat, fv_0, fv_1, fv_2, fv_3, fw_0, fw_1, List.getElem?_cons_zero, List.getElem?_cons_succ, List.set_cons_zero, List.set_cons_succ, List.length_cons, List.length_nil, List.take_succ_cons, List.take_zero, List.drop_succ_cons, List.drop_zero, List.reverse_cons, List.reverse_nil, List.nil_append, List.cons_append, List.append_nil, List.map_cons, List.map_nil, List.sum_cons, List.sum_nil, Value.category, Option.toList_some, Option.toList_none, Nat.reduceAdd, Nat.reduceLT, Nat.reduceLeDiff, Nat.reduceEqDiff, Nat.reduceSub, Nat.add_zero, Nat.le_refl, Nat.zero_le, Int.reduceNeg, Int.reduceLE, Int.reduceLT, true_and, and_true, and_self, if_true, if_false, ite_true, ite_false, eq_self_iff_true, reduceIte, reduceCtorEq, not_false_eq_true, not_true_eq_false, or_true, true_or, or_false, false_or, Nat.lt_irrefl, Nat.zero_lt_succ, hs, on_i, ho]
  simp (disch := omega) only [ii_le, ik_c, ik_in, ik_s, ij_in, ii_c, Int.toNat_natCast, fl_s, true_and, ho]
  refine ⟨fun h1 => ?_, fun h1 => ⟨by omega, ih (by omega)⟩⟩
  have e : k = L := by omega
  subst e
  exact h
set_option maxRecDepth 100000 in
theorem pJ7_fill_53178 : am_B cJ7_fill_53178 xJ7_fill_53178 4 0 sJ7_fill_53178 := by
  intro n0 as σ post AA hA h
  obtain ⟨o, L, v, ho, hs, hL, rfl, rfl, h⟩ := h
  refine ⟨by simp [am_sl, Value.category], ?_⟩
  show AA 0 [some (.ref o), some (.int v), none, none] [] 92 σ
  refine hA [(5, 4)] 60 _ _ _ _ _ ?_
  try simp only [dJ7_fill_53178_0, dJ7_fill_53178_1, dJ7_fill_53178_2, dJ7_fill_53178_3, dJ7_fill_53178_4, dJ7_fill_53178_5, dJ7_fill_53178_6, dJ7_fill_53178_7, xJ7_fill_53178_t7, dJ7_fill_53178_10, dJ7_fill_53178_11, dJ7_fill_53178_12, dJ7_fill_53178_13, dJ7_fill_53178_14, dJ7_fill_53178_17, xJ7_fill_53178_t17, dJ7_fill_53178_20, xJ7_fill_53178_SH, xJ7_fill_53178_KF, xJ7_fill_53178_rt, xJ7_fill_53178_FT, xJ7_fill_53178_PT, xJ7_fill_53178_CT, xJ7_fill_53178_KT, xJ7_fill_53178_LT, xJ7_fill_53178_NT, o_aload_n, o_arraylength, o_goto, o_iastore, o_iconst, o_if_icmp_ge, o_iinc, o_iload_n, o_istore_n, o_return_, am_ty, am_vc, am_opt, am_cl, am_find, am_ldi, am_ldl, am_lda, am_v, am_1, am_1l, am_1a, am_2, am_2l, am_ix, am_ri, am_arr, am_pf, am_rc, am_mask, am_lg, am_av, am_nat, fv_0, fv_1, fv_2, fv_3, fw_0, fw_1, List.getElem?_cons_zero, List.getElem?_cons_succ, List.set_cons_zero, List.set_cons_succ, List.length_cons, List.length_nil, List.take_succ_cons, List.take_zero, List.drop_succ_cons, List.drop_zero, List.reverse_cons, List.reverse_nil, List.nil_append, List.cons_append, List.append_nil, List.map_cons, List.map_nil, List.sum_cons, List.sum_nil, Value.category, Option.toList_some, Option.toList_none, Nat.reduceAdd, Nat.reduceLT, Nat.reduceLeDiff, Nat.reduceEqDiff, Nat.reduceSub, Nat.add_zero, Nat.le_refl, Nat.zero_le, Int.reduceNeg, Int.reduceLE, Int.reduceLT, true_and, and_true, and_self, if_true, if_false, ite_true, ite_false, eq_self_iff_true, reduceIte, reduceCtorEq, not_false_eq_true, not_true_eq_false, or_true, true_or, or_false, false_or, Nat.lt_irrefl, Nat.zero_lt_succ, hs, on_i, ho]
  try simp (disch := omega) only [ii_0, ii_1, ii_t, ii_add, ii_sub, ii_mul, ii_lt, ii_le, ii_eq, ij_in, ii_c, Int.toNat_natCast, Int.toNat_zero, Int.reduceToNat, Int.reduceEq, Int.reduceNe, Int.reduceLE, Int.reduceLT, Int.reduceAdd, Int.reduceSub, Int.reduceMul, Int.reduceNeg, Nat.reduceLT, Nat.reduceAdd, Nat.reduceMul, not_false_eq_true, not_true_eq_false, true_and, and_true, and_self, false_and, and_false, true_implies, false_implies, implies_true, forall_const, if_true, if_false, ite_true, ite_false, reduceIte, eq_self_iff_true, Int.natCast_nonneg, Int.zero_add, Int.add_zero, pi_s, pi_n, on_i, ho]
  have q := fl_loop hA ho hs hL h 0 (by omega)
  rw [fl_0] at q
  exact q
theorem mJ7_fill_53178 (l : Launch) : am_M l TB NB vwCl SH KF yJ7_fill_53178 cJ7_fill_53178 4 none 2 0 0 sJ7_fill_53178 := by
  refine am_M.of xJ7_fill_53178 (by decide +kernel) TB_good GF rfl rfl rfl (by decide) ⟨FT_J7_ok, PT_J7_ok _, CT_J7_ok, KT_J7_ok, LT_J7_ok, NT_J7_ok, ?_⟩ pJ7_fill_53178
  exact fun _ h => absurd h List.not_mem_nil

def sX2_setAll : am_Sp := fun as n σ post => ∃ (a b : Int32), n = 92 ∧ as = [.ref 21, .int a, .int b] ∧ post none (am_pi (am_pi (fl σ 25 (Int32.ofInt 0) 9) 25 1 a) 25 2 b)
def xX2_setAll : am_X := (SH, KF, none, FT_X2, PT_X2, CT_X2, KT_X2, LT_X2, NT_X2, [(45, 1, 2, 99, 0, 0, sJ7_fill_53178), (51, 0, 3, 2, 0, 0, sX2_set)])
theorem xX2_setAll_SH : am_SH xX2_setAll = SH := rfl
theorem xX2_setAll_KF : am_KF xX2_setAll = KF := rfl
theorem xX2_setAll_rt : am_rt xX2_setAll = none := rfl
theorem xX2_setAll_FT : am_FT xX2_setAll = FT_X2 := rfl
theorem xX2_setAll_PT : am_PT xX2_setAll = PT_X2 := rfl
theorem xX2_setAll_CT : am_CT xX2_setAll = CT_X2 := rfl
theorem xX2_setAll_KT : am_KT xX2_setAll = KT_X2 := rfl
theorem xX2_setAll_LT : am_LT xX2_setAll = LT_X2 := rfl
theorem xX2_setAll_NT : am_NT xX2_setAll = NT_X2 := rfl
theorem xX2_setAll_c45 : am_find (am_ML xX2_setAll) 45 = some (1, 2, 99, 0, 0, sJ7_fill_53178) := rfl
theorem xX2_setAll_n45 : am_find NT_X2 45 = none := rfl
theorem xX2_setAll_c51 : am_find (am_ML xX2_setAll) 51 = some (0, 3, 2, 0, 0, sX2_set) := rfl
theorem xX2_setAll_n51 : am_find NT_X2 51 = none := rfl

set_option maxRecDepth 100000 in
theorem pX2_setAll : am_B cX2_setAll xX2_setAll 3 0 sX2_setAll := by
  intro n0 as σ post AA hA h
  obtain ⟨a, b, rfl, rfl, h⟩ := h
  refine ⟨by simp [am_sl, Value.category], ?_⟩
  show AA 0 [some (.ref 21), some (.int a), some (.int b)] [] 92 σ
  refine hA [] 4 _ _ _ _ _ ?_
  try simp only [dX2_setAll_0, dX2_setAll_1, FT_X2_21, dX2_setAll_4, dX2_setAll_5, xX2_setAll_c45, xX2_setAll_n45, dX2_setAll_8, dX2_setAll_9, dX2_setAll_10, dX2_setAll_11, xX2_setAll_c51, xX2_setAll_n51, dX2_setAll_14, dX2_setAll_15, dX2_setAll_16, dX2_setAll_17, dX2_setAll_20, xX2_setAll_SH, xX2_setAll_KF, xX2_setAll_rt, xX2_setAll_FT, xX2_setAll_PT, xX2_setAll_CT, xX2_setAll_KT, xX2_setAll_LT, xX2_setAll_NT, o_aload_n, o_getfield, o_iconst, o_iload_n, o_invokestatic, o_invokevirtual, o_return_, SH_4, KF_4_3, SH_8, SH_21, KF_21_3, SH_25, am_ty, am_vc, am_opt, am_cl, am_find, am_ldi, am_ldl, am_lda, am_v, am_1, am_1l, am_1a, am_2, am_2l, am_ix, am_ri, am_arr, am_pf, am_rc, am_mask, am_lg, am_av, am_nat, fv_0, fv_1, fv_2, fv_3, fw_0, fw_1, List.getElem?_cons_zero, List.getElem?_cons_succ, List.set_cons_zero, List.set_cons_succ, List.length_cons, List.length_nil, List.take_succ_cons, List.take_zero, List.drop_succ_cons, List.drop_zero, List.reverse_cons, List.reverse_nil, List.nil_append, List.cons_append, List.append_nil, List.map_cons, List.map_nil, List.sum_cons, List.sum_nil, Value.category, Option.toList_some, Option.toList_none, Nat.reduceAdd, Nat.reduceLT, Nat.reduceLeDiff, Nat.reduceEqDiff, Nat.reduceSub, Nat.add_zero, Nat.le_refl, Nat.zero_le, Int.reduceNeg, Int.reduceLE, Int.reduceLT, true_and, and_true, and_self, if_true, if_false, ite_true, ite_false, eq_self_iff_true, reduceIte, reduceCtorEq, not_false_eq_true, not_true_eq_false, or_true, true_or, or_false, false_or, Nat.lt_irrefl, Nat.zero_lt_succ]
  refine ⟨25, 9, Int32.ofInt 0, by decide, rfl, by decide, rfl, rfl, ?_⟩
  try simp only [dX2_setAll_0, dX2_setAll_1, FT_X2_21, dX2_setAll_4, dX2_setAll_5, xX2_setAll_c45, xX2_setAll_n45, dX2_setAll_8, dX2_setAll_9, dX2_setAll_10, dX2_setAll_11, xX2_setAll_c51, xX2_setAll_n51, dX2_setAll_14, dX2_setAll_15, dX2_setAll_16, dX2_setAll_17, dX2_setAll_20, xX2_setAll_SH, xX2_setAll_KF, xX2_setAll_rt, xX2_setAll_FT, xX2_setAll_PT, xX2_setAll_CT, xX2_setAll_KT, xX2_setAll_LT, xX2_setAll_NT, o_aload_n, o_getfield, o_iconst, o_iload_n, o_invokestatic, o_invokevirtual, o_return_, SH_4, KF_4_3, SH_8, SH_21, KF_21_3, SH_25, am_ty, am_vc, am_opt, am_cl, am_find, am_ldi, am_ldl, am_lda, am_v, am_1, am_1l, am_1a, am_2, am_2l, am_ix, am_ri, am_arr, am_pf, am_rc, am_mask, am_lg, am_av, am_nat, fv_0, fv_1, fv_2, fv_3, fw_0, fw_1, List.getElem?_cons_zero, List.getElem?_cons_succ, List.set_cons_zero, List.set_cons_succ, List.length_cons, List.length_nil, List.take_succ_cons, List.take_zero, List.drop_succ_cons, List.drop_zero, List.reverse_cons, List.reverse_nil, List.nil_append, List.cons_append, List.append_nil, List.map_cons, List.map_nil, List.sum_cons, List.sum_nil, Value.category, Option.toList_some, Option.toList_none, Nat.reduceAdd, Nat.reduceLT, Nat.reduceLeDiff, Nat.reduceEqDiff, Nat.reduceSub, Nat.add_zero, Nat.le_refl, Nat.zero_le, Int.reduceNeg, Int.reduceLE, Int.reduceLT, true_and, and_true, and_self, if_true, if_false, ite_true, ite_false, eq_self_iff_true, reduceIte, reduceCtorEq, not_false_eq_true, not_true_eq_false, or_true, true_or, or_false, false_or, Nat.lt_irrefl, Nat.zero_lt_succ]
  refine hA [] 4 _ _ _ _ _ ?_
  try simp only [dX2_setAll_0, dX2_setAll_1, FT_X2_21, dX2_setAll_4, dX2_setAll_5, xX2_setAll_c45, xX2_setAll_n45, dX2_setAll_8, dX2_setAll_9, dX2_setAll_10, dX2_setAll_11, xX2_setAll_c51, xX2_setAll_n51, dX2_setAll_14, dX2_setAll_15, dX2_setAll_16, dX2_setAll_17, dX2_setAll_20, xX2_setAll_SH, xX2_setAll_KF, xX2_setAll_rt, xX2_setAll_FT, xX2_setAll_PT, xX2_setAll_CT, xX2_setAll_KT, xX2_setAll_LT, xX2_setAll_NT, o_aload_n, o_getfield, o_iconst, o_iload_n, o_invokestatic, o_invokevirtual, o_return_, SH_4, KF_4_3, SH_8, SH_21, KF_21_3, SH_25, am_ty, am_vc, am_opt, am_cl, am_find, am_ldi, am_ldl, am_lda, am_v, am_1, am_1l, am_1a, am_2, am_2l, am_ix, am_ri, am_arr, am_pf, am_rc, am_mask, am_lg, am_av, am_nat, fv_0, fv_1, fv_2, fv_3, fw_0, fw_1, List.getElem?_cons_zero, List.getElem?_cons_succ, List.set_cons_zero, List.set_cons_succ, List.length_cons, List.length_nil, List.take_succ_cons, List.take_zero, List.drop_succ_cons, List.drop_zero, List.reverse_cons, List.reverse_nil, List.nil_append, List.cons_append, List.append_nil, List.map_cons, List.map_nil, List.sum_cons, List.sum_nil, Value.category, Option.toList_some, Option.toList_none, Nat.reduceAdd, Nat.reduceLT, Nat.reduceLeDiff, Nat.reduceEqDiff, Nat.reduceSub, Nat.add_zero, Nat.le_refl, Nat.zero_le, Int.reduceNeg, Int.reduceLE, Int.reduceLT, true_and, and_true, and_self, if_true, if_false, ite_true, ite_false, eq_self_iff_true, reduceIte, reduceCtorEq, not_false_eq_true, not_true_eq_false, or_true, true_or, or_false, false_or, Nat.lt_irrefl, Nat.zero_lt_succ]
  refine ⟨1, a, by decide, rfl, rfl, ?_⟩
  try simp only [dX2_setAll_0, dX2_setAll_1, FT_X2_21, dX2_setAll_4, dX2_setAll_5, xX2_setAll_c45, xX2_setAll_n45, dX2_setAll_8, dX2_setAll_9, dX2_setAll_10, dX2_setAll_11, xX2_setAll_c51, xX2_setAll_n51, dX2_setAll_14, dX2_setAll_15, dX2_setAll_16, dX2_setAll_17, dX2_setAll_20, xX2_setAll_SH, xX2_setAll_KF, xX2_setAll_rt, xX2_setAll_FT, xX2_setAll_PT, xX2_setAll_CT, xX2_setAll_KT, xX2_setAll_LT, xX2_setAll_NT, o_aload_n, o_getfield, o_iconst, o_iload_n, o_invokestatic, o_invokevirtual, o_return_, SH_4, KF_4_3, SH_8, SH_21, KF_21_3, SH_25, am_ty, am_vc, am_opt, am_cl, am_find, am_ldi, am_ldl, am_lda, am_v, am_1, am_1l, am_1a, am_2, am_2l, am_ix, am_ri, am_arr, am_pf, am_rc, am_mask, am_lg, am_av, am_nat, fv_0, fv_1, fv_2, fv_3, fw_0, fw_1, List.getElem?_cons_zero, List.getElem?_cons_succ, List.set_cons_zero, List.set_cons_succ, List.length_cons, List.length_nil, List.take_succ_cons, List.take_zero, List.drop_succ_cons, List.drop_zero, List.reverse_cons, List.reverse_nil, List.nil_append, List.cons_append, List.append_nil, List.map_cons, List.map_nil, List.sum_cons, List.sum_nil, Value.category, Option.toList_some, Option.toList_none, Nat.reduceAdd, Nat.reduceLT, Nat.reduceLeDiff, Nat.reduceEqDiff, Nat.reduceSub, Nat.add_zero, Nat.le_refl, Nat.zero_le, Int.reduceNeg, Int.reduceLE, Int.reduceLT, true_and, and_true, and_self, if_true, if_false, ite_true, ite_false, eq_self_iff_true, reduceIte, reduceCtorEq, not_false_eq_true, not_true_eq_false, or_true, true_or, or_false, false_or, Nat.lt_irrefl, Nat.zero_lt_succ]
  refine hA [] 4 _ _ _ _ _ ?_
  try simp only [dX2_setAll_0, dX2_setAll_1, FT_X2_21, dX2_setAll_4, dX2_setAll_5, xX2_setAll_c45, xX2_setAll_n45, dX2_setAll_8, dX2_setAll_9, dX2_setAll_10, dX2_setAll_11, xX2_setAll_c51, xX2_setAll_n51, dX2_setAll_14, dX2_setAll_15, dX2_setAll_16, dX2_setAll_17, dX2_setAll_20, xX2_setAll_SH, xX2_setAll_KF, xX2_setAll_rt, xX2_setAll_FT, xX2_setAll_PT, xX2_setAll_CT, xX2_setAll_KT, xX2_setAll_LT, xX2_setAll_NT, o_aload_n, o_getfield, o_iconst, o_iload_n, o_invokestatic, o_invokevirtual, o_return_, SH_4, KF_4_3, SH_8, SH_21, KF_21_3, SH_25, am_ty, am_vc, am_opt, am_cl, am_find, am_ldi, am_ldl, am_lda, am_v, am_1, am_1l, am_1a, am_2, am_2l, am_ix, am_ri, am_arr, am_pf, am_rc, am_mask, am_lg, am_av, am_nat, fv_0, fv_1, fv_2, fv_3, fw_0, fw_1, List.getElem?_cons_zero, List.getElem?_cons_succ, List.set_cons_zero, List.set_cons_succ, List.length_cons, List.length_nil, List.take_succ_cons, List.take_zero, List.drop_succ_cons, List.drop_zero, List.reverse_cons, List.reverse_nil, List.nil_append, List.cons_append, List.append_nil, List.map_cons, List.map_nil, List.sum_cons, List.sum_nil, Value.category, Option.toList_some, Option.toList_none, Nat.reduceAdd, Nat.reduceLT, Nat.reduceLeDiff, Nat.reduceEqDiff, Nat.reduceSub, Nat.add_zero, Nat.le_refl, Nat.zero_le, Int.reduceNeg, Int.reduceLE, Int.reduceLT, true_and, and_true, and_self, if_true, if_false, ite_true, ite_false, eq_self_iff_true, reduceIte, reduceCtorEq, not_false_eq_true, not_true_eq_false, or_true, true_or, or_false, false_or, Nat.lt_irrefl, Nat.zero_lt_succ]
  refine ⟨2, b, by decide, rfl, rfl, ?_⟩
  try simp only [dX2_setAll_0, dX2_setAll_1, FT_X2_21, dX2_setAll_4, dX2_setAll_5, xX2_setAll_c45, xX2_setAll_n45, dX2_setAll_8, dX2_setAll_9, dX2_setAll_10, dX2_setAll_11, xX2_setAll_c51, xX2_setAll_n51, dX2_setAll_14, dX2_setAll_15, dX2_setAll_16, dX2_setAll_17, dX2_setAll_20, xX2_setAll_SH, xX2_setAll_KF, xX2_setAll_rt, xX2_setAll_FT, xX2_setAll_PT, xX2_setAll_CT, xX2_setAll_KT, xX2_setAll_LT, xX2_setAll_NT, o_aload_n, o_getfield, o_iconst, o_iload_n, o_invokestatic, o_invokevirtual, o_return_, SH_4, KF_4_3, SH_8, SH_21, KF_21_3, SH_25, am_ty, am_vc, am_opt, am_cl, am_find, am_ldi, am_ldl, am_lda, am_v, am_1, am_1l, am_1a, am_2, am_2l, am_ix, am_ri, am_arr, am_pf, am_rc, am_mask, am_lg, am_av, am_nat, fv_0, fv_1, fv_2, fv_3, fw_0, fw_1, List.getElem?_cons_zero, List.getElem?_cons_succ, List.set_cons_zero, List.set_cons_succ, List.length_cons, List.length_nil, List.take_succ_cons, List.take_zero, List.drop_succ_cons, List.drop_zero, List.reverse_cons, List.reverse_nil, List.nil_append, List.cons_append, List.append_nil, List.map_cons, List.map_nil, List.sum_cons, List.sum_nil, Value.category, Option.toList_some, Option.toList_none, Nat.reduceAdd, Nat.reduceLT, Nat.reduceLeDiff, Nat.reduceEqDiff, Nat.reduceSub, Nat.add_zero, Nat.le_refl, Nat.zero_le, Int.reduceNeg, Int.reduceLE, Int.reduceLT, true_and, and_true, and_self, if_true, if_false, ite_true, ite_false, eq_self_iff_true, reduceIte, reduceCtorEq, not_false_eq_true, not_true_eq_false, or_true, true_or, or_false, false_or, Nat.lt_irrefl, Nat.zero_lt_succ]
  refine hA [] 4 _ _ _ _ _ ?_
  try simp only [dX2_setAll_0, dX2_setAll_1, FT_X2_21, dX2_setAll_4, dX2_setAll_5, xX2_setAll_c45, xX2_setAll_n45, dX2_setAll_8, dX2_setAll_9, dX2_setAll_10, dX2_setAll_11, xX2_setAll_c51, xX2_setAll_n51, dX2_setAll_14, dX2_setAll_15, dX2_setAll_16, dX2_setAll_17, dX2_setAll_20, xX2_setAll_SH, xX2_setAll_KF, xX2_setAll_rt, xX2_setAll_FT, xX2_setAll_PT, xX2_setAll_CT, xX2_setAll_KT, xX2_setAll_LT, xX2_setAll_NT, o_aload_n, o_getfield, o_iconst, o_iload_n, o_invokestatic, o_invokevirtual, o_return_, SH_4, KF_4_3, SH_8, SH_21, KF_21_3, SH_25, am_ty, am_vc, am_opt, am_cl, am_find, am_ldi, am_ldl, am_lda, am_v, am_1, am_1l, am_1a, am_2, am_2l, am_ix, am_ri, am_arr, am_pf, am_rc, am_mask, am_lg, am_av, am_nat, fv_0, fv_1, fv_2, fv_3, fw_0, fw_1, List.getElem?_cons_zero, List.getElem?_cons_succ, List.set_cons_zero, List.set_cons_succ, List.length_cons, List.length_nil, List.take_succ_cons, List.take_zero, List.drop_succ_cons, List.drop_zero, List.reverse_cons, List.reverse_nil, List.nil_append, List.cons_append, List.append_nil, List.map_cons, List.map_nil, List.sum_cons, List.sum_nil, Value.category, Option.toList_some, Option.toList_none, Nat.reduceAdd, Nat.reduceLT, Nat.reduceLeDiff, Nat.reduceEqDiff, Nat.reduceSub, Nat.add_zero, Nat.le_refl, Nat.zero_le, Int.reduceNeg, Int.reduceLE, Int.reduceLT, true_and, and_true, and_self, if_true, if_false, ite_true, ite_false, eq_self_iff_true, reduceIte, reduceCtorEq, not_false_eq_true, not_true_eq_false, or_true, true_or, or_false, false_or, Nat.lt_irrefl, Nat.zero_lt_succ]
  exact h
theorem mX2_setAll (l : Launch) : am_M l TB NB vwCl SH KF yX2_setAll cX2_setAll 3 none 3 0 0 sX2_setAll := by
  refine am_M.of xX2_setAll (by decide +kernel) TB_good GF rfl rfl rfl (by decide) ⟨FT_X2_ok, PT_X2_ok _, CT_X2_ok, KT_X2_ok, LT_X2_ok, NT_X2_ok, ?_⟩ pX2_setAll
  exact List.forall_mem_cons.mpr ⟨⟨yJ7_fill_53178, cJ7_fill_53178, 4, none, 2, 2, mJ7_fill_53178 l, by decide, by decide, tk_462, tk_119, ⟨by decide +kernel, by decide +kernel, by decide +kernel⟩, rfl, tk_733, tk_461⟩, List.forall_mem_cons.mpr ⟨⟨yX2_set, cX2_set, 3, none, 2, 2, mX2_set l, by decide, by decide, tk_737, tk_106, ⟨by decide +kernel, by decide +kernel, by decide +kernel⟩, rfl, tk_734, tk_735, ⟨(RX2, TX2, 6), rfl, tk_736⟩⟩, fun _ h => absurd h List.not_mem_nil⟩⟩

