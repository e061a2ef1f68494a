-- Laws that no text has told
def sX2_set : am_Sp := fun as n σ post => ∃ (k : Int) (w : Int32), (0 ≤ k ∧ k < 9) ∧ n = 92 ∧ as = [.ref 21, .int (Int32.ofInt k), .int w] ∧ post none (am_pi σ 25 k.toNat w)
def xX2_set : am_X := (SH, KF, none, FT_X2, PT_X2, CT_X2, KT_X2, LT_X2, NT_X2, [])
theorem xX2_set_SH : am_SH xX2_set = SH := rfl
theorem xX2_set_KF : am_KF xX2_set = KF := rfl
theorem xX2_set_rt : am_rt xX2_set = none := rfl
theorem xX2_set_FT : am_FT xX2_set = FT_X2 := rfl
theorem xX2_set_PT : am_PT xX2_set = PT_X2 := rfl
theorem xX2_set_CT : am_CT xX2_set = CT_X2 := rfl
theorem xX2_set_KT : am_KT xX2_set = KT_X2 := rfl
theorem xX2_set_LT : am_LT xX2_set = LT_X2 := rfl
theorem xX2_set_NT : am_NT xX2_set = NT_X2 := rfl
theorem xX2_set_t1 (k : Nat → Prop) : am_tg 1 (19) k = k 20 := am_tg_eq (by decide)
theorem xX2_set_t10 (k : Nat → Prop) : am_tg 10 (10) k = k 20 := am_tg_eq (by decide)

set_option maxRecDepth 100000 in
theorem pX2_set : am_B cX2_set xX2_set 3 0 sX2_set := by
  intro n0 as σ post AA hA h
  obtain ⟨k, w, hk, rfl, rfl, h⟩ := h
  refine ⟨by simp [am_sl, Value.category], ?_⟩
  show AA 0 [some (.ref 21), some (.int (Int32.ofInt k)), some (.int w)] [] 92 σ
  refine hA [] 40 _ _ _ _ _ ?_
  try simp only [dX2_set_0, dX2_set_1, xX2_set_t1, dX2_set_4, dX2_set_5, dX2_set_6, FT_X2_21, dX2_set_9, dX2_set_10, xX2_set_t10, dX2_set_13, dX2_set_14, dX2_set_17, dX2_set_18, dX2_set_19, dX2_set_20, xX2_set_SH, xX2_set_KF, xX2_set_rt, xX2_set_FT, xX2_set_PT, xX2_set_CT, xX2_set_KT, xX2_set_LT, xX2_set_NT, o_aload_n, o_arraylength, o_getfield, o_iastore, o_ifCond_lt, o_if_icmp_ge, o_iload_n, o_return_, SH_4, KF_4_3, SH_8, SH_21, KF_21_3, SH_25, am_ty, am_vc, am_opt, am_cl, am_find, am_ldi, am_ldl, am_lda, am_v, am_1, am_1l, am_1a, am_2, am_2l, am_ix, am_ri, am_arr, am_pf, am_rc, am_mask, am_lg, am_av, am_nat, fv_0, fv_1, fv_2, fv_3, fw_0, fw_1, List.getElem?_cons_zero, List.getElem?_cons_succ, List.set_cons_zero, List.set_cons_succ, List.length_cons, List.length_nil, List.take_succ_cons, List.take_zero, List.drop_succ_cons, List.drop_zero, List.reverse_cons, List.reverse_nil, List.nil_append, List.cons_append, List.append_nil, List.map_cons, List.map_nil, List.sum_cons, List.sum_nil, Value.category, Option.toList_some, Option.toList_none, Nat.reduceAdd, Nat.reduceLT, Nat.reduceLeDiff, Nat.reduceEqDiff, Nat.reduceSub, Nat.add_zero, Nat.le_refl, Nat.zero_le, Int.reduceNeg, Int.reduceLE, Int.reduceLT, true_and, and_true, and_self, if_true, if_false, ite_true, ite_false, eq_self_iff_true, reduceIte, reduceCtorEq, not_false_eq_true, not_true_eq_false, or_true, true_or, or_false, false_or, Nat.lt_irrefl, Nat.zero_lt_succ, on_i]
  try simp (disch := omega) only [ii_0, ii_1, ii_t, ii_add, ii_sub, ii_mul, ii_lt, ii_le, ii_eq, ij_in, ii_c, Int.toNat_natCast, Int.toNat_zero, Int.reduceToNat, Int.reduceEq, Int.reduceNe, Int.reduceLE, Int.reduceLT, Int.reduceAdd, Int.reduceSub, Int.reduceMul, Int.reduceNeg, Nat.reduceLT, Nat.reduceAdd, Nat.reduceMul, not_false_eq_true, not_true_eq_false, true_and, and_true, and_self, false_and, and_false, true_implies, false_implies, implies_true, forall_const, if_true, if_false, ite_true, ite_false, reduceIte, eq_self_iff_true, Int.natCast_nonneg, Int.zero_add, Int.add_zero, pi_s, pi_n, on_i]
  exact ⟨fun _ => by omega, fun _ => ⟨fun _ => by omega, fun _ => ⟨by omega, h⟩⟩⟩
theorem mX2_set (l : Launch) : am_M l TB NB vwCl SH KF yX2_set cX2_set 3 none 2 0 0 sX2_set := by
  refine am_M.of xX2_set (by decide +kernel) TB_good GF rfl rfl rfl (by decide) ⟨FT_X2_ok, PT_X2_ok _, CT_X2_ok, KT_X2_ok, LT_X2_ok, NT_X2_ok, ?_⟩ pX2_set
  exact fun _ h => absurd h List.not_mem_nil

