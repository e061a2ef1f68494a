/-! THE TAPE: what feed, back and read of both do to its length. Printed by wip/am/chk/hand/tape.py. -/
def yX11_backw : am_Sp := fun as n σ post => ∃ z T : Int, (-2147483648 ≤ z ∧ z < 2147483648) ∧ (0 ≤ T ∧ T ≤ 2000) ∧ n = 92 ∧ as = [.ref 0, .int (Int32.ofInt z)] ∧ σ.1 0 1 = Int32.ofInt T ∧ (0 ≤ z → z ≤ T → post (some (.int (Int32.ofInt (T - z)))) (am_pi σ 0 1 (Int32.ofInt (T - z)))) ∧ (¬ (0 ≤ z ∧ z ≤ T) → post (some (.int (Int32.ofInt (-1)))) σ)
def xX11_back : am_X := (SH, KF, (some .int), FT_X11, PT_X11, CT_X11, KT_X11, LT_X11, NT_X11, [])
theorem xX11_back_SH : am_SH xX11_back = SH := rfl
theorem xX11_back_KF : am_KF xX11_back = KF := rfl
theorem xX11_back_rt : am_rt xX11_back = (some .int) := rfl
theorem xX11_back_FT : am_FT xX11_back = FT_X11 := rfl
theorem xX11_back_PT : am_PT xX11_back = PT_X11 := rfl
theorem xX11_back_CT : am_CT xX11_back = CT_X11 := rfl
theorem xX11_back_KT : am_KT xX11_back = KT_X11 := rfl
theorem xX11_back_LT : am_LT xX11_back = LT_X11 := rfl
theorem xX11_back_NT : am_NT xX11_back = NT_X11 := rfl
theorem xX11_back_t1 (k : Nat → Prop) : am_tg 1 (11) k = k 12 := am_tg_eq (by decide)
theorem xX11_back_t9 (k : Nat → Prop) : am_tg 9 (5) k = k 14 := am_tg_eq (by decide)

theorem pX11_backw : am_B cX11_back xX11_back 2 0 yX11_backw := by
  intro n0 as σ post AA hA h
  obtain ⟨z, T, hz, hT, rfl, rfl, e1, h1, h2⟩ := h
  refine ⟨by simp [am_sl, Value.category], ?_⟩
  show AA 0 [some (.ref 0), some (.int (Int32.ofInt z))] [] 92 σ
  refine hA [] 40 _ _ _ _ _ ?_
  try simp only [dX11_back_0, dX11_back_1, xX11_back_t1, dX11_back_4, dX11_back_5, dX11_back_6, FT_X11_13, dX11_back_9, xX11_back_t9, dX11_back_12, dX11_back_13, dX11_back_14, dX11_back_15, dX11_back_16, dX11_back_19, dX11_back_20, dX11_back_21, PT_X11_13, dX11_back_24, dX11_back_25, dX11_back_28, xX11_back_SH, xX11_back_KF, xX11_back_rt, xX11_back_FT, xX11_back_PT, xX11_back_CT, xX11_back_KT, xX11_back_LT, xX11_back_NT, o_aload_n, o_dup, o_getfield, o_iconst, o_ifCond_lt, o_if_icmp_le, o_iload_n, o_ireturn, o_isub, o_putfield, SH_0, KF_0_1, am_ty, am_vc, am_opt, am_cl, am_find, am_ldi, am_ldl, am_lda, am_v, am_1, am_1l, am_1a, am_2, am_2l, am_ix, am_ri, am_arr, am_pf, am_rc, am_mask, am_lg, am_av, am_nat, fv_0, fv_1, fv_2, fv_3, fw_0, fw_1, List.getElem?_cons_zero, List.getElem?_cons_succ, List.set_cons_zero, List.set_cons_succ, List.length_cons, List.length_nil, List.take_succ_cons, List.take_zero, List.drop_succ_cons, List.drop_zero, List.reverse_cons, List.reverse_nil, List.nil_append, List.cons_append, List.append_nil, List.map_cons, List.map_nil, List.sum_cons, List.sum_nil, Value.category, Option.toList_some, Option.toList_none, Nat.reduceAdd, Nat.reduceLT, Nat.reduceLeDiff, Nat.reduceEqDiff, Nat.reduceSub, Nat.add_zero, Nat.le_refl, Nat.zero_le, Int.reduceNeg, Int.reduceLE, Int.reduceLT, true_and, and_true, and_self, if_true, if_false, ite_true, ite_false, eq_self_iff_true, reduceIte, reduceCtorEq, not_false_eq_true, not_true_eq_false, or_true, true_or, or_false, false_or, Nat.lt_irrefl, Nat.zero_lt_succ, e1, pi_s]
  try simp (disch := omega) only [ii_0, ii_1, ii_t, ii_add, ii_sub, ii_mul, ii_lt, ii_le, ii_eq, ij_in, ii_c, Int.toNat_natCast, Int.toNat_zero, Int.reduceToNat, Int.reduceEq, Int.reduceNe, Int.reduceLE, Int.reduceLT, Int.reduceAdd, Int.reduceSub, Int.reduceMul, Int.reduceNeg, Nat.reduceLT, Nat.reduceAdd, Nat.reduceMul, not_false_eq_true, not_true_eq_false, true_and, and_true, and_self, false_and, and_false, true_implies, false_implies, implies_true, forall_const, if_true, if_false, ite_true, ite_false, reduceIte, eq_self_iff_true, Int.natCast_nonneg, Int.zero_add, Int.add_zero, pi_s, pi_n]
  refine ⟨fun q => h2 (by omega), fun q => ⟨fun q2 => h1 (by omega) (by omega), fun q2 => h2 (by omega)⟩⟩
theorem mX11_backw (l : Launch) : am_M l TB NB vwCl SH KF yX11_back cX11_back 2 (some .int) 2 0 0 yX11_backw :=
  am_M.of xX11_back (by decide +kernel) TB_good GF rfl rfl rfl (by decide) ⟨FT_X11_ok, PT_X11_ok _, CT_X11_ok, KT_X11_ok, LT_X11_ok, NT_X11_ok, fun _ h => absurd h List.not_mem_nil⟩ pX11_backw