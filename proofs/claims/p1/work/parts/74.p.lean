-- Homes, Rumours, Shelf, Moment, Town: what is left of them
theorem dX1_areFound_0 : decode cX1_areFound 0 = .ok (.iconst 0, 1) := by decide +kernel
theorem dX1_areFound_1 : decode cX1_areFound 1 = .ok (.istore_n 3, 1) := by decide +kernel
theorem dX1_areFound_2 : decode cX1_areFound 2 = .ok (.iload_n 3, 1) := by decide +kernel
theorem dX1_areFound_3 : decode cX1_areFound 3 = .ok (.aload_n 0, 1) := by decide +kernel
theorem dX1_areFound_4 : decode cX1_areFound 4 = .ok (.getfield 9, 3) := by decide +kernel
theorem dX1_areFound_7 : decode cX1_areFound 7 = .ok (.arraylength, 1) := by decide +kernel
theorem dX1_areFound_8 : decode cX1_areFound 8 = .ok (.if_icmp .ge 59, 3) := by decide +kernel
theorem dX1_areFound_11 : decode cX1_areFound 11 = .ok (.aload_n 0, 1) := by decide +kernel
theorem dX1_areFound_12 : decode cX1_areFound 12 = .ok (.getfield 18, 3) := by decide +kernel
theorem dX1_areFound_15 : decode cX1_areFound 15 = .ok (.iload_n 3, 1) := by decide +kernel
theorem dX1_areFound_16 : decode cX1_areFound 16 = .ok (.invokevirtual 26, 3) := by decide +kernel
theorem dX1_areFound_19 : decode cX1_areFound 19 = .ok (.ifCond .eq 15, 3) := by decide +kernel
theorem dX1_areFound_22 : decode cX1_areFound 22 = .ok (.aload_n 1, 1) := by decide +kernel
theorem dX1_areFound_23 : decode cX1_areFound 23 = .ok (.iload_n 3, 1) := by decide +kernel
theorem dX1_areFound_24 : decode cX1_areFound 24 = .ok (.invokevirtual 32, 3) := by decide +kernel
theorem dX1_areFound_27 : decode cX1_areFound 27 = .ok (.ifCond .eq 7, 3) := by decide +kernel
theorem dX1_areFound_30 : decode cX1_areFound 30 = .ok (.iconst 1, 1) := by decide +kernel
theorem dX1_areFound_31 : decode cX1_areFound 31 = .ok (.goto 4, 3) := by decide +kernel
theorem dX1_areFound_34 : decode cX1_areFound 34 = .ok (.iconst 0, 1) := by decide +kernel
theorem dX1_areFound_35 : decode cX1_areFound 35 = .ok (.istore 4, 2) := by decide +kernel
theorem dX1_areFound_37 : decode cX1_areFound 37 = .ok (.aload_n 0, 1) := by decide +kernel
theorem dX1_areFound_38 : decode cX1_areFound 38 = .ok (.getfield 9, 3) := by decide +kernel
theorem dX1_areFound_41 : decode cX1_areFound 41 = .ok (.iload_n 3, 1) := by decide +kernel
theorem dX1_areFound_42 : decode cX1_areFound 42 = .ok (.iload 4, 2) := by decide +kernel
theorem dX1_areFound_44 : decode cX1_areFound 44 = .ok (.ifCond .eq 15, 3) := by decide +kernel
theorem dX1_areFound_47 : decode cX1_areFound 47 = .ok (.aload_n 0, 1) := by decide +kernel
theorem dX1_areFound_48 : decode cX1_areFound 48 = .ok (.getfield 22, 3) := by decide +kernel
theorem dX1_areFound_51 : decode cX1_areFound 51 = .ok (.aload_n 1, 1) := by decide +kernel
theorem dX1_areFound_52 : decode cX1_areFound 52 = .ok (.iload_n 3, 1) := by decide +kernel
theorem dX1_areFound_53 : decode cX1_areFound 53 = .ok (.invokevirtual 37, 3) := by decide +kernel
theorem dX1_areFound_56 : decode cX1_areFound 56 = .ok (.goto 4, 3) := by decide +kernel
theorem dX1_areFound_59 : decode cX1_areFound 59 = .ok (.iconst (-1), 1) := by decide +kernel
theorem dX1_areFound_60 : decode cX1_areFound 60 = .ok (.iastore, 1) := by decide +kernel
theorem dX1_areFound_61 : decode cX1_areFound 61 = .ok (.iinc 3 1, 3) := by decide +kernel
theorem dX1_areFound_64 : decode cX1_areFound 64 = .ok (.goto (-62), 3) := by decide +kernel
theorem dX1_areFound_67 : decode cX1_areFound 67 = .ok (.aload_n 0, 1) := by decide +kernel
theorem dX1_areFound_68 : decode cX1_areFound 68 = .ok (.aload_n 1, 1) := by decide +kernel
theorem dX1_areFound_69 : decode cX1_areFound 69 = .ok (.iload_n 2, 1) := by decide +kernel
theorem dX1_areFound_70 : decode cX1_areFound 70 = .ok (.iconst 0, 1) := by decide +kernel
theorem dX1_areFound_71 : decode cX1_areFound 71 = .ok (.invokestatic 43, 3) := by decide +kernel
theorem dX1_areFound_74 : decode cX1_areFound 74 = .ok (.ireturn, 1) := by decide +kernel
theorem dX1_settle_0 : decode cX1_settle 0 = .ok (.iload_n 3, 1) := by decide +kernel
theorem dX1_settle_1 : decode cX1_settle 1 = .ok (.ifCond .lt 23, 3) := by decide +kernel
theorem dX1_settle_4 : decode cX1_settle 4 = .ok (.iload_n 3, 1) := by decide +kernel
theorem dX1_settle_5 : decode cX1_settle 5 = .ok (.aload_n 0, 1) := by decide +kernel
theorem dX1_settle_6 : decode cX1_settle 6 = .ok (.getfield 18, 3) := by decide +kernel
theorem dX1_settle_9 : decode cX1_settle 9 = .ok (.getfield 51, 3) := by decide +kernel
theorem dX1_settle_12 : decode cX1_settle 12 = .ok (.if_icmp .ge 12, 3) := by decide +kernel
theorem dX1_settle_15 : decode cX1_settle 15 = .ok (.iload_n 3, 1) := by decide +kernel
theorem dX1_settle_16 : decode cX1_settle 16 = .ok (.aload_n 0, 1) := by decide +kernel
theorem dX1_settle_17 : decode cX1_settle 17 = .ok (.getfield 15, 3) := by decide +kernel
theorem dX1_settle_20 : decode cX1_settle 20 = .ok (.arraylength, 1) := by decide +kernel
theorem dX1_settle_21 : decode cX1_settle 21 = .ok (.if_icmp .lt 5, 3) := by decide +kernel
theorem dX1_settle_24 : decode cX1_settle 24 = .ok (.iconst 1, 1) := by decide +kernel
theorem dX1_settle_25 : decode cX1_settle 25 = .ok (.ireturn, 1) := by decide +kernel
theorem dX1_settle_26 : decode cX1_settle 26 = .ok (.aload_n 1, 1) := by decide +kernel
theorem dX1_settle_27 : decode cX1_settle 27 = .ok (.iconst 3, 1) := by decide +kernel
theorem dX1_settle_28 : decode cX1_settle 28 = .ok (.iload_n 3, 1) := by decide +kernel
theorem dX1_settle_29 : decode cX1_settle 29 = .ok (.invokevirtual 55, 3) := by decide +kernel
theorem dX1_settle_32 : decode cX1_settle 32 = .ok (.istore 4, 2) := by decide +kernel
theorem dX1_settle_34 : decode cX1_settle 34 = .ok (.aload_n 0, 1) := by decide +kernel
theorem dX1_settle_35 : decode cX1_settle 35 = .ok (.getfield 18, 3) := by decide +kernel
theorem dX1_settle_38 : decode cX1_settle 38 = .ok (.iload_n 3, 1) := by decide +kernel
theorem dX1_settle_39 : decode cX1_settle 39 = .ok (.invokevirtual 59, 3) := by decide +kernel
theorem dX1_settle_42 : decode cX1_settle 42 = .ok (.istore 5, 2) := by decide +kernel
theorem dX1_settle_44 : decode cX1_settle 44 = .ok (.iconst 0, 1) := by decide +kernel
theorem dX1_settle_45 : decode cX1_settle 45 = .ok (.istore 6, 2) := by decide +kernel
theorem dX1_settle_47 : decode cX1_settle 47 = .ok (.iload 6, 2) := by decide +kernel
theorem dX1_settle_49 : decode cX1_settle 49 = .ok (.aload_n 0, 1) := by decide +kernel
theorem dX1_settle_50 : decode cX1_settle 50 = .ok (.getfield 9, 3) := by decide +kernel
theorem dX1_settle_53 : decode cX1_settle 53 = .ok (.arraylength, 1) := by decide +kernel
theorem dX1_settle_54 : decode cX1_settle 54 = .ok (.if_icmp .ge 79, 3) := by decide +kernel
theorem dX1_settle_57 : decode cX1_settle 57 = .ok (.iload 6, 2) := by decide +kernel
theorem dX1_settle_59 : decode cX1_settle 59 = .ok (.iload 4, 2) := by decide +kernel
theorem dX1_settle_61 : decode cX1_settle 61 = .ok (.isub, 1) := by decide +kernel
theorem dX1_settle_62 : decode cX1_settle 62 = .ok (.invokestatic 63, 3) := by decide +kernel
theorem dX1_settle_65 : decode cX1_settle 65 = .ok (.iload_n 2, 1) := by decide +kernel
theorem dX1_settle_66 : decode cX1_settle 66 = .ok (.if_icmp .gt 61, 3) := by decide +kernel
theorem dX1_settle_69 : decode cX1_settle 69 = .ok (.iload 5, 2) := by decide +kernel
theorem dX1_settle_71 : decode cX1_settle 71 = .ok (.aload_n 0, 1) := by decide +kernel
theorem dX1_settle_72 : decode cX1_settle 72 = .ok (.getfield 9, 3) := by decide +kernel
theorem dX1_settle_75 : decode cX1_settle 75 = .ok (.iload 6, 2) := by decide +kernel
theorem dX1_settle_77 : decode cX1_settle 77 = .ok (.iaload, 1) := by decide +kernel
theorem dX1_settle_78 : decode cX1_settle 78 = .ok (.if_icmp .gt 49, 3) := by decide +kernel
theorem dX1_settle_81 : decode cX1_settle 81 = .ok (.aload_n 0, 1) := by decide +kernel
theorem dX1_settle_82 : decode cX1_settle 82 = .ok (.getfield 15, 3) := by decide +kernel
theorem dX1_settle_85 : decode cX1_settle 85 = .ok (.iload_n 3, 1) := by decide +kernel
theorem dX1_settle_86 : decode cX1_settle 86 = .ok (.iload 6, 2) := by decide +kernel
theorem dX1_settle_88 : decode cX1_settle 88 = .ok (.iastore, 1) := by decide +kernel
theorem dX1_settle_89 : decode cX1_settle 89 = .ok (.aload_n 0, 1) := by decide +kernel
theorem dX1_settle_90 : decode cX1_settle 90 = .ok (.getfield 9, 3) := by decide +kernel
theorem dX1_settle_93 : decode cX1_settle 93 = .ok (.iload 6, 2) := by decide +kernel
theorem dX1_settle_95 : decode cX1_settle 95 = .ok (.dup2, 1) := by decide +kernel
theorem dX1_settle_96 : decode cX1_settle 96 = .ok (.iaload, 1) := by decide +kernel
theorem dX1_settle_97 : decode cX1_settle 97 = .ok (.iload 5, 2) := by decide +kernel
theorem dX1_settle_99 : decode cX1_settle 99 = .ok (.isub, 1) := by decide +kernel
theorem dX1_settle_100 : decode cX1_settle 100 = .ok (.iastore, 1) := by decide +kernel
theorem dX1_settle_101 : decode cX1_settle 101 = .ok (.aload_n 0, 1) := by decide +kernel
theorem dX1_settle_102 : decode cX1_settle 102 = .ok (.aload_n 1, 1) := by decide +kernel
theorem dX1_settle_103 : decode cX1_settle 103 = .ok (.iload_n 2, 1) := by decide +kernel
theorem dX1_settle_104 : decode cX1_settle 104 = .ok (.iload_n 3, 1) := by decide +kernel
theorem dX1_settle_105 : decode cX1_settle 105 = .ok (.iconst 1, 1) := by decide +kernel
theorem dX1_settle_106 : decode cX1_settle 106 = .ok (.iadd, 1) := by decide +kernel
theorem dX1_settle_107 : decode cX1_settle 107 = .ok (.invokestatic 43, 3) := by decide +kernel
theorem dX1_settle_110 : decode cX1_settle 110 = .ok (.ifCond .eq 5, 3) := by decide +kernel
theorem dX1_settle_113 : decode cX1_settle 113 = .ok (.iconst 1, 1) := by decide +kernel
theorem dX1_settle_114 : decode cX1_settle 114 = .ok (.ireturn, 1) := by decide +kernel
theorem dX1_settle_115 : decode cX1_settle 115 = .ok (.aload_n 0, 1) := by decide +kernel
theorem dX1_settle_116 : decode cX1_settle 116 = .ok (.getfield 9, 3) := by decide +kernel
theorem dX1_settle_119 : decode cX1_settle 119 = .ok (.iload 6, 2) := by decide +kernel
theorem dX1_settle_121 : decode cX1_settle 121 = .ok (.dup2, 1) := by decide +kernel
theorem dX1_settle_122 : decode cX1_settle 122 = .ok (.iaload, 1) := by decide +kernel
theorem dX1_settle_123 : decode cX1_settle 123 = .ok (.iload 5, 2) := by decide +kernel
theorem dX1_settle_125 : decode cX1_settle 125 = .ok (.iadd, 1) := by decide +kernel
theorem dX1_settle_126 : decode cX1_settle 126 = .ok (.iastore, 1) := by decide +kernel
theorem dX1_settle_127 : decode cX1_settle 127 = .ok (.iinc 6 1, 3) := by decide +kernel
theorem dX1_settle_130 : decode cX1_settle 130 = .ok (.goto (-83), 3) := by decide +kernel
theorem dX1_settle_133 : decode cX1_settle 133 = .ok (.iconst 0, 1) := by decide +kernel
theorem dX1_settle_134 : decode cX1_settle 134 = .ok (.ireturn, 1) := by decide +kernel

def sX1_homeOf : am_Sp := fun _ _ _ _ => False
theorem mX1_homeOf (l : Launch) : am_M l TB NB vwCl SH KF yX1_homeOf cX1_homeOf 2 (some .int) 3 0 0 sX1_homeOf := am_never
def sX6_doesFit : am_Sp := fun _ _ _ _ => False
theorem mX6_doesFit (l : Launch) : am_M l TB NB vwCl SH KF yX6_doesFit cX6_doesFit 6 (some .boolean) 5 0 0 sX6_doesFit := am_never
def sX6_treads : am_Sp := fun _ _ _ _ => False
theorem mX6_treads (l : Launch) : am_M l TB NB vwCl SH KF yX6_treads cX6_treads 6 (some .boolean) 4 0 0 sX6_treads := am_never
def sX6_whoTreads : am_Sp := fun _ _ _ _ => False
theorem mX6_whoTreads (l : Launch) : am_M l TB NB vwCl SH KF yX6_whoTreads cX6_whoTreads 5 (some .int) 5 0 0 sX6_whoTreads := am_never

def sX1_settle : am_Sp := fun as n σ post => ∃ (m : Nat) (d : Int32), n = 92 ∧ as = [.ref 44, .ref m, .int d, .int (Int32.ofInt 0)] ∧ σ.1 20 1 = Int32.ofInt 0 ∧ post (some (.int (Int32.ofInt 1))) σ
def xX1_settle : am_X := (SH, KF, (some .boolean), FT_X1, PT_X1, CT_X1, KT_X1, LT_X1, NT_X1, [(55, 0, 3, 4, 0, 0, sX4_of), (59, 0, 2, 9, 0, 0, sX9_widthOf)])
theorem xX1_settle_SH : am_SH xX1_settle = SH := rfl
theorem xX1_settle_KF : am_KF xX1_settle = KF := rfl
theorem xX1_settle_rt : am_rt xX1_settle = (some .boolean) := rfl
theorem xX1_settle_FT : am_FT xX1_settle = FT_X1 := rfl
theorem xX1_settle_PT : am_PT xX1_settle = PT_X1 := rfl
theorem xX1_settle_CT : am_CT xX1_settle = CT_X1 := rfl
theorem xX1_settle_KT : am_KT xX1_settle = KT_X1 := rfl
theorem xX1_settle_LT : am_LT xX1_settle = LT_X1 := rfl
theorem xX1_settle_NT : am_NT xX1_settle = NT_X1 := rfl
theorem xX1_settle_c55 : am_find (am_ML xX1_settle) 55 = some (0, 3, 4, 0, 0, sX4_of) := rfl
theorem xX1_settle_n55 : am_find NT_X1 55 = none := rfl
theorem xX1_settle_c59 : am_find (am_ML xX1_settle) 59 = some (0, 2, 9, 0, 0, sX9_widthOf) := rfl
theorem xX1_settle_n59 : am_find NT_X1 59 = none := rfl
theorem xX1_settle_t1 (k : Nat → Prop) : am_tg 1 (23) k = k 24 := am_tg_eq (by decide)
theorem xX1_settle_t12 (k : Nat → Prop) : am_tg 12 (12) k = k 24 := am_tg_eq (by decide)
theorem xX1_settle_t21 (k : Nat → Prop) : am_tg 21 (5) k = k 26 := am_tg_eq (by decide)
theorem xX1_settle_t54 (k : Nat → Prop) : am_tg 54 (79) k = k 133 := am_tg_eq (by decide)
theorem xX1_settle_t66 (k : Nat → Prop) : am_tg 66 (61) k = k 127 := am_tg_eq (by decide)
theorem xX1_settle_t78 (k : Nat → Prop) : am_tg 78 (49) k = k 127 := am_tg_eq (by decide)
theorem xX1_settle_t110 (k : Nat → Prop) : am_tg 110 (5) k = k 115 := am_tg_eq (by decide)
theorem xX1_settle_t130 (k : Nat → Prop) : am_tg 130 (-83) k = k 47 := am_tg_eq (by decide)

set_option maxRecDepth 100000 in
theorem pX1_settle : am_B cX1_settle xX1_settle 7 0 sX1_settle := by
  intro n0 as σ post AA hA h
  obtain ⟨m, d, rfl, rfl, e1, h⟩ := h
  refine ⟨by simp [am_sl, Value.category], ?_⟩
  show AA 0 [some (.ref 44), some (.ref m), some (.int d), some (.int (Int32.ofInt 0)), none, none, none] [] 92 σ
  refine hA [(15, 4)] 8 _ _ _ _ _ ?_
  try simp only [dX1_settle_0, dX1_settle_1, xX1_settle_t1, dX1_settle_4, dX1_settle_5, dX1_settle_6, FT_X1_18, dX1_settle_9, FT_X1_51, dX1_settle_12, xX1_settle_t12, dX1_settle_15, dX1_settle_16, dX1_settle_17, FT_X1_15, dX1_settle_20, dX1_settle_21, xX1_settle_t21, dX1_settle_24, dX1_settle_25, dX1_settle_26, dX1_settle_27, dX1_settle_28, dX1_settle_29, xX1_settle_c55, xX1_settle_n55, dX1_settle_32, dX1_settle_34, dX1_settle_35, dX1_settle_38, dX1_settle_39, xX1_settle_c59, xX1_settle_n59, dX1_settle_42, dX1_settle_44, dX1_settle_45, dX1_settle_47, dX1_settle_49, dX1_settle_50, FT_X1_9, dX1_settle_53, dX1_settle_54, xX1_settle_t54, dX1_settle_57, dX1_settle_59, dX1_settle_61, dX1_settle_62, NT_X1, dX1_settle_65, dX1_settle_66, xX1_settle_t66, dX1_settle_69, dX1_settle_71, dX1_settle_72, dX1_settle_75, dX1_settle_77, dX1_settle_78, xX1_settle_t78, dX1_settle_81, dX1_settle_82, dX1_settle_85, dX1_settle_86, dX1_settle_88, dX1_settle_89, dX1_settle_90, dX1_settle_93, dX1_settle_95, dX1_settle_96, dX1_settle_97, dX1_settle_99, dX1_settle_100, dX1_settle_101, dX1_settle_102, dX1_settle_103, dX1_settle_104, dX1_settle_105, dX1_settle_106, dX1_settle_107, dX1_settle_110, xX1_settle_t110, dX1_settle_113, dX1_settle_114, dX1_settle_115, dX1_settle_116, dX1_settle_119, dX1_settle_121, dX1_settle_122, dX1_settle_123, dX1_settle_125, dX1_settle_126, dX1_settle_127, dX1_settle_130, xX1_settle_t130, dX1_settle_133, dX1_settle_134, xX1_settle_SH, xX1_settle_KF, xX1_settle_rt, xX1_settle_FT, xX1_settle_PT, xX1_settle_CT, xX1_settle_KT, xX1_settle_LT, xX1_settle_NT, o_aload_n, o_arraylength, o_dup2, o_getfield, o_goto, o_iadd, o_iaload, o_iastore, o_iconst, o_ifCond_eq, o_ifCond_lt, o_if_icmp_ge, o_if_icmp_gt, o_if_icmp_lt, o_iinc, o_iload, o_iload_n, o_invokestatic, o_invokevirtual, o_ireturn, o_istore, o_isub, SH_3, KF_3_1, SH_20, KF_20_1, SH_31, SH_33, SH_44, KF_44_2, SH_45, KF_44_3, SH_46, KF_44_0, am_ty, am_vc, am_opt, am_cl, am_find, am_ldi, am_ldl, am_lda, am_v, am_1, am_1l, am_1a, am_2, am_2l, am_ix, am_ri, am_arr, am_pf, am_rc, am_mask, am_lg, am_av, am_nat, fv_0, fv_1, fv_2, fv_3, fw_0, fw_1, List.getElem?_cons_zero, List.getElem?_cons_succ, List.set_cons_zero, List.set_cons_succ, List.length_cons, List.length_nil, List.take_succ_cons, List.take_zero, List.drop_succ_cons, List.drop_zero, List.reverse_cons, List.reverse_nil, List.nil_append, List.cons_append, List.append_nil, List.map_cons, List.map_nil, List.sum_cons, List.sum_nil, Value.category, Option.toList_some, Option.toList_none, Nat.reduceAdd, Nat.reduceLT, Nat.reduceLeDiff, Nat.reduceEqDiff, Nat.reduceSub, Nat.add_zero, Nat.le_refl, Nat.zero_le, Int.reduceNeg, Int.reduceLE, Int.reduceLT, true_and, and_true, and_self, if_true, if_false, ite_true, ite_false, eq_self_iff_true, reduceIte, reduceCtorEq, not_false_eq_true, not_true_eq_false, or_true, true_or, or_false, false_or, Nat.lt_irrefl, Nat.zero_lt_succ, e1, nb_1]
  try simp (disch := omega) only [ii_0, ii_1, ii_t, ii_add, ii_sub, ii_mul, ii_lt, ii_le, ii_eq, ij_in, ii_c, Int.toNat_natCast, Int.toNat_zero, Int.reduceToNat, Int.reduceEq, Int.reduceNe, Int.reduceLE, Int.reduceLT, Int.reduceAdd, Int.reduceSub, Int.reduceMul, Int.reduceNeg, Nat.reduceLT, Nat.reduceAdd, Nat.reduceMul, not_false_eq_true, not_true_eq_false, true_and, and_true, and_self, false_and, and_false, true_implies, false_implies, implies_true, forall_const, if_true, if_false, ite_true, ite_false, reduceIte, eq_self_iff_true, Int.natCast_nonneg, Int.zero_add, Int.add_zero, pi_s, pi_n, e1, nb_1]
  exact h
theorem mX1_settle (l : Launch) : am_M l TB NB vwCl SH KF yX1_settle cX1_settle 7 (some .boolean) 4 0 0 sX1_settle := by
  refine am_M.of xX1_settle (by decide +kernel) TB_good GF rfl rfl rfl (by decide) ⟨FT_X1_ok, PT_X1_ok _, CT_X1_ok, KT_X1_ok, LT_X1_ok, NT_X1_ok, ?_⟩ pX1_settle
  exact List.forall_mem_cons.mpr ⟨⟨yX4_of, cX4_of, 3, (some .int), 3, 2, mX4_of l, by decide, by decide, tb_at 702 (by decide +kernel) (by decide +kernel), tb_at 112 (by decide +kernel) (by decide +kernel), ⟨by decide +kernel, by decide +kernel, by decide +kernel⟩, rfl, tb_at 1125 (by decide +kernel) (by decide +kernel), tb_at 700 (by decide +kernel) (by decide +kernel), ⟨(RX4, TX4, 1), rfl, tb_at 701 (by decide +kernel) (by decide +kernel)⟩⟩, List.forall_mem_cons.mpr ⟨⟨yX9_widthOf, cX9_widthOf, 2, (some .int), 3, 1, mX9_widthOf l, by decide, by decide, tb_at 707 (by decide +kernel) (by decide +kernel), tb_at 105 (by decide +kernel) (by decide +kernel), ⟨by decide +kernel, by decide +kernel, by decide +kernel⟩, rfl, tb_at 1126 (by decide +kernel) (by decide +kernel), tb_at 705 (by decide +kernel) (by decide +kernel), ⟨(RX9, TX9, 8), rfl, tb_at 706 (by decide +kernel) (by decide +kernel)⟩⟩, fun _ h => absurd h List.not_mem_nil⟩⟩

-- but for what a reckoning needs and the room for homes all is as it was
def Se (σ τ : am_S) : Prop := (∀ o k, ¬ o = 25 → ¬ o = 26 → ¬ o = 45 → τ.1 o k = σ.1 o k) ∧ τ.2 = σ.2
theorem Se_c {σ τ υ : am_S} (h : Se σ τ) (g : Sc τ υ) : Se σ υ := ⟨fun o k a b c => (g.1 o k a b).trans (h.1 o k a b c), g.2.trans h.2⟩
theorem Se_pi {σ τ : am_S} {k : Nat} {x : Int32} (h : Se σ τ) : Se σ (am_pi τ 45 k x) := ⟨fun o k' q1 q2 q3 => by rw [pi_n _ _ _ _ (fun g => q3 g.1)]; exact h.1 o k' q1 q2 q3, h.2⟩
theorem Se_G {m : Nat} {σ τ : am_S} (h : Se σ τ) (g : GG m σ) : GG m τ := by
  obtain ⟨hm, ⟨a, b⟩, c, d⟩ := g
  have q : m + 1 = 32 ∨ m + 1 = 34 := by rcases hm with rfl | rfl <;> simp
  refine ⟨hm, ⟨?_, ?_⟩, ?_, ?_⟩
  · rw [h.1 _ _ (by decide) (by decide) (by decide)]; exact a
  · rw [h.1 _ _ (by decide) (by decide) (by decide)]; exact b
  · unfold FL at c ⊢
    simp only [h.1 24 _ (by decide) (by decide) (by decide), h.1 22 _ (by decide) (by decide) (by decide), h.1 23 _ (by decide) (by decide) (by decide)]
    exact c
  · rw [h.1 _ _ (by omega) (by omega) (by omega)]; exact d
theorem Se_H {σ τ : am_S} (h : Se σ τ) : Hi σ τ := fun o ho => ⟨funext fun k => h.1 o k (by omega) (by omega) (by omega), by rw [h.2]⟩
def sX1_areFound : am_Sp := fun as n σ post => ∃ (d : Int32), n = 92 ∧ as = [.ref 44, .ref 31, .int d] ∧ GG 31 σ ∧ ∀ τ : am_S, Hi σ τ → post (some (.int (Int32.ofInt 1))) τ
def xX1_areFound : am_X := (SH, KF, (some .boolean), FT_X1, PT_X1, CT_X1, KT_X1, LT_X1, NT_X1, [(26, 0, 2, 9, 0, 0, sX9_hasRung), (32, 0, 2, 4, 0, 0, sX4_isWhole), (37, 0, 3, 0, 0, 0, sX0_roomOf), (43, 1, 4, 1, 0, 0, sX1_settle)])
theorem xX1_areFound_SH : am_SH xX1_areFound = SH := rfl
theorem xX1_areFound_KF : am_KF xX1_areFound = KF := rfl
theorem xX1_areFound_rt : am_rt xX1_areFound = (some .boolean) := rfl
theorem xX1_areFound_FT : am_FT xX1_areFound = FT_X1 := rfl
theorem xX1_areFound_PT : am_PT xX1_areFound = PT_X1 := rfl
theorem xX1_areFound_CT : am_CT xX1_areFound = CT_X1 := rfl
theorem xX1_areFound_KT : am_KT xX1_areFound = KT_X1 := rfl
theorem xX1_areFound_LT : am_LT xX1_areFound = LT_X1 := rfl
theorem xX1_areFound_NT : am_NT xX1_areFound = NT_X1 := rfl
theorem xX1_areFound_c26 : am_find (am_ML xX1_areFound) 26 = some (0, 2, 9, 0, 0, sX9_hasRung) := rfl
theorem xX1_areFound_n26 : am_find NT_X1 26 = none := rfl
theorem xX1_areFound_c32 : am_find (am_ML xX1_areFound) 32 = some (0, 2, 4, 0, 0, sX4_isWhole) := rfl
theorem xX1_areFound_n32 : am_find NT_X1 32 = none := rfl
theorem xX1_areFound_c37 : am_find (am_ML xX1_areFound) 37 = some (0, 3, 0, 0, 0, sX0_roomOf) := rfl
theorem xX1_areFound_n37 : am_find NT_X1 37 = none := rfl
theorem xX1_areFound_c43 : am_find (am_ML xX1_areFound) 43 = some (1, 4, 1, 0, 0, sX1_settle) := rfl
theorem xX1_areFound_n43 : am_find NT_X1 43 = none := rfl
theorem xX1_areFound_t8 (k : Nat → Prop) : am_tg 8 (59) k = k 67 := am_tg_eq (by decide)
theorem xX1_areFound_t19 (k : Nat → Prop) : am_tg 19 (15) k = k 34 := am_tg_eq (by decide)
theorem xX1_areFound_t27 (k : Nat → Prop) : am_tg 27 (7) k = k 34 := am_tg_eq (by decide)
theorem xX1_areFound_t31 (k : Nat → Prop) : am_tg 31 (4) k = k 35 := am_tg_eq (by decide)
theorem xX1_areFound_t44 (k : Nat → Prop) : am_tg 44 (15) k = k 59 := am_tg_eq (by decide)
theorem xX1_areFound_t56 (k : Nat → Prop) : am_tg 56 (4) k = k 60 := am_tg_eq (by decide)
theorem xX1_areFound_t64 (k : Nat → Prop) : am_tg 64 (-62) k = k 2 := am_tg_eq (by decide)

set_option maxRecDepth 100000 in
theorem ho_loop2 {post : Option Value → am_S → Prop} {AA : Nat → List (Option Value) → List Value → Nat → am_S → Prop} (hA : ∀ cuts f pc ls stk n τ, am_vc cX1_areFound xX1_areFound (92 + 0) post AA cuts f pc ls stk n τ → AA pc ls stk n τ) {d : Int32} {σ : am_S} (hG : GG 31 σ) (h : ∀ τ : am_S, Hi σ τ → post (some (.int (Int32.ofInt 1))) τ) : ∀ k : Nat, k ≤ 12 → ∀ τ, Se σ τ → AA 2 [some (.ref 44), some (.ref 31), some (.int d), some (.int (Int32.ofInt (k : Int))), none] [] 92 τ := by
  refine am_up 12 fun k hk ih τ hT => ?_
  obtain ⟨hm, ⟨e1, e2⟩, hL, e3⟩ := Se_G hT hG
  refine hA [(11, 4), (67, 3)] 8 _ _ _ _ _ ?_
  try simp only [dX1_areFound_0, dX1_areFound_1, dX1_areFound_2, dX1_areFound_3, dX1_areFound_4, FT_X1_9, dX1_areFound_7, dX1_areFound_8, xX1_areFound_t8, dX1_areFound_11, dX1_areFound_12, FT_X1_18, dX1_areFound_15, dX1_areFound_16, xX1_areFound_c26, xX1_areFound_n26, dX1_areFound_19, xX1_areFound_t19, dX1_areFound_22, dX1_areFound_23, dX1_areFound_24, xX1_areFound_c32, xX1_areFound_n32, dX1_areFound_27, xX1_areFound_t27, dX1_areFound_30, dX1_areFound_31, xX1_areFound_t31, dX1_areFound_34, dX1_areFound_35, dX1_areFound_37, dX1_areFound_38, dX1_areFound_41, dX1_areFound_42, dX1_areFound_44, xX1_areFound_t44, dX1_areFound_47, dX1_areFound_48, FT_X1_22, dX1_areFound_51, dX1_areFound_52, dX1_areFound_53, xX1_areFound_c37, xX1_areFound_n37, dX1_areFound_56, xX1_areFound_t56, dX1_areFound_59, dX1_areFound_60, dX1_areFound_61, dX1_areFound_64, xX1_areFound_t64, dX1_areFound_67, dX1_areFound_68, dX1_areFound_69, dX1_areFound_70, dX1_areFound_71, xX1_areFound_c43, xX1_areFound_n43, dX1_areFound_74, xX1_areFound_SH, xX1_areFound_KF, xX1_areFound_rt, xX1_areFound_FT, xX1_areFound_PT, xX1_areFound_CT, xX1_areFound_KT, xX1_areFound_LT, xX1_areFound_NT, o_aload_n, o_arraylength, o_getfield, o_goto, o_iastore, o_iconst, o_ifCond_eq, o_if_icmp_ge, o_iinc, o_iload, o_iload_n, o_invokestatic, o_invokevirtual, o_ireturn, o_istore, o_istore_n, SH_3, SH_20, SH_31, SH_33, SH_38, SH_44, KF_44_2, SH_45, KF_44_1, KF_44_0, am_ty, am_vc, am_opt, am_cl, am_find, am_ldi, am_ldl, am_lda, am_v, am_1, am_1l, am_1a, am_2, am_2l, am_ix, am_ri, am_arr, am_pf, am_rc, am_mask, am_lg, am_av, am_nat, fv_0, fv_1, fv_2, fv_3, fw_0, fw_1, List.getElem?_cons_zero, List.getElem?_cons_succ, List.set_cons_zero, List.set_cons_succ, List.length_cons, List.length_nil, List.take_succ_cons, List.take_zero, List.drop_succ_cons, List.drop_zero, List.reverse_cons, List.reverse_nil, List.nil_append, List.cons_append, List.append_nil, List.map_cons, List.map_nil, List.sum_cons, List.sum_nil, Value.category, Option.toList_some, Option.toList_none, Nat.reduceAdd, Nat.reduceLT, Nat.reduceLeDiff, Nat.reduceEqDiff, Nat.reduceSub, Nat.add_zero, Nat.le_refl, Nat.zero_le, Int.reduceNeg, Int.reduceLE, Int.reduceLT, true_and, and_true, and_self, if_true, if_false, ite_true, ite_false, eq_self_iff_true, reduceIte, reduceCtorEq, not_false_eq_true, not_true_eq_false, or_true, true_or, or_false, false_or, Nat.lt_irrefl, Nat.zero_lt_succ, on_i]
  try simp (disch := omega) only [ii_0, ii_1, ii_t, ii_add, ii_sub, ii_mul, ii_lt, ii_le, ii_eq, ij_in, ii_c, Int.toNat_natCast, Int.toNat_zero, Int.reduceToNat, Int.reduceEq, Int.reduceNe, Int.reduceLE, Int.reduceLT, Int.reduceAdd, Int.reduceSub, Int.reduceMul, Int.reduceNeg, Nat.reduceLT, Nat.reduceAdd, Nat.reduceMul, not_false_eq_true, not_true_eq_false, true_and, and_true, and_self, false_and, and_false, true_implies, false_implies, implies_true, forall_const, if_true, if_false, ite_true, ite_false, reduceIte, eq_self_iff_true, Int.natCast_nonneg, Int.zero_add, Int.add_zero, pi_s, pi_n, ik_s, on_i]
  refine ⟨fun q => ?_, fun q => ?_⟩
  · refine hA [] 5 _ _ _ _ _ ?_
    try simp only [dX1_areFound_0, dX1_areFound_1, dX1_areFound_2, dX1_areFound_3, dX1_areFound_4, FT_X1_9, dX1_areFound_7, dX1_areFound_8, xX1_areFound_t8, dX1_areFound_11, dX1_areFound_12, FT_X1_18, dX1_areFound_15, dX1_areFound_16, xX1_areFound_c26, xX1_areFound_n26, dX1_areFound_19, xX1_areFound_t19, dX1_areFound_22, dX1_areFound_23, dX1_areFound_24, xX1_areFound_c32, xX1_areFound_n32, dX1_areFound_27, xX1_areFound_t27, dX1_areFound_30, dX1_areFound_31, xX1_areFound_t31, dX1_areFound_34, dX1_areFound_35, dX1_areFound_37, dX1_areFound_38, dX1_areFound_41, dX1_areFound_42, dX1_areFound_44, xX1_areFound_t44, dX1_areFound_47, dX1_areFound_48, FT_X1_22, dX1_areFound_51, dX1_areFound_52, dX1_areFound_53, xX1_areFound_c37, xX1_areFound_n37, dX1_areFound_56, xX1_areFound_t56, dX1_areFound_59, dX1_areFound_60, dX1_areFound_61, dX1_areFound_64, xX1_areFound_t64, dX1_areFound_67, dX1_areFound_68, dX1_areFound_69, dX1_areFound_70, dX1_areFound_71, xX1_areFound_c43, xX1_areFound_n43, dX1_areFound_74, xX1_areFound_SH, xX1_areFound_KF, xX1_areFound_rt, xX1_areFound_FT, xX1_areFound_PT, xX1_areFound_CT, xX1_areFound_KT, xX1_areFound_LT, xX1_areFound_NT, o_aload_n, o_arraylength, o_getfield, o_goto, o_iastore, o_iconst, o_ifCond_eq, o_if_icmp_ge, o_iinc, o_iload, o_iload_n, o_invokestatic, o_invokevirtual, o_ireturn, o_istore, o_istore_n, SH_3, SH_20, SH_31, SH_33, SH_38, SH_44, KF_44_2, SH_45, KF_44_1, KF_44_0, am_ty, am_vc, am_opt, am_cl, am_find, am_ldi, am_ldl, am_lda, am_v, am_1, am_1l, am_1a, am_2, am_2l, am_ix, am_ri, am_arr, am_pf, am_rc, am_mask, am_lg, am_av, am_nat, fv_0, fv_1, fv_2, fv_3, fw_0, fw_1, List.getElem?_cons_zero, List.getElem?_cons_succ, List.set_cons_zero, List.set_cons_succ, List.length_cons, List.length_nil, List.take_succ_cons, List.take_zero, List.drop_succ_cons, List.drop_zero, List.reverse_cons, List.reverse_nil, List.nil_append, List.cons_append, List.append_nil, List.map_cons, List.map_nil, List.sum_cons, List.sum_nil, Value.category, Option.toList_some, Option.toList_none, Nat.reduceAdd, Nat.reduceLT, Nat.reduceLeDiff, Nat.reduceEqDiff, Nat.reduceSub, Nat.add_zero, Nat.le_refl, Nat.zero_le, Int.reduceNeg, Int.reduceLE, Int.reduceLT, true_and, and_true, and_self, if_true, if_false, ite_true, ite_false, eq_self_iff_true, reduceIte, reduceCtorEq, not_false_eq_true, not_true_eq_false, or_true, true_or, or_false, false_or, Nat.lt_irrefl, Nat.zero_lt_succ]
    refine ⟨_, _, rfl, rfl, e2, ?_⟩
    try simp only [dX1_areFound_0, dX1_areFound_1, dX1_areFound_2, dX1_areFound_3, dX1_areFound_4, FT_X1_9, dX1_areFound_7, dX1_areFound_8, xX1_areFound_t8, dX1_areFound_11, dX1_areFound_12, FT_X1_18, dX1_areFound_15, dX1_areFound_16, xX1_areFound_c26, xX1_areFound_n26, dX1_areFound_19, xX1_areFound_t19, dX1_areFound_22, dX1_areFound_23, dX1_areFound_24, xX1_areFound_c32, xX1_areFound_n32, dX1_areFound_27, xX1_areFound_t27, dX1_areFound_30, dX1_areFound_31, xX1_areFound_t31, dX1_areFound_34, dX1_areFound_35, dX1_areFound_37, dX1_areFound_38, dX1_areFound_41, dX1_areFound_42, dX1_areFound_44, xX1_areFound_t44, dX1_areFound_47, dX1_areFound_48, FT_X1_22, dX1_areFound_51, dX1_areFound_52, dX1_areFound_53, xX1_areFound_c37, xX1_areFound_n37, dX1_areFound_56, xX1_areFound_t56, dX1_areFound_59, dX1_areFound_60, dX1_areFound_61, dX1_areFound_64, xX1_areFound_t64, dX1_areFound_67, dX1_areFound_68, dX1_areFound_69, dX1_areFound_70, dX1_areFound_71, xX1_areFound_c43, xX1_areFound_n43, dX1_areFound_74, xX1_areFound_SH, xX1_areFound_KF, xX1_areFound_rt, xX1_areFound_FT, xX1_areFound_PT, xX1_areFound_CT, xX1_areFound_KT, xX1_areFound_LT, xX1_areFound_NT, o_aload_n, o_arraylength, o_getfield, o_goto, o_iastore, o_iconst, o_ifCond_eq, o_if_icmp_ge, o_iinc, o_iload, o_iload_n, o_invokestatic, o_invokevirtual, o_ireturn, o_istore, o_istore_n, SH_3, SH_20, SH_31, SH_33, SH_38, SH_44, KF_44_2, SH_45, KF_44_1, KF_44_0, am_ty, am_vc, am_opt, am_cl, am_find, am_ldi, am_ldl, am_lda, am_v, am_1, am_1l, am_1a, am_2, am_2l, am_ix, am_ri, am_arr, am_pf, am_rc, am_mask, am_lg, am_av, am_nat, fv_0, fv_1, fv_2, fv_3, fw_0, fw_1, List.getElem?_cons_zero, List.getElem?_cons_succ, List.set_cons_zero, List.set_cons_succ, List.length_cons, List.length_nil, List.take_succ_cons, List.take_zero, List.drop_succ_cons, List.drop_zero, List.reverse_cons, List.reverse_nil, List.nil_append, List.cons_append, List.append_nil, List.map_cons, List.map_nil, List.sum_cons, List.sum_nil, Value.category, Option.toList_some, Option.toList_none, Nat.reduceAdd, Nat.reduceLT, Nat.reduceLeDiff, Nat.reduceEqDiff, Nat.reduceSub, Nat.add_zero, Nat.le_refl, Nat.zero_le, Int.reduceNeg, Int.reduceLE, Int.reduceLT, true_and, and_true, and_self, if_true, if_false, ite_true, ite_false, eq_self_iff_true, reduceIte, reduceCtorEq, not_false_eq_true, not_true_eq_false, or_true, true_or, or_false, false_or, Nat.lt_irrefl, Nat.zero_lt_succ]
    refine hA [] 5 _ _ _ _ _ ?_
    try simp only [dX1_areFound_0, dX1_areFound_1, dX1_areFound_2, dX1_areFound_3, dX1_areFound_4, FT_X1_9, dX1_areFound_7, dX1_areFound_8, xX1_areFound_t8, dX1_areFound_11, dX1_areFound_12, FT_X1_18, dX1_areFound_15, dX1_areFound_16, xX1_areFound_c26, xX1_areFound_n26, dX1_areFound_19, xX1_areFound_t19, dX1_areFound_22, dX1_areFound_23, dX1_areFound_24, xX1_areFound_c32, xX1_areFound_n32, dX1_areFound_27, xX1_areFound_t27, dX1_areFound_30, dX1_areFound_31, xX1_areFound_t31, dX1_areFound_34, dX1_areFound_35, dX1_areFound_37, dX1_areFound_38, dX1_areFound_41, dX1_areFound_42, dX1_areFound_44, xX1_areFound_t44, dX1_areFound_47, dX1_areFound_48, FT_X1_22, dX1_areFound_51, dX1_areFound_52, dX1_areFound_53, xX1_areFound_c37, xX1_areFound_n37, dX1_areFound_56, xX1_areFound_t56, dX1_areFound_59, dX1_areFound_60, dX1_areFound_61, dX1_areFound_64, xX1_areFound_t64, dX1_areFound_67, dX1_areFound_68, dX1_areFound_69, dX1_areFound_70, dX1_areFound_71, xX1_areFound_c43, xX1_areFound_n43, dX1_areFound_74, xX1_areFound_SH, xX1_areFound_KF, xX1_areFound_rt, xX1_areFound_FT, xX1_areFound_PT, xX1_areFound_CT, xX1_areFound_KT, xX1_areFound_LT, xX1_areFound_NT, o_aload_n, o_arraylength, o_getfield, o_goto, o_iastore, o_iconst, o_ifCond_eq, o_if_icmp_ge, o_iinc, o_iload, o_iload_n, o_invokestatic, o_invokevirtual, o_ireturn, o_istore, o_istore_n, SH_3, SH_20, SH_31, SH_33, SH_38, SH_44, KF_44_2, SH_45, KF_44_1, KF_44_0, am_ty, am_vc, am_opt, am_cl, am_find, am_ldi, am_ldl, am_lda, am_v, am_1, am_1l, am_1a, am_2, am_2l, am_ix, am_ri, am_arr, am_pf, am_rc, am_mask, am_lg, am_av, am_nat, fv_0, fv_1, fv_2, fv_3, fw_0, fw_1, List.getElem?_cons_zero, List.getElem?_cons_succ, List.set_cons_zero, List.set_cons_succ, List.length_cons, List.length_nil, List.take_succ_cons, List.take_zero, List.drop_succ_cons, List.drop_zero, List.reverse_cons, List.reverse_nil, List.nil_append, List.cons_append, List.append_nil, List.map_cons, List.map_nil, List.sum_cons, List.sum_nil, Value.category, Option.toList_some, Option.toList_none, Nat.reduceAdd, Nat.reduceLT, Nat.reduceLeDiff, Nat.reduceEqDiff, Nat.reduceSub, Nat.add_zero, Nat.le_refl, Nat.zero_le, Int.reduceNeg, Int.reduceLE, Int.reduceLT, true_and, and_true, and_self, if_true, if_false, ite_true, ite_false, eq_self_iff_true, reduceIte, reduceCtorEq, not_false_eq_true, not_true_eq_false, or_true, true_or, or_false, false_or, Nat.lt_irrefl, Nat.zero_lt_succ, nb_1]
    exact h τ (Se_H hT)
  · refine hA [] 4 _ _ _ _ _ ?_
    try simp only [dX1_areFound_0, dX1_areFound_1, dX1_areFound_2, dX1_areFound_3, dX1_areFound_4, FT_X1_9, dX1_areFound_7, dX1_areFound_8, xX1_areFound_t8, dX1_areFound_11, dX1_areFound_12, FT_X1_18, dX1_areFound_15, dX1_areFound_16, xX1_areFound_c26, xX1_areFound_n26, dX1_areFound_19, xX1_areFound_t19, dX1_areFound_22, dX1_areFound_23, dX1_areFound_24, xX1_areFound_c32, xX1_areFound_n32, dX1_areFound_27, xX1_areFound_t27, dX1_areFound_30, dX1_areFound_31, xX1_areFound_t31, dX1_areFound_34, dX1_areFound_35, dX1_areFound_37, dX1_areFound_38, dX1_areFound_41, dX1_areFound_42, dX1_areFound_44, xX1_areFound_t44, dX1_areFound_47, dX1_areFound_48, FT_X1_22, dX1_areFound_51, dX1_areFound_52, dX1_areFound_53, xX1_areFound_c37, xX1_areFound_n37, dX1_areFound_56, xX1_areFound_t56, dX1_areFound_59, dX1_areFound_60, dX1_areFound_61, dX1_areFound_64, xX1_areFound_t64, dX1_areFound_67, dX1_areFound_68, dX1_areFound_69, dX1_areFound_70, dX1_areFound_71, xX1_areFound_c43, xX1_areFound_n43, dX1_areFound_74, xX1_areFound_SH, xX1_areFound_KF, xX1_areFound_rt, xX1_areFound_FT, xX1_areFound_PT, xX1_areFound_CT, xX1_areFound_KT, xX1_areFound_LT, xX1_areFound_NT, o_aload_n, o_arraylength, o_getfield, o_goto, o_iastore, o_iconst, o_ifCond_eq, o_if_icmp_ge, o_iinc, o_iload, o_iload_n, o_invokestatic, o_invokevirtual, o_ireturn, o_istore, o_istore_n, SH_3, SH_20, SH_31, SH_33, SH_38, SH_44, KF_44_2, SH_45, KF_44_1, KF_44_0, am_ty, am_vc, am_opt, am_cl, am_find, am_ldi, am_ldl, am_lda, am_v, am_1, am_1l, am_1a, am_2, am_2l, am_ix, am_ri, am_arr, am_pf, am_rc, am_mask, am_lg, am_av, am_nat, fv_0, fv_1, fv_2, fv_3, fw_0, fw_1, List.getElem?_cons_zero, List.getElem?_cons_succ, List.set_cons_zero, List.set_cons_succ, List.length_cons, List.length_nil, List.take_succ_cons, List.take_zero, List.drop_succ_cons, List.drop_zero, List.reverse_cons, List.reverse_nil, List.nil_append, List.cons_append, List.append_nil, List.map_cons, List.map_nil, List.sum_cons, List.sum_nil, Value.category, Option.toList_some, Option.toList_none, Nat.reduceAdd, Nat.reduceLT, Nat.reduceLeDiff, Nat.reduceEqDiff, Nat.reduceSub, Nat.add_zero, Nat.le_refl, Nat.zero_le, Int.reduceNeg, Int.reduceLE, Int.reduceLT, true_and, and_true, and_self, if_true, if_false, ite_true, ite_false, eq_self_iff_true, reduceIte, reduceCtorEq, not_false_eq_true, not_true_eq_false, or_true, true_or, or_false, false_or, Nat.lt_irrefl, Nat.zero_lt_succ]
    refine ⟨(k : Int), by omega, rfl, rfl, e1, ?_⟩
    by_cases q8 : k < 8
    · rw [if_pos (by omega)]
      try simp only [dX1_areFound_0, dX1_areFound_1, dX1_areFound_2, dX1_areFound_3, dX1_areFound_4, FT_X1_9, dX1_areFound_7, dX1_areFound_8, xX1_areFound_t8, dX1_areFound_11, dX1_areFound_12, FT_X1_18, dX1_areFound_15, dX1_areFound_16, xX1_areFound_c26, xX1_areFound_n26, dX1_areFound_19, xX1_areFound_t19, dX1_areFound_22, dX1_areFound_23, dX1_areFound_24, xX1_areFound_c32, xX1_areFound_n32, dX1_areFound_27, xX1_areFound_t27, dX1_areFound_30, dX1_areFound_31, xX1_areFound_t31, dX1_areFound_34, dX1_areFound_35, dX1_areFound_37, dX1_areFound_38, dX1_areFound_41, dX1_areFound_42, dX1_areFound_44, xX1_areFound_t44, dX1_areFound_47, dX1_areFound_48, FT_X1_22, dX1_areFound_51, dX1_areFound_52, dX1_areFound_53, xX1_areFound_c37, xX1_areFound_n37, dX1_areFound_56, xX1_areFound_t56, dX1_areFound_59, dX1_areFound_60, dX1_areFound_61, dX1_areFound_64, xX1_areFound_t64, dX1_areFound_67, dX1_areFound_68, dX1_areFound_69, dX1_areFound_70, dX1_areFound_71, xX1_areFound_c43, xX1_areFound_n43, dX1_areFound_74, xX1_areFound_SH, xX1_areFound_KF, xX1_areFound_rt, xX1_areFound_FT, xX1_areFound_PT, xX1_areFound_CT, xX1_areFound_KT, xX1_areFound_LT, xX1_areFound_NT, o_aload_n, o_arraylength, o_getfield, o_goto, o_iastore, o_iconst, o_ifCond_eq, o_if_icmp_ge, o_iinc, o_iload, o_iload_n, o_invokestatic, o_invokevirtual, o_ireturn, o_istore, o_istore_n, SH_3, SH_20, SH_31, SH_33, SH_38, SH_44, KF_44_2, SH_45, KF_44_1, KF_44_0, am_ty, am_vc, am_opt, am_cl, am_find, am_ldi, am_ldl, am_lda, am_v, am_1, am_1l, am_1a, am_2, am_2l, am_ix, am_ri, am_arr, am_pf, am_rc, am_mask, am_lg, am_av, am_nat, fv_0, fv_1, fv_2, fv_3, fw_0, fw_1, List.getElem?_cons_zero, List.getElem?_cons_succ, List.set_cons_zero, List.set_cons_succ, List.length_cons, List.length_nil, List.take_succ_cons, List.take_zero, List.drop_succ_cons, List.drop_zero, List.reverse_cons, List.reverse_nil, List.nil_append, List.cons_append, List.append_nil, List.map_cons, List.map_nil, List.sum_cons, List.sum_nil, Value.category, Option.toList_some, Option.toList_none, Nat.reduceAdd, Nat.reduceLT, Nat.reduceLeDiff, Nat.reduceEqDiff, Nat.reduceSub, Nat.add_zero, Nat.le_refl, Nat.zero_le, Int.reduceNeg, Int.reduceLE, Int.reduceLT, true_and, and_true, and_self, if_true, if_false, ite_true, ite_false, eq_self_iff_true, reduceIte, reduceCtorEq, not_false_eq_true, not_true_eq_false, or_true, true_or, or_false, false_or, Nat.lt_irrefl, Nat.zero_lt_succ]
      refine hA [] 4 _ _ _ _ _ ?_
      try simp only [dX1_areFound_0, dX1_areFound_1, dX1_areFound_2, dX1_areFound_3, dX1_areFound_4, FT_X1_9, dX1_areFound_7, dX1_areFound_8, xX1_areFound_t8, dX1_areFound_11, dX1_areFound_12, FT_X1_18, dX1_areFound_15, dX1_areFound_16, xX1_areFound_c26, xX1_areFound_n26, dX1_areFound_19, xX1_areFound_t19, dX1_areFound_22, dX1_areFound_23, dX1_areFound_24, xX1_areFound_c32, xX1_areFound_n32, dX1_areFound_27, xX1_areFound_t27, dX1_areFound_30, dX1_areFound_31, xX1_areFound_t31, dX1_areFound_34, dX1_areFound_35, dX1_areFound_37, dX1_areFound_38, dX1_areFound_41, dX1_areFound_42, dX1_areFound_44, xX1_areFound_t44, dX1_areFound_47, dX1_areFound_48, FT_X1_22, dX1_areFound_51, dX1_areFound_52, dX1_areFound_53, xX1_areFound_c37, xX1_areFound_n37, dX1_areFound_56, xX1_areFound_t56, dX1_areFound_59, dX1_areFound_60, dX1_areFound_61, dX1_areFound_64, xX1_areFound_t64, dX1_areFound_67, dX1_areFound_68, dX1_areFound_69, dX1_areFound_70, dX1_areFound_71, xX1_areFound_c43, xX1_areFound_n43, dX1_areFound_74, xX1_areFound_SH, xX1_areFound_KF, xX1_areFound_rt, xX1_areFound_FT, xX1_areFound_PT, xX1_areFound_CT, xX1_areFound_KT, xX1_areFound_LT, xX1_areFound_NT, o_aload_n, o_arraylength, o_getfield, o_goto, o_iastore, o_iconst, o_ifCond_eq, o_if_icmp_ge, o_iinc, o_iload, o_iload_n, o_invokestatic, o_invokevirtual, o_ireturn, o_istore, o_istore_n, SH_3, SH_20, SH_31, SH_33, SH_38, SH_44, KF_44_2, SH_45, KF_44_1, KF_44_0, am_ty, am_vc, am_opt, am_cl, am_find, am_ldi, am_ldl, am_lda, am_v, am_1, am_1l, am_1a, am_2, am_2l, am_ix, am_ri, am_arr, am_pf, am_rc, am_mask, am_lg, am_av, am_nat, fv_0, fv_1, fv_2, fv_3, fw_0, fw_1, List.getElem?_cons_zero, List.getElem?_cons_succ, List.set_cons_zero, List.set_cons_succ, List.length_cons, List.length_nil, List.take_succ_cons, List.take_zero, List.drop_succ_cons, List.drop_zero, List.reverse_cons, List.reverse_nil, List.nil_append, List.cons_append, List.append_nil, List.map_cons, List.map_nil, List.sum_cons, List.sum_nil, Value.category, Option.toList_some, Option.toList_none, Nat.reduceAdd, Nat.reduceLT, Nat.reduceLeDiff, Nat.reduceEqDiff, Nat.reduceSub, Nat.add_zero, Nat.le_refl, Nat.zero_le, Int.reduceNeg, Int.reduceLE, Int.reduceLT, true_and, and_true, and_self, if_true, if_false, ite_true, ite_false, eq_self_iff_true, reduceIte, reduceCtorEq, not_false_eq_true, not_true_eq_false, or_true, true_or, or_false, false_or, Nat.lt_irrefl, Nat.zero_lt_succ]
      try simp (disch := omega) only [ii_0, ii_1, ii_t, ii_add, ii_sub, ii_mul, ii_lt, ii_le, ii_eq, ij_in, ii_c, Int.toNat_natCast, Int.toNat_zero, Int.reduceToNat, Int.reduceEq, Int.reduceNe, Int.reduceLE, Int.reduceLT, Int.reduceAdd, Int.reduceSub, Int.reduceMul, Int.reduceNeg, Nat.reduceLT, Nat.reduceAdd, Nat.reduceMul, not_false_eq_true, not_true_eq_false, true_and, and_true, and_self, false_and, and_false, true_implies, false_implies, implies_true, forall_const, if_true, if_false, ite_true, ite_false, reduceIte, eq_self_iff_true, Int.natCast_nonneg, Int.zero_add, Int.add_zero, pi_s, pi_n]
      refine ⟨31, (k : Int), Mo_1, by omega, rfl, rfl, e3, ?_⟩
      try simp only [dX1_areFound_0, dX1_areFound_1, dX1_areFound_2, dX1_areFound_3, dX1_areFound_4, FT_X1_9, dX1_areFound_7, dX1_areFound_8, xX1_areFound_t8, dX1_areFound_11, dX1_areFound_12, FT_X1_18, dX1_areFound_15, dX1_areFound_16, xX1_areFound_c26, xX1_areFound_n26, dX1_areFound_19, xX1_areFound_t19, dX1_areFound_22, dX1_areFound_23, dX1_areFound_24, xX1_areFound_c32, xX1_areFound_n32, dX1_areFound_27, xX1_areFound_t27, dX1_areFound_30, dX1_areFound_31, xX1_areFound_t31, dX1_areFound_34, dX1_areFound_35, dX1_areFound_37, dX1_areFound_38, dX1_areFound_41, dX1_areFound_42, dX1_areFound_44, xX1_areFound_t44, dX1_areFound_47, dX1_areFound_48, FT_X1_22, dX1_areFound_51, dX1_areFound_52, dX1_areFound_53, xX1_areFound_c37, xX1_areFound_n37, dX1_areFound_56, xX1_areFound_t56, dX1_areFound_59, dX1_areFound_60, dX1_areFound_61, dX1_areFound_64, xX1_areFound_t64, dX1_areFound_67, dX1_areFound_68, dX1_areFound_69, dX1_areFound_70, dX1_areFound_71, xX1_areFound_c43, xX1_areFound_n43, dX1_areFound_74, xX1_areFound_SH, xX1_areFound_KF, xX1_areFound_rt, xX1_areFound_FT, xX1_areFound_PT, xX1_areFound_CT, xX1_areFound_KT, xX1_areFound_LT, xX1_areFound_NT, o_aload_n, o_arraylength, o_getfield, o_goto, o_iastore, o_iconst, o_ifCond_eq, o_if_icmp_ge, o_iinc, o_iload, o_iload_n, o_invokestatic, o_invokevirtual, o_ireturn, o_istore, o_istore_n, SH_3, SH_20, SH_31, SH_33, SH_38, SH_44, KF_44_2, SH_45, KF_44_1, KF_44_0, am_ty, am_vc, am_opt, am_cl, am_find, am_ldi, am_ldl, am_lda, am_v, am_1, am_1l, am_1a, am_2, am_2l, am_ix, am_ri, am_arr, am_pf, am_rc, am_mask, am_lg, am_av, am_nat, fv_0, fv_1, fv_2, fv_3, fw_0, fw_1, List.getElem?_cons_zero, List.getElem?_cons_succ, List.set_cons_zero, List.set_cons_succ, List.length_cons, List.length_nil, List.take_succ_cons, List.take_zero, List.drop_succ_cons, List.drop_zero, List.reverse_cons, List.reverse_nil, List.nil_append, List.cons_append, List.append_nil, List.map_cons, List.map_nil, List.sum_cons, List.sum_nil, Value.category, Option.toList_some, Option.toList_none, Nat.reduceAdd, Nat.reduceLT, Nat.reduceLeDiff, Nat.reduceEqDiff, Nat.reduceSub, Nat.add_zero, Nat.le_refl, Nat.zero_le, Int.reduceNeg, Int.reduceLE, Int.reduceLT, true_and, and_true, and_self, if_true, if_false, ite_true, ite_false, eq_self_iff_true, reduceIte, reduceCtorEq, not_false_eq_true, not_true_eq_false, or_true, true_or, or_false, false_or, Nat.lt_irrefl, Nat.zero_lt_succ]
      refine hA [] 13 _ _ _ _ _ ?_
      try simp only [dX1_areFound_0, dX1_areFound_1, dX1_areFound_2, dX1_areFound_3, dX1_areFound_4, FT_X1_9, dX1_areFound_7, dX1_areFound_8, xX1_areFound_t8, dX1_areFound_11, dX1_areFound_12, FT_X1_18, dX1_areFound_15, dX1_areFound_16, xX1_areFound_c26, xX1_areFound_n26, dX1_areFound_19, xX1_areFound_t19, dX1_areFound_22, dX1_areFound_23, dX1_areFound_24, xX1_areFound_c32, xX1_areFound_n32, dX1_areFound_27, xX1_areFound_t27, dX1_areFound_30, dX1_areFound_31, xX1_areFound_t31, dX1_areFound_34, dX1_areFound_35, dX1_areFound_37, dX1_areFound_38, dX1_areFound_41, dX1_areFound_42, dX1_areFound_44, xX1_areFound_t44, dX1_areFound_47, dX1_areFound_48, FT_X1_22, dX1_areFound_51, dX1_areFound_52, dX1_areFound_53, xX1_areFound_c37, xX1_areFound_n37, dX1_areFound_56, xX1_areFound_t56, dX1_areFound_59, dX1_areFound_60, dX1_areFound_61, dX1_areFound_64, xX1_areFound_t64, dX1_areFound_67, dX1_areFound_68, dX1_areFound_69, dX1_areFound_70, dX1_areFound_71, xX1_areFound_c43, xX1_areFound_n43, dX1_areFound_74, xX1_areFound_SH, xX1_areFound_KF, xX1_areFound_rt, xX1_areFound_FT, xX1_areFound_PT, xX1_areFound_CT, xX1_areFound_KT, xX1_areFound_LT, xX1_areFound_NT, o_aload_n, o_arraylength, o_getfield, o_goto, o_iastore, o_iconst, o_ifCond_eq, o_if_icmp_ge, o_iinc, o_iload, o_iload_n, o_invokestatic, o_invokevirtual, o_ireturn, o_istore, o_istore_n, SH_3, SH_20, SH_31, SH_33, SH_38, SH_44, KF_44_2, SH_45, KF_44_1, KF_44_0, am_ty, am_vc, am_opt, am_cl, am_find, am_ldi, am_ldl, am_lda, am_v, am_1, am_1l, am_1a, am_2, am_2l, am_ix, am_ri, am_arr, am_pf, am_rc, am_mask, am_lg, am_av, am_nat, fv_0, fv_1, fv_2, fv_3, fw_0, fw_1, List.getElem?_cons_zero, List.getElem?_cons_succ, List.set_cons_zero, List.set_cons_succ, List.length_cons, List.length_nil, List.take_succ_cons, List.take_zero, List.drop_succ_cons, List.drop_zero, List.reverse_cons, List.reverse_nil, List.nil_append, List.cons_append, List.append_nil, List.map_cons, List.map_nil, List.sum_cons, List.sum_nil, Value.category, Option.toList_some, Option.toList_none, Nat.reduceAdd, Nat.reduceLT, Nat.reduceLeDiff, Nat.reduceEqDiff, Nat.reduceSub, Nat.add_zero, Nat.le_refl, Nat.zero_le, Int.reduceNeg, Int.reduceLE, Int.reduceLT, true_and, and_true, and_self, if_true, if_false, ite_true, ite_false, eq_self_iff_true, reduceIte, reduceCtorEq, not_false_eq_true, not_true_eq_false, or_true, true_or, or_false, false_or, Nat.lt_irrefl, Nat.zero_lt_succ]
      try simp (disch := omega) only [ii_0, ii_1, ii_t, ii_add, ii_sub, ii_mul, ii_lt, ii_le, ii_eq, ij_in, ii_c, Int.toNat_natCast, Int.toNat_zero, Int.reduceToNat, Int.reduceEq, Int.reduceNe, Int.reduceLE, Int.reduceLT, Int.reduceAdd, Int.reduceSub, Int.reduceMul, Int.reduceNeg, Nat.reduceLT, Nat.reduceAdd, Nat.reduceMul, not_false_eq_true, not_true_eq_false, true_and, and_true, and_self, false_and, and_false, true_implies, false_implies, implies_true, forall_const, if_true, if_false, ite_true, ite_false, reduceIte, eq_self_iff_true, Int.natCast_nonneg, Int.zero_add, Int.add_zero, pi_s, pi_n]
      refine ⟨31, _, Mo_1, rfl, rfl, hL, fun υ t => ?_⟩
      try simp only [dX1_areFound_0, dX1_areFound_1, dX1_areFound_2, dX1_areFound_3, dX1_areFound_4, FT_X1_9, dX1_areFound_7, dX1_areFound_8, xX1_areFound_t8, dX1_areFound_11, dX1_areFound_12, FT_X1_18, dX1_areFound_15, dX1_areFound_16, xX1_areFound_c26, xX1_areFound_n26, dX1_areFound_19, xX1_areFound_t19, dX1_areFound_22, dX1_areFound_23, dX1_areFound_24, xX1_areFound_c32, xX1_areFound_n32, dX1_areFound_27, xX1_areFound_t27, dX1_areFound_30, dX1_areFound_31, xX1_areFound_t31, dX1_areFound_34, dX1_areFound_35, dX1_areFound_37, dX1_areFound_38, dX1_areFound_41, dX1_areFound_42, dX1_areFound_44, xX1_areFound_t44, dX1_areFound_47, dX1_areFound_48, FT_X1_22, dX1_areFound_51, dX1_areFound_52, dX1_areFound_53, xX1_areFound_c37, xX1_areFound_n37, dX1_areFound_56, xX1_areFound_t56, dX1_areFound_59, dX1_areFound_60, dX1_areFound_61, dX1_areFound_64, xX1_areFound_t64, dX1_areFound_67, dX1_areFound_68, dX1_areFound_69, dX1_areFound_70, dX1_areFound_71, xX1_areFound_c43, xX1_areFound_n43, dX1_areFound_74, xX1_areFound_SH, xX1_areFound_KF, xX1_areFound_rt, xX1_areFound_FT, xX1_areFound_PT, xX1_areFound_CT, xX1_areFound_KT, xX1_areFound_LT, xX1_areFound_NT, o_aload_n, o_arraylength, o_getfield, o_goto, o_iastore, o_iconst, o_ifCond_eq, o_if_icmp_ge, o_iinc, o_iload, o_iload_n, o_invokestatic, o_invokevirtual, o_ireturn, o_istore, o_istore_n, SH_3, SH_20, SH_31, SH_33, SH_38, SH_44, KF_44_2, SH_45, KF_44_1, KF_44_0, am_ty, am_vc, am_opt, am_cl, am_find, am_ldi, am_ldl, am_lda, am_v, am_1, am_1l, am_1a, am_2, am_2l, am_ix, am_ri, am_arr, am_pf, am_rc, am_mask, am_lg, am_av, am_nat, fv_0, fv_1, fv_2, fv_3, fw_0, fw_1, List.getElem?_cons_zero, List.getElem?_cons_succ, List.set_cons_zero, List.set_cons_succ, List.length_cons, List.length_nil, List.take_succ_cons, List.take_zero, List.drop_succ_cons, List.drop_zero, List.reverse_cons, List.reverse_nil, List.nil_append, List.cons_append, List.append_nil, List.map_cons, List.map_nil, List.sum_cons, List.sum_nil, Value.category, Option.toList_some, Option.toList_none, Nat.reduceAdd, Nat.reduceLT, Nat.reduceLeDiff, Nat.reduceEqDiff, Nat.reduceSub, Nat.add_zero, Nat.le_refl, Nat.zero_le, Int.reduceNeg, Int.reduceLE, Int.reduceLT, true_and, and_true, and_self, if_true, if_false, ite_true, ite_false, eq_self_iff_true, reduceIte, reduceCtorEq, not_false_eq_true, not_true_eq_false, or_true, true_or, or_false, false_or, Nat.lt_irrefl, Nat.zero_lt_succ]
      refine hA [(2, 4)] 4 _ _ _ _ _ ?_
      try simp only [dX1_areFound_0, dX1_areFound_1, dX1_areFound_2, dX1_areFound_3, dX1_areFound_4, FT_X1_9, dX1_areFound_7, dX1_areFound_8, xX1_areFound_t8, dX1_areFound_11, dX1_areFound_12, FT_X1_18, dX1_areFound_15, dX1_areFound_16, xX1_areFound_c26, xX1_areFound_n26, dX1_areFound_19, xX1_areFound_t19, dX1_areFound_22, dX1_areFound_23, dX1_areFound_24, xX1_areFound_c32, xX1_areFound_n32, dX1_areFound_27, xX1_areFound_t27, dX1_areFound_30, dX1_areFound_31, xX1_areFound_t31, dX1_areFound_34, dX1_areFound_35, dX1_areFound_37, dX1_areFound_38, dX1_areFound_41, dX1_areFound_42, dX1_areFound_44, xX1_areFound_t44, dX1_areFound_47, dX1_areFound_48, FT_X1_22, dX1_areFound_51, dX1_areFound_52, dX1_areFound_53, xX1_areFound_c37, xX1_areFound_n37, dX1_areFound_56, xX1_areFound_t56, dX1_areFound_59, dX1_areFound_60, dX1_areFound_61, dX1_areFound_64, xX1_areFound_t64, dX1_areFound_67, dX1_areFound_68, dX1_areFound_69, dX1_areFound_70, dX1_areFound_71, xX1_areFound_c43, xX1_areFound_n43, dX1_areFound_74, xX1_areFound_SH, xX1_areFound_KF, xX1_areFound_rt, xX1_areFound_FT, xX1_areFound_PT, xX1_areFound_CT, xX1_areFound_KT, xX1_areFound_LT, xX1_areFound_NT, o_aload_n, o_arraylength, o_getfield, o_goto, o_iastore, o_iconst, o_ifCond_eq, o_if_icmp_ge, o_iinc, o_iload, o_iload_n, o_invokestatic, o_invokevirtual, o_ireturn, o_istore, o_istore_n, SH_3, SH_20, SH_31, SH_33, SH_38, SH_44, KF_44_2, SH_45, KF_44_1, KF_44_0, am_ty, am_vc, am_opt, am_cl, am_find, am_ldi, am_ldl, am_lda, am_v, am_1, am_1l, am_1a, am_2, am_2l, am_ix, am_ri, am_arr, am_pf, am_rc, am_mask, am_lg, am_av, am_nat, fv_0, fv_1, fv_2, fv_3, fw_0, fw_1, List.getElem?_cons_zero, List.getElem?_cons_succ, List.set_cons_zero, List.set_cons_succ, List.length_cons, List.length_nil, List.take_succ_cons, List.take_zero, List.drop_succ_cons, List.drop_zero, List.reverse_cons, List.reverse_nil, List.nil_append, List.cons_append, List.append_nil, List.map_cons, List.map_nil, List.sum_cons, List.sum_nil, Value.category, Option.toList_some, Option.toList_none, Nat.reduceAdd, Nat.reduceLT, Nat.reduceLeDiff, Nat.reduceEqDiff, Nat.reduceSub, Nat.add_zero, Nat.le_refl, Nat.zero_le, Int.reduceNeg, Int.reduceLE, Int.reduceLT, true_and, and_true, and_self, if_true, if_false, ite_true, ite_false, eq_self_iff_true, reduceIte, reduceCtorEq, not_false_eq_true, not_true_eq_false, or_true, true_or, or_false, false_or, Nat.lt_irrefl, Nat.zero_lt_succ, on_i]
      try simp (disch := omega) only [ii_0, ii_1, ii_t, ii_add, ii_sub, ii_mul, ii_lt, ii_le, ii_eq, ij_in, ii_c, Int.toNat_natCast, Int.toNat_zero, Int.reduceToNat, Int.reduceEq, Int.reduceNe, Int.reduceLE, Int.reduceLT, Int.reduceAdd, Int.reduceSub, Int.reduceMul, Int.reduceNeg, Nat.reduceLT, Nat.reduceAdd, Nat.reduceMul, not_false_eq_true, not_true_eq_false, true_and, and_true, and_self, false_and, and_false, true_implies, false_implies, implies_true, forall_const, if_true, if_false, ite_true, ite_false, reduceIte, eq_self_iff_true, Int.natCast_nonneg, Int.zero_add, Int.add_zero, pi_s, pi_n, ik_s, on_i]
      first | exact ih (by omega) _ (Se_pi (Se_c hT t)) | exact ⟨by omega, ih (by omega) _ (Se_pi (Se_c hT t))⟩ | exact ⟨⟨by omega, by omega⟩, ih (by omega) _ (Se_pi (Se_c hT t))⟩
    · rw [if_neg (by omega)]
      try simp only [dX1_areFound_0, dX1_areFound_1, dX1_areFound_2, dX1_areFound_3, dX1_areFound_4, FT_X1_9, dX1_areFound_7, dX1_areFound_8, xX1_areFound_t8, dX1_areFound_11, dX1_areFound_12, FT_X1_18, dX1_areFound_15, dX1_areFound_16, xX1_areFound_c26, xX1_areFound_n26, dX1_areFound_19, xX1_areFound_t19, dX1_areFound_22, dX1_areFound_23, dX1_areFound_24, xX1_areFound_c32, xX1_areFound_n32, dX1_areFound_27, xX1_areFound_t27, dX1_areFound_30, dX1_areFound_31, xX1_areFound_t31, dX1_areFound_34, dX1_areFound_35, dX1_areFound_37, dX1_areFound_38, dX1_areFound_41, dX1_areFound_42, dX1_areFound_44, xX1_areFound_t44, dX1_areFound_47, dX1_areFound_48, FT_X1_22, dX1_areFound_51, dX1_areFound_52, dX1_areFound_53, xX1_areFound_c37, xX1_areFound_n37, dX1_areFound_56, xX1_areFound_t56, dX1_areFound_59, dX1_areFound_60, dX1_areFound_61, dX1_areFound_64, xX1_areFound_t64, dX1_areFound_67, dX1_areFound_68, dX1_areFound_69, dX1_areFound_70, dX1_areFound_71, xX1_areFound_c43, xX1_areFound_n43, dX1_areFound_74, xX1_areFound_SH, xX1_areFound_KF, xX1_areFound_rt, xX1_areFound_FT, xX1_areFound_PT, xX1_areFound_CT, xX1_areFound_KT, xX1_areFound_LT, xX1_areFound_NT, o_aload_n, o_arraylength, o_getfield, o_goto, o_iastore, o_iconst, o_ifCond_eq, o_if_icmp_ge, o_iinc, o_iload, o_iload_n, o_invokestatic, o_invokevirtual, o_ireturn, o_istore, o_istore_n, SH_3, SH_20, SH_31, SH_33, SH_38, SH_44, KF_44_2, SH_45, KF_44_1, KF_44_0, am_ty, am_vc, am_opt, am_cl, am_find, am_ldi, am_ldl, am_lda, am_v, am_1, am_1l, am_1a, am_2, am_2l, am_ix, am_ri, am_arr, am_pf, am_rc, am_mask, am_lg, am_av, am_nat, fv_0, fv_1, fv_2, fv_3, fw_0, fw_1, List.getElem?_cons_zero, List.getElem?_cons_succ, List.set_cons_zero, List.set_cons_succ, List.length_cons, List.length_nil, List.take_succ_cons, List.take_zero, List.drop_succ_cons, List.drop_zero, List.reverse_cons, List.reverse_nil, List.nil_append, List.cons_append, List.append_nil, List.map_cons, List.map_nil, List.sum_cons, List.sum_nil, Value.category, Option.toList_some, Option.toList_none, Nat.reduceAdd, Nat.reduceLT, Nat.reduceLeDiff, Nat.reduceEqDiff, Nat.reduceSub, Nat.add_zero, Nat.le_refl, Nat.zero_le, Int.reduceNeg, Int.reduceLE, Int.reduceLT, true_and, and_true, and_self, if_true, if_false, ite_true, ite_false, eq_self_iff_true, reduceIte, reduceCtorEq, not_false_eq_true, not_true_eq_false, or_true, true_or, or_false, false_or, Nat.lt_irrefl, Nat.zero_lt_succ]
      refine hA [(2, 4)] 12 _ _ _ _ _ ?_
      try simp only [dX1_areFound_0, dX1_areFound_1, dX1_areFound_2, dX1_areFound_3, dX1_areFound_4, FT_X1_9, dX1_areFound_7, dX1_areFound_8, xX1_areFound_t8, dX1_areFound_11, dX1_areFound_12, FT_X1_18, dX1_areFound_15, dX1_areFound_16, xX1_areFound_c26, xX1_areFound_n26, dX1_areFound_19, xX1_areFound_t19, dX1_areFound_22, dX1_areFound_23, dX1_areFound_24, xX1_areFound_c32, xX1_areFound_n32, dX1_areFound_27, xX1_areFound_t27, dX1_areFound_30, dX1_areFound_31, xX1_areFound_t31, dX1_areFound_34, dX1_areFound_35, dX1_areFound_37, dX1_areFound_38, dX1_areFound_41, dX1_areFound_42, dX1_areFound_44, xX1_areFound_t44, dX1_areFound_47, dX1_areFound_48, FT_X1_22, dX1_areFound_51, dX1_areFound_52, dX1_areFound_53, xX1_areFound_c37, xX1_areFound_n37, dX1_areFound_56, xX1_areFound_t56, dX1_areFound_59, dX1_areFound_60, dX1_areFound_61, dX1_areFound_64, xX1_areFound_t64, dX1_areFound_67, dX1_areFound_68, dX1_areFound_69, dX1_areFound_70, dX1_areFound_71, xX1_areFound_c43, xX1_areFound_n43, dX1_areFound_74, xX1_areFound_SH, xX1_areFound_KF, xX1_areFound_rt, xX1_areFound_FT, xX1_areFound_PT, xX1_areFound_CT, xX1_areFound_KT, xX1_areFound_LT, xX1_areFound_NT, o_aload_n, o_arraylength, o_getfield, o_goto, o_iastore, o_iconst, o_ifCond_eq, o_if_icmp_ge, o_iinc, o_iload, o_iload_n, o_invokestatic, o_invokevirtual, o_ireturn, o_istore, o_istore_n, SH_3, SH_20, SH_31, SH_33, SH_38, SH_44, KF_44_2, SH_45, KF_44_1, KF_44_0, am_ty, am_vc, am_opt, am_cl, am_find, am_ldi, am_ldl, am_lda, am_v, am_1, am_1l, am_1a, am_2, am_2l, am_ix, am_ri, am_arr, am_pf, am_rc, am_mask, am_lg, am_av, am_nat, fv_0, fv_1, fv_2, fv_3, fw_0, fw_1, List.getElem?_cons_zero, List.getElem?_cons_succ, List.set_cons_zero, List.set_cons_succ, List.length_cons, List.length_nil, List.take_succ_cons, List.take_zero, List.drop_succ_cons, List.drop_zero, List.reverse_cons, List.reverse_nil, List.nil_append, List.cons_append, List.append_nil, List.map_cons, List.map_nil, List.sum_cons, List.sum_nil, Value.category, Option.toList_some, Option.toList_none, Nat.reduceAdd, Nat.reduceLT, Nat.reduceLeDiff, Nat.reduceEqDiff, Nat.reduceSub, Nat.add_zero, Nat.le_refl, Nat.zero_le, Int.reduceNeg, Int.reduceLE, Int.reduceLT, true_and, and_true, and_self, if_true, if_false, ite_true, ite_false, eq_self_iff_true, reduceIte, reduceCtorEq, not_false_eq_true, not_true_eq_false, or_true, true_or, or_false, false_or, Nat.lt_irrefl, Nat.zero_lt_succ, on_i]
      try simp (disch := omega) only [ii_0, ii_1, ii_t, ii_add, ii_sub, ii_mul, ii_lt, ii_le, ii_eq, ij_in, ii_c, Int.toNat_natCast, Int.toNat_zero, Int.reduceToNat, Int.reduceEq, Int.reduceNe, Int.reduceLE, Int.reduceLT, Int.reduceAdd, Int.reduceSub, Int.reduceMul, Int.reduceNeg, Nat.reduceLT, Nat.reduceAdd, Nat.reduceMul, not_false_eq_true, not_true_eq_false, true_and, and_true, and_self, false_and, and_false, true_implies, false_implies, implies_true, forall_const, if_true, if_false, ite_true, ite_false, reduceIte, eq_self_iff_true, Int.natCast_nonneg, Int.zero_add, Int.add_zero, pi_s, pi_n, ik_s, on_i]
      first | exact ih (by omega) _ (Se_pi hT) | exact ⟨by omega, ih (by omega) _ (Se_pi hT)⟩ | exact ⟨⟨by omega, by omega⟩, ih (by omega) _ (Se_pi hT)⟩
set_option maxRecDepth 100000 in
theorem pX1_areFound : am_B cX1_areFound xX1_areFound 5 0 sX1_areFound := by
  intro n0 as σ post AA hA h
  obtain ⟨d, rfl, rfl, hG, h⟩ := h
  refine ⟨by simp [am_sl, Value.category], ?_⟩
  show AA 0 [some (.ref 44), some (.ref 31), some (.int d), none, none] [] 92 σ
  refine hA [(2, 4)] 3 _ _ _ _ _ ?_
  try simp only [dX1_areFound_0, dX1_areFound_1, dX1_areFound_2, dX1_areFound_3, dX1_areFound_4, FT_X1_9, dX1_areFound_7, dX1_areFound_8, xX1_areFound_t8, dX1_areFound_11, dX1_areFound_12, FT_X1_18, dX1_areFound_15, dX1_areFound_16, xX1_areFound_c26, xX1_areFound_n26, dX1_areFound_19, xX1_areFound_t19, dX1_areFound_22, dX1_areFound_23, dX1_areFound_24, xX1_areFound_c32, xX1_areFound_n32, dX1_areFound_27, xX1_areFound_t27, dX1_areFound_30, dX1_areFound_31, xX1_areFound_t31, dX1_areFound_34, dX1_areFound_35, dX1_areFound_37, dX1_areFound_38, dX1_areFound_41, dX1_areFound_42, dX1_areFound_44, xX1_areFound_t44, dX1_areFound_47, dX1_areFound_48, FT_X1_22, dX1_areFound_51, dX1_areFound_52, dX1_areFound_53, xX1_areFound_c37, xX1_areFound_n37, dX1_areFound_56, xX1_areFound_t56, dX1_areFound_59, dX1_areFound_60, dX1_areFound_61, dX1_areFound_64, xX1_areFound_t64, dX1_areFound_67, dX1_areFound_68, dX1_areFound_69, dX1_areFound_70, dX1_areFound_71, xX1_areFound_c43, xX1_areFound_n43, dX1_areFound_74, xX1_areFound_SH, xX1_areFound_KF, xX1_areFound_rt, xX1_areFound_FT, xX1_areFound_PT, xX1_areFound_CT, xX1_areFound_KT, xX1_areFound_LT, xX1_areFound_NT, o_aload_n, o_arraylength, o_getfield, o_goto, o_iastore, o_iconst, o_ifCond_eq, o_if_icmp_ge, o_iinc, o_iload, o_iload_n, o_invokestatic, o_invokevirtual, o_ireturn, o_istore, o_istore_n, SH_3, SH_20, SH_31, SH_33, SH_38, SH_44, KF_44_2, SH_45, KF_44_1, KF_44_0, am_ty, am_vc, am_opt, am_cl, am_find, am_ldi, am_ldl, am_lda, am_v, am_1, am_1l, am_1a, am_2, am_2l, am_ix, am_ri, am_arr, am_pf, am_rc, am_mask, am_lg, am_av, am_nat, fv_0, fv_1, fv_2, fv_3, fw_0, fw_1, List.getElem?_cons_zero, List.getElem?_cons_succ, List.set_cons_zero, List.set_cons_succ, List.length_cons, List.length_nil, List.take_succ_cons, List.take_zero, List.drop_succ_cons, List.drop_zero, List.reverse_cons, List.reverse_nil, List.nil_append, List.cons_append, List.append_nil, List.map_cons, List.map_nil, List.sum_cons, List.sum_nil, Value.category, Option.toList_some, Option.toList_none, Nat.reduceAdd, Nat.reduceLT, Nat.reduceLeDiff, Nat.reduceEqDiff, Nat.reduceSub, Nat.add_zero, Nat.le_refl, Nat.zero_le, Int.reduceNeg, Int.reduceLE, Int.reduceLT, true_and, and_true, and_self, if_true, if_false, ite_true, ite_false, eq_self_iff_true, reduceIte, reduceCtorEq, not_false_eq_true, not_true_eq_false, or_true, true_or, or_false, false_or, Nat.lt_irrefl, Nat.zero_lt_succ]
  exact ho_loop2 hA hG h 0 (by omega) σ ⟨fun _ _ _ _ _ => rfl, rfl⟩
theorem mX1_areFound (l : Launch) : am_M l TB NB vwCl SH KF yX1_areFound cX1_areFound 5 (some .boolean) 5 0 0 sX1_areFound := by
  refine am_M.of xX1_areFound (by decide +kernel) TB_good GF rfl rfl rfl (by decide) ⟨FT_X1_ok, PT_X1_ok _, CT_X1_ok, KT_X1_ok, LT_X1_ok, NT_X1_ok, ?_⟩ pX1_areFound
  exact List.forall_mem_cons.mpr ⟨⟨yX9_hasRung, cX9_hasRung, 2, (some .boolean), 2, 1, mX9_hasRung l, by decide, by decide, tb_at 662 (by decide +kernel) (by decide +kernel), tb_at 105 (by decide +kernel) (by decide +kernel), ⟨by decide +kernel, by decide +kernel, by decide +kernel⟩, rfl, tb_at 1119 (by decide +kernel) (by decide +kernel), tb_at 660 (by decide +kernel) (by decide +kernel), ⟨(RX9, TX9, 8), rfl, tb_at 661 (by decide +kernel) (by decide +kernel)⟩⟩, List.forall_mem_cons.mpr ⟨⟨yX4_isWhole, cX4_isWhole, 2, (some .boolean), 3, 1, mX4_isWhole l, by decide, by decide, tb_at 765 (by decide +kernel) (by decide +kernel), tb_at 112 (by decide +kernel) (by decide +kernel), ⟨by decide +kernel, by decide +kernel, by decide +kernel⟩, rfl, tb_at 1120 (by decide +kernel) (by decide +kernel), tb_at 763 (by decide +kernel) (by decide +kernel), ⟨(RX4, TX4, 1), rfl, tb_at 764 (by decide +kernel) (by decide +kernel)⟩⟩, List.forall_mem_cons.mpr ⟨⟨yX0_roomOf, cX0_roomOf, 3, (some .int), 4, 2, mX0_roomOf l, by decide, by decide, tb_at 724 (by decide +kernel) (by decide +kernel), tb_at 114 (by decide +kernel) (by decide +kernel), ⟨by decide +kernel, by decide +kernel, by decide +kernel⟩, rfl, tb_at 1121 (by decide +kernel) (by decide +kernel), tb_at 722 (by decide +kernel) (by decide +kernel), ⟨(RX0, TX0, 2), rfl, tb_at 723 (by decide +kernel) (by decide +kernel)⟩⟩, List.forall_mem_cons.mpr ⟨⟨yX1_settle, cX1_settle, 7, (some .boolean), 4, 4, mX1_settle l, by decide, by decide, tb_at 1124 (by decide +kernel) (by decide +kernel), tb_at 117 (by decide +kernel) (by decide +kernel), ⟨by decide +kernel, by decide +kernel, by decide +kernel⟩, rfl, tb_at 1122 (by decide +kernel) (by decide +kernel), tb_at 1123 (by decide +kernel) (by decide +kernel)⟩, fun _ h => absurd h List.not_mem_nil⟩⟩⟩⟩

-- Rumours
def sX6_howMany : am_Sp := fun as n σ post => n = 92 ∧ as = [.ref 47] ∧ post (some (.int (σ.1 47 3))) σ
def xX6_howMany : am_X := (SH, KF, (some .int), FT_X6, PT_X6, CT_X6, KT_X6, LT_X6, NT_X6, [])
theorem xX6_howMany_SH : am_SH xX6_howMany = SH := rfl
theorem xX6_howMany_KF : am_KF xX6_howMany = KF := rfl
theorem xX6_howMany_rt : am_rt xX6_howMany = (some .int) := rfl
theorem xX6_howMany_FT : am_FT xX6_howMany = FT_X6 := rfl
theorem xX6_howMany_PT : am_PT xX6_howMany = PT_X6 := rfl
theorem xX6_howMany_CT : am_CT xX6_howMany = CT_X6 := rfl
theorem xX6_howMany_KT : am_KT xX6_howMany = KT_X6 := rfl
theorem xX6_howMany_LT : am_LT xX6_howMany = LT_X6 := rfl
theorem xX6_howMany_NT : am_NT xX6_howMany = NT_X6 := rfl

set_option maxRecDepth 100000 in
theorem pX6_howMany : am_B cX6_howMany xX6_howMany 1 0 sX6_howMany := by
  intro n0 as σ post AA hA h
  obtain ⟨rfl, rfl, h⟩ := h
  refine ⟨by simp [am_sl, Value.category], ?_⟩
  show AA 0 [some (.ref 47)] [] 92 σ
  refine hA [] 4 _ _ _ _ _ ?_
  try simp only [dX6_howMany_0, dX6_howMany_1, FT_X6_19, dX6_howMany_4, xX6_howMany_SH, xX6_howMany_KF, xX6_howMany_rt, xX6_howMany_FT, xX6_howMany_PT, xX6_howMany_CT, xX6_howMany_KT, xX6_howMany_LT, xX6_howMany_NT, o_aload_n, o_getfield, o_ireturn, SH_47, KF_47_3, am_ty, am_vc, am_opt, am_cl, am_find, am_ldi, am_ldl, am_lda, am_v, am_1, am_1l, am_1a, am_2, am_2l, am_ix, am_ri, am_arr, am_pf, am_rc, am_mask, am_lg, am_av, am_nat, fv_0, fv_1, fv_2, fv_3, fw_0, fw_1, List.getElem?_cons_zero, List.getElem?_cons_succ, List.set_cons_zero, List.set_cons_succ, List.length_cons, List.length_nil, List.take_succ_cons, List.take_zero, List.drop_succ_cons, List.drop_zero, List.reverse_cons, List.reverse_nil, List.nil_append, List.cons_append, List.append_nil, List.map_cons, List.map_nil, List.sum_cons, List.sum_nil, Value.category, Option.toList_some, Option.toList_none, Nat.reduceAdd, Nat.reduceLT, Nat.reduceLeDiff, Nat.reduceEqDiff, Nat.reduceSub, Nat.add_zero, Nat.le_refl, Nat.zero_le, Int.reduceNeg, Int.reduceLE, Int.reduceLT, true_and, and_true, and_self, if_true, if_false, ite_true, ite_false, eq_self_iff_true, reduceIte, reduceCtorEq, not_false_eq_true, not_true_eq_false, or_true, true_or, or_false, false_or, Nat.lt_irrefl, Nat.zero_lt_succ]
  exact h
theorem mX6_howMany (l : Launch) : am_M l TB NB vwCl SH KF yX6_howMany cX6_howMany 1 (some .int) 2 0 0 sX6_howMany := by
  refine am_M.of xX6_howMany (by decide +kernel) TB_good GF rfl rfl rfl (by decide) ⟨FT_X6_ok, PT_X6_ok _, CT_X6_ok, KT_X6_ok, LT_X6_ok, NT_X6_ok, ?_⟩ pX6_howMany
  exact fun _ h => absurd h List.not_mem_nil

def sX6_clear : am_Sp := fun as n σ post => n = 92 ∧ as = [.ref 47] ∧ post (some (.int (σ.1 47 3))) (am_pi σ 47 3 (Int32.ofInt 0))
def xX6_clear : am_X := (SH, KF, (some .int), FT_X6, PT_X6, CT_X6, KT_X6, LT_X6, NT_X6, [])
theorem xX6_clear_SH : am_SH xX6_clear = SH := rfl
theorem xX6_clear_KF : am_KF xX6_clear = KF := rfl
theorem xX6_clear_rt : am_rt xX6_clear = (some .int) := rfl
theorem xX6_clear_FT : am_FT xX6_clear = FT_X6 := rfl
theorem xX6_clear_PT : am_PT xX6_clear = PT_X6 := rfl
theorem xX6_clear_CT : am_CT xX6_clear = CT_X6 := rfl
theorem xX6_clear_KT : am_KT xX6_clear = KT_X6 := rfl
theorem xX6_clear_LT : am_LT xX6_clear = LT_X6 := rfl
theorem xX6_clear_NT : am_NT xX6_clear = NT_X6 := rfl

set_option maxRecDepth 100000 in
theorem pX6_clear : am_B cX6_clear xX6_clear 2 0 sX6_clear := by
  intro n0 as σ post AA hA h
  obtain ⟨rfl, rfl, h⟩ := h
  refine ⟨by simp [am_sl, Value.category], ?_⟩
  show AA 0 [some (.ref 47), none] [] 92 σ
  refine hA [] 9 _ _ _ _ _ ?_
  try simp only [dX6_clear_0, dX6_clear_1, FT_X6_19, dX6_clear_4, dX6_clear_5, dX6_clear_6, dX6_clear_7, PT_X6_19, dX6_clear_10, dX6_clear_11, xX6_clear_SH, xX6_clear_KF, xX6_clear_rt, xX6_clear_FT, xX6_clear_PT, xX6_clear_CT, xX6_clear_KT, xX6_clear_LT, xX6_clear_NT, o_aload_n, o_getfield, o_iconst, o_iload_n, o_ireturn, o_istore_n, o_putfield, SH_47, KF_47_3, am_ty, am_vc, am_opt, am_cl, am_find, am_ldi, am_ldl, am_lda, am_v, am_1, am_1l, am_1a, am_2, am_2l, am_ix, am_ri, am_arr, am_pf, am_rc, am_mask, am_lg, am_av, am_nat, fv_0, fv_1, fv_2, fv_3, fw_0, fw_1, List.getElem?_cons_zero, List.getElem?_cons_succ, List.set_cons_zero, List.set_cons_succ, List.length_cons, List.length_nil, List.take_succ_cons, List.take_zero, List.drop_succ_cons, List.drop_zero, List.reverse_cons, List.reverse_nil, List.nil_append, List.cons_append, List.append_nil, List.map_cons, List.map_nil, List.sum_cons, List.sum_nil, Value.category, Option.toList_some, Option.toList_none, Nat.reduceAdd, Nat.reduceLT, Nat.reduceLeDiff, Nat.reduceEqDiff, Nat.reduceSub, Nat.add_zero, Nat.le_refl, Nat.zero_le, Int.reduceNeg, Int.reduceLE, Int.reduceLT, true_and, and_true, and_self, if_true, if_false, ite_true, ite_false, eq_self_iff_true, reduceIte, reduceCtorEq, not_false_eq_true, not_true_eq_false, or_true, true_or, or_false, false_or, Nat.lt_irrefl, Nat.zero_lt_succ]
  exact h
theorem mX6_clear (l : Launch) : am_M l TB NB vwCl SH KF yX6_clear cX6_clear 2 (some .int) 2 0 0 sX6_clear := by
  refine am_M.of xX6_clear (by decide +kernel) TB_good GF rfl rfl rfl (by decide) ⟨FT_X6_ok, PT_X6_ok _, CT_X6_ok, KT_X6_ok, LT_X6_ok, NT_X6_ok, ?_⟩ pX6_clear
  exact fun _ h => absurd h List.not_mem_nil

def sX6_add : am_Sp := fun as n σ post => ∃ (c w : Int32), n = 92 ∧ as = [.ref 47, .int c, .int w] ∧ σ.1 47 3 = Int32.ofInt 0 ∧ ∀ τ, Hi σ τ → post (some (.int (Int32.ofInt 0))) τ
def xX6_add : am_X := (SH, KF, (some .int), FT_X6, PT_X6, CT_X6, KT_X6, LT_X6, NT_X6, [])
theorem xX6_add_SH : am_SH xX6_add = SH := rfl
theorem xX6_add_KF : am_KF xX6_add = KF := rfl
theorem xX6_add_rt : am_rt xX6_add = (some .int) := rfl
theorem xX6_add_FT : am_FT xX6_add = FT_X6 := rfl
theorem xX6_add_PT : am_PT xX6_add = PT_X6 := rfl
theorem xX6_add_CT : am_CT xX6_add = CT_X6 := rfl
theorem xX6_add_KT : am_KT xX6_add = KT_X6 := rfl
theorem xX6_add_LT : am_LT xX6_add = LT_X6 := rfl
theorem xX6_add_NT : am_NT xX6_add = NT_X6 := rfl
theorem xX6_add_t4 (k : Nat → Prop) : am_tg 4 (27) k = k 31 := am_tg_eq (by decide)
theorem xX6_add_t16 (k : Nat → Prop) : am_tg 16 (15) k = k 31 := am_tg_eq (by decide)
theorem xX6_add_t28 (k : Nat → Prop) : am_tg 28 (5) k = k 33 := am_tg_eq (by decide)

set_option maxRecDepth 100000 in
theorem pX6_add : am_B cX6_add xX6_add 3 0 sX6_add := by
  intro n0 as σ post AA hA h
  obtain ⟨c, w, rfl, rfl, e1, h⟩ := h
  refine ⟨by simp [am_sl, Value.category], ?_⟩
  show AA 0 [some (.ref 47), some (.int c), some (.int w)] [] 92 σ
  have q1 : ∀ (o j : Nat) (x : Int32), ¬ o = 47 → (am_pi σ o j x).1 47 3 = Int32.ofInt 0 := fun o j x hh => (pi_n _ _ _ _ (fun g => hh g.1.symm)).trans e1
  refine hA [] 60 _ _ _ _ _ ?_
  try simp only [dX6_add_0, dX6_add_1, FT_X6_19, dX6_add_4, xX6_add_t4, dX6_add_7, dX6_add_8, dX6_add_11, dX6_add_12, FT_X6_11, dX6_add_15, dX6_add_16, xX6_add_t16, dX6_add_19, dX6_add_20, dX6_add_23, dX6_add_24, FT_X6_15, dX6_add_27, dX6_add_28, xX6_add_t28, dX6_add_31, dX6_add_32, dX6_add_33, dX6_add_34, dX6_add_37, dX6_add_38, dX6_add_41, dX6_add_42, dX6_add_43, dX6_add_44, dX6_add_47, dX6_add_48, dX6_add_51, dX6_add_52, dX6_add_53, dX6_add_54, dX6_add_55, dX6_add_58, dX6_add_59, dX6_add_60, PT_X6_19, dX6_add_63, dX6_add_64, dX6_add_67, dX6_add_68, dX6_add_69, xX6_add_SH, xX6_add_KF, xX6_add_rt, xX6_add_FT, xX6_add_PT, xX6_add_CT, xX6_add_KT, xX6_add_LT, xX6_add_NT, o_aload_n, o_arraylength, o_bastore, o_dup, o_getfield, o_iadd, o_iastore, o_iconst, o_ifCond_lt, o_if_icmp_ge, o_if_icmp_lt, o_iload_n, o_ireturn, o_isub, o_putfield, SH_47, KF_47_3, KF_47_1, SH_48, KF_47_2, SH_49, am_ty, am_vc, am_opt, am_cl, am_find, am_ldi, am_ldl, am_lda, am_v, am_1, am_1l, am_1a, am_2, am_2l, am_ix, am_ri, am_arr, am_pf, am_rc, am_mask, am_lg, am_av, am_nat, fv_0, fv_1, fv_2, fv_3, fw_0, fw_1, List.getElem?_cons_zero, List.getElem?_cons_succ, List.set_cons_zero, List.set_cons_succ, List.length_cons, List.length_nil, List.take_succ_cons, List.take_zero, List.drop_succ_cons, List.drop_zero, List.reverse_cons, List.reverse_nil, List.nil_append, List.cons_append, List.append_nil, List.map_cons, List.map_nil, List.sum_cons, List.sum_nil, Value.category, Option.toList_some, Option.toList_none, Nat.reduceAdd, Nat.reduceLT, Nat.reduceLeDiff, Nat.reduceEqDiff, Nat.reduceSub, Nat.add_zero, Nat.le_refl, Nat.zero_le, Int.reduceNeg, Int.reduceLE, Int.reduceLT, true_and, and_true, and_self, if_true, if_false, ite_true, ite_false, eq_self_iff_true, reduceIte, reduceCtorEq, not_false_eq_true, not_true_eq_false, or_true, true_or, or_false, false_or, Nat.lt_irrefl, Nat.zero_lt_succ, e1, on_i]
  try simp (disch := omega) only [ii_0, ii_1, ii_t, ii_add, ii_sub, ii_mul, ii_lt, ii_le, ii_eq, ij_in, ii_c, Int.toNat_natCast, Int.toNat_zero, Int.reduceToNat, Int.reduceEq, Int.reduceNe, Int.reduceLE, Int.reduceLT, Int.reduceAdd, Int.reduceSub, Int.reduceMul, Int.reduceNeg, Nat.reduceLT, Nat.reduceAdd, Nat.reduceMul, not_false_eq_true, not_true_eq_false, true_and, and_true, and_self, false_and, and_false, true_implies, false_implies, implies_true, forall_const, if_true, if_false, ite_true, ite_false, reduceIte, eq_self_iff_true, Int.natCast_nonneg, Int.zero_add, Int.add_zero, pi_s, pi_n, e1, on_i]
  sorry
theorem mX6_add (l : Launch) : am_M l TB NB vwCl SH KF yX6_add cX6_add 3 (some .int) 2 0 0 sX6_add := by
  refine am_M.of xX6_add (by decide +kernel) TB_good GF rfl rfl rfl (by decide) ⟨FT_X6_ok, PT_X6_ok _, CT_X6_ok, KT_X6_ok, LT_X6_ok, NT_X6_ok, ?_⟩ pX6_add
  exact fun _ h => absurd h List.not_mem_nil

def sX6_whoFits : am_Sp := fun as n σ post => ∃ (m : Nat) (v : Int32), n = 92 ∧ as = [.ref 47, .ref m, .int v] ∧ σ.1 20 1 = Int32.ofInt 0 ∧ post (some (.int (Int32.ofInt 0))) σ
def xX6_whoFits : am_X := (SH, KF, (some .int), FT_X6, PT_X6, CT_X6, KT_X6, LT_X6, NT_X6, [(32, 0, 4, 6, 0, 0, sX6_doesFit)])
theorem xX6_whoFits_SH : am_SH xX6_whoFits = SH := rfl
theorem xX6_whoFits_KF : am_KF xX6_whoFits = KF := rfl
theorem xX6_whoFits_rt : am_rt xX6_whoFits = (some .int) := rfl
theorem xX6_whoFits_FT : am_FT xX6_whoFits = FT_X6 := rfl
theorem xX6_whoFits_PT : am_PT xX6_whoFits = PT_X6 := rfl
theorem xX6_whoFits_CT : am_CT xX6_whoFits = CT_X6 := rfl
theorem xX6_whoFits_KT : am_KT xX6_whoFits = KT_X6 := rfl
theorem xX6_whoFits_LT : am_LT xX6_whoFits = LT_X6 := rfl
theorem xX6_whoFits_NT : am_NT xX6_whoFits = NT_X6 := rfl
theorem xX6_whoFits_c32 : am_find (am_ML xX6_whoFits) 32 = some (0, 4, 6, 0, 0, sX6_doesFit) := rfl
theorem xX6_whoFits_n32 : am_find NT_X6 32 = none := rfl
theorem xX6_whoFits_t14 (k : Nat → Prop) : am_tg 14 (27) k = k 41 := am_tg_eq (by decide)
theorem xX6_whoFits_t25 (k : Nat → Prop) : am_tg 25 (10) k = k 35 := am_tg_eq (by decide)
theorem xX6_whoFits_t38 (k : Nat → Prop) : am_tg 38 (-33) k = k 5 := am_tg_eq (by decide)

set_option maxRecDepth 100000 in
theorem pX6_whoFits : am_B cX6_whoFits xX6_whoFits 5 0 sX6_whoFits := by
  intro n0 as σ post AA hA h
  obtain ⟨m, v, rfl, rfl, e1, h⟩ := h
  refine ⟨by simp [am_sl, Value.category], ?_⟩
  show AA 0 [some (.ref 47), some (.ref m), some (.int v), none, none] [] 92 σ
  refine hA [(17, 5)] 11 _ _ _ _ _ ?_
  try simp only [dX6_whoFits_0, dX6_whoFits_1, dX6_whoFits_2, dX6_whoFits_3, dX6_whoFits_5, dX6_whoFits_7, dX6_whoFits_8, FT_X6_23, dX6_whoFits_11, FT_X6_27, dX6_whoFits_14, xX6_whoFits_t14, dX6_whoFits_17, dX6_whoFits_18, dX6_whoFits_19, dX6_whoFits_21, dX6_whoFits_22, xX6_whoFits_c32, xX6_whoFits_n32, dX6_whoFits_25, xX6_whoFits_t25, dX6_whoFits_28, dX6_whoFits_29, dX6_whoFits_30, dX6_whoFits_32, dX6_whoFits_33, dX6_whoFits_34, dX6_whoFits_35, dX6_whoFits_38, xX6_whoFits_t38, dX6_whoFits_41, dX6_whoFits_42, xX6_whoFits_SH, xX6_whoFits_KF, xX6_whoFits_rt, xX6_whoFits_FT, xX6_whoFits_PT, xX6_whoFits_CT, xX6_whoFits_KT, xX6_whoFits_LT, xX6_whoFits_NT, o_aload_n, o_getfield, o_goto, o_iconst, o_ifCond_eq, o_if_icmp_ge, o_iinc, o_iload, o_iload_n, o_invokevirtual, o_ior, o_ireturn, o_ishl, o_istore, o_istore_n, SH_3, KF_3_1, SH_20, KF_20_1, SH_47, KF_47_0, SH_31, SH_33, am_ty, am_vc, am_opt, am_cl, am_find, am_ldi, am_ldl, am_lda, am_v, am_1, am_1l, am_1a, am_2, am_2l, am_ix, am_ri, am_arr, am_pf, am_rc, am_mask, am_lg, am_av, am_nat, fv_0, fv_1, fv_2, fv_3, fw_0, fw_1, List.getElem?_cons_zero, List.getElem?_cons_succ, List.set_cons_zero, List.set_cons_succ, List.length_cons, List.length_nil, List.take_succ_cons, List.take_zero, List.drop_succ_cons, List.drop_zero, List.reverse_cons, List.reverse_nil, List.nil_append, List.cons_append, List.append_nil, List.map_cons, List.map_nil, List.sum_cons, List.sum_nil, Value.category, Option.toList_some, Option.toList_none, Nat.reduceAdd, Nat.reduceLT, Nat.reduceLeDiff, Nat.reduceEqDiff, Nat.reduceSub, Nat.add_zero, Nat.le_refl, Nat.zero_le, Int.reduceNeg, Int.reduceLE, Int.reduceLT, true_and, and_true, and_self, if_true, if_false, ite_true, ite_false, eq_self_iff_true, reduceIte, reduceCtorEq, not_false_eq_true, not_true_eq_false, or_true, true_or, or_false, false_or, Nat.lt_irrefl, Nat.zero_lt_succ, e1]
  try simp (disch := omega) only [ii_0, ii_1, ii_t, ii_add, ii_sub, ii_mul, ii_lt, ii_le, ii_eq, ij_in, ii_c, Int.toNat_natCast, Int.toNat_zero, Int.reduceToNat, Int.reduceEq, Int.reduceNe, Int.reduceLE, Int.reduceLT, Int.reduceAdd, Int.reduceSub, Int.reduceMul, Int.reduceNeg, Nat.reduceLT, Nat.reduceAdd, Nat.reduceMul, not_false_eq_true, not_true_eq_false, true_and, and_true, and_self, false_and, and_false, true_implies, false_implies, implies_true, forall_const, if_true, if_false, ite_true, ite_false, reduceIte, eq_self_iff_true, Int.natCast_nonneg, Int.zero_add, Int.add_zero, pi_s, pi_n, e1]
  exact h
theorem mX6_whoFits (l : Launch) : am_M l TB NB vwCl SH KF yX6_whoFits cX6_whoFits 5 (some .int) 6 0 0 sX6_whoFits := by
  refine am_M.of xX6_whoFits (by decide +kernel) TB_good GF rfl rfl rfl (by decide) ⟨FT_X6_ok, PT_X6_ok _, CT_X6_ok, KT_X6_ok, LT_X6_ok, NT_X6_ok, ?_⟩ pX6_whoFits
  exact List.forall_mem_cons.mpr ⟨⟨yX6_doesFit, cX6_doesFit, 6, (some .boolean), 5, 3, mX6_doesFit l, by decide, by decide, tb_at 1270 (by decide +kernel) (by decide +kernel), tb_at 118 (by decide +kernel) (by decide +kernel), ⟨by decide +kernel, by decide +kernel, by decide +kernel⟩, rfl, tb_at 1267 (by decide +kernel) (by decide +kernel), tb_at 1269 (by decide +kernel) (by decide +kernel), ⟨(RX6, TX6, 4), rfl, tb_at 34 (by decide +kernel) (by decide +kernel)⟩⟩, fun _ h => absurd h List.not_mem_nil⟩

def sJ6_bitCount_0f7a4 : am_Sp := fun as n σ post => as = [.int (Int32.ofInt 0)] ∧ post (some (.int (Int32.ofInt 0))) σ
theorem sh0 (x : UInt32) : ((Int32.ofInt 0).toUInt32 >>> x).toInt32 = Int32.ofInt 0 := by
  have e : (Int32.ofInt 0).toUInt32 = 0 := rfl
  rw [e, UInt32.zero_shiftRight]
  rfl
theorem an0 (x : Int32) : Int32.ofInt 0 &&& x = Int32.ofInt 0 := Int32.zero_and
theorem sb0 : Int32.ofInt 0 - Int32.ofInt 0 = Int32.ofInt 0 := by decide
theorem ad0 : Int32.ofInt 0 + Int32.ofInt 0 = Int32.ofInt 0 := by decide
def xJ6_bitCount_0f7a4 : am_X := (SH, KF, (some .int), FT_J6, PT_J6, CT_J6, KT_J6, LT_J6, NT_J6, [])
theorem xJ6_bitCount_0f7a4_SH : am_SH xJ6_bitCount_0f7a4 = SH := rfl
theorem xJ6_bitCount_0f7a4_KF : am_KF xJ6_bitCount_0f7a4 = KF := rfl
theorem xJ6_bitCount_0f7a4_rt : am_rt xJ6_bitCount_0f7a4 = (some .int) := rfl
theorem xJ6_bitCount_0f7a4_FT : am_FT xJ6_bitCount_0f7a4 = FT_J6 := rfl
theorem xJ6_bitCount_0f7a4_PT : am_PT xJ6_bitCount_0f7a4 = PT_J6 := rfl
theorem xJ6_bitCount_0f7a4_CT : am_CT xJ6_bitCount_0f7a4 = CT_J6 := rfl
theorem xJ6_bitCount_0f7a4_KT : am_KT xJ6_bitCount_0f7a4 = KT_J6 := rfl
theorem xJ6_bitCount_0f7a4_LT : am_LT xJ6_bitCount_0f7a4 = LT_J6 := rfl
theorem xJ6_bitCount_0f7a4_NT : am_NT xJ6_bitCount_0f7a4 = NT_J6 := rfl

set_option maxRecDepth 100000 in
theorem pJ6_bitCount_0f7a4 : am_B cJ6_bitCount_0f7a4 xJ6_bitCount_0f7a4 1 0 sJ6_bitCount_0f7a4 := by
  intro n0 as σ post AA hA h
  obtain ⟨rfl, h⟩ := h
  refine ⟨by simp [am_sl, Value.category], ?_⟩
  show AA 0 [some (.int (Int32.ofInt 0))] [] n0 σ
  refine hA [] 80 _ _ _ _ _ ?_
  try simp only [dJ6_bitCount_0f7a4_0, dJ6_bitCount_0f7a4_1, dJ6_bitCount_0f7a4_2, dJ6_bitCount_0f7a4_3, dJ6_bitCount_0f7a4_4, KT_J6, dJ6_bitCount_0f7a4_7, dJ6_bitCount_0f7a4_8, dJ6_bitCount_0f7a4_9, dJ6_bitCount_0f7a4_10, dJ6_bitCount_0f7a4_11, dJ6_bitCount_0f7a4_14, dJ6_bitCount_0f7a4_15, dJ6_bitCount_0f7a4_16, dJ6_bitCount_0f7a4_17, dJ6_bitCount_0f7a4_18, dJ6_bitCount_0f7a4_21, dJ6_bitCount_0f7a4_22, dJ6_bitCount_0f7a4_23, dJ6_bitCount_0f7a4_24, dJ6_bitCount_0f7a4_25, dJ6_bitCount_0f7a4_26, dJ6_bitCount_0f7a4_27, dJ6_bitCount_0f7a4_28, dJ6_bitCount_0f7a4_29, dJ6_bitCount_0f7a4_32, dJ6_bitCount_0f7a4_33, dJ6_bitCount_0f7a4_34, dJ6_bitCount_0f7a4_35, dJ6_bitCount_0f7a4_36, dJ6_bitCount_0f7a4_38, dJ6_bitCount_0f7a4_39, dJ6_bitCount_0f7a4_40, dJ6_bitCount_0f7a4_41, dJ6_bitCount_0f7a4_42, dJ6_bitCount_0f7a4_43, dJ6_bitCount_0f7a4_45, dJ6_bitCount_0f7a4_46, dJ6_bitCount_0f7a4_47, dJ6_bitCount_0f7a4_48, dJ6_bitCount_0f7a4_49, dJ6_bitCount_0f7a4_51, dJ6_bitCount_0f7a4_52, xJ6_bitCount_0f7a4_SH, xJ6_bitCount_0f7a4_KF, xJ6_bitCount_0f7a4_rt, xJ6_bitCount_0f7a4_FT, xJ6_bitCount_0f7a4_PT, xJ6_bitCount_0f7a4_CT, xJ6_bitCount_0f7a4_KT, xJ6_bitCount_0f7a4_LT, xJ6_bitCount_0f7a4_NT, o_bipush, o_iadd, o_iand, o_iconst, o_iload_n, o_ireturn, o_istore_n, o_isub, o_iushr, o_ldc_w, am_ty, am_vc, am_opt, am_cl, am_find, am_ldi, am_ldl, am_lda, am_v, am_1, am_1l, am_1a, am_2, am_2l, am_ix, am_ri, am_arr, am_pf, am_rc, am_mask, am_lg, am_av, am_nat, fv_0, fv_1, fv_2, fv_3, fw_0, fw_1, List.getElem?_cons_zero, List.getElem?_cons_succ, List.set_cons_zero, List.set_cons_succ, List.length_cons, List.length_nil, List.take_succ_cons, List.take_zero, List.drop_succ_cons, List.drop_zero, List.reverse_cons, List.reverse_nil, List.nil_append, List.cons_append, List.append_nil, List.map_cons, List.map_nil, List.sum_cons, List.sum_nil, Value.category, Option.toList_some, Option.toList_none, Nat.reduceAdd, Nat.reduceLT, Nat.reduceLeDiff, Nat.reduceEqDiff, Nat.reduceSub, Nat.add_zero, Nat.le_refl, Nat.zero_le, Int.reduceNeg, Int.reduceLE, Int.reduceLT, true_and, and_true, and_self, if_true, if_false, ite_true, ite_false, eq_self_iff_true, reduceIte, reduceCtorEq, not_false_eq_true, not_true_eq_false, or_true, true_or, or_false, false_or, Nat.lt_irrefl, Nat.zero_lt_succ, sh0, an0, sb0, ad0]
  exact h
theorem mJ6_bitCount_0f7a4 (l : Launch) : am_M l TB NB vwCl SH KF yJ6_bitCount_0f7a4 cJ6_bitCount_0f7a4 1 (some .int) 2 0 0 sJ6_bitCount_0f7a4 := by
  refine am_M.of xJ6_bitCount_0f7a4 (by decide +kernel) TB_good GF rfl rfl rfl (by decide) ⟨FT_J6_ok, PT_J6_ok _, CT_J6_ok, KT_J6_ok, LT_J6_ok, NT_J6_ok, ?_⟩ pJ6_bitCount_0f7a4
  exact fun _ h => absurd h List.not_mem_nil

def sX6_bestRung : am_Sp := fun as n σ post => ∃ (m : Nat) (v : Int32), n = 92 ∧ as = [.ref 47, .ref m, .int v] ∧ σ.1 20 1 = Int32.ofInt 0 ∧ post (some (.int (Int32.ofInt (-2)))) σ
def xX6_bestRung : am_X := (SH, KF, (some .int), FT_X6, PT_X6, CT_X6, KT_X6, LT_X6, NT_X6, [(45, 0, 3, 6, 0, 0, sX6_whoFits), (51, 0, 3, 6, 0, 0, sX6_whoTreads), (54, 1, 1, 99, 0, 0, sJ6_bitCount_0f7a4)])
theorem xX6_bestRung_SH : am_SH xX6_bestRung = SH := rfl
theorem xX6_bestRung_KF : am_KF xX6_bestRung = KF := rfl
theorem xX6_bestRung_rt : am_rt xX6_bestRung = (some .int) := rfl
theorem xX6_bestRung_FT : am_FT xX6_bestRung = FT_X6 := rfl
theorem xX6_bestRung_PT : am_PT xX6_bestRung = PT_X6 := rfl
theorem xX6_bestRung_CT : am_CT xX6_bestRung = CT_X6 := rfl
theorem xX6_bestRung_KT : am_KT xX6_bestRung = KT_X6 := rfl
theorem xX6_bestRung_LT : am_LT xX6_bestRung = LT_X6 := rfl
theorem xX6_bestRung_NT : am_NT xX6_bestRung = NT_X6 := rfl
theorem xX6_bestRung_c45 : am_find (am_ML xX6_bestRung) 45 = some (0, 3, 6, 0, 0, sX6_whoFits) := rfl
theorem xX6_bestRung_n45 : am_find NT_X6 45 = none := rfl
theorem xX6_bestRung_c51 : am_find (am_ML xX6_bestRung) 51 = some (0, 3, 6, 0, 0, sX6_whoTreads) := rfl
theorem xX6_bestRung_n51 : am_find NT_X6 51 = none := rfl
theorem xX6_bestRung_c54 : am_find (am_ML xX6_bestRung) 54 = some (1, 1, 99, 0, 0, sJ6_bitCount_0f7a4) := rfl
theorem xX6_bestRung_n54 : am_find NT_X6 54 = none := rfl
theorem xX6_bestRung_t8 (k : Nat → Prop) : am_tg 8 (6) k = k 14 := am_tg_eq (by decide)
theorem xX6_bestRung_t33 (k : Nat → Prop) : am_tg 33 (52) k = k 85 := am_tg_eq (by decide)
theorem xX6_bestRung_t68 (k : Nat → Prop) : am_tg 68 (11) k = k 79 := am_tg_eq (by decide)
theorem xX6_bestRung_t82 (k : Nat → Prop) : am_tg 82 (-58) k = k 24 := am_tg_eq (by decide)

set_option maxRecDepth 100000 in
theorem pX6_bestRung : am_B cX6_bestRung xX6_bestRung 9 0 sX6_bestRung := by
  intro n0 as σ post AA hA h
  obtain ⟨m, v, rfl, rfl, e1, h⟩ := h
  refine ⟨by simp [am_sl, Value.category], ?_⟩
  show AA 0 [some (.ref 47), some (.ref m), some (.int v), none, none, none, none, none, none] [] 92 σ
  refine hA [] 4 _ _ _ _ _ ?_
  try simp only [dX6_bestRung_0, dX6_bestRung_1, dX6_bestRung_2, dX6_bestRung_3, xX6_bestRung_c45, xX6_bestRung_n45, dX6_bestRung_6, dX6_bestRung_7, dX6_bestRung_8, xX6_bestRung_t8, dX6_bestRung_11, dX6_bestRung_13, dX6_bestRung_14, dX6_bestRung_15, dX6_bestRung_17, dX6_bestRung_19, dX6_bestRung_21, dX6_bestRung_22, dX6_bestRung_24, dX6_bestRung_26, dX6_bestRung_27, FT_X6_23, dX6_bestRung_30, FT_X6_49, dX6_bestRung_33, xX6_bestRung_t33, dX6_bestRung_36, dX6_bestRung_37, dX6_bestRung_38, dX6_bestRung_39, dX6_bestRung_41, xX6_bestRung_c51, xX6_bestRung_n51, dX6_bestRung_44, dX6_bestRung_45, xX6_bestRung_c54, xX6_bestRung_n54, dX6_bestRung_48, dX6_bestRung_50, dX6_bestRung_52, dX6_bestRung_53, dX6_bestRung_56, dX6_bestRung_58, dX6_bestRung_59, NT_X6, dX6_bestRung_62, dX6_bestRung_64, dX6_bestRung_66, dX6_bestRung_68, xX6_bestRung_t68, dX6_bestRung_71, dX6_bestRung_73, dX6_bestRung_75, dX6_bestRung_77, dX6_bestRung_79, dX6_bestRung_82, xX6_bestRung_t82, dX6_bestRung_85, dX6_bestRung_87, xX6_bestRung_SH, xX6_bestRung_KF, xX6_bestRung_rt, xX6_bestRung_FT, xX6_bestRung_PT, xX6_bestRung_CT, xX6_bestRung_KT, xX6_bestRung_LT, xX6_bestRung_NT, o_aload_n, o_bipush, o_getfield, o_goto, o_iand, o_iconst, o_ifCond_ne, o_if_icmp_ge, o_iinc, o_iload, o_iload_n, o_invokestatic, o_invokevirtual, o_ireturn, o_istore, o_istore_n, o_isub, SH_3, KF_3_0, SH_20, KF_20_0, SH_47, KF_47_0, SH_31, SH_33, am_ty, am_vc, am_opt, am_cl, am_find, am_ldi, am_ldl, am_lda, am_v, am_1, am_1l, am_1a, am_2, am_2l, am_ix, am_ri, am_arr, am_pf, am_rc, am_mask, am_lg, am_av, am_nat, fv_0, fv_1, fv_2, fv_3, fw_0, fw_1, List.getElem?_cons_zero, List.getElem?_cons_succ, List.set_cons_zero, List.set_cons_succ, List.length_cons, List.length_nil, List.take_succ_cons, List.take_zero, List.drop_succ_cons, List.drop_zero, List.reverse_cons, List.reverse_nil, List.nil_append, List.cons_append, List.append_nil, List.map_cons, List.map_nil, List.sum_cons, List.sum_nil, Value.category, Option.toList_some, Option.toList_none, Nat.reduceAdd, Nat.reduceLT, Nat.reduceLeDiff, Nat.reduceEqDiff, Nat.reduceSub, Nat.add_zero, Nat.le_refl, Nat.zero_le, Int.reduceNeg, Int.reduceLE, Int.reduceLT, true_and, and_true, and_self, if_true, if_false, ite_true, ite_false, eq_self_iff_true, reduceIte, reduceCtorEq, not_false_eq_true, not_true_eq_false, or_true, true_or, or_false, false_or, Nat.lt_irrefl, Nat.zero_lt_succ]
  refine ⟨_, _, rfl, rfl, e1, ?_⟩
  try simp only [dX6_bestRung_0, dX6_bestRung_1, dX6_bestRung_2, dX6_bestRung_3, xX6_bestRung_c45, xX6_bestRung_n45, dX6_bestRung_6, dX6_bestRung_7, dX6_bestRung_8, xX6_bestRung_t8, dX6_bestRung_11, dX6_bestRung_13, dX6_bestRung_14, dX6_bestRung_15, dX6_bestRung_17, dX6_bestRung_19, dX6_bestRung_21, dX6_bestRung_22, dX6_bestRung_24, dX6_bestRung_26, dX6_bestRung_27, FT_X6_23, dX6_bestRung_30, FT_X6_49, dX6_bestRung_33, xX6_bestRung_t33, dX6_bestRung_36, dX6_bestRung_37, dX6_bestRung_38, dX6_bestRung_39, dX6_bestRung_41, xX6_bestRung_c51, xX6_bestRung_n51, dX6_bestRung_44, dX6_bestRung_45, xX6_bestRung_c54, xX6_bestRung_n54, dX6_bestRung_48, dX6_bestRung_50, dX6_bestRung_52, dX6_bestRung_53, dX6_bestRung_56, dX6_bestRung_58, dX6_bestRung_59, NT_X6, dX6_bestRung_62, dX6_bestRung_64, dX6_bestRung_66, dX6_bestRung_68, xX6_bestRung_t68, dX6_bestRung_71, dX6_bestRung_73, dX6_bestRung_75, dX6_bestRung_77, dX6_bestRung_79, dX6_bestRung_82, xX6_bestRung_t82, dX6_bestRung_85, dX6_bestRung_87, xX6_bestRung_SH, xX6_bestRung_KF, xX6_bestRung_rt, xX6_bestRung_FT, xX6_bestRung_PT, xX6_bestRung_CT, xX6_bestRung_KT, xX6_bestRung_LT, xX6_bestRung_NT, o_aload_n, o_bipush, o_getfield, o_goto, o_iand, o_iconst, o_ifCond_ne, o_if_icmp_ge, o_iinc, o_iload, o_iload_n, o_invokestatic, o_invokevirtual, o_ireturn, o_istore, o_istore_n, o_isub, SH_3, KF_3_0, SH_20, KF_20_0, SH_47, KF_47_0, SH_31, SH_33, am_ty, am_vc, am_opt, am_cl, am_find, am_ldi, am_ldl, am_lda, am_v, am_1, am_1l, am_1a, am_2, am_2l, am_ix, am_ri, am_arr, am_pf, am_rc, am_mask, am_lg, am_av, am_nat, fv_0, fv_1, fv_2, fv_3, fw_0, fw_1, List.getElem?_cons_zero, List.getElem?_cons_succ, List.set_cons_zero, List.set_cons_succ, List.length_cons, List.length_nil, List.take_succ_cons, List.take_zero, List.drop_succ_cons, List.drop_zero, List.reverse_cons, List.reverse_nil, List.nil_append, List.cons_append, List.append_nil, List.map_cons, List.map_nil, List.sum_cons, List.sum_nil, Value.category, Option.toList_some, Option.toList_none, Nat.reduceAdd, Nat.reduceLT, Nat.reduceLeDiff, Nat.reduceEqDiff, Nat.reduceSub, Nat.add_zero, Nat.le_refl, Nat.zero_le, Int.reduceNeg, Int.reduceLE, Int.reduceLT, true_and, and_true, and_self, if_true, if_false, ite_true, ite_false, eq_self_iff_true, reduceIte, reduceCtorEq, not_false_eq_true, not_true_eq_false, or_true, true_or, or_false, false_or, Nat.lt_irrefl, Nat.zero_lt_succ]
  refine hA [(14, 4)] 6 _ _ _ _ _ ?_
  try simp only [dX6_bestRung_0, dX6_bestRung_1, dX6_bestRung_2, dX6_bestRung_3, xX6_bestRung_c45, xX6_bestRung_n45, dX6_bestRung_6, dX6_bestRung_7, dX6_bestRung_8, xX6_bestRung_t8, dX6_bestRung_11, dX6_bestRung_13, dX6_bestRung_14, dX6_bestRung_15, dX6_bestRung_17, dX6_bestRung_19, dX6_bestRung_21, dX6_bestRung_22, dX6_bestRung_24, dX6_bestRung_26, dX6_bestRung_27, FT_X6_23, dX6_bestRung_30, FT_X6_49, dX6_bestRung_33, xX6_bestRung_t33, dX6_bestRung_36, dX6_bestRung_37, dX6_bestRung_38, dX6_bestRung_39, dX6_bestRung_41, xX6_bestRung_c51, xX6_bestRung_n51, dX6_bestRung_44, dX6_bestRung_45, xX6_bestRung_c54, xX6_bestRung_n54, dX6_bestRung_48, dX6_bestRung_50, dX6_bestRung_52, dX6_bestRung_53, dX6_bestRung_56, dX6_bestRung_58, dX6_bestRung_59, NT_X6, dX6_bestRung_62, dX6_bestRung_64, dX6_bestRung_66, dX6_bestRung_68, xX6_bestRung_t68, dX6_bestRung_71, dX6_bestRung_73, dX6_bestRung_75, dX6_bestRung_77, dX6_bestRung_79, dX6_bestRung_82, xX6_bestRung_t82, dX6_bestRung_85, dX6_bestRung_87, xX6_bestRung_SH, xX6_bestRung_KF, xX6_bestRung_rt, xX6_bestRung_FT, xX6_bestRung_PT, xX6_bestRung_CT, xX6_bestRung_KT, xX6_bestRung_LT, xX6_bestRung_NT, o_aload_n, o_bipush, o_getfield, o_goto, o_iand, o_iconst, o_ifCond_ne, o_if_icmp_ge, o_iinc, o_iload, o_iload_n, o_invokestatic, o_invokevirtual, o_ireturn, o_istore, o_istore_n, o_isub, SH_3, KF_3_0, SH_20, KF_20_0, SH_47, KF_47_0, SH_31, SH_33, am_ty, am_vc, am_opt, am_cl, am_find, am_ldi, am_ldl, am_lda, am_v, am_1, am_1l, am_1a, am_2, am_2l, am_ix, am_ri, am_arr, am_pf, am_rc, am_mask, am_lg, am_av, am_nat, fv_0, fv_1, fv_2, fv_3, fw_0, fw_1, List.getElem?_cons_zero, List.getElem?_cons_succ, List.set_cons_zero, List.set_cons_succ, List.length_cons, List.length_nil, List.take_succ_cons, List.take_zero, List.drop_succ_cons, List.drop_zero, List.reverse_cons, List.reverse_nil, List.nil_append, List.cons_append, List.append_nil, List.map_cons, List.map_nil, List.sum_cons, List.sum_nil, Value.category, Option.toList_some, Option.toList_none, Nat.reduceAdd, Nat.reduceLT, Nat.reduceLeDiff, Nat.reduceEqDiff, Nat.reduceSub, Nat.add_zero, Nat.le_refl, Nat.zero_le, Int.reduceNeg, Int.reduceLE, Int.reduceLT, true_and, and_true, and_self, if_true, if_false, ite_true, ite_false, eq_self_iff_true, reduceIte, reduceCtorEq, not_false_eq_true, not_true_eq_false, or_true, true_or, or_false, false_or, Nat.lt_irrefl, Nat.zero_lt_succ]
  try simp (disch := omega) only [ii_0, ii_1, ii_t, ii_add, ii_sub, ii_mul, ii_lt, ii_le, ii_eq, ij_in, ii_c, Int.toNat_natCast, Int.toNat_zero, Int.reduceToNat, Int.reduceEq, Int.reduceNe, Int.reduceLE, Int.reduceLT, Int.reduceAdd, Int.reduceSub, Int.reduceMul, Int.reduceNeg, Nat.reduceLT, Nat.reduceAdd, Nat.reduceMul, not_false_eq_true, not_true_eq_false, true_and, and_true, and_self, false_and, and_false, true_implies, false_implies, implies_true, forall_const, if_true, if_false, ite_true, ite_false, reduceIte, eq_self_iff_true, Int.natCast_nonneg, Int.zero_add, Int.add_zero, pi_s, pi_n]
  exact h
theorem mX6_bestRung (l : Launch) : am_M l TB NB vwCl SH KF yX6_bestRung cX6_bestRung 9 (some .int) 7 0 0 sX6_bestRung := by
  refine am_M.of xX6_bestRung (by decide +kernel) TB_good GF rfl rfl rfl (by decide) ⟨FT_X6_ok, PT_X6_ok _, CT_X6_ok, KT_X6_ok, LT_X6_ok, NT_X6_ok, ?_⟩ pX6_bestRung
  exact List.forall_mem_cons.mpr ⟨⟨yX6_whoFits, cX6_whoFits, 5, (some .int), 6, 2, mX6_whoFits l, by decide, by decide, tb_at 1266 (by decide +kernel) (by decide +kernel), tb_at 118 (by decide +kernel) (by decide +kernel), ⟨by decide +kernel, by decide +kernel, by decide +kernel⟩, rfl, tb_at 1284 (by decide +kernel) (by decide +kernel), tb_at 1264 (by decide +kernel) (by decide +kernel), ⟨(RX6, TX6, 4), rfl, tb_at 1265 (by decide +kernel) (by decide +kernel)⟩⟩, List.forall_mem_cons.mpr ⟨⟨yX6_whoTreads, cX6_whoTreads, 5, (some .int), 5, 2, mX6_whoTreads l, by decide, by decide, tb_at 1288 (by decide +kernel) (by decide +kernel), tb_at 118 (by decide +kernel) (by decide +kernel), ⟨by decide +kernel, by decide +kernel, by decide +kernel⟩, rfl, tb_at 1285 (by decide +kernel) (by decide +kernel), tb_at 1287 (by decide +kernel) (by decide +kernel), ⟨(RX6, TX6, 4), rfl, tb_at 36 (by decide +kernel) (by decide +kernel)⟩⟩, List.forall_mem_cons.mpr ⟨⟨yJ6_bitCount_0f7a4, cJ6_bitCount_0f7a4, 1, (some .int), 2, 1, mJ6_bitCount_0f7a4 l, by decide, by decide, tb_at 828 (by decide +kernel) (by decide +kernel), tb_at 123 (by decide +kernel) (by decide +kernel), ⟨by decide +kernel, by decide +kernel, by decide +kernel⟩, rfl, tb_at 1289 (by decide +kernel) (by decide +kernel), tb_at 827 (by decide +kernel) (by decide +kernel)⟩, fun _ h => absurd h List.not_mem_nil⟩⟩⟩

-- Shelf
def sX7_undoable : am_Sp := fun as n σ post => n = 92 ∧ as = [.ref 35] ∧ post (some (.int (σ.1 35 3))) σ
def xX7_undoable : am_X := (SH, KF, (some .int), FT_X7, PT_X7, CT_X7, KT_X7, LT_X7, NT_X7, [])
theorem xX7_undoable_SH : am_SH xX7_undoable = SH := rfl
theorem xX7_undoable_KF : am_KF xX7_undoable = KF := rfl
theorem xX7_undoable_rt : am_rt xX7_undoable = (some .int) := rfl
theorem xX7_undoable_FT : am_FT xX7_undoable = FT_X7 := rfl
theorem xX7_undoable_PT : am_PT xX7_undoable = PT_X7 := rfl
theorem xX7_undoable_CT : am_CT xX7_undoable = CT_X7 := rfl
theorem xX7_undoable_KT : am_KT xX7_undoable = KT_X7 := rfl
theorem xX7_undoable_LT : am_LT xX7_undoable = LT_X7 := rfl
theorem xX7_undoable_NT : am_NT xX7_undoable = NT_X7 := rfl

set_option maxRecDepth 100000 in
theorem pX7_undoable : am_B cX7_undoable xX7_undoable 1 0 sX7_undoable := by
  intro n0 as σ post AA hA h
  obtain ⟨rfl, rfl, h⟩ := h
  refine ⟨by simp [am_sl, Value.category], ?_⟩
  show AA 0 [some (.ref 35)] [] 92 σ
  refine hA [] 4 _ _ _ _ _ ?_
  try simp only [dX7_undoable_0, dX7_undoable_1, FT_X7_22, dX7_undoable_4, xX7_undoable_SH, xX7_undoable_KF, xX7_undoable_rt, xX7_undoable_FT, xX7_undoable_PT, xX7_undoable_CT, xX7_undoable_KT, xX7_undoable_LT, xX7_undoable_NT, o_aload_n, o_getfield, o_ireturn, SH_35, KF_35_3, am_ty, am_vc, am_opt, am_cl, am_find, am_ldi, am_ldl, am_lda, am_v, am_1, am_1l, am_1a, am_2, am_2l, am_ix, am_ri, am_arr, am_pf, am_rc, am_mask, am_lg, am_av, am_nat, fv_0, fv_1, fv_2, fv_3, fw_0, fw_1, List.getElem?_cons_zero, List.getElem?_cons_succ, List.set_cons_zero, List.set_cons_succ, List.length_cons, List.length_nil, List.take_succ_cons, List.take_zero, List.drop_succ_cons, List.drop_zero, List.reverse_cons, List.reverse_nil, List.nil_append, List.cons_append, List.append_nil, List.map_cons, List.map_nil, List.sum_cons, List.sum_nil, Value.category, Option.toList_some, Option.toList_none, Nat.reduceAdd, Nat.reduceLT, Nat.reduceLeDiff, Nat.reduceEqDiff, Nat.reduceSub, Nat.add_zero, Nat.le_refl, Nat.zero_le, Int.reduceNeg, Int.reduceLE, Int.reduceLT, true_and, and_true, and_self, if_true, if_false, ite_true, ite_false, eq_self_iff_true, reduceIte, reduceCtorEq, not_false_eq_true, not_true_eq_false, or_true, true_or, or_false, false_or, Nat.lt_irrefl, Nat.zero_lt_succ]
  exact h
theorem mX7_undoable (l : Launch) : am_M l TB NB vwCl SH KF yX7_undoable cX7_undoable 1 (some .int) 2 0 0 sX7_undoable := by
  refine am_M.of xX7_undoable (by decide +kernel) TB_good GF rfl rfl rfl (by decide) ⟨FT_X7_ok, PT_X7_ok _, CT_X7_ok, KT_X7_ok, LT_X7_ok, NT_X7_ok, ?_⟩ pX7_undoable
  exact fun _ h => absurd h List.not_mem_nil

def sX7_filledSlots : am_Sp := fun as n σ post => n = 92 ∧ as = [.ref 35] ∧ σ.1 35 4 = Int32.ofInt 0 ∧ post (some (.int (Int32.ofInt 0))) σ
def xX7_filledSlots : am_X := (SH, KF, (some .int), FT_X7, PT_X7, CT_X7, KT_X7, LT_X7, NT_X7, [(28, 1, 1, 99, 0, 0, sJ6_bitCount_0f7a4)])
theorem xX7_filledSlots_SH : am_SH xX7_filledSlots = SH := rfl
theorem xX7_filledSlots_KF : am_KF xX7_filledSlots = KF := rfl
theorem xX7_filledSlots_rt : am_rt xX7_filledSlots = (some .int) := rfl
theorem xX7_filledSlots_FT : am_FT xX7_filledSlots = FT_X7 := rfl
theorem xX7_filledSlots_PT : am_PT xX7_filledSlots = PT_X7 := rfl
theorem xX7_filledSlots_CT : am_CT xX7_filledSlots = CT_X7 := rfl
theorem xX7_filledSlots_KT : am_KT xX7_filledSlots = KT_X7 := rfl
theorem xX7_filledSlots_LT : am_LT xX7_filledSlots = LT_X7 := rfl
theorem xX7_filledSlots_NT : am_NT xX7_filledSlots = NT_X7 := rfl
theorem xX7_filledSlots_c28 : am_find (am_ML xX7_filledSlots) 28 = some (1, 1, 99, 0, 0, sJ6_bitCount_0f7a4) := rfl
theorem xX7_filledSlots_n28 : am_find NT_X7 28 = none := rfl

set_option maxRecDepth 100000 in
theorem pX7_filledSlots : am_B cX7_filledSlots xX7_filledSlots 1 0 sX7_filledSlots := by
  intro n0 as σ post AA hA h
  obtain ⟨rfl, rfl, e1, h⟩ := h
  refine ⟨by simp [am_sl, Value.category], ?_⟩
  show AA 0 [some (.ref 35)] [] 92 σ
  refine hA [] 5 _ _ _ _ _ ?_
  try simp only [dX7_filledSlots_0, dX7_filledSlots_1, FT_X7_25, dX7_filledSlots_4, xX7_filledSlots_c28, xX7_filledSlots_n28, dX7_filledSlots_7, xX7_filledSlots_SH, xX7_filledSlots_KF, xX7_filledSlots_rt, xX7_filledSlots_FT, xX7_filledSlots_PT, xX7_filledSlots_CT, xX7_filledSlots_KT, xX7_filledSlots_LT, xX7_filledSlots_NT, o_aload_n, o_getfield, o_invokestatic, o_ireturn, SH_35, KF_35_4, am_ty, am_vc, am_opt, am_cl, am_find, am_ldi, am_ldl, am_lda, am_v, am_1, am_1l, am_1a, am_2, am_2l, am_ix, am_ri, am_arr, am_pf, am_rc, am_mask, am_lg, am_av, am_nat, fv_0, fv_1, fv_2, fv_3, fw_0, fw_1, List.getElem?_cons_zero, List.getElem?_cons_succ, List.set_cons_zero, List.set_cons_succ, List.length_cons, List.length_nil, List.take_succ_cons, List.take_zero, List.drop_succ_cons, List.drop_zero, List.reverse_cons, List.reverse_nil, List.nil_append, List.cons_append, List.append_nil, List.map_cons, List.map_nil, List.sum_cons, List.sum_nil, Value.category, Option.toList_some, Option.toList_none, Nat.reduceAdd, Nat.reduceLT, Nat.reduceLeDiff, Nat.reduceEqDiff, Nat.reduceSub, Nat.add_zero, Nat.le_refl, Nat.zero_le, Int.reduceNeg, Int.reduceLE, Int.reduceLT, true_and, and_true, and_self, if_true, if_false, ite_true, ite_false, eq_self_iff_true, reduceIte, reduceCtorEq, not_false_eq_true, not_true_eq_false, or_true, true_or, or_false, false_or, Nat.lt_irrefl, Nat.zero_lt_succ, e1]
  refine ⟨rfl, ?_⟩
  try simp only [dX7_filledSlots_0, dX7_filledSlots_1, FT_X7_25, dX7_filledSlots_4, xX7_filledSlots_c28, xX7_filledSlots_n28, dX7_filledSlots_7, xX7_filledSlots_SH, xX7_filledSlots_KF, xX7_filledSlots_rt, xX7_filledSlots_FT, xX7_filledSlots_PT, xX7_filledSlots_CT, xX7_filledSlots_KT, xX7_filledSlots_LT, xX7_filledSlots_NT, o_aload_n, o_getfield, o_invokestatic, o_ireturn, SH_35, KF_35_4, am_ty, am_vc, am_opt, am_cl, am_find, am_ldi, am_ldl, am_lda, am_v, am_1, am_1l, am_1a, am_2, am_2l, am_ix, am_ri, am_arr, am_pf, am_rc, am_mask, am_lg, am_av, am_nat, fv_0, fv_1, fv_2, fv_3, fw_0, fw_1, List.getElem?_cons_zero, List.getElem?_cons_succ, List.set_cons_zero, List.set_cons_succ, List.length_cons, List.length_nil, List.take_succ_cons, List.take_zero, List.drop_succ_cons, List.drop_zero, List.reverse_cons, List.reverse_nil, List.nil_append, List.cons_append, List.append_nil, List.map_cons, List.map_nil, List.sum_cons, List.sum_nil, Value.category, Option.toList_some, Option.toList_none, Nat.reduceAdd, Nat.reduceLT, Nat.reduceLeDiff, Nat.reduceEqDiff, Nat.reduceSub, Nat.add_zero, Nat.le_refl, Nat.zero_le, Int.reduceNeg, Int.reduceLE, Int.reduceLT, true_and, and_true, and_self, if_true, if_false, ite_true, ite_false, eq_self_iff_true, reduceIte, reduceCtorEq, not_false_eq_true, not_true_eq_false, or_true, true_or, or_false, false_or, Nat.lt_irrefl, Nat.zero_lt_succ]
  exact h
theorem mX7_filledSlots (l : Launch) : am_M l TB NB vwCl SH KF yX7_filledSlots cX7_filledSlots 1 (some .int) 3 0 0 sX7_filledSlots := by
  refine am_M.of xX7_filledSlots (by decide +kernel) TB_good GF rfl rfl rfl (by decide) ⟨FT_X7_ok, PT_X7_ok _, CT_X7_ok, KT_X7_ok, LT_X7_ok, NT_X7_ok, ?_⟩ pX7_filledSlots
  exact List.forall_mem_cons.mpr ⟨⟨yJ6_bitCount_0f7a4, cJ6_bitCount_0f7a4, 1, (some .int), 2, 1, mJ6_bitCount_0f7a4 l, by decide, by decide, tb_at 828 (by decide +kernel) (by decide +kernel), tb_at 123 (by decide +kernel) (by decide +kernel), ⟨by decide +kernel, by decide +kernel, by decide +kernel⟩, rfl, tb_at 826 (by decide +kernel) (by decide +kernel), tb_at 827 (by decide +kernel) (by decide +kernel)⟩, fun _ h => absurd h List.not_mem_nil⟩

def sX7_clear : am_Sp := fun as n σ post => n = 92 ∧ as = [.ref 35] ∧ post none (am_pi (am_pi σ 35 3 (Int32.ofInt 0)) 35 4 (Int32.ofInt 0))
def xX7_clear : am_X := (SH, KF, none, FT_X7, PT_X7, CT_X7, KT_X7, LT_X7, NT_X7, [])
theorem xX7_clear_SH : am_SH xX7_clear = SH := rfl
theorem xX7_clear_KF : am_KF xX7_clear = KF := rfl
theorem xX7_clear_rt : am_rt xX7_clear = none := rfl
theorem xX7_clear_FT : am_FT xX7_clear = FT_X7 := rfl
theorem xX7_clear_PT : am_PT xX7_clear = PT_X7 := rfl
theorem xX7_clear_CT : am_CT xX7_clear = CT_X7 := rfl
theorem xX7_clear_KT : am_KT xX7_clear = KT_X7 := rfl
theorem xX7_clear_LT : am_LT xX7_clear = LT_X7 := rfl
theorem xX7_clear_NT : am_NT xX7_clear = NT_X7 := rfl

set_option maxRecDepth 100000 in
theorem pX7_clear : am_B cX7_clear xX7_clear 1 0 sX7_clear := by
  intro n0 as σ post AA hA h
  obtain ⟨rfl, rfl, h⟩ := h
  refine ⟨by simp [am_sl, Value.category], ?_⟩
  show AA 0 [some (.ref 35)] [] 92 σ
  refine hA [] 9 _ _ _ _ _ ?_
  try simp only [dX7_clear_0, dX7_clear_1, dX7_clear_2, PT_X7_22, dX7_clear_5, dX7_clear_6, dX7_clear_7, PT_X7_25, dX7_clear_10, xX7_clear_SH, xX7_clear_KF, xX7_clear_rt, xX7_clear_FT, xX7_clear_PT, xX7_clear_CT, xX7_clear_KT, xX7_clear_LT, xX7_clear_NT, o_aload_n, o_iconst, o_putfield, o_return_, SH_35, KF_35_3, KF_35_4, am_ty, am_vc, am_opt, am_cl, am_find, am_ldi, am_ldl, am_lda, am_v, am_1, am_1l, am_1a, am_2, am_2l, am_ix, am_ri, am_arr, am_pf, am_rc, am_mask, am_lg, am_av, am_nat, fv_0, fv_1, fv_2, fv_3, fw_0, fw_1, List.getElem?_cons_zero, List.getElem?_cons_succ, List.set_cons_zero, List.set_cons_succ, List.length_cons, List.length_nil, List.take_succ_cons, List.take_zero, List.drop_succ_cons, List.drop_zero, List.reverse_cons, List.reverse_nil, List.nil_append, List.cons_append, List.append_nil, List.map_cons, List.map_nil, List.sum_cons, List.sum_nil, Value.category, Option.toList_some, Option.toList_none, Nat.reduceAdd, Nat.reduceLT, Nat.reduceLeDiff, Nat.reduceEqDiff, Nat.reduceSub, Nat.add_zero, Nat.le_refl, Nat.zero_le, Int.reduceNeg, Int.reduceLE, Int.reduceLT, true_and, and_true, and_self, if_true, if_false, ite_true, ite_false, eq_self_iff_true, reduceIte, reduceCtorEq, not_false_eq_true, not_true_eq_false, or_true, true_or, or_false, false_or, Nat.lt_irrefl, Nat.zero_lt_succ]
  exact h
theorem mX7_clear (l : Launch) : am_M l TB NB vwCl SH KF yX7_clear cX7_clear 1 none 2 0 0 sX7_clear := by
  refine am_M.of xX7_clear (by decide +kernel) TB_good GF rfl rfl rfl (by decide) ⟨FT_X7_ok, PT_X7_ok _, CT_X7_ok, KT_X7_ok, LT_X7_ok, NT_X7_ok, ?_⟩ pX7_clear
  exact fun _ h => absurd h List.not_mem_nil

-- Town's sums
def sX9_sumOfWidths : am_Sp := fun as n σ post => n = 92 ∧ as = [.ref 20] ∧ σ.1 20 1 = Int32.ofInt 0 ∧ post (some (.int (Int32.ofInt 0))) σ
def xX9_sumOfWidths : am_X := (SH, KF, (some .int), FT_X9, PT_X9, CT_X9, KT_X9, LT_X9, NT_X9, [(66, 0, 2, 9, 0, 0, sX9_widthOf)])
theorem xX9_sumOfWidths_SH : am_SH xX9_sumOfWidths = SH := rfl
theorem xX9_sumOfWidths_KF : am_KF xX9_sumOfWidths = KF := rfl
theorem xX9_sumOfWidths_rt : am_rt xX9_sumOfWidths = (some .int) := rfl
theorem xX9_sumOfWidths_FT : am_FT xX9_sumOfWidths = FT_X9 := rfl
theorem xX9_sumOfWidths_PT : am_PT xX9_sumOfWidths = PT_X9 := rfl
theorem xX9_sumOfWidths_CT : am_CT xX9_sumOfWidths = CT_X9 := rfl
theorem xX9_sumOfWidths_KT : am_KT xX9_sumOfWidths = KT_X9 := rfl
theorem xX9_sumOfWidths_LT : am_LT xX9_sumOfWidths = LT_X9 := rfl
theorem xX9_sumOfWidths_NT : am_NT xX9_sumOfWidths = NT_X9 := rfl
theorem xX9_sumOfWidths_c66 : am_find (am_ML xX9_sumOfWidths) 66 = some (0, 2, 9, 0, 0, sX9_widthOf) := rfl
theorem xX9_sumOfWidths_n66 : am_find NT_X9 66 = none := rfl
theorem xX9_sumOfWidths_t9 (k : Nat → Prop) : am_tg 9 (17) k = k 26 := am_tg_eq (by decide)
theorem xX9_sumOfWidths_t23 (k : Nat → Prop) : am_tg 23 (-19) k = k 4 := am_tg_eq (by decide)

set_option maxRecDepth 100000 in
theorem pX9_sumOfWidths : am_B cX9_sumOfWidths xX9_sumOfWidths 3 0 sX9_sumOfWidths := by
  intro n0 as σ post AA hA h
  obtain ⟨rfl, rfl, e1, h⟩ := h
  refine ⟨by simp [am_sl, Value.category], ?_⟩
  show AA 0 [some (.ref 20), none, none] [] 92 σ
  refine hA [(12, 3)] 10 _ _ _ _ _ ?_
  try simp only [dX9_sumOfWidths_0, dX9_sumOfWidths_1, dX9_sumOfWidths_2, dX9_sumOfWidths_3, dX9_sumOfWidths_4, dX9_sumOfWidths_5, dX9_sumOfWidths_6, FT_X9_15, dX9_sumOfWidths_9, xX9_sumOfWidths_t9, dX9_sumOfWidths_12, dX9_sumOfWidths_13, dX9_sumOfWidths_14, dX9_sumOfWidths_15, xX9_sumOfWidths_c66, xX9_sumOfWidths_n66, dX9_sumOfWidths_18, dX9_sumOfWidths_19, dX9_sumOfWidths_20, dX9_sumOfWidths_23, xX9_sumOfWidths_t23, dX9_sumOfWidths_26, dX9_sumOfWidths_27, xX9_sumOfWidths_SH, xX9_sumOfWidths_KF, xX9_sumOfWidths_rt, xX9_sumOfWidths_FT, xX9_sumOfWidths_PT, xX9_sumOfWidths_CT, xX9_sumOfWidths_KT, xX9_sumOfWidths_LT, xX9_sumOfWidths_NT, o_aload_n, o_getfield, o_goto, o_iadd, o_iconst, o_if_icmp_ge, o_iinc, o_iload_n, o_invokevirtual, o_ireturn, o_istore_n, SH_3, KF_3_1, SH_20, KF_20_1, am_ty, am_vc, am_opt, am_cl, am_find, am_ldi, am_ldl, am_lda, am_v, am_1, am_1l, am_1a, am_2, am_2l, am_ix, am_ri, am_arr, am_pf, am_rc, am_mask, am_lg, am_av, am_nat, fv_0, fv_1, fv_2, fv_3, fw_0, fw_1, List.getElem?_cons_zero, List.getElem?_cons_succ, List.set_cons_zero, List.set_cons_succ, List.length_cons, List.length_nil, List.take_succ_cons, List.take_zero, List.drop_succ_cons, List.drop_zero, List.reverse_cons, List.reverse_nil, List.nil_append, List.cons_append, List.append_nil, List.map_cons, List.map_nil, List.sum_cons, List.sum_nil, Value.category, Option.toList_some, Option.toList_none, Nat.reduceAdd, Nat.reduceLT, Nat.reduceLeDiff, Nat.reduceEqDiff, Nat.reduceSub, Nat.add_zero, Nat.le_refl, Nat.zero_le, Int.reduceNeg, Int.reduceLE, Int.reduceLT, true_and, and_true, and_self, if_true, if_false, ite_true, ite_false, eq_self_iff_true, reduceIte, reduceCtorEq, not_false_eq_true, not_true_eq_false, or_true, true_or, or_false, false_or, Nat.lt_irrefl, Nat.zero_lt_succ, e1]
  try simp (disch := omega) only [ii_0, ii_1, ii_t, ii_add, ii_sub, ii_mul, ii_lt, ii_le, ii_eq, ij_in, ii_c, Int.toNat_natCast, Int.toNat_zero, Int.reduceToNat, Int.reduceEq, Int.reduceNe, Int.reduceLE, Int.reduceLT, Int.reduceAdd, Int.reduceSub, Int.reduceMul, Int.reduceNeg, Nat.reduceLT, Nat.reduceAdd, Nat.reduceMul, not_false_eq_true, not_true_eq_false, true_and, and_true, and_self, false_and, and_false, true_implies, false_implies, implies_true, forall_const, if_true, if_false, ite_true, ite_false, reduceIte, eq_self_iff_true, Int.natCast_nonneg, Int.zero_add, Int.add_zero, pi_s, pi_n, e1]
  exact h
theorem mX9_sumOfWidths (l : Launch) : am_M l TB NB vwCl SH KF yX9_sumOfWidths cX9_sumOfWidths 3 (some .int) 4 0 0 sX9_sumOfWidths := by
  refine am_M.of xX9_sumOfWidths (by decide +kernel) TB_good GF rfl rfl rfl (by decide) ⟨FT_X9_ok, PT_X9_ok _, CT_X9_ok, KT_X9_ok, LT_X9_ok, NT_X9_ok, ?_⟩ pX9_sumOfWidths
  exact List.forall_mem_cons.mpr ⟨⟨yX9_widthOf, cX9_widthOf, 2, (some .int), 3, 1, mX9_widthOf l, by decide, by decide, tb_at 707 (by decide +kernel) (by decide +kernel), tb_at 105 (by decide +kernel) (by decide +kernel), ⟨by decide +kernel, by decide +kernel, by decide +kernel⟩, rfl, tb_at 836 (by decide +kernel) (by decide +kernel), tb_at 705 (by decide +kernel) (by decide +kernel), ⟨(RX9, TX9, 8), rfl, tb_at 706 (by decide +kernel) (by decide +kernel)⟩⟩, fun _ h => absurd h List.not_mem_nil⟩

def sX9_sumOfThirst : am_Sp := fun as n σ post => n = 92 ∧ as = [.ref 20] ∧ σ.1 20 1 = Int32.ofInt 0 ∧ post (some (.int (Int32.ofInt 0))) σ
def xX9_sumOfThirst : am_X := (SH, KF, (some .int), FT_X9, PT_X9, CT_X9, KT_X9, LT_X9, NT_X9, [(69, 0, 2, 9, 0, 0, sX9_thirstOf)])
theorem xX9_sumOfThirst_SH : am_SH xX9_sumOfThirst = SH := rfl
theorem xX9_sumOfThirst_KF : am_KF xX9_sumOfThirst = KF := rfl
theorem xX9_sumOfThirst_rt : am_rt xX9_sumOfThirst = (some .int) := rfl
theorem xX9_sumOfThirst_FT : am_FT xX9_sumOfThirst = FT_X9 := rfl
theorem xX9_sumOfThirst_PT : am_PT xX9_sumOfThirst = PT_X9 := rfl
theorem xX9_sumOfThirst_CT : am_CT xX9_sumOfThirst = CT_X9 := rfl
theorem xX9_sumOfThirst_KT : am_KT xX9_sumOfThirst = KT_X9 := rfl
theorem xX9_sumOfThirst_LT : am_LT xX9_sumOfThirst = LT_X9 := rfl
theorem xX9_sumOfThirst_NT : am_NT xX9_sumOfThirst = NT_X9 := rfl
theorem xX9_sumOfThirst_c69 : am_find (am_ML xX9_sumOfThirst) 69 = some (0, 2, 9, 0, 0, sX9_thirstOf) := rfl
theorem xX9_sumOfThirst_n69 : am_find NT_X9 69 = none := rfl
theorem xX9_sumOfThirst_t9 (k : Nat → Prop) : am_tg 9 (17) k = k 26 := am_tg_eq (by decide)
theorem xX9_sumOfThirst_t23 (k : Nat → Prop) : am_tg 23 (-19) k = k 4 := am_tg_eq (by decide)

set_option maxRecDepth 100000 in
theorem pX9_sumOfThirst : am_B cX9_sumOfThirst xX9_sumOfThirst 3 0 sX9_sumOfThirst := by
  intro n0 as σ post AA hA h
  obtain ⟨rfl, rfl, e1, h⟩ := h
  refine ⟨by simp [am_sl, Value.category], ?_⟩
  show AA 0 [some (.ref 20), none, none] [] 92 σ
  refine hA [(12, 3)] 10 _ _ _ _ _ ?_
  try simp only [dX9_sumOfThirst_0, dX9_sumOfThirst_1, dX9_sumOfThirst_2, dX9_sumOfThirst_3, dX9_sumOfThirst_4, dX9_sumOfThirst_5, dX9_sumOfThirst_6, FT_X9_15, dX9_sumOfThirst_9, xX9_sumOfThirst_t9, dX9_sumOfThirst_12, dX9_sumOfThirst_13, dX9_sumOfThirst_14, dX9_sumOfThirst_15, xX9_sumOfThirst_c69, xX9_sumOfThirst_n69, dX9_sumOfThirst_18, dX9_sumOfThirst_19, dX9_sumOfThirst_20, dX9_sumOfThirst_23, xX9_sumOfThirst_t23, dX9_sumOfThirst_26, dX9_sumOfThirst_27, xX9_sumOfThirst_SH, xX9_sumOfThirst_KF, xX9_sumOfThirst_rt, xX9_sumOfThirst_FT, xX9_sumOfThirst_PT, xX9_sumOfThirst_CT, xX9_sumOfThirst_KT, xX9_sumOfThirst_LT, xX9_sumOfThirst_NT, o_aload_n, o_getfield, o_goto, o_iadd, o_iconst, o_if_icmp_ge, o_iinc, o_iload_n, o_invokevirtual, o_ireturn, o_istore_n, SH_3, KF_3_1, SH_20, KF_20_1, am_ty, am_vc, am_opt, am_cl, am_find, am_ldi, am_ldl, am_lda, am_v, am_1, am_1l, am_1a, am_2, am_2l, am_ix, am_ri, am_arr, am_pf, am_rc, am_mask, am_lg, am_av, am_nat, fv_0, fv_1, fv_2, fv_3, fw_0, fw_1, List.getElem?_cons_zero, List.getElem?_cons_succ, List.set_cons_zero, List.set_cons_succ, List.length_cons, List.length_nil, List.take_succ_cons, List.take_zero, List.drop_succ_cons, List.drop_zero, List.reverse_cons, List.reverse_nil, List.nil_append, List.cons_append, List.append_nil, List.map_cons, List.map_nil, List.sum_cons, List.sum_nil, Value.category, Option.toList_some, Option.toList_none, Nat.reduceAdd, Nat.reduceLT, Nat.reduceLeDiff, Nat.reduceEqDiff, Nat.reduceSub, Nat.add_zero, Nat.le_refl, Nat.zero_le, Int.reduceNeg, Int.reduceLE, Int.reduceLT, true_and, and_true, and_self, if_true, if_false, ite_true, ite_false, eq_self_iff_true, reduceIte, reduceCtorEq, not_false_eq_true, not_true_eq_false, or_true, true_or, or_false, false_or, Nat.lt_irrefl, Nat.zero_lt_succ, e1]
  try simp (disch := omega) only [ii_0, ii_1, ii_t, ii_add, ii_sub, ii_mul, ii_lt, ii_le, ii_eq, ij_in, ii_c, Int.toNat_natCast, Int.toNat_zero, Int.reduceToNat, Int.reduceEq, Int.reduceNe, Int.reduceLE, Int.reduceLT, Int.reduceAdd, Int.reduceSub, Int.reduceMul, Int.reduceNeg, Nat.reduceLT, Nat.reduceAdd, Nat.reduceMul, not_false_eq_true, not_true_eq_false, true_and, and_true, and_self, false_and, and_false, true_implies, false_implies, implies_true, forall_const, if_true, if_false, ite_true, ite_false, reduceIte, eq_self_iff_true, Int.natCast_nonneg, Int.zero_add, Int.add_zero, pi_s, pi_n, e1]
  exact h
theorem mX9_sumOfThirst (l : Launch) : am_M l TB NB vwCl SH KF yX9_sumOfThirst cX9_sumOfThirst 3 (some .int) 4 0 0 sX9_sumOfThirst := by
  refine am_M.of xX9_sumOfThirst (by decide +kernel) TB_good GF rfl rfl rfl (by decide) ⟨FT_X9_ok, PT_X9_ok _, CT_X9_ok, KT_X9_ok, LT_X9_ok, NT_X9_ok, ?_⟩ pX9_sumOfThirst
  exact List.forall_mem_cons.mpr ⟨⟨yX9_thirstOf, cX9_thirstOf, 2, (some .int), 3, 1, mX9_thirstOf l, by decide, by decide, tb_at 715 (by decide +kernel) (by decide +kernel), tb_at 105 (by decide +kernel) (by decide +kernel), ⟨by decide +kernel, by decide +kernel, by decide +kernel⟩, rfl, tb_at 852 (by decide +kernel) (by decide +kernel), tb_at 713 (by decide +kernel) (by decide +kernel), ⟨(RX9, TX9, 8), rfl, tb_at 714 (by decide +kernel) (by decide +kernel)⟩⟩, fun _ h => absurd h List.not_mem_nil⟩

-- Moment's
def sX4_quarrels : am_Sp := fun as n σ post => ∃ (m : Nat), Mo m ∧ n = 92 ∧ as = [.ref m] ∧ post (some (.int (σ.1 (m + 1) 1))) σ
def xX4_quarrels : am_X := (SH, KF, (some .int), FT_X4, PT_X4, CT_X4, KT_X4, LT_X4, NT_X4, [])
theorem xX4_quarrels_SH : am_SH xX4_quarrels = SH := rfl
theorem xX4_quarrels_KF : am_KF xX4_quarrels = KF := rfl
theorem xX4_quarrels_rt : am_rt xX4_quarrels = (some .int) := rfl
theorem xX4_quarrels_FT : am_FT xX4_quarrels = FT_X4 := rfl
theorem xX4_quarrels_PT : am_PT xX4_quarrels = PT_X4 := rfl
theorem xX4_quarrels_CT : am_CT xX4_quarrels = CT_X4 := rfl
theorem xX4_quarrels_KT : am_KT xX4_quarrels = KT_X4 := rfl
theorem xX4_quarrels_LT : am_LT xX4_quarrels = LT_X4 := rfl
theorem xX4_quarrels_NT : am_NT xX4_quarrels = NT_X4 := rfl

set_option maxRecDepth 100000 in
theorem pX4_quarrels : am_B cX4_quarrels xX4_quarrels 1 0 sX4_quarrels := by
  intro n0 as σ post AA hA h
  obtain ⟨m, hm, rfl, rfl, h⟩ := h
  refine ⟨by simp [am_sl, Value.category], ?_⟩
  show AA 0 [some (.ref m)] [] 92 σ
  rcases hm with rfl | rfl
  · refine hA [] 40 _ _ _ _ _ ?_
    try simp only [dX4_quarrels_0, dX4_quarrels_1, FT_X4_11, dX4_quarrels_4, dX4_quarrels_5, dX4_quarrels_6, xX4_quarrels_SH, xX4_quarrels_KF, xX4_quarrels_rt, xX4_quarrels_FT, xX4_quarrels_PT, xX4_quarrels_CT, xX4_quarrels_KT, xX4_quarrels_LT, xX4_quarrels_NT, o_aload_n, o_getfield, o_iaload, o_iconst, o_ireturn, SH_31, KF_31_0, SH_32, SH_33, KF_33_0, SH_34, am_ty, am_vc, am_opt, am_cl, am_find, am_ldi, am_ldl, am_lda, am_v, am_1, am_1l, am_1a, am_2, am_2l, am_ix, am_ri, am_arr, am_pf, am_rc, am_mask, am_lg, am_av, am_nat, fv_0, fv_1, fv_2, fv_3, fw_0, fw_1, List.getElem?_cons_zero, List.getElem?_cons_succ, List.set_cons_zero, List.set_cons_succ, List.length_cons, List.length_nil, List.take_succ_cons, List.take_zero, List.drop_succ_cons, List.drop_zero, List.reverse_cons, List.reverse_nil, List.nil_append, List.cons_append, List.append_nil, List.map_cons, List.map_nil, List.sum_cons, List.sum_nil, Value.category, Option.toList_some, Option.toList_none, Nat.reduceAdd, Nat.reduceLT, Nat.reduceLeDiff, Nat.reduceEqDiff, Nat.reduceSub, Nat.add_zero, Nat.le_refl, Nat.zero_le, Int.reduceNeg, Int.reduceLE, Int.reduceLT, true_and, and_true, and_self, if_true, if_false, ite_true, ite_false, eq_self_iff_true, reduceIte, reduceCtorEq, not_false_eq_true, not_true_eq_false, or_true, true_or, or_false, false_or, Nat.lt_irrefl, Nat.zero_lt_succ]
    try simp (disch := omega) only [ii_0, ii_1, ii_t, ii_add, ii_sub, ii_mul, ii_lt, ii_le, ii_eq, ij_in, ii_c, Int.toNat_natCast, Int.toNat_zero, Int.reduceToNat, Int.reduceEq, Int.reduceNe, Int.reduceLE, Int.reduceLT, Int.reduceAdd, Int.reduceSub, Int.reduceMul, Int.reduceNeg, Nat.reduceLT, Nat.reduceAdd, Nat.reduceMul, not_false_eq_true, not_true_eq_false, true_and, and_true, and_self, false_and, and_false, true_implies, false_implies, implies_true, forall_const, if_true, if_false, ite_true, ite_false, reduceIte, eq_self_iff_true, Int.natCast_nonneg, Int.zero_add, Int.add_zero, pi_s, pi_n]
    first | exact h | exact ⟨by decide, h⟩
  · refine hA [] 40 _ _ _ _ _ ?_
    try simp only [dX4_quarrels_0, dX4_quarrels_1, FT_X4_11, dX4_quarrels_4, dX4_quarrels_5, dX4_quarrels_6, xX4_quarrels_SH, xX4_quarrels_KF, xX4_quarrels_rt, xX4_quarrels_FT, xX4_quarrels_PT, xX4_quarrels_CT, xX4_quarrels_KT, xX4_quarrels_LT, xX4_quarrels_NT, o_aload_n, o_getfield, o_iaload, o_iconst, o_ireturn, SH_31, KF_31_0, SH_32, SH_33, KF_33_0, SH_34, am_ty, am_vc, am_opt, am_cl, am_find, am_ldi, am_ldl, am_lda, am_v, am_1, am_1l, am_1a, am_2, am_2l, am_ix, am_ri, am_arr, am_pf, am_rc, am_mask, am_lg, am_av, am_nat, fv_0, fv_1, fv_2, fv_3, fw_0, fw_1, List.getElem?_cons_zero, List.getElem?_cons_succ, List.set_cons_zero, List.set_cons_succ, List.length_cons, List.length_nil, List.take_succ_cons, List.take_zero, List.drop_succ_cons, List.drop_zero, List.reverse_cons, List.reverse_nil, List.nil_append, List.cons_append, List.append_nil, List.map_cons, List.map_nil, List.sum_cons, List.sum_nil, Value.category, Option.toList_some, Option.toList_none, Nat.reduceAdd, Nat.reduceLT, Nat.reduceLeDiff, Nat.reduceEqDiff, Nat.reduceSub, Nat.add_zero, Nat.le_refl, Nat.zero_le, Int.reduceNeg, Int.reduceLE, Int.reduceLT, true_and, and_true, and_self, if_true, if_false, ite_true, ite_false, eq_self_iff_true, reduceIte, reduceCtorEq, not_false_eq_true, not_true_eq_false, or_true, true_or, or_false, false_or, Nat.lt_irrefl, Nat.zero_lt_succ]
    try simp (disch := omega) only [ii_0, ii_1, ii_t, ii_add, ii_sub, ii_mul, ii_lt, ii_le, ii_eq, ij_in, ii_c, Int.toNat_natCast, Int.toNat_zero, Int.reduceToNat, Int.reduceEq, Int.reduceNe, Int.reduceLE, Int.reduceLT, Int.reduceAdd, Int.reduceSub, Int.reduceMul, Int.reduceNeg, Nat.reduceLT, Nat.reduceAdd, Nat.reduceMul, not_false_eq_true, not_true_eq_false, true_and, and_true, and_self, false_and, and_false, true_implies, false_implies, implies_true, forall_const, if_true, if_false, ite_true, ite_false, reduceIte, eq_self_iff_true, Int.natCast_nonneg, Int.zero_add, Int.add_zero, pi_s, pi_n]
    first | exact h | exact ⟨by decide, h⟩
theorem mX4_quarrels (l : Launch) : am_M l TB NB vwCl SH KF yX4_quarrels cX4_quarrels 1 (some .int) 2 0 0 sX4_quarrels := by
  refine am_M.of xX4_quarrels (by decide +kernel) TB_good GF rfl rfl rfl (by decide) ⟨FT_X4_ok, PT_X4_ok _, CT_X4_ok, KT_X4_ok, LT_X4_ok, NT_X4_ok, ?_⟩ pX4_quarrels
  exact fun _ h => absurd h List.not_mem_nil

def sX4_broken : am_Sp := fun as n σ post => ∃ (m : Nat), Mo m ∧ n = 92 ∧ as = [.ref m] ∧ post (some (.int (σ.1 (m + 1) 2))) σ
def xX4_broken : am_X := (SH, KF, (some .int), FT_X4, PT_X4, CT_X4, KT_X4, LT_X4, NT_X4, [])
theorem xX4_broken_SH : am_SH xX4_broken = SH := rfl
theorem xX4_broken_KF : am_KF xX4_broken = KF := rfl
theorem xX4_broken_rt : am_rt xX4_broken = (some .int) := rfl
theorem xX4_broken_FT : am_FT xX4_broken = FT_X4 := rfl
theorem xX4_broken_PT : am_PT xX4_broken = PT_X4 := rfl
theorem xX4_broken_CT : am_CT xX4_broken = CT_X4 := rfl
theorem xX4_broken_KT : am_KT xX4_broken = KT_X4 := rfl
theorem xX4_broken_LT : am_LT xX4_broken = LT_X4 := rfl
theorem xX4_broken_NT : am_NT xX4_broken = NT_X4 := rfl

set_option maxRecDepth 100000 in
theorem pX4_broken : am_B cX4_broken xX4_broken 1 0 sX4_broken := by
  intro n0 as σ post AA hA h
  obtain ⟨m, hm, rfl, rfl, h⟩ := h
  refine ⟨by simp [am_sl, Value.category], ?_⟩
  show AA 0 [some (.ref m)] [] 92 σ
  rcases hm with rfl | rfl
  · refine hA [] 40 _ _ _ _ _ ?_
    try simp only [dX4_broken_0, dX4_broken_1, FT_X4_11, dX4_broken_4, dX4_broken_5, dX4_broken_6, xX4_broken_SH, xX4_broken_KF, xX4_broken_rt, xX4_broken_FT, xX4_broken_PT, xX4_broken_CT, xX4_broken_KT, xX4_broken_LT, xX4_broken_NT, o_aload_n, o_getfield, o_iaload, o_iconst, o_ireturn, SH_31, KF_31_0, SH_32, SH_33, KF_33_0, SH_34, am_ty, am_vc, am_opt, am_cl, am_find, am_ldi, am_ldl, am_lda, am_v, am_1, am_1l, am_1a, am_2, am_2l, am_ix, am_ri, am_arr, am_pf, am_rc, am_mask, am_lg, am_av, am_nat, fv_0, fv_1, fv_2, fv_3, fw_0, fw_1, List.getElem?_cons_zero, List.getElem?_cons_succ, List.set_cons_zero, List.set_cons_succ, List.length_cons, List.length_nil, List.take_succ_cons, List.take_zero, List.drop_succ_cons, List.drop_zero, List.reverse_cons, List.reverse_nil, List.nil_append, List.cons_append, List.append_nil, List.map_cons, List.map_nil, List.sum_cons, List.sum_nil, Value.category, Option.toList_some, Option.toList_none, Nat.reduceAdd, Nat.reduceLT, Nat.reduceLeDiff, Nat.reduceEqDiff, Nat.reduceSub, Nat.add_zero, Nat.le_refl, Nat.zero_le, Int.reduceNeg, Int.reduceLE, Int.reduceLT, true_and, and_true, and_self, if_true, if_false, ite_true, ite_false, eq_self_iff_true, reduceIte, reduceCtorEq, not_false_eq_true, not_true_eq_false, or_true, true_or, or_false, false_or, Nat.lt_irrefl, Nat.zero_lt_succ]
    try simp (disch := omega) only [ii_0, ii_1, ii_t, ii_add, ii_sub, ii_mul, ii_lt, ii_le, ii_eq, ij_in, ii_c, Int.toNat_natCast, Int.toNat_zero, Int.reduceToNat, Int.reduceEq, Int.reduceNe, Int.reduceLE, Int.reduceLT, Int.reduceAdd, Int.reduceSub, Int.reduceMul, Int.reduceNeg, Nat.reduceLT, Nat.reduceAdd, Nat.reduceMul, not_false_eq_true, not_true_eq_false, true_and, and_true, and_self, false_and, and_false, true_implies, false_implies, implies_true, forall_const, if_true, if_false, ite_true, ite_false, reduceIte, eq_self_iff_true, Int.natCast_nonneg, Int.zero_add, Int.add_zero, pi_s, pi_n]
    first | exact h | exact ⟨by decide, h⟩
  · refine hA [] 40 _ _ _ _ _ ?_
    try simp only [dX4_broken_0, dX4_broken_1, FT_X4_11, dX4_broken_4, dX4_broken_5, dX4_broken_6, xX4_broken_SH, xX4_broken_KF, xX4_broken_rt, xX4_broken_FT, xX4_broken_PT, xX4_broken_CT, xX4_broken_KT, xX4_broken_LT, xX4_broken_NT, o_aload_n, o_getfield, o_iaload, o_iconst, o_ireturn, SH_31, KF_31_0, SH_32, SH_33, KF_33_0, SH_34, am_ty, am_vc, am_opt, am_cl, am_find, am_ldi, am_ldl, am_lda, am_v, am_1, am_1l, am_1a, am_2, am_2l, am_ix, am_ri, am_arr, am_pf, am_rc, am_mask, am_lg, am_av, am_nat, fv_0, fv_1, fv_2, fv_3, fw_0, fw_1, List.getElem?_cons_zero, List.getElem?_cons_succ, List.set_cons_zero, List.set_cons_succ, List.length_cons, List.length_nil, List.take_succ_cons, List.take_zero, List.drop_succ_cons, List.drop_zero, List.reverse_cons, List.reverse_nil, List.nil_append, List.cons_append, List.append_nil, List.map_cons, List.map_nil, List.sum_cons, List.sum_nil, Value.category, Option.toList_some, Option.toList_none, Nat.reduceAdd, Nat.reduceLT, Nat.reduceLeDiff, Nat.reduceEqDiff, Nat.reduceSub, Nat.add_zero, Nat.le_refl, Nat.zero_le, Int.reduceNeg, Int.reduceLE, Int.reduceLT, true_and, and_true, and_self, if_true, if_false, ite_true, ite_false, eq_self_iff_true, reduceIte, reduceCtorEq, not_false_eq_true, not_true_eq_false, or_true, true_or, or_false, false_or, Nat.lt_irrefl, Nat.zero_lt_succ]
    try simp (disch := omega) only [ii_0, ii_1, ii_t, ii_add, ii_sub, ii_mul, ii_lt, ii_le, ii_eq, ij_in, ii_c, Int.toNat_natCast, Int.toNat_zero, Int.reduceToNat, Int.reduceEq, Int.reduceNe, Int.reduceLE, Int.reduceLT, Int.reduceAdd, Int.reduceSub, Int.reduceMul, Int.reduceNeg, Nat.reduceLT, Nat.reduceAdd, Nat.reduceMul, not_false_eq_true, not_true_eq_false, true_and, and_true, and_self, false_and, and_false, true_implies, false_implies, implies_true, forall_const, if_true, if_false, ite_true, ite_false, reduceIte, eq_self_iff_true, Int.natCast_nonneg, Int.zero_add, Int.add_zero, pi_s, pi_n]
    first | exact h | exact ⟨by decide, h⟩
theorem mX4_broken (l : Launch) : am_M l TB NB vwCl SH KF yX4_broken cX4_broken 1 (some .int) 2 0 0 sX4_broken := by
  refine am_M.of xX4_broken (by decide +kernel) TB_good GF rfl rfl rfl (by decide) ⟨FT_X4_ok, PT_X4_ok _, CT_X4_ok, KT_X4_ok, LT_X4_ok, NT_X4_ok, ?_⟩ pX4_broken
  exact fun _ h => absurd h List.not_mem_nil

def sX4_sumOf : am_Sp := fun as n σ post => ∃ (a : Int), (0 ≤ a ∧ a ≤ 35) ∧ n = 92 ∧ as = [.ref 31, .int (Int32.ofInt a)] ∧ (∀ k : Int, 0 ≤ k → k < 5 → σ.1 32 (a + k).toNat = Int32.ofInt 0) ∧ post (some (.int (Int32.ofInt 0))) σ
def xX4_sumOf : am_X := (SH, KF, (some .int), FT_X4, PT_X4, CT_X4, KT_X4, LT_X4, NT_X4, [(41, 0, 3, 4, 0, 0, sX4_of)])
theorem xX4_sumOf_SH : am_SH xX4_sumOf = SH := rfl
theorem xX4_sumOf_KF : am_KF xX4_sumOf = KF := rfl
theorem xX4_sumOf_rt : am_rt xX4_sumOf = (some .int) := rfl
theorem xX4_sumOf_FT : am_FT xX4_sumOf = FT_X4 := rfl
theorem xX4_sumOf_PT : am_PT xX4_sumOf = PT_X4 := rfl
theorem xX4_sumOf_CT : am_CT xX4_sumOf = CT_X4 := rfl
theorem xX4_sumOf_KT : am_KT xX4_sumOf = KT_X4 := rfl
theorem xX4_sumOf_LT : am_LT xX4_sumOf = LT_X4 := rfl
theorem xX4_sumOf_NT : am_NT xX4_sumOf = NT_X4 := rfl
theorem xX4_sumOf_c41 : am_find (am_ML xX4_sumOf) 41 = some (0, 3, 4, 0, 0, sX4_of) := rfl
theorem xX4_sumOf_n41 : am_find NT_X4 41 = none := rfl
theorem xX4_sumOf_t6 (k : Nat → Prop) : am_tg 6 (18) k = k 24 := am_tg_eq (by decide)
theorem xX4_sumOf_t21 (k : Nat → Prop) : am_tg 21 (-17) k = k 4 := am_tg_eq (by decide)

set_option maxRecDepth 100000 in
theorem su_loop {post : Option Value → am_S → Prop} {AA : Nat → List (Option Value) → List Value → Nat → am_S → Prop} (hA : ∀ cuts f pc ls stk n τ, am_vc cX4_sumOf xX4_sumOf (92 + 0) post AA cuts f pc ls stk n τ → AA pc ls stk n τ) {a : Int} (ha : 0 ≤ a ∧ a ≤ 35) {σ : am_S} (e1 : ∀ k : Int, 0 ≤ k → k < 5 → σ.1 32 (a + k).toNat = Int32.ofInt 0) (h : post (some (.int (Int32.ofInt 0))) σ) : ∀ k : Nat, k ≤ 5 → AA 4 [some (.ref 31), some (.int (Int32.ofInt a)), some (.int (Int32.ofInt 0)), some (.int (Int32.ofInt (k : Int)))] [] 92 σ := by
  refine am_up 5 fun k hk ih => ?_
  refine hA [(9, 4)] 6 _ _ _ _ _ ?_
  try simp only [dX4_sumOf_0, dX4_sumOf_1, dX4_sumOf_2, dX4_sumOf_3, dX4_sumOf_4, dX4_sumOf_5, dX4_sumOf_6, xX4_sumOf_t6, dX4_sumOf_9, dX4_sumOf_10, dX4_sumOf_11, dX4_sumOf_12, dX4_sumOf_13, xX4_sumOf_c41, xX4_sumOf_n41, dX4_sumOf_16, dX4_sumOf_17, dX4_sumOf_18, dX4_sumOf_21, xX4_sumOf_t21, dX4_sumOf_24, dX4_sumOf_25, xX4_sumOf_SH, xX4_sumOf_KF, xX4_sumOf_rt, xX4_sumOf_FT, xX4_sumOf_PT, xX4_sumOf_CT, xX4_sumOf_KT, xX4_sumOf_LT, xX4_sumOf_NT, o_aload_n, o_goto, o_iadd, o_iconst, o_if_icmp_ge, o_iinc, o_iload_n, o_invokevirtual, o_ireturn, o_istore_n, SH_31, SH_33, am_ty, am_vc, am_opt, am_cl, am_find, am_ldi, am_ldl, am_lda, am_v, am_1, am_1l, am_1a, am_2, am_2l, am_ix, am_ri, am_arr, am_pf, am_rc, am_mask, am_lg, am_av, am_nat, fv_0, fv_1, fv_2, fv_3, fw_0, fw_1, List.getElem?_cons_zero, List.getElem?_cons_succ, List.set_cons_zero, List.set_cons_succ, List.length_cons, List.length_nil, List.take_succ_cons, List.take_zero, List.drop_succ_cons, List.drop_zero, List.reverse_cons, List.reverse_nil, List.nil_append, List.cons_append, List.append_nil, List.map_cons, List.map_nil, List.sum_cons, List.sum_nil, Value.category, Option.toList_some, Option.toList_none, Nat.reduceAdd, Nat.reduceLT, Nat.reduceLeDiff, Nat.reduceEqDiff, Nat.reduceSub, Nat.add_zero, Nat.le_refl, Nat.zero_le, Int.reduceNeg, Int.reduceLE, Int.reduceLT, true_and, and_true, and_self, if_true, if_false, ite_true, ite_false, eq_self_iff_true, reduceIte, reduceCtorEq, not_false_eq_true, not_true_eq_false, or_true, true_or, or_false, false_or, Nat.lt_irrefl, Nat.zero_lt_succ]
  try simp (disch := omega) only [ii_0, ii_1, ii_t, ii_add, ii_sub, ii_mul, ii_lt, ii_le, ii_eq, ij_in, ii_c, Int.toNat_natCast, Int.toNat_zero, Int.reduceToNat, Int.reduceEq, Int.reduceNe, Int.reduceLE, Int.reduceLT, Int.reduceAdd, Int.reduceSub, Int.reduceMul, Int.reduceNeg, Nat.reduceLT, Nat.reduceAdd, Nat.reduceMul, not_false_eq_true, not_true_eq_false, true_and, and_true, and_self, false_and, and_false, true_implies, false_implies, implies_true, forall_const, if_true, if_false, ite_true, ite_false, reduceIte, eq_self_iff_true, Int.natCast_nonneg, Int.zero_add, Int.add_zero, pi_s, pi_n, ik_s]
  refine ⟨fun q => h, fun q => ?_⟩
  refine hA [(4, 4)] 9 _ _ _ _ _ ?_
  try simp only [dX4_sumOf_0, dX4_sumOf_1, dX4_sumOf_2, dX4_sumOf_3, dX4_sumOf_4, dX4_sumOf_5, dX4_sumOf_6, xX4_sumOf_t6, dX4_sumOf_9, dX4_sumOf_10, dX4_sumOf_11, dX4_sumOf_12, dX4_sumOf_13, xX4_sumOf_c41, xX4_sumOf_n41, dX4_sumOf_16, dX4_sumOf_17, dX4_sumOf_18, dX4_sumOf_21, xX4_sumOf_t21, dX4_sumOf_24, dX4_sumOf_25, xX4_sumOf_SH, xX4_sumOf_KF, xX4_sumOf_rt, xX4_sumOf_FT, xX4_sumOf_PT, xX4_sumOf_CT, xX4_sumOf_KT, xX4_sumOf_LT, xX4_sumOf_NT, o_aload_n, o_goto, o_iadd, o_iconst, o_if_icmp_ge, o_iinc, o_iload_n, o_invokevirtual, o_ireturn, o_istore_n, SH_31, SH_33, am_ty, am_vc, am_opt, am_cl, am_find, am_ldi, am_ldl, am_lda, am_v, am_1, am_1l, am_1a, am_2, am_2l, am_ix, am_ri, am_arr, am_pf, am_rc, am_mask, am_lg, am_av, am_nat, fv_0, fv_1, fv_2, fv_3, fw_0, fw_1, List.getElem?_cons_zero, List.getElem?_cons_succ, List.set_cons_zero, List.set_cons_succ, List.length_cons, List.length_nil, List.take_succ_cons, List.take_zero, List.drop_succ_cons, List.drop_zero, List.reverse_cons, List.reverse_nil, List.nil_append, List.cons_append, List.append_nil, List.map_cons, List.map_nil, List.sum_cons, List.sum_nil, Value.category, Option.toList_some, Option.toList_none, Nat.reduceAdd, Nat.reduceLT, Nat.reduceLeDiff, Nat.reduceEqDiff, Nat.reduceSub, Nat.add_zero, Nat.le_refl, Nat.zero_le, Int.reduceNeg, Int.reduceLE, Int.reduceLT, true_and, and_true, and_self, if_true, if_false, ite_true, ite_false, eq_self_iff_true, reduceIte, reduceCtorEq, not_false_eq_true, not_true_eq_false, or_true, true_or, or_false, false_or, Nat.lt_irrefl, Nat.zero_lt_succ]
  refine ⟨31, a, (k : Int), Mo_1, by omega, by omega, by omega, rfl, rfl, ?_⟩
  rw [e1 (k : Int) (by omega) (by omega)]
  try simp only [dX4_sumOf_0, dX4_sumOf_1, dX4_sumOf_2, dX4_sumOf_3, dX4_sumOf_4, dX4_sumOf_5, dX4_sumOf_6, xX4_sumOf_t6, dX4_sumOf_9, dX4_sumOf_10, dX4_sumOf_11, dX4_sumOf_12, dX4_sumOf_13, xX4_sumOf_c41, xX4_sumOf_n41, dX4_sumOf_16, dX4_sumOf_17, dX4_sumOf_18, dX4_sumOf_21, xX4_sumOf_t21, dX4_sumOf_24, dX4_sumOf_25, xX4_sumOf_SH, xX4_sumOf_KF, xX4_sumOf_rt, xX4_sumOf_FT, xX4_sumOf_PT, xX4_sumOf_CT, xX4_sumOf_KT, xX4_sumOf_LT, xX4_sumOf_NT, o_aload_n, o_goto, o_iadd, o_iconst, o_if_icmp_ge, o_iinc, o_iload_n, o_invokevirtual, o_ireturn, o_istore_n, SH_31, SH_33, am_ty, am_vc, am_opt, am_cl, am_find, am_ldi, am_ldl, am_lda, am_v, am_1, am_1l, am_1a, am_2, am_2l, am_ix, am_ri, am_arr, am_pf, am_rc, am_mask, am_lg, am_av, am_nat, fv_0, fv_1, fv_2, fv_3, fw_0, fw_1, List.getElem?_cons_zero, List.getElem?_cons_succ, List.set_cons_zero, List.set_cons_succ, List.length_cons, List.length_nil, List.take_succ_cons, List.take_zero, List.drop_succ_cons, List.drop_zero, List.reverse_cons, List.reverse_nil, List.nil_append, List.cons_append, List.append_nil, List.map_cons, List.map_nil, List.sum_cons, List.sum_nil, Value.category, Option.toList_some, Option.toList_none, Nat.reduceAdd, Nat.reduceLT, Nat.reduceLeDiff, Nat.reduceEqDiff, Nat.reduceSub, Nat.add_zero, Nat.le_refl, Nat.zero_le, Int.reduceNeg, Int.reduceLE, Int.reduceLT, true_and, and_true, and_self, if_true, if_false, ite_true, ite_false, eq_self_iff_true, reduceIte, reduceCtorEq, not_false_eq_true, not_true_eq_false, or_true, true_or, or_false, false_or, Nat.lt_irrefl, Nat.zero_lt_succ, ad0]
  try simp (disch := omega) only [ii_0, ii_1, ii_t, ii_add, ii_sub, ii_mul, ii_lt, ii_le, ii_eq, ij_in, ii_c, Int.toNat_natCast, Int.toNat_zero, Int.reduceToNat, Int.reduceEq, Int.reduceNe, Int.reduceLE, Int.reduceLT, Int.reduceAdd, Int.reduceSub, Int.reduceMul, Int.reduceNeg, Nat.reduceLT, Nat.reduceAdd, Nat.reduceMul, not_false_eq_true, not_true_eq_false, true_and, and_true, and_self, false_and, and_false, true_implies, false_implies, implies_true, forall_const, if_true, if_false, ite_true, ite_false, reduceIte, eq_self_iff_true, Int.natCast_nonneg, Int.zero_add, Int.add_zero, pi_s, pi_n, ik_s]
  exact ih (by omega)
set_option maxRecDepth 100000 in
theorem pX4_sumOf : am_B cX4_sumOf xX4_sumOf 4 0 sX4_sumOf := by
  intro n0 as σ post AA hA h
  obtain ⟨a, ha, rfl, rfl, e1, h⟩ := h
  refine ⟨by simp [am_sl, Value.category], ?_⟩
  show AA 0 [some (.ref 31), some (.int (Int32.ofInt a)), none, none] [] 92 σ
  refine hA [(4, 4)] 5 _ _ _ _ _ ?_
  try simp only [dX4_sumOf_0, dX4_sumOf_1, dX4_sumOf_2, dX4_sumOf_3, dX4_sumOf_4, dX4_sumOf_5, dX4_sumOf_6, xX4_sumOf_t6, dX4_sumOf_9, dX4_sumOf_10, dX4_sumOf_11, dX4_sumOf_12, dX4_sumOf_13, xX4_sumOf_c41, xX4_sumOf_n41, dX4_sumOf_16, dX4_sumOf_17, dX4_sumOf_18, dX4_sumOf_21, xX4_sumOf_t21, dX4_sumOf_24, dX4_sumOf_25, xX4_sumOf_SH, xX4_sumOf_KF, xX4_sumOf_rt, xX4_sumOf_FT, xX4_sumOf_PT, xX4_sumOf_CT, xX4_sumOf_KT, xX4_sumOf_LT, xX4_sumOf_NT, o_aload_n, o_goto, o_iadd, o_iconst, o_if_icmp_ge, o_iinc, o_iload_n, o_invokevirtual, o_ireturn, o_istore_n, SH_31, SH_33, am_ty, am_vc, am_opt, am_cl, am_find, am_ldi, am_ldl, am_lda, am_v, am_1, am_1l, am_1a, am_2, am_2l, am_ix, am_ri, am_arr, am_pf, am_rc, am_mask, am_lg, am_av, am_nat, fv_0, fv_1, fv_2, fv_3, fw_0, fw_1, List.getElem?_cons_zero, List.getElem?_cons_succ, List.set_cons_zero, List.set_cons_succ, List.length_cons, List.length_nil, List.take_succ_cons, List.take_zero, List.drop_succ_cons, List.drop_zero, List.reverse_cons, List.reverse_nil, List.nil_append, List.cons_append, List.append_nil, List.map_cons, List.map_nil, List.sum_cons, List.sum_nil, Value.category, Option.toList_some, Option.toList_none, Nat.reduceAdd, Nat.reduceLT, Nat.reduceLeDiff, Nat.reduceEqDiff, Nat.reduceSub, Nat.add_zero, Nat.le_refl, Nat.zero_le, Int.reduceNeg, Int.reduceLE, Int.reduceLT, true_and, and_true, and_self, if_true, if_false, ite_true, ite_false, eq_self_iff_true, reduceIte, reduceCtorEq, not_false_eq_true, not_true_eq_false, or_true, true_or, or_false, false_or, Nat.lt_irrefl, Nat.zero_lt_succ]
  exact su_loop hA ha e1 h 0 (by omega)
theorem mX4_sumOf (l : Launch) : am_M l TB NB vwCl SH KF yX4_sumOf cX4_sumOf 4 (some .int) 4 0 0 sX4_sumOf := by
  refine am_M.of xX4_sumOf (by decide +kernel) TB_good GF rfl rfl rfl (by decide) ⟨FT_X4_ok, PT_X4_ok _, CT_X4_ok, KT_X4_ok, LT_X4_ok, NT_X4_ok, ?_⟩ pX4_sumOf
  exact List.forall_mem_cons.mpr ⟨⟨yX4_of, cX4_of, 3, (some .int), 3, 2, mX4_of l, by decide, by decide, tb_at 702 (by decide +kernel) (by decide +kernel), tb_at 112 (by decide +kernel) (by decide +kernel), ⟨by decide +kernel, by decide +kernel, by decide +kernel⟩, rfl, tb_at 813 (by decide +kernel) (by decide +kernel), tb_at 700 (by decide +kernel) (by decide +kernel), ⟨(RX4, TX4, 1), rfl, tb_at 701 (by decide +kernel) (by decide +kernel)⟩⟩, fun _ h => absurd h List.not_mem_nil⟩

theorem cp_i (f g : Nat → Int32) (L k : Nat) (hk : k < L) : va_cpy f g 0 0 L k = f k := by simp [va_cpy, hk]
def sX4_become : am_Sp := fun as n σ post => n = 92 ∧ as = [.ref 33, .ref 31] ∧ (∀ τ : am_S, (∀ o k, ¬ o = 34 → τ.1 o k = σ.1 o k) → (∀ k, k < 40 → τ.1 34 k = σ.1 32 k) → τ.2 = σ.2 → post none τ)
def xX4_become : am_X := (SH, KF, none, FT_X4, PT_X4, CT_X4, KT_X4, LT_X4, NT_X4, [])
theorem xX4_become_SH : am_SH xX4_become = SH := rfl
theorem xX4_become_KF : am_KF xX4_become = KF := rfl
theorem xX4_become_rt : am_rt xX4_become = none := rfl
theorem xX4_become_FT : am_FT xX4_become = FT_X4 := rfl
theorem xX4_become_PT : am_PT xX4_become = PT_X4 := rfl
theorem xX4_become_CT : am_CT xX4_become = CT_X4 := rfl
theorem xX4_become_KT : am_KT xX4_become = KT_X4 := rfl
theorem xX4_become_LT : am_LT xX4_become = LT_X4 := rfl
theorem xX4_become_NT : am_NT xX4_become = NT_X4 := rfl

set_option maxRecDepth 100000 in
theorem pX4_become : am_B cX4_become xX4_become 2 0 sX4_become := by
  intro n0 as σ post AA hA h
  obtain ⟨rfl, rfl, h⟩ := h
  refine ⟨by simp [am_sl, Value.category], ?_⟩
  show AA 0 [some (.ref 33), some (.ref 31)] [] 92 σ
  refine hA [] 40 _ _ _ _ _ ?_
  try simp only [dX4_become_0, dX4_become_1, FT_X4_11, dX4_become_4, dX4_become_5, dX4_become_6, dX4_become_9, dX4_become_10, dX4_become_12, NT_X4, dX4_become_15, xX4_become_SH, xX4_become_KF, xX4_become_rt, xX4_become_FT, xX4_become_PT, xX4_become_CT, xX4_become_KT, xX4_become_LT, xX4_become_NT, o_aload_n, o_bipush, o_getfield, o_iconst, o_invokestatic, o_return_, SH_31, KF_31_0, SH_32, SH_33, KF_33_0, SH_34, am_ty, am_vc, am_opt, am_cl, am_find, am_ldi, am_ldl, am_lda, am_v, am_1, am_1l, am_1a, am_2, am_2l, am_ix, am_ri, am_arr, am_pf, am_rc, am_mask, am_lg, am_av, am_nat, fv_0, fv_1, fv_2, fv_3, fw_0, fw_1, List.getElem?_cons_zero, List.getElem?_cons_succ, List.set_cons_zero, List.set_cons_succ, List.length_cons, List.length_nil, List.take_succ_cons, List.take_zero, List.drop_succ_cons, List.drop_zero, List.reverse_cons, List.reverse_nil, List.nil_append, List.cons_append, List.append_nil, List.map_cons, List.map_nil, List.sum_cons, List.sum_nil, Value.category, Option.toList_some, Option.toList_none, Nat.reduceAdd, Nat.reduceLT, Nat.reduceLeDiff, Nat.reduceEqDiff, Nat.reduceSub, Nat.add_zero, Nat.le_refl, Nat.zero_le, Int.reduceNeg, Int.reduceLE, Int.reduceLT, true_and, and_true, and_self, if_true, if_false, ite_true, ite_false, eq_self_iff_true, reduceIte, reduceCtorEq, not_false_eq_true, not_true_eq_false, or_true, true_or, or_false, false_or, Nat.lt_irrefl, Nat.zero_lt_succ, on_i]
  try simp (disch := omega) only [ii_0, ii_1, ii_t, ii_add, ii_sub, ii_mul, ii_lt, ii_le, ii_eq, ij_in, ii_c, Int.toNat_natCast, Int.toNat_zero, Int.reduceToNat, Int.reduceEq, Int.reduceNe, Int.reduceLE, Int.reduceLT, Int.reduceAdd, Int.reduceSub, Int.reduceMul, Int.reduceNeg, Nat.reduceLT, Nat.reduceAdd, Nat.reduceMul, not_false_eq_true, not_true_eq_false, true_and, and_true, and_self, false_and, and_false, true_implies, false_implies, implies_true, forall_const, if_true, if_false, ite_true, ite_false, reduceIte, eq_self_iff_true, Int.natCast_nonneg, Int.zero_add, Int.add_zero, pi_s, pi_n, on_i]
  refine ⟨by decide, by decide, h _ (fun o' k q => ?_) (fun k hk => ?_) rfl⟩
  · show (if o' = _ then _ else _) = _
    rw [if_neg q]
  · exact (if_pos rfl).trans (cp_i _ _ 40 k hk)
theorem mX4_become (l : Launch) : am_M l TB NB vwCl SH KF yX4_become cX4_become 2 none 2 0 0 sX4_become := by
  refine am_M.of xX4_become (by decide +kernel) TB_good GF rfl rfl rfl (by decide) ⟨FT_X4_ok, PT_X4_ok _, CT_X4_ok, KT_X4_ok, LT_X4_ok, NT_X4_ok, ?_⟩ pX4_become
  exact fun _ h => absurd h List.not_mem_nil

def sX4_copyTook : am_Sp := fun as n σ post => n = 92 ∧ as = [.ref 33, .ref 50] ∧ (∀ k : Int, 0 ≤ k → k < 5 → σ.1 34 (18 + k).toNat = Int32.ofInt 0) ∧ ∀ τ : am_S, (∀ o k, ¬ o = 50 → τ.1 o k = σ.1 o k) → (∀ k, k < 5 → τ.1 50 k = Int32.ofInt 0) → τ.2 = σ.2 → post none τ
def xX4_copyTook : am_X := (SH, KF, none, FT_X4, PT_X4, CT_X4, KT_X4, LT_X4, NT_X4, [(41, 0, 3, 4, 0, 0, sX4_of)])
theorem xX4_copyTook_SH : am_SH xX4_copyTook = SH := rfl
theorem xX4_copyTook_KF : am_KF xX4_copyTook = KF := rfl
theorem xX4_copyTook_rt : am_rt xX4_copyTook = none := rfl
theorem xX4_copyTook_FT : am_FT xX4_copyTook = FT_X4 := rfl
theorem xX4_copyTook_PT : am_PT xX4_copyTook = PT_X4 := rfl
theorem xX4_copyTook_CT : am_CT xX4_copyTook = CT_X4 := rfl
theorem xX4_copyTook_KT : am_KT xX4_copyTook = KT_X4 := rfl
theorem xX4_copyTook_LT : am_LT xX4_copyTook = LT_X4 := rfl
theorem xX4_copyTook_NT : am_NT xX4_copyTook = NT_X4 := rfl
theorem xX4_copyTook_c41 : am_find (am_ML xX4_copyTook) 41 = some (0, 3, 4, 0, 0, sX4_of) := rfl
theorem xX4_copyTook_n41 : am_find NT_X4 41 = none := rfl
theorem xX4_copyTook_t5 (k : Nat → Prop) : am_tg 5 (19) k = k 24 := am_tg_eq (by decide)
theorem xX4_copyTook_t21 (k : Nat → Prop) : am_tg 21 (-19) k = k 2 := am_tg_eq (by decide)

set_option maxRecDepth 100000 in
theorem ct_loop {post : Option Value → am_S → Prop} {AA : Nat → List (Option Value) → List Value → Nat → am_S → Prop} (hA : ∀ cuts f pc ls stk n τ, am_vc cX4_copyTook xX4_copyTook (92 + 0) post AA cuts f pc ls stk n τ → AA pc ls stk n τ) {σ : am_S} (e1 : ∀ k : Int, 0 ≤ k → k < 5 → σ.1 34 (18 + k).toNat = Int32.ofInt 0) (h : ∀ τ : am_S, (∀ o k, ¬ o = 50 → τ.1 o k = σ.1 o k) → (∀ k, k < 5 → τ.1 50 k = Int32.ofInt 0) → τ.2 = σ.2 → post none τ) : ∀ k : Nat, k ≤ 5 → ∀ τ : am_S, (∀ o j, ¬ o = 50 → τ.1 o j = σ.1 o j) → (∀ j, j < k → τ.1 50 j = Int32.ofInt 0) → τ.2 = σ.2 → AA 2 [some (.ref 33), some (.ref 50), some (.int (Int32.ofInt (k : Int)))] [] 92 τ := by
  refine am_up 5 fun k hk ih τ t1 t2 t3 => ?_
  refine hA [(8, 3)] 6 _ _ _ _ _ ?_
  try simp only [dX4_copyTook_0, dX4_copyTook_1, dX4_copyTook_2, dX4_copyTook_3, dX4_copyTook_4, dX4_copyTook_5, xX4_copyTook_t5, dX4_copyTook_8, dX4_copyTook_9, dX4_copyTook_10, dX4_copyTook_11, dX4_copyTook_13, dX4_copyTook_14, xX4_copyTook_c41, xX4_copyTook_n41, dX4_copyTook_17, dX4_copyTook_18, dX4_copyTook_21, xX4_copyTook_t21, dX4_copyTook_24, xX4_copyTook_SH, xX4_copyTook_KF, xX4_copyTook_rt, xX4_copyTook_FT, xX4_copyTook_PT, xX4_copyTook_CT, xX4_copyTook_KT, xX4_copyTook_LT, xX4_copyTook_NT, o_aload_n, o_arraylength, o_bipush, o_goto, o_iastore, o_iconst, o_if_icmp_ge, o_iinc, o_iload_n, o_invokevirtual, o_istore_n, o_return_, SH_31, SH_33, am_ty, am_vc, am_opt, am_cl, am_find, am_ldi, am_ldl, am_lda, am_v, am_1, am_1l, am_1a, am_2, am_2l, am_ix, am_ri, am_arr, am_pf, am_rc, am_mask, am_lg, am_av, am_nat, fv_0, fv_1, fv_2, fv_3, fw_0, fw_1, List.getElem?_cons_zero, List.getElem?_cons_succ, List.set_cons_zero, List.set_cons_succ, List.length_cons, List.length_nil, List.take_succ_cons, List.take_zero, List.drop_succ_cons, List.drop_zero, List.reverse_cons, List.reverse_nil, List.nil_append, List.cons_append, List.append_nil, List.map_cons, List.map_nil, List.sum_cons, List.sum_nil, Value.category, Option.toList_some, Option.toList_none, Nat.reduceAdd, Nat.reduceLT, Nat.reduceLeDiff, Nat.reduceEqDiff, Nat.reduceSub, Nat.add_zero, Nat.le_refl, Nat.zero_le, Int.reduceNeg, Int.reduceLE, Int.reduceLT, true_and, and_true, and_self, if_true, if_false, ite_true, ite_false, eq_self_iff_true, reduceIte, reduceCtorEq, not_false_eq_true, not_true_eq_false, or_true, true_or, or_false, false_or, Nat.lt_irrefl, Nat.zero_lt_succ, on_i, SH_50]
  try simp (disch := omega) only [ii_0, ii_1, ii_t, ii_add, ii_sub, ii_mul, ii_lt, ii_le, ii_eq, ij_in, ii_c, Int.toNat_natCast, Int.toNat_zero, Int.reduceToNat, Int.reduceEq, Int.reduceNe, Int.reduceLE, Int.reduceLT, Int.reduceAdd, Int.reduceSub, Int.reduceMul, Int.reduceNeg, Nat.reduceLT, Nat.reduceAdd, Nat.reduceMul, not_false_eq_true, not_true_eq_false, true_and, and_true, and_self, false_and, and_false, true_implies, false_implies, implies_true, forall_const, if_true, if_false, ite_true, ite_false, reduceIte, eq_self_iff_true, Int.natCast_nonneg, Int.zero_add, Int.add_zero, pi_s, pi_n, ik_s, on_i]
  refine ⟨fun q => h τ t1 (fun j hj => t2 j (by omega)) t3, fun q => ?_⟩
  refine hA [(2, 3)] 12 _ _ _ _ _ ?_
  try simp only [dX4_copyTook_0, dX4_copyTook_1, dX4_copyTook_2, dX4_copyTook_3, dX4_copyTook_4, dX4_copyTook_5, xX4_copyTook_t5, dX4_copyTook_8, dX4_copyTook_9, dX4_copyTook_10, dX4_copyTook_11, dX4_copyTook_13, dX4_copyTook_14, xX4_copyTook_c41, xX4_copyTook_n41, dX4_copyTook_17, dX4_copyTook_18, dX4_copyTook_21, xX4_copyTook_t21, dX4_copyTook_24, xX4_copyTook_SH, xX4_copyTook_KF, xX4_copyTook_rt, xX4_copyTook_FT, xX4_copyTook_PT, xX4_copyTook_CT, xX4_copyTook_KT, xX4_copyTook_LT, xX4_copyTook_NT, o_aload_n, o_arraylength, o_bipush, o_goto, o_iastore, o_iconst, o_if_icmp_ge, o_iinc, o_iload_n, o_invokevirtual, o_istore_n, o_return_, SH_31, SH_33, am_ty, am_vc, am_opt, am_cl, am_find, am_ldi, am_ldl, am_lda, am_v, am_1, am_1l, am_1a, am_2, am_2l, am_ix, am_ri, am_arr, am_pf, am_rc, am_mask, am_lg, am_av, am_nat, fv_0, fv_1, fv_2, fv_3, fw_0, fw_1, List.getElem?_cons_zero, List.getElem?_cons_succ, List.set_cons_zero, List.set_cons_succ, List.length_cons, List.length_nil, List.take_succ_cons, List.take_zero, List.drop_succ_cons, List.drop_zero, List.reverse_cons, List.reverse_nil, List.nil_append, List.cons_append, List.append_nil, List.map_cons, List.map_nil, List.sum_cons, List.sum_nil, Value.category, Option.toList_some, Option.toList_none, Nat.reduceAdd, Nat.reduceLT, Nat.reduceLeDiff, Nat.reduceEqDiff, Nat.reduceSub, Nat.add_zero, Nat.le_refl, Nat.zero_le, Int.reduceNeg, Int.reduceLE, Int.reduceLT, true_and, and_true, and_self, if_true, if_false, ite_true, ite_false, eq_self_iff_true, reduceIte, reduceCtorEq, not_false_eq_true, not_true_eq_false, or_true, true_or, or_false, false_or, Nat.lt_irrefl, Nat.zero_lt_succ, SH_50]
  refine ⟨33, 18, (k : Int), Mo_2, by omega, by omega, by omega, rfl, rfl, ?_⟩
  have e2 : τ.1 (33 + 1) (18 + (k : Int)).toNat = Int32.ofInt 0 := (t1 _ _ (by decide)).trans (e1 (k : Int) (by omega) (by omega))
  rw [e2]
  try simp only [dX4_copyTook_0, dX4_copyTook_1, dX4_copyTook_2, dX4_copyTook_3, dX4_copyTook_4, dX4_copyTook_5, xX4_copyTook_t5, dX4_copyTook_8, dX4_copyTook_9, dX4_copyTook_10, dX4_copyTook_11, dX4_copyTook_13, dX4_copyTook_14, xX4_copyTook_c41, xX4_copyTook_n41, dX4_copyTook_17, dX4_copyTook_18, dX4_copyTook_21, xX4_copyTook_t21, dX4_copyTook_24, xX4_copyTook_SH, xX4_copyTook_KF, xX4_copyTook_rt, xX4_copyTook_FT, xX4_copyTook_PT, xX4_copyTook_CT, xX4_copyTook_KT, xX4_copyTook_LT, xX4_copyTook_NT, o_aload_n, o_arraylength, o_bipush, o_goto, o_iastore, o_iconst, o_if_icmp_ge, o_iinc, o_iload_n, o_invokevirtual, o_istore_n, o_return_, SH_31, SH_33, am_ty, am_vc, am_opt, am_cl, am_find, am_ldi, am_ldl, am_lda, am_v, am_1, am_1l, am_1a, am_2, am_2l, am_ix, am_ri, am_arr, am_pf, am_rc, am_mask, am_lg, am_av, am_nat, fv_0, fv_1, fv_2, fv_3, fw_0, fw_1, List.getElem?_cons_zero, List.getElem?_cons_succ, List.set_cons_zero, List.set_cons_succ, List.length_cons, List.length_nil, List.take_succ_cons, List.take_zero, List.drop_succ_cons, List.drop_zero, List.reverse_cons, List.reverse_nil, List.nil_append, List.cons_append, List.append_nil, List.map_cons, List.map_nil, List.sum_cons, List.sum_nil, Value.category, Option.toList_some, Option.toList_none, Nat.reduceAdd, Nat.reduceLT, Nat.reduceLeDiff, Nat.reduceEqDiff, Nat.reduceSub, Nat.add_zero, Nat.le_refl, Nat.zero_le, Int.reduceNeg, Int.reduceLE, Int.reduceLT, true_and, and_true, and_self, if_true, if_false, ite_true, ite_false, eq_self_iff_true, reduceIte, reduceCtorEq, not_false_eq_true, not_true_eq_false, or_true, true_or, or_false, false_or, Nat.lt_irrefl, Nat.zero_lt_succ, on_i, SH_50]
  try simp (disch := omega) only [ii_0, ii_1, ii_t, ii_add, ii_sub, ii_mul, ii_lt, ii_le, ii_eq, ij_in, ii_c, Int.toNat_natCast, Int.toNat_zero, Int.reduceToNat, Int.reduceEq, Int.reduceNe, Int.reduceLE, Int.reduceLT, Int.reduceAdd, Int.reduceSub, Int.reduceMul, Int.reduceNeg, Nat.reduceLT, Nat.reduceAdd, Nat.reduceMul, not_false_eq_true, not_true_eq_false, true_and, and_true, and_self, false_and, and_false, true_implies, false_implies, implies_true, forall_const, if_true, if_false, ite_true, ite_false, reduceIte, eq_self_iff_true, Int.natCast_nonneg, Int.zero_add, Int.add_zero, pi_s, pi_n, ik_s, on_i]
  have i0 := ih (by omega) (am_pi τ 50 k (Int32.ofInt 0)) (fun o j hh => (pi_n _ _ _ _ (fun g => hh g.1)).trans (t1 o j hh)) (fun j hj => by
    by_cases q2 : j = k
    · subst q2; exact pi_s _ _ _ _
    · rw [pi_n _ _ _ _ (fun g => q2 g.2)]; exact t2 j (by omega)) t3
  first | exact i0 | exact ⟨by omega, i0⟩ | exact ⟨⟨by omega, by omega⟩, i0⟩
set_option maxRecDepth 100000 in
theorem pX4_copyTook : am_B cX4_copyTook xX4_copyTook 3 0 sX4_copyTook := by
  intro n0 as σ post AA hA h
  obtain ⟨rfl, rfl, e1, h⟩ := h
  refine ⟨by simp [am_sl, Value.category], ?_⟩
  show AA 0 [some (.ref 33), some (.ref 50), none] [] 92 σ
  refine hA [(2, 3)] 3 _ _ _ _ _ ?_
  try simp only [dX4_copyTook_0, dX4_copyTook_1, dX4_copyTook_2, dX4_copyTook_3, dX4_copyTook_4, dX4_copyTook_5, xX4_copyTook_t5, dX4_copyTook_8, dX4_copyTook_9, dX4_copyTook_10, dX4_copyTook_11, dX4_copyTook_13, dX4_copyTook_14, xX4_copyTook_c41, xX4_copyTook_n41, dX4_copyTook_17, dX4_copyTook_18, dX4_copyTook_21, xX4_copyTook_t21, dX4_copyTook_24, xX4_copyTook_SH, xX4_copyTook_KF, xX4_copyTook_rt, xX4_copyTook_FT, xX4_copyTook_PT, xX4_copyTook_CT, xX4_copyTook_KT, xX4_copyTook_LT, xX4_copyTook_NT, o_aload_n, o_arraylength, o_bipush, o_goto, o_iastore, o_iconst, o_if_icmp_ge, o_iinc, o_iload_n, o_invokevirtual, o_istore_n, o_return_, SH_31, SH_33, am_ty, am_vc, am_opt, am_cl, am_find, am_ldi, am_ldl, am_lda, am_v, am_1, am_1l, am_1a, am_2, am_2l, am_ix, am_ri, am_arr, am_pf, am_rc, am_mask, am_lg, am_av, am_nat, fv_0, fv_1, fv_2, fv_3, fw_0, fw_1, List.getElem?_cons_zero, List.getElem?_cons_succ, List.set_cons_zero, List.set_cons_succ, List.length_cons, List.length_nil, List.take_succ_cons, List.take_zero, List.drop_succ_cons, List.drop_zero, List.reverse_cons, List.reverse_nil, List.nil_append, List.cons_append, List.append_nil, List.map_cons, List.map_nil, List.sum_cons, List.sum_nil, Value.category, Option.toList_some, Option.toList_none, Nat.reduceAdd, Nat.reduceLT, Nat.reduceLeDiff, Nat.reduceEqDiff, Nat.reduceSub, Nat.add_zero, Nat.le_refl, Nat.zero_le, Int.reduceNeg, Int.reduceLE, Int.reduceLT, true_and, and_true, and_self, if_true, if_false, ite_true, ite_false, eq_self_iff_true, reduceIte, reduceCtorEq, not_false_eq_true, not_true_eq_false, or_true, true_or, or_false, false_or, Nat.lt_irrefl, Nat.zero_lt_succ]
  exact ct_loop hA e1 h 0 (by omega) σ (fun _ _ _ => rfl) (fun j hj => absurd hj (by omega)) rfl
theorem mX4_copyTook (l : Launch) : am_M l TB NB vwCl SH KF yX4_copyTook cX4_copyTook 3 none 4 0 0 sX4_copyTook := by
  refine am_M.of xX4_copyTook (by decide +kernel) TB_good GF rfl rfl rfl (by decide) ⟨FT_X4_ok, PT_X4_ok _, CT_X4_ok, KT_X4_ok, LT_X4_ok, NT_X4_ok, ?_⟩ pX4_copyTook
  exact List.forall_mem_cons.mpr ⟨⟨yX4_of, cX4_of, 3, (some .int), 3, 2, mX4_of l, by decide, by decide, tb_at 702 (by decide +kernel) (by decide +kernel), tb_at 112 (by decide +kernel) (by decide +kernel), ⟨by decide +kernel, by decide +kernel, by decide +kernel⟩, rfl, tb_at 813 (by decide +kernel) (by decide +kernel), tb_at 700 (by decide +kernel) (by decide +kernel), ⟨(RX4, TX4, 1), rfl, tb_at 701 (by decide +kernel) (by decide +kernel)⟩⟩, fun _ h => absurd h List.not_mem_nil⟩

def sX4_tookAsIn : am_Sp := fun as n σ post => n = 92 ∧ as = [.ref 33, .ref 50] ∧ (∀ k : Int, 0 ≤ k → k < 5 → σ.1 34 (18 + k).toNat = Int32.ofInt 0) ∧ (∀ k, k < 5 → σ.1 50 k = Int32.ofInt 0) ∧ post (some (.int (Int32.ofInt 1))) σ
def xX4_tookAsIn : am_X := (SH, KF, (some .boolean), FT_X4, PT_X4, CT_X4, KT_X4, LT_X4, NT_X4, [(41, 0, 3, 4, 0, 0, sX4_of)])
theorem xX4_tookAsIn_SH : am_SH xX4_tookAsIn = SH := rfl
theorem xX4_tookAsIn_KF : am_KF xX4_tookAsIn = KF := rfl
theorem xX4_tookAsIn_rt : am_rt xX4_tookAsIn = (some .boolean) := rfl
theorem xX4_tookAsIn_FT : am_FT xX4_tookAsIn = FT_X4 := rfl
theorem xX4_tookAsIn_PT : am_PT xX4_tookAsIn = PT_X4 := rfl
theorem xX4_tookAsIn_CT : am_CT xX4_tookAsIn = CT_X4 := rfl
theorem xX4_tookAsIn_KT : am_KT xX4_tookAsIn = KT_X4 := rfl
theorem xX4_tookAsIn_LT : am_LT xX4_tookAsIn = LT_X4 := rfl
theorem xX4_tookAsIn_NT : am_NT xX4_tookAsIn = NT_X4 := rfl
theorem xX4_tookAsIn_c41 : am_find (am_ML xX4_tookAsIn) 41 = some (0, 3, 4, 0, 0, sX4_of) := rfl
theorem xX4_tookAsIn_n41 : am_find NT_X4 41 = none := rfl
theorem xX4_tookAsIn_t5 (k : Nat → Prop) : am_tg 5 (24) k = k 29 := am_tg_eq (by decide)
theorem xX4_tookAsIn_t18 (k : Nat → Prop) : am_tg 18 (5) k = k 23 := am_tg_eq (by decide)
theorem xX4_tookAsIn_t26 (k : Nat → Prop) : am_tg 26 (-24) k = k 2 := am_tg_eq (by decide)

set_option maxRecDepth 100000 in
theorem ta_loop {post : Option Value → am_S → Prop} {AA : Nat → List (Option Value) → List Value → Nat → am_S → Prop} (hA : ∀ cuts f pc ls stk n τ, am_vc cX4_tookAsIn xX4_tookAsIn (92 + 0) post AA cuts f pc ls stk n τ → AA pc ls stk n τ) {σ : am_S} (e1 : ∀ k : Int, 0 ≤ k → k < 5 → σ.1 34 (18 + k).toNat = Int32.ofInt 0) (e2 : ∀ k, k < 5 → σ.1 50 k = Int32.ofInt 0) (h : post (some (.int (Int32.ofInt 1))) σ) : ∀ k : Nat, k ≤ 5 → AA 2 [some (.ref 33), some (.ref 50), some (.int (Int32.ofInt (k : Int)))] [] 92 σ := by
  refine am_up 5 fun k hk ih => ?_
  refine hA [(8, 3)] 6 _ _ _ _ _ ?_
  try simp only [dX4_tookAsIn_0, dX4_tookAsIn_1, dX4_tookAsIn_2, dX4_tookAsIn_3, dX4_tookAsIn_4, dX4_tookAsIn_5, xX4_tookAsIn_t5, dX4_tookAsIn_8, dX4_tookAsIn_9, dX4_tookAsIn_10, dX4_tookAsIn_11, dX4_tookAsIn_12, dX4_tookAsIn_14, dX4_tookAsIn_15, xX4_tookAsIn_c41, xX4_tookAsIn_n41, dX4_tookAsIn_18, xX4_tookAsIn_t18, dX4_tookAsIn_21, dX4_tookAsIn_22, dX4_tookAsIn_23, dX4_tookAsIn_26, xX4_tookAsIn_t26, dX4_tookAsIn_29, dX4_tookAsIn_30, xX4_tookAsIn_SH, xX4_tookAsIn_KF, xX4_tookAsIn_rt, xX4_tookAsIn_FT, xX4_tookAsIn_PT, xX4_tookAsIn_CT, xX4_tookAsIn_KT, xX4_tookAsIn_LT, xX4_tookAsIn_NT, o_aload_n, o_arraylength, o_bipush, o_goto, o_iaload, o_iconst, o_if_icmp_eq, o_if_icmp_ge, o_iinc, o_iload_n, o_invokevirtual, o_ireturn, o_istore_n, SH_31, SH_33, am_ty, am_vc, am_opt, am_cl, am_find, am_ldi, am_ldl, am_lda, am_v, am_1, am_1l, am_1a, am_2, am_2l, am_ix, am_ri, am_arr, am_pf, am_rc, am_mask, am_lg, am_av, am_nat, fv_0, fv_1, fv_2, fv_3, fw_0, fw_1, List.getElem?_cons_zero, List.getElem?_cons_succ, List.set_cons_zero, List.set_cons_succ, List.length_cons, List.length_nil, List.take_succ_cons, List.take_zero, List.drop_succ_cons, List.drop_zero, List.reverse_cons, List.reverse_nil, List.nil_append, List.cons_append, List.append_nil, List.map_cons, List.map_nil, List.sum_cons, List.sum_nil, Value.category, Option.toList_some, Option.toList_none, Nat.reduceAdd, Nat.reduceLT, Nat.reduceLeDiff, Nat.reduceEqDiff, Nat.reduceSub, Nat.add_zero, Nat.le_refl, Nat.zero_le, Int.reduceNeg, Int.reduceLE, Int.reduceLT, true_and, and_true, and_self, if_true, if_false, ite_true, ite_false, eq_self_iff_true, reduceIte, reduceCtorEq, not_false_eq_true, not_true_eq_false, or_true, true_or, or_false, false_or, Nat.lt_irrefl, Nat.zero_lt_succ, on_i, SH_50, nb_1]
  try simp (disch := omega) only [ii_0, ii_1, ii_t, ii_add, ii_sub, ii_mul, ii_lt, ii_le, ii_eq, ij_in, ii_c, Int.toNat_natCast, Int.toNat_zero, Int.reduceToNat, Int.reduceEq, Int.reduceNe, Int.reduceLE, Int.reduceLT, Int.reduceAdd, Int.reduceSub, Int.reduceMul, Int.reduceNeg, Nat.reduceLT, Nat.reduceAdd, Nat.reduceMul, not_false_eq_true, not_true_eq_false, true_and, and_true, and_self, false_and, and_false, true_implies, false_implies, implies_true, forall_const, if_true, if_false, ite_true, ite_false, reduceIte, eq_self_iff_true, Int.natCast_nonneg, Int.zero_add, Int.add_zero, pi_s, pi_n, ik_s, on_i, nb_1]
  refine ⟨fun q => ?_, fun q => ?_⟩
  · first | exact h | (refine hA [] 4 _ _ _ _ _ ?_; simp only [dX4_tookAsIn_0, dX4_tookAsIn_1, dX4_tookAsIn_2, dX4_tookAsIn_3, dX4_tookAsIn_4, dX4_tookAsIn_5, xX4_tookAsIn_t5, dX4_tookAsIn_8, dX4_tookAsIn_9, dX4_tookAsIn_10, dX4_tookAsIn_11, dX4_tookAsIn_12, dX4_tookAsIn_14, dX4_tookAsIn_15, xX4_tookAsIn_c41, xX4_tookAsIn_n41, dX4_tookAsIn_18, xX4_tookAsIn_t18, dX4_tookAsIn_21, dX4_tookAsIn_22, dX4_tookAsIn_23, dX4_tookAsIn_26, xX4_tookAsIn_t26, dX4_tookAsIn_29, dX4_tookAsIn_30, xX4_tookAsIn_SH, xX4_tookAsIn_KF, xX4_tookAsIn_rt, xX4_tookAsIn_FT, xX4_tookAsIn_PT, xX4_tookAsIn_CT, xX4_tookAsIn_KT, xX4_tookAsIn_LT, xX4_tookAsIn_NT, o_aload_n, o_arraylength, o_bipush, o_goto, o_iaload, o_iconst, o_if_icmp_eq, o_if_icmp_ge, o_iinc, o_iload_n, o_invokevirtual, o_ireturn, o_istore_n, SH_31, SH_33, am_ty, am_vc, am_opt, am_cl, am_find, am_ldi, am_ldl, am_lda, am_v, am_1, am_1l, am_1a, am_2, am_2l, am_ix, am_ri, am_arr, am_pf, am_rc, am_mask, am_lg, am_av, am_nat, fv_0, fv_1, fv_2, fv_3, fw_0, fw_1, List.getElem?_cons_zero, List.getElem?_cons_succ, List.set_cons_zero, List.set_cons_succ, List.length_cons, List.length_nil, List.take_succ_cons, List.take_zero, List.drop_succ_cons, List.drop_zero, List.reverse_cons, List.reverse_nil, List.nil_append, List.cons_append, List.append_nil, List.map_cons, List.map_nil, List.sum_cons, List.sum_nil, Value.category, Option.toList_some, Option.toList_none, Nat.reduceAdd, Nat.reduceLT, Nat.reduceLeDiff, Nat.reduceEqDiff, Nat.reduceSub, Nat.add_zero, Nat.le_refl, Nat.zero_le, Int.reduceNeg, Int.reduceLE, Int.reduceLT, true_and, and_true, and_self, if_true, if_false, ite_true, ite_false, eq_self_iff_true, reduceIte, reduceCtorEq, not_false_eq_true, not_true_eq_false, or_true, true_or, or_false, false_or, Nat.lt_irrefl, Nat.zero_lt_succ, nb_1]; exact h)
  · refine hA [(2, 3)] 12 _ _ _ _ _ ?_
    try simp only [dX4_tookAsIn_0, dX4_tookAsIn_1, dX4_tookAsIn_2, dX4_tookAsIn_3, dX4_tookAsIn_4, dX4_tookAsIn_5, xX4_tookAsIn_t5, dX4_tookAsIn_8, dX4_tookAsIn_9, dX4_tookAsIn_10, dX4_tookAsIn_11, dX4_tookAsIn_12, dX4_tookAsIn_14, dX4_tookAsIn_15, xX4_tookAsIn_c41, xX4_tookAsIn_n41, dX4_tookAsIn_18, xX4_tookAsIn_t18, dX4_tookAsIn_21, dX4_tookAsIn_22, dX4_tookAsIn_23, dX4_tookAsIn_26, xX4_tookAsIn_t26, dX4_tookAsIn_29, dX4_tookAsIn_30, xX4_tookAsIn_SH, xX4_tookAsIn_KF, xX4_tookAsIn_rt, xX4_tookAsIn_FT, xX4_tookAsIn_PT, xX4_tookAsIn_CT, xX4_tookAsIn_KT, xX4_tookAsIn_LT, xX4_tookAsIn_NT, o_aload_n, o_arraylength, o_bipush, o_goto, o_iaload, o_iconst, o_if_icmp_eq, o_if_icmp_ge, o_iinc, o_iload_n, o_invokevirtual, o_ireturn, o_istore_n, SH_31, SH_33, am_ty, am_vc, am_opt, am_cl, am_find, am_ldi, am_ldl, am_lda, am_v, am_1, am_1l, am_1a, am_2, am_2l, am_ix, am_ri, am_arr, am_pf, am_rc, am_mask, am_lg, am_av, am_nat, fv_0, fv_1, fv_2, fv_3, fw_0, fw_1, List.getElem?_cons_zero, List.getElem?_cons_succ, List.set_cons_zero, List.set_cons_succ, List.length_cons, List.length_nil, List.take_succ_cons, List.take_zero, List.drop_succ_cons, List.drop_zero, List.reverse_cons, List.reverse_nil, List.nil_append, List.cons_append, List.append_nil, List.map_cons, List.map_nil, List.sum_cons, List.sum_nil, Value.category, Option.toList_some, Option.toList_none, Nat.reduceAdd, Nat.reduceLT, Nat.reduceLeDiff, Nat.reduceEqDiff, Nat.reduceSub, Nat.add_zero, Nat.le_refl, Nat.zero_le, Int.reduceNeg, Int.reduceLE, Int.reduceLT, true_and, and_true, and_self, if_true, if_false, ite_true, ite_false, eq_self_iff_true, reduceIte, reduceCtorEq, not_false_eq_true, not_true_eq_false, or_true, true_or, or_false, false_or, Nat.lt_irrefl, Nat.zero_lt_succ, SH_50]
    try simp (disch := omega) only [ii_0, ii_1, ii_t, ii_add, ii_sub, ii_mul, ii_lt, ii_le, ii_eq, ij_in, ii_c, Int.toNat_natCast, Int.toNat_zero, Int.reduceToNat, Int.reduceEq, Int.reduceNe, Int.reduceLE, Int.reduceLT, Int.reduceAdd, Int.reduceSub, Int.reduceMul, Int.reduceNeg, Nat.reduceLT, Nat.reduceAdd, Nat.reduceMul, not_false_eq_true, not_true_eq_false, true_and, and_true, and_self, false_and, and_false, true_implies, false_implies, implies_true, forall_const, if_true, if_false, ite_true, ite_false, reduceIte, eq_self_iff_true, Int.natCast_nonneg, Int.zero_add, Int.add_zero, pi_s, pi_n, ik_s, on_i]
    sorry
set_option maxRecDepth 100000 in
theorem pX4_tookAsIn : am_B cX4_tookAsIn xX4_tookAsIn 3 0 sX4_tookAsIn := by
  intro n0 as σ post AA hA h
  obtain ⟨rfl, rfl, e1, e2, h⟩ := h
  refine ⟨by simp [am_sl, Value.category], ?_⟩
  show AA 0 [some (.ref 33), some (.ref 50), none] [] 92 σ
  refine hA [(2, 3)] 3 _ _ _ _ _ ?_
  try simp only [dX4_tookAsIn_0, dX4_tookAsIn_1, dX4_tookAsIn_2, dX4_tookAsIn_3, dX4_tookAsIn_4, dX4_tookAsIn_5, xX4_tookAsIn_t5, dX4_tookAsIn_8, dX4_tookAsIn_9, dX4_tookAsIn_10, dX4_tookAsIn_11, dX4_tookAsIn_12, dX4_tookAsIn_14, dX4_tookAsIn_15, xX4_tookAsIn_c41, xX4_tookAsIn_n41, dX4_tookAsIn_18, xX4_tookAsIn_t18, dX4_tookAsIn_21, dX4_tookAsIn_22, dX4_tookAsIn_23, dX4_tookAsIn_26, xX4_tookAsIn_t26, dX4_tookAsIn_29, dX4_tookAsIn_30, xX4_tookAsIn_SH, xX4_tookAsIn_KF, xX4_tookAsIn_rt, xX4_tookAsIn_FT, xX4_tookAsIn_PT, xX4_tookAsIn_CT, xX4_tookAsIn_KT, xX4_tookAsIn_LT, xX4_tookAsIn_NT, o_aload_n, o_arraylength, o_bipush, o_goto, o_iaload, o_iconst, o_if_icmp_eq, o_if_icmp_ge, o_iinc, o_iload_n, o_invokevirtual, o_ireturn, o_istore_n, SH_31, SH_33, am_ty, am_vc, am_opt, am_cl, am_find, am_ldi, am_ldl, am_lda, am_v, am_1, am_1l, am_1a, am_2, am_2l, am_ix, am_ri, am_arr, am_pf, am_rc, am_mask, am_lg, am_av, am_nat, fv_0, fv_1, fv_2, fv_3, fw_0, fw_1, List.getElem?_cons_zero, List.getElem?_cons_succ, List.set_cons_zero, List.set_cons_succ, List.length_cons, List.length_nil, List.take_succ_cons, List.take_zero, List.drop_succ_cons, List.drop_zero, List.reverse_cons, List.reverse_nil, List.nil_append, List.cons_append, List.append_nil, List.map_cons, List.map_nil, List.sum_cons, List.sum_nil, Value.category, Option.toList_some, Option.toList_none, Nat.reduceAdd, Nat.reduceLT, Nat.reduceLeDiff, Nat.reduceEqDiff, Nat.reduceSub, Nat.add_zero, Nat.le_refl, Nat.zero_le, Int.reduceNeg, Int.reduceLE, Int.reduceLT, true_and, and_true, and_self, if_true, if_false, ite_true, ite_false, eq_self_iff_true, reduceIte, reduceCtorEq, not_false_eq_true, not_true_eq_false, or_true, true_or, or_false, false_or, Nat.lt_irrefl, Nat.zero_lt_succ]
  exact ta_loop hA e1 e2 h 0 (by omega)
theorem mX4_tookAsIn (l : Launch) : am_M l TB NB vwCl SH KF yX4_tookAsIn cX4_tookAsIn 3 (some .boolean) 4 0 0 sX4_tookAsIn := by
  refine am_M.of xX4_tookAsIn (by decide +kernel) TB_good GF rfl rfl rfl (by decide) ⟨FT_X4_ok, PT_X4_ok _, CT_X4_ok, KT_X4_ok, LT_X4_ok, NT_X4_ok, ?_⟩ pX4_tookAsIn
  exact List.forall_mem_cons.mpr ⟨⟨yX4_of, cX4_of, 3, (some .int), 3, 2, mX4_of l, by decide, by decide, tb_at 702 (by decide +kernel) (by decide +kernel), tb_at 112 (by decide +kernel) (by decide +kernel), ⟨by decide +kernel, by decide +kernel, by decide +kernel⟩, rfl, tb_at 813 (by decide +kernel) (by decide +kernel), tb_at 700 (by decide +kernel) (by decide +kernel), ⟨(RX4, TX4, 1), rfl, tb_at 701 (by decide +kernel) (by decide +kernel)⟩⟩, fun _ h => absurd h List.not_mem_nil⟩

