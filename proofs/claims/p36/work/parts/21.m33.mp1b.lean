-- the facts of a state that are asked for most
theorem FM_e {mn : Int} {σ : am_S} (h : FM mn σ) : σ.1 51 18 = Int32.ofInt 0 ∧ σ.1 60 0 = Int32.ofInt 8 ∧ σ.1 61 0 = Int32.ofInt 0 ∧ σ.1 66 0 = Int32.ofInt 0 := ⟨h.1.2.2.1, h.2.1.1, h.2.1.2.1, h.2.1.2.2⟩
-- isWhole(c)
def sX12_isWhole : am_Sp := fun as n σ post => ∃ (c mn : Int), (-2147483648 ≤ c ∧ c < 2147483648) ∧ n = 92 ∧ as = [.ref 51, .int (Int32.ofInt c)] ∧ FM mn σ ∧ post (some (.int (Int32.ofInt (if 0 ≤ c ∧ c ≤ 7 then 1 else 0)))) σ
def xX12_isWhole : am_X := (SH, KF, (some .boolean), FT_X12, PT_X12, CT_X12, KT_X12, LT_X12, NT_X12, [(306, 0, 2, 12, 0, 0, sX12_isRung)])
theorem xX12_isWhole_SH : am_SH xX12_isWhole = SH := rfl
theorem xX12_isWhole_KF : am_KF xX12_isWhole = KF := rfl
theorem xX12_isWhole_rt : am_rt xX12_isWhole = (some .boolean) := rfl
theorem xX12_isWhole_FT : am_FT xX12_isWhole = FT_X12 := rfl
theorem xX12_isWhole_PT : am_PT xX12_isWhole = PT_X12 := rfl
theorem xX12_isWhole_CT : am_CT xX12_isWhole = CT_X12 := rfl
theorem xX12_isWhole_KT : am_KT xX12_isWhole = KT_X12 := rfl
theorem xX12_isWhole_LT : am_LT xX12_isWhole = LT_X12 := rfl
theorem xX12_isWhole_NT : am_NT xX12_isWhole = NT_X12 := rfl
theorem xX12_isWhole_c306 : am_find (am_ML xX12_isWhole) 306 = some (0, 2, 12, 0, 0, sX12_isRung) := rfl
theorem xX12_isWhole_n306 : am_find NT_X12 306 = none := rfl
theorem xX12_isWhole_t5 (k : Nat → Prop) : am_tg 5 (19) k = k 24 := am_tg_eq (by decide)
theorem xX12_isWhole_t17 (k : Nat → Prop) : am_tg 17 (7) k = k 24 := am_tg_eq (by decide)
theorem xX12_isWhole_t21 (k : Nat → Prop) : am_tg 21 (4) k = k 25 := am_tg_eq (by decide)

set_option maxRecDepth 100000 in
theorem pX12_isWhole : am_B cX12_isWhole xX12_isWhole 2 0 sX12_isWhole := by
  intro n0 as σ post AA hA h
  obtain ⟨c, mn, hc, rfl, rfl, hF, h⟩ := h
  refine ⟨by simp [am_sl, Value.category], ?_⟩
  show AA 0 [some (.ref 51), some (.int (Int32.ofInt c))] [] 92 σ
  refine hA [] 40 _ _ _ _ _ ?_
  simp (disch := omega) only [dX12_isWhole_0, dX12_isWhole_1, dX12_isWhole_2, xX12_isWhole_c306, xX12_isWhole_n306, dX12_isWhole_5, xX12_isWhole_t5, dX12_isWhole_8, dX12_isWhole_9, FT_X12_104, dX12_isWhole_12, dX12_isWhole_14, dX12_isWhole_15, dX12_isWhole_16, dX12_isWhole_17, xX12_isWhole_t17, dX12_isWhole_20, dX12_isWhole_21, xX12_isWhole_t21, dX12_isWhole_24, dX12_isWhole_25, xX12_isWhole_SH, xX12_isWhole_KF, xX12_isWhole_rt, xX12_isWhole_FT, xX12_isWhole_PT, xX12_isWhole_CT, xX12_isWhole_KT, xX12_isWhole_LT, xX12_isWhole_NT, o_aload_n, o_bipush, o_getfield, o_goto, o_iadd, o_iaload, o_iconst, o_ifCond_eq, o_ifCond_ne, o_iload_n, o_invokevirtual, o_ireturn, SH_51, KF_51_46, SH_80, am_ty, am_vc, am_opt, am_cl, am_find, am_ldi, am_ldl, am_lda, am_v, am_1, am_1l, am_1a, am_2, am_2l, am_ix, am_ri, am_arr, am_pf, am_rc, am_mask, am_lg, am_av, am_nat, fv_0, fv_1, fv_2, fv_3, fw_0, fw_1, List.getElem?_cons_zero, List.getElem?_cons_succ, List.set_cons_zero, List.set_cons_succ, List.length_cons, List.length_nil, List.take_succ_cons, List.take_zero, List.drop_succ_cons, List.drop_zero, List.reverse_cons, List.reverse_nil, List.nil_append, List.cons_append, List.append_nil, List.map_cons, List.map_nil, List.sum_cons, List.sum_nil, Value.category, Option.toList_some, Option.toList_none, Nat.reduceAdd, Nat.reduceLT, Nat.reduceLeDiff, Nat.reduceEqDiff, Nat.reduceSub, Nat.add_zero, Nat.le_refl, Nat.zero_le, Int.reduceNeg, Int.reduceLE, Int.reduceLT, true_and, and_true, and_self, if_true, if_false, ite_true, ite_false, eq_self_iff_true, reduceIte, reduceCtorEq, not_false_eq_true, not_true_eq_false, or_true, true_or, or_false, false_or, Nat.lt_irrefl, Nat.zero_lt_succ, nb_0, nb_1, ii_add]
  refine ⟨c, mn, hc, rfl, rfl, hF, ?_⟩
  try simp only [dX12_isWhole_0, dX12_isWhole_1, dX12_isWhole_2, xX12_isWhole_c306, xX12_isWhole_n306, dX12_isWhole_5, xX12_isWhole_t5, dX12_isWhole_8, dX12_isWhole_9, FT_X12_104, dX12_isWhole_12, dX12_isWhole_14, dX12_isWhole_15, dX12_isWhole_16, dX12_isWhole_17, xX12_isWhole_t17, dX12_isWhole_20, dX12_isWhole_21, xX12_isWhole_t21, dX12_isWhole_24, dX12_isWhole_25, xX12_isWhole_SH, xX12_isWhole_KF, xX12_isWhole_rt, xX12_isWhole_FT, xX12_isWhole_PT, xX12_isWhole_CT, xX12_isWhole_KT, xX12_isWhole_LT, xX12_isWhole_NT, o_aload_n, o_bipush, o_getfield, o_goto, o_iadd, o_iaload, o_iconst, o_ifCond_eq, o_ifCond_ne, o_iload_n, o_invokevirtual, o_ireturn, SH_51, KF_51_46, SH_80, am_ty, am_vc, am_opt, am_cl, am_find, am_ldi, am_ldl, am_lda, am_v, am_1, am_1l, am_1a, am_2, am_2l, am_ix, am_ri, am_arr, am_pf, am_rc, am_mask, am_lg, am_av, am_nat, fv_0, fv_1, fv_2, fv_3, fw_0, fw_1, List.getElem?_cons_zero, List.getElem?_cons_succ, List.set_cons_zero, List.set_cons_succ, List.length_cons, List.length_nil, List.take_succ_cons, List.take_zero, List.drop_succ_cons, List.drop_zero, List.reverse_cons, List.reverse_nil, List.nil_append, List.cons_append, List.append_nil, List.map_cons, List.map_nil, List.sum_cons, List.sum_nil, Value.category, Option.toList_some, Option.toList_none, Nat.reduceAdd, Nat.reduceLT, Nat.reduceLeDiff, Nat.reduceEqDiff, Nat.reduceSub, Nat.add_zero, Nat.le_refl, Nat.zero_le, Int.reduceNeg, Int.reduceLE, Int.reduceLT, true_and, and_true, and_self, if_true, if_false, ite_true, ite_false, eq_self_iff_true, reduceIte, reduceCtorEq, not_false_eq_true, not_true_eq_false, or_true, true_or, or_false, false_or, Nat.lt_irrefl, Nat.zero_lt_succ, nb_0, nb_1, ii_add]
  by_cases q : 0 ≤ c ∧ c ≤ 7
  · rw [if_pos q] at h
    have e1 : σ.1 80 (25 + c).toNat = Int32.ofInt 0 := FM_z hF _ (by omega) (by omega) (by omega)
    try simp (disch := omega) only [ii_0, ii_1, ii_t, ii_add, ii_sub, ii_mul, ii_lt, ii_le, ii_eq, ij_in, ii_c, Int.toNat_natCast, Int.toNat_zero, Int.reduceToNat, Int.reduceEq, Int.reduceNe, Int.reduceLE, Int.reduceLT, Int.reduceAdd, Int.reduceSub, Int.reduceMul, Int.reduceNeg, Nat.reduceLT, Nat.reduceAdd, Nat.reduceMul, not_false_eq_true, not_true_eq_false, true_and, and_true, and_self, false_and, and_false, true_implies, false_implies, implies_true, forall_const, if_true, if_false, ite_true, ite_false, reduceIte, eq_self_iff_true, Int.natCast_nonneg, Int.zero_add, Int.add_zero, pi_s, pi_n, if_pos, q, e1]
    exact ⟨⟨by omega, by omega⟩, h⟩
  · rw [if_neg q] at h
    try simp (disch := omega) only [ii_0, ii_1, ii_t, ii_add, ii_sub, ii_mul, ii_lt, ii_le, ii_eq, ij_in, ii_c, Int.toNat_natCast, Int.toNat_zero, Int.reduceToNat, Int.reduceEq, Int.reduceNe, Int.reduceLE, Int.reduceLT, Int.reduceAdd, Int.reduceSub, Int.reduceMul, Int.reduceNeg, Nat.reduceLT, Nat.reduceAdd, Nat.reduceMul, not_false_eq_true, not_true_eq_false, true_and, and_true, and_self, false_and, and_false, true_implies, false_implies, implies_true, forall_const, if_true, if_false, ite_true, ite_false, reduceIte, eq_self_iff_true, Int.natCast_nonneg, Int.zero_add, Int.add_zero, pi_s, pi_n, if_neg, q]
    exact h
theorem mX12_isWhole (l : Launch) : am_M l TB NB vwCl SH KF yX12_isWhole cX12_isWhole 2 (some .boolean) 4 0 0 sX12_isWhole := by
  refine am_M.of xX12_isWhole (by decide +kernel) TB_good GF rfl rfl rfl (by decide) ⟨FT_X12_ok, PT_X12_ok _, CT_X12_ok, KT_X12_ok, LT_X12_ok, NT_X12_ok, ?_⟩ pX12_isWhole
  exact List.forall_mem_cons.mpr ⟨⟨yX12_isRung, cX12_isRung, 2, (some .boolean), 3, 1, mX12_isRung l, by decide, by decide, tb_at 1633 (by decide +kernel) (by decide +kernel), tb_at 120 (by decide +kernel) (by decide +kernel), ⟨by decide +kernel, by decide +kernel, by decide +kernel⟩, rfl, tb_at 1630 (by decide +kernel) (by decide +kernel), tb_at 1632 (by decide +kernel) (by decide +kernel), ⟨(RX12, TX12, 63), rfl, tb_at 63 (by decide +kernel) (by decide +kernel)⟩⟩, fun _ h => absurd h List.not_mem_nil⟩


-- nobody is there: onRung, widthsOf, widthsOn
def sX12_onRung : am_Sp := fun as n σ post => ∃ (c : Int32) (mn : Int), n = 92 ∧ as = [.ref 51, .int c] ∧ FM mn σ ∧ post (some (.int (Int32.ofInt 0))) σ
def xX12_onRung : am_X := (SH, KF, (some .int), FT_X12, PT_X12, CT_X12, KT_X12, LT_X12, NT_X12, [])
theorem xX12_onRung_SH : am_SH xX12_onRung = SH := rfl
theorem xX12_onRung_KF : am_KF xX12_onRung = KF := rfl
theorem xX12_onRung_rt : am_rt xX12_onRung = (some .int) := rfl
theorem xX12_onRung_FT : am_FT xX12_onRung = FT_X12 := rfl
theorem xX12_onRung_PT : am_PT xX12_onRung = PT_X12 := rfl
theorem xX12_onRung_CT : am_CT xX12_onRung = CT_X12 := rfl
theorem xX12_onRung_KT : am_KT xX12_onRung = KT_X12 := rfl
theorem xX12_onRung_LT : am_LT xX12_onRung = LT_X12 := rfl
theorem xX12_onRung_NT : am_NT xX12_onRung = NT_X12 := rfl
theorem xX12_onRung_t14 (k : Nat → Prop) : am_tg 14 (25) k = k 39 := am_tg_eq (by decide)
theorem xX12_onRung_t24 (k : Nat → Prop) : am_tg 24 (9) k = k 33 := am_tg_eq (by decide)
theorem xX12_onRung_t36 (k : Nat → Prop) : am_tg 36 (-32) k = k 4 := am_tg_eq (by decide)

set_option maxRecDepth 100000 in
theorem pX12_onRung : am_B cX12_onRung xX12_onRung 4 0 sX12_onRung := by
  intro n0 as σ post AA hA h
  obtain ⟨c, mn, rfl, rfl, hF, h⟩ := h
  refine ⟨by simp [am_sl, Value.category], ?_⟩
  show AA 0 [some (.ref 51), some (.int c), none, none] [] 92 σ
  obtain ⟨e1, e2, e3, e4⟩ := FM_e hF
  refine hA [(4, 4)] 40 _ _ _ _ _ ?_
  try simp only [dX12_onRung_0, dX12_onRung_1, dX12_onRung_2, dX12_onRung_3, dX12_onRung_4, dX12_onRung_5, dX12_onRung_6, FT_X12_46, dX12_onRung_9, dX12_onRung_10, FT_X12_221, dX12_onRung_13, dX12_onRung_14, xX12_onRung_t14, dX12_onRung_17, dX12_onRung_18, FT_X12_104, dX12_onRung_21, dX12_onRung_22, dX12_onRung_23, dX12_onRung_24, xX12_onRung_t24, dX12_onRung_27, dX12_onRung_28, dX12_onRung_29, dX12_onRung_30, dX12_onRung_31, dX12_onRung_32, dX12_onRung_33, dX12_onRung_36, xX12_onRung_t36, dX12_onRung_39, dX12_onRung_40, xX12_onRung_SH, xX12_onRung_KF, xX12_onRung_rt, xX12_onRung_FT, xX12_onRung_PT, xX12_onRung_CT, xX12_onRung_KT, xX12_onRung_LT, xX12_onRung_NT, o_aload_n, o_getfield, o_goto, o_iaload, o_iconst, o_if_icmp_ge, o_if_icmp_ne, o_iinc, o_iload_n, o_ior, o_ireturn, o_ishl, o_istore_n, SH_51, KF_51_23, SH_61, KF_51_18, KF_51_46, SH_80, am_ty, am_vc, am_opt, am_cl, am_find, am_ldi, am_ldl, am_lda, am_v, am_1, am_1l, am_1a, am_2, am_2l, am_ix, am_ri, am_arr, am_pf, am_rc, am_mask, am_lg, am_av, am_nat, fv_0, fv_1, fv_2, fv_3, fw_0, fw_1, List.getElem?_cons_zero, List.getElem?_cons_succ, List.set_cons_zero, List.set_cons_succ, List.length_cons, List.length_nil, List.take_succ_cons, List.take_zero, List.drop_succ_cons, List.drop_zero, List.reverse_cons, List.reverse_nil, List.nil_append, List.cons_append, List.append_nil, List.map_cons, List.map_nil, List.sum_cons, List.sum_nil, Value.category, Option.toList_some, Option.toList_none, Nat.reduceAdd, Nat.reduceLT, Nat.reduceLeDiff, Nat.reduceEqDiff, Nat.reduceSub, Nat.add_zero, Nat.le_refl, Nat.zero_le, Int.reduceNeg, Int.reduceLE, Int.reduceLT, true_and, and_true, and_self, if_true, if_false, ite_true, ite_false, eq_self_iff_true, reduceIte, reduceCtorEq, not_false_eq_true, not_true_eq_false, or_true, true_or, or_false, false_or, Nat.lt_irrefl, Nat.zero_lt_succ, e1]
  refine hA [(4, 4)] 40 _ _ _ _ _ ?_
  try simp only [dX12_onRung_0, dX12_onRung_1, dX12_onRung_2, dX12_onRung_3, dX12_onRung_4, dX12_onRung_5, dX12_onRung_6, FT_X12_46, dX12_onRung_9, dX12_onRung_10, FT_X12_221, dX12_onRung_13, dX12_onRung_14, xX12_onRung_t14, dX12_onRung_17, dX12_onRung_18, FT_X12_104, dX12_onRung_21, dX12_onRung_22, dX12_onRung_23, dX12_onRung_24, xX12_onRung_t24, dX12_onRung_27, dX12_onRung_28, dX12_onRung_29, dX12_onRung_30, dX12_onRung_31, dX12_onRung_32, dX12_onRung_33, dX12_onRung_36, xX12_onRung_t36, dX12_onRung_39, dX12_onRung_40, xX12_onRung_SH, xX12_onRung_KF, xX12_onRung_rt, xX12_onRung_FT, xX12_onRung_PT, xX12_onRung_CT, xX12_onRung_KT, xX12_onRung_LT, xX12_onRung_NT, o_aload_n, o_getfield, o_goto, o_iaload, o_iconst, o_if_icmp_ge, o_if_icmp_ne, o_iinc, o_iload_n, o_ior, o_ireturn, o_ishl, o_istore_n, SH_51, KF_51_23, SH_61, KF_51_18, KF_51_46, SH_80, am_ty, am_vc, am_opt, am_cl, am_find, am_ldi, am_ldl, am_lda, am_v, am_1, am_1l, am_1a, am_2, am_2l, am_ix, am_ri, am_arr, am_pf, am_rc, am_mask, am_lg, am_av, am_nat, fv_0, fv_1, fv_2, fv_3, fw_0, fw_1, List.getElem?_cons_zero, List.getElem?_cons_succ, List.set_cons_zero, List.set_cons_succ, List.length_cons, List.length_nil, List.take_succ_cons, List.take_zero, List.drop_succ_cons, List.drop_zero, List.reverse_cons, List.reverse_nil, List.nil_append, List.cons_append, List.append_nil, List.map_cons, List.map_nil, List.sum_cons, List.sum_nil, Value.category, Option.toList_some, Option.toList_none, Nat.reduceAdd, Nat.reduceLT, Nat.reduceLeDiff, Nat.reduceEqDiff, Nat.reduceSub, Nat.add_zero, Nat.le_refl, Nat.zero_le, Int.reduceNeg, Int.reduceLE, Int.reduceLT, true_and, and_true, and_self, if_true, if_false, ite_true, ite_false, eq_self_iff_true, reduceIte, reduceCtorEq, not_false_eq_true, not_true_eq_false, or_true, true_or, or_false, false_or, Nat.lt_irrefl, Nat.zero_lt_succ, e1]
  try simp (disch := omega) only [ii_0, ii_1, ii_t, ii_add, ii_sub, ii_mul, ii_lt, ii_le, ii_eq, ij_in, ii_c, Int.toNat_natCast, Int.toNat_zero, Int.reduceToNat, Int.reduceEq, Int.reduceNe, Int.reduceLE, Int.reduceLT, Int.reduceAdd, Int.reduceSub, Int.reduceMul, Int.reduceNeg, Nat.reduceLT, Nat.reduceAdd, Nat.reduceMul, not_false_eq_true, not_true_eq_false, true_and, and_true, and_self, false_and, and_false, true_implies, false_implies, implies_true, forall_const, if_true, if_false, ite_true, ite_false, reduceIte, eq_self_iff_true, Int.natCast_nonneg, Int.zero_add, Int.add_zero, pi_s, pi_n, e3]
  exact h
theorem mX12_onRung (l : Launch) : am_M l TB NB vwCl SH KF yX12_onRung cX12_onRung 4 (some .int) 2 0 0 sX12_onRung := by
  refine am_M.of xX12_onRung (by decide +kernel) TB_good GF rfl rfl rfl (by decide) ⟨FT_X12_ok, PT_X12_ok _, CT_X12_ok, KT_X12_ok, LT_X12_ok, NT_X12_ok, ?_⟩ pX12_onRung
  exact fun _ h => absurd h List.not_mem_nil

def sX12_widthsOf : am_Sp := fun as n σ post => ∃ (c : Int32) (mn : Int), n = 92 ∧ as = [.ref 51, .int c] ∧ FM mn σ ∧ post (some (.int (Int32.ofInt 0))) σ
def sX12_widthAt : am_Sp := fun _ _ _ _ => False
theorem am_never {l : Launch} {KF : am_Kf} {y : MethodName} {cc : ByteArray} {maxL : Nat} {ret : Option FieldType} {d mc ms : Nat} : am_M l TB NB vwCl SH KF y cc maxL ret d mc ms (fun _ _ _ _ => False) := fun _ _ _ _ _ _ _ h => h.elim
theorem mX12_widthAt (l : Launch) : am_M l TB NB vwCl SH KF yX12_widthAt cX12_widthAt 2 (some .int) 2 0 0 sX12_widthAt := am_never
def xX12_widthsOf : am_X := (SH, KF, (some .int), FT_X12, PT_X12, CT_X12, KT_X12, LT_X12, NT_X12, [(309, 0, 2, 12, 0, 0, sX12_widthAt)])
theorem xX12_widthsOf_SH : am_SH xX12_widthsOf = SH := rfl
theorem xX12_widthsOf_KF : am_KF xX12_widthsOf = KF := rfl
theorem xX12_widthsOf_rt : am_rt xX12_widthsOf = (some .int) := rfl
theorem xX12_widthsOf_FT : am_FT xX12_widthsOf = FT_X12 := rfl
theorem xX12_widthsOf_PT : am_PT xX12_widthsOf = PT_X12 := rfl
theorem xX12_widthsOf_CT : am_CT xX12_widthsOf = CT_X12 := rfl
theorem xX12_widthsOf_KT : am_KT xX12_widthsOf = KT_X12 := rfl
theorem xX12_widthsOf_LT : am_LT xX12_widthsOf = LT_X12 := rfl
theorem xX12_widthsOf_NT : am_NT xX12_widthsOf = NT_X12 := rfl
theorem xX12_widthsOf_c309 : am_find (am_ML xX12_widthsOf) 309 = some (0, 2, 12, 0, 0, sX12_widthAt) := rfl
theorem xX12_widthsOf_n309 : am_find NT_X12 309 = none := rfl
theorem xX12_widthsOf_t14 (k : Nat → Prop) : am_tg 14 (26) k = k 40 := am_tg_eq (by decide)
theorem xX12_widthsOf_t23 (k : Nat → Prop) : am_tg 23 (11) k = k 34 := am_tg_eq (by decide)
theorem xX12_widthsOf_t37 (k : Nat → Prop) : am_tg 37 (-33) k = k 4 := am_tg_eq (by decide)

set_option maxRecDepth 100000 in
theorem pX12_widthsOf : am_B cX12_widthsOf xX12_widthsOf 4 0 sX12_widthsOf := by
  intro n0 as σ post AA hA h
  obtain ⟨c, mn, rfl, rfl, hF, h⟩ := h
  refine ⟨by simp [am_sl, Value.category], ?_⟩
  show AA 0 [some (.ref 51), some (.int c), none, none] [] 92 σ
  obtain ⟨e1, e2, e3, e4⟩ := FM_e hF
  refine hA [(4, 4)] 40 _ _ _ _ _ ?_
  try simp only [dX12_widthsOf_0, dX12_widthsOf_1, dX12_widthsOf_2, dX12_widthsOf_3, dX12_widthsOf_4, dX12_widthsOf_5, dX12_widthsOf_6, FT_X12_46, dX12_widthsOf_9, dX12_widthsOf_10, FT_X12_221, dX12_widthsOf_13, dX12_widthsOf_14, xX12_widthsOf_t14, dX12_widthsOf_17, dX12_widthsOf_18, dX12_widthsOf_19, dX12_widthsOf_20, dX12_widthsOf_21, dX12_widthsOf_22, dX12_widthsOf_23, xX12_widthsOf_t23, dX12_widthsOf_26, dX12_widthsOf_27, dX12_widthsOf_28, dX12_widthsOf_29, xX12_widthsOf_c309, xX12_widthsOf_n309, dX12_widthsOf_32, dX12_widthsOf_33, dX12_widthsOf_34, dX12_widthsOf_37, xX12_widthsOf_t37, dX12_widthsOf_40, dX12_widthsOf_41, xX12_widthsOf_SH, xX12_widthsOf_KF, xX12_widthsOf_rt, xX12_widthsOf_FT, xX12_widthsOf_PT, xX12_widthsOf_CT, xX12_widthsOf_KT, xX12_widthsOf_LT, xX12_widthsOf_NT, o_aload_n, o_getfield, o_goto, o_iadd, o_iaload, o_iand, o_iconst, o_if_icmp_ge, o_if_icmp_ne, o_iinc, o_iload_n, o_invokevirtual, o_ireturn, o_ishr, o_istore_n, SH_51, KF_51_23, SH_61, KF_51_18, am_ty, am_vc, am_opt, am_cl, am_find, am_ldi, am_ldl, am_lda, am_v, am_1, am_1l, am_1a, am_2, am_2l, am_ix, am_ri, am_arr, am_pf, am_rc, am_mask, am_lg, am_av, am_nat, fv_0, fv_1, fv_2, fv_3, fw_0, fw_1, List.getElem?_cons_zero, List.getElem?_cons_succ, List.set_cons_zero, List.set_cons_succ, List.length_cons, List.length_nil, List.take_succ_cons, List.take_zero, List.drop_succ_cons, List.drop_zero, List.reverse_cons, List.reverse_nil, List.nil_append, List.cons_append, List.append_nil, List.map_cons, List.map_nil, List.sum_cons, List.sum_nil, Value.category, Option.toList_some, Option.toList_none, Nat.reduceAdd, Nat.reduceLT, Nat.reduceLeDiff, Nat.reduceEqDiff, Nat.reduceSub, Nat.add_zero, Nat.le_refl, Nat.zero_le, Int.reduceNeg, Int.reduceLE, Int.reduceLT, true_and, and_true, and_self, if_true, if_false, ite_true, ite_false, eq_self_iff_true, reduceIte, reduceCtorEq, not_false_eq_true, not_true_eq_false, or_true, true_or, or_false, false_or, Nat.lt_irrefl, Nat.zero_lt_succ, e1]
  refine hA [(4, 4)] 40 _ _ _ _ _ ?_
  try simp only [dX12_widthsOf_0, dX12_widthsOf_1, dX12_widthsOf_2, dX12_widthsOf_3, dX12_widthsOf_4, dX12_widthsOf_5, dX12_widthsOf_6, FT_X12_46, dX12_widthsOf_9, dX12_widthsOf_10, FT_X12_221, dX12_widthsOf_13, dX12_widthsOf_14, xX12_widthsOf_t14, dX12_widthsOf_17, dX12_widthsOf_18, dX12_widthsOf_19, dX12_widthsOf_20, dX12_widthsOf_21, dX12_widthsOf_22, dX12_widthsOf_23, xX12_widthsOf_t23, dX12_widthsOf_26, dX12_widthsOf_27, dX12_widthsOf_28, dX12_widthsOf_29, xX12_widthsOf_c309, xX12_widthsOf_n309, dX12_widthsOf_32, dX12_widthsOf_33, dX12_widthsOf_34, dX12_widthsOf_37, xX12_widthsOf_t37, dX12_widthsOf_40, dX12_widthsOf_41, xX12_widthsOf_SH, xX12_widthsOf_KF, xX12_widthsOf_rt, xX12_widthsOf_FT, xX12_widthsOf_PT, xX12_widthsOf_CT, xX12_widthsOf_KT, xX12_widthsOf_LT, xX12_widthsOf_NT, o_aload_n, o_getfield, o_goto, o_iadd, o_iaload, o_iand, o_iconst, o_if_icmp_ge, o_if_icmp_ne, o_iinc, o_iload_n, o_invokevirtual, o_ireturn, o_ishr, o_istore_n, SH_51, KF_51_23, SH_61, KF_51_18, am_ty, am_vc, am_opt, am_cl, am_find, am_ldi, am_ldl, am_lda, am_v, am_1, am_1l, am_1a, am_2, am_2l, am_ix, am_ri, am_arr, am_pf, am_rc, am_mask, am_lg, am_av, am_nat, fv_0, fv_1, fv_2, fv_3, fw_0, fw_1, List.getElem?_cons_zero, List.getElem?_cons_succ, List.set_cons_zero, List.set_cons_succ, List.length_cons, List.length_nil, List.take_succ_cons, List.take_zero, List.drop_succ_cons, List.drop_zero, List.reverse_cons, List.reverse_nil, List.nil_append, List.cons_append, List.append_nil, List.map_cons, List.map_nil, List.sum_cons, List.sum_nil, Value.category, Option.toList_some, Option.toList_none, Nat.reduceAdd, Nat.reduceLT, Nat.reduceLeDiff, Nat.reduceEqDiff, Nat.reduceSub, Nat.add_zero, Nat.le_refl, Nat.zero_le, Int.reduceNeg, Int.reduceLE, Int.reduceLT, true_and, and_true, and_self, if_true, if_false, ite_true, ite_false, eq_self_iff_true, reduceIte, reduceCtorEq, not_false_eq_true, not_true_eq_false, or_true, true_or, or_false, false_or, Nat.lt_irrefl, Nat.zero_lt_succ, e1]
  try simp (disch := omega) only [ii_0, ii_1, ii_t, ii_add, ii_sub, ii_mul, ii_lt, ii_le, ii_eq, ij_in, ii_c, Int.toNat_natCast, Int.toNat_zero, Int.reduceToNat, Int.reduceEq, Int.reduceNe, Int.reduceLE, Int.reduceLT, Int.reduceAdd, Int.reduceSub, Int.reduceMul, Int.reduceNeg, Nat.reduceLT, Nat.reduceAdd, Nat.reduceMul, not_false_eq_true, not_true_eq_false, true_and, and_true, and_self, false_and, and_false, true_implies, false_implies, implies_true, forall_const, if_true, if_false, ite_true, ite_false, reduceIte, eq_self_iff_true, Int.natCast_nonneg, Int.zero_add, Int.add_zero, pi_s, pi_n, e3]
  exact h
theorem mX12_widthsOf (l : Launch) : am_M l TB NB vwCl SH KF yX12_widthsOf cX12_widthsOf 4 (some .int) 3 0 0 sX12_widthsOf := by
  refine am_M.of xX12_widthsOf (by decide +kernel) TB_good GF rfl rfl rfl (by decide) ⟨FT_X12_ok, PT_X12_ok _, CT_X12_ok, KT_X12_ok, LT_X12_ok, NT_X12_ok, ?_⟩ pX12_widthsOf
  exact List.forall_mem_cons.mpr ⟨⟨yX12_widthAt, cX12_widthAt, 2, (some .int), 2, 1, mX12_widthAt l, by decide, by decide, tb_at 1625 (by decide +kernel) (by decide +kernel), tb_at 120 (by decide +kernel) (by decide +kernel), ⟨by decide +kernel, by decide +kernel, by decide +kernel⟩, rfl, tb_at 1622 (by decide +kernel) (by decide +kernel), tb_at 1624 (by decide +kernel) (by decide +kernel), ⟨(RX12, TX12, 63), rfl, tb_at 62 (by decide +kernel) (by decide +kernel)⟩⟩, fun _ h => absurd h List.not_mem_nil⟩

def sX12_widthsOn : am_Sp := fun as n σ post => ∃ (c : Int32) (mn : Int), n = 92 ∧ as = [.ref 51, .int c] ∧ FM mn σ ∧ post (some (.int (Int32.ofInt 0))) σ
def xX12_widthsOn : am_X := (SH, KF, (some .int), FT_X12, PT_X12, CT_X12, KT_X12, LT_X12, NT_X12, [(312, 0, 2, 12, 0, 0, sX12_onRung), (315, 0, 2, 12, 0, 0, sX12_widthsOf)])
theorem xX12_widthsOn_SH : am_SH xX12_widthsOn = SH := rfl
theorem xX12_widthsOn_KF : am_KF xX12_widthsOn = KF := rfl
theorem xX12_widthsOn_rt : am_rt xX12_widthsOn = (some .int) := rfl
theorem xX12_widthsOn_FT : am_FT xX12_widthsOn = FT_X12 := rfl
theorem xX12_widthsOn_PT : am_PT xX12_widthsOn = PT_X12 := rfl
theorem xX12_widthsOn_CT : am_CT xX12_widthsOn = CT_X12 := rfl
theorem xX12_widthsOn_KT : am_KT xX12_widthsOn = KT_X12 := rfl
theorem xX12_widthsOn_LT : am_LT xX12_widthsOn = LT_X12 := rfl
theorem xX12_widthsOn_NT : am_NT xX12_widthsOn = NT_X12 := rfl
theorem xX12_widthsOn_c312 : am_find (am_ML xX12_widthsOn) 312 = some (0, 2, 12, 0, 0, sX12_onRung) := rfl
theorem xX12_widthsOn_n312 : am_find NT_X12 312 = none := rfl
theorem xX12_widthsOn_c315 : am_find (am_ML xX12_widthsOn) 315 = some (0, 2, 12, 0, 0, sX12_widthsOf) := rfl
theorem xX12_widthsOn_n315 : am_find NT_X12 315 = none := rfl

set_option maxRecDepth 100000 in
theorem pX12_widthsOn : am_B cX12_widthsOn xX12_widthsOn 2 0 sX12_widthsOn := by
  intro n0 as σ post AA hA h
  obtain ⟨c, mn, rfl, rfl, hF, h⟩ := h
  refine ⟨by simp [am_sl, Value.category], ?_⟩
  show AA 0 [some (.ref 51), some (.int c)] [] 92 σ
  refine hA [] 40 _ _ _ _ _ ?_
  try simp only [dX12_widthsOn_0, dX12_widthsOn_1, dX12_widthsOn_2, dX12_widthsOn_3, xX12_widthsOn_c312, xX12_widthsOn_n312, dX12_widthsOn_6, xX12_widthsOn_c315, xX12_widthsOn_n315, dX12_widthsOn_9, xX12_widthsOn_SH, xX12_widthsOn_KF, xX12_widthsOn_rt, xX12_widthsOn_FT, xX12_widthsOn_PT, xX12_widthsOn_CT, xX12_widthsOn_KT, xX12_widthsOn_LT, xX12_widthsOn_NT, o_aload_n, o_iload_n, o_invokevirtual, o_ireturn, SH_51, am_ty, am_vc, am_opt, am_cl, am_find, am_ldi, am_ldl, am_lda, am_v, am_1, am_1l, am_1a, am_2, am_2l, am_ix, am_ri, am_arr, am_pf, am_rc, am_mask, am_lg, am_av, am_nat, fv_0, fv_1, fv_2, fv_3, fw_0, fw_1, List.getElem?_cons_zero, List.getElem?_cons_succ, List.set_cons_zero, List.set_cons_succ, List.length_cons, List.length_nil, List.take_succ_cons, List.take_zero, List.drop_succ_cons, List.drop_zero, List.reverse_cons, List.reverse_nil, List.nil_append, List.cons_append, List.append_nil, List.map_cons, List.map_nil, List.sum_cons, List.sum_nil, Value.category, Option.toList_some, Option.toList_none, Nat.reduceAdd, Nat.reduceLT, Nat.reduceLeDiff, Nat.reduceEqDiff, Nat.reduceSub, Nat.add_zero, Nat.le_refl, Nat.zero_le, Int.reduceNeg, Int.reduceLE, Int.reduceLT, true_and, and_true, and_self, if_true, if_false, ite_true, ite_false, eq_self_iff_true, reduceIte, reduceCtorEq, not_false_eq_true, not_true_eq_false, or_true, true_or, or_false, false_or, Nat.lt_irrefl, Nat.zero_lt_succ]
  refine ⟨c, mn, rfl, rfl, hF, ?_⟩
  try simp only [dX12_widthsOn_0, dX12_widthsOn_1, dX12_widthsOn_2, dX12_widthsOn_3, xX12_widthsOn_c312, xX12_widthsOn_n312, dX12_widthsOn_6, xX12_widthsOn_c315, xX12_widthsOn_n315, dX12_widthsOn_9, xX12_widthsOn_SH, xX12_widthsOn_KF, xX12_widthsOn_rt, xX12_widthsOn_FT, xX12_widthsOn_PT, xX12_widthsOn_CT, xX12_widthsOn_KT, xX12_widthsOn_LT, xX12_widthsOn_NT, o_aload_n, o_iload_n, o_invokevirtual, o_ireturn, SH_51, am_ty, am_vc, am_opt, am_cl, am_find, am_ldi, am_ldl, am_lda, am_v, am_1, am_1l, am_1a, am_2, am_2l, am_ix, am_ri, am_arr, am_pf, am_rc, am_mask, am_lg, am_av, am_nat, fv_0, fv_1, fv_2, fv_3, fw_0, fw_1, List.getElem?_cons_zero, List.getElem?_cons_succ, List.set_cons_zero, List.set_cons_succ, List.length_cons, List.length_nil, List.take_succ_cons, List.take_zero, List.drop_succ_cons, List.drop_zero, List.reverse_cons, List.reverse_nil, List.nil_append, List.cons_append, List.append_nil, List.map_cons, List.map_nil, List.sum_cons, List.sum_nil, Value.category, Option.toList_some, Option.toList_none, Nat.reduceAdd, Nat.reduceLT, Nat.reduceLeDiff, Nat.reduceEqDiff, Nat.reduceSub, Nat.add_zero, Nat.le_refl, Nat.zero_le, Int.reduceNeg, Int.reduceLE, Int.reduceLT, true_and, and_true, and_self, if_true, if_false, ite_true, ite_false, eq_self_iff_true, reduceIte, reduceCtorEq, not_false_eq_true, not_true_eq_false, or_true, true_or, or_false, false_or, Nat.lt_irrefl, Nat.zero_lt_succ]
  exact ⟨_, mn, rfl, rfl, hF, rfl, h⟩
theorem mX12_widthsOn (l : Launch) : am_M l TB NB vwCl SH KF yX12_widthsOn cX12_widthsOn 2 (some .int) 4 0 0 sX12_widthsOn := by
  refine am_M.of xX12_widthsOn (by decide +kernel) TB_good GF rfl rfl rfl (by decide) ⟨FT_X12_ok, PT_X12_ok _, CT_X12_ok, KT_X12_ok, LT_X12_ok, NT_X12_ok, ?_⟩ pX12_widthsOn
  exact List.forall_mem_cons.mpr ⟨⟨yX12_onRung, cX12_onRung, 4, (some .int), 2, 1, mX12_onRung l, by decide, by decide, tb_at 1664 (by decide +kernel) (by decide +kernel), tb_at 120 (by decide +kernel) (by decide +kernel), ⟨by decide +kernel, by decide +kernel, by decide +kernel⟩, rfl, tb_at 1661 (by decide +kernel) (by decide +kernel), tb_at 1663 (by decide +kernel) (by decide +kernel), ⟨(RX12, TX12, 63), rfl, tb_at 70 (by decide +kernel) (by decide +kernel)⟩⟩, List.forall_mem_cons.mpr ⟨⟨yX12_widthsOf, cX12_widthsOf, 4, (some .int), 3, 1, mX12_widthsOf l, by decide, by decide, tb_at 1668 (by decide +kernel) (by decide +kernel), tb_at 120 (by decide +kernel) (by decide +kernel), ⟨by decide +kernel, by decide +kernel, by decide +kernel⟩, rfl, tb_at 1665 (by decide +kernel) (by decide +kernel), tb_at 1667 (by decide +kernel) (by decide +kernel), ⟨(RX12, TX12, 63), rfl, tb_at 71 (by decide +kernel) (by decide +kernel)⟩⟩, fun _ h => absurd h List.not_mem_nil⟩⟩

