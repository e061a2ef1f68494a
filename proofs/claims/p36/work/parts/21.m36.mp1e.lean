-- keepsRow()
def kpl (σ : am_S) (k : Nat) : am_S := (fun o j => if o = 79 ∧ j < k then σ.1 80 j else σ.1 o j, σ.2)
theorem kpl_0 (σ : am_S) : kpl σ 0 = σ := am_Sext (fun o k => by simp [kpl]) rfl
theorem kpl_s (σ : am_S) (k : Nat) : am_pi (kpl σ k) 79 k (σ.1 80 k) = kpl σ (k + 1) := by
  refine am_Sext (fun o j => ?_) rfl
  by_cases h : o = 79 ∧ j = k
  · obtain ⟨rfl, rfl⟩ := h
    rw [pi_s]; simp [kpl]
  · rw [pi_n _ _ _ _ h]
    simp only [kpl]
    by_cases h2 : o = 79 ∧ j < k
    · rw [if_pos h2, if_pos ⟨h2.1, by omega⟩]
    · rw [if_neg h2, if_neg (fun q => h2 ⟨q.1, by omega⟩)]
theorem kpl_row (σ : am_S) (k j : Nat) : (kpl σ k).1 80 j = σ.1 80 j := by simp [kpl]
def sX12_keepsRow : am_Sp := fun as n σ post => n = 92 ∧ as = [.ref 51] ∧ ∀ τ : am_S, (∀ k, k < 51 → τ.1 79 k = σ.1 80 k) → (∀ o j, ¬ o = 79 → τ.1 o j = σ.1 o j) → τ.2 = σ.2 → post none τ
def xX12_keepsRow : am_X := (SH, KF, none, FT_X12, PT_X12, CT_X12, KT_X12, LT_X12, NT_X12, [])
theorem xX12_keepsRow_SH : am_SH xX12_keepsRow = SH := rfl
theorem xX12_keepsRow_KF : am_KF xX12_keepsRow = KF := rfl
theorem xX12_keepsRow_rt : am_rt xX12_keepsRow = none := rfl
theorem xX12_keepsRow_FT : am_FT xX12_keepsRow = FT_X12 := rfl
theorem xX12_keepsRow_PT : am_PT xX12_keepsRow = PT_X12 := rfl
theorem xX12_keepsRow_CT : am_CT xX12_keepsRow = CT_X12 := rfl
theorem xX12_keepsRow_KT : am_KT xX12_keepsRow = KT_X12 := rfl
theorem xX12_keepsRow_LT : am_LT xX12_keepsRow = LT_X12 := rfl
theorem xX12_keepsRow_NT : am_NT xX12_keepsRow = NT_X12 := rfl
theorem xX12_keepsRow_t5 (k : Nat → Prop) : am_tg 5 (21) k = k 26 := am_tg_eq (by decide)
theorem xX12_keepsRow_t23 (k : Nat → Prop) : am_tg 23 (-21) k = k 2 := am_tg_eq (by decide)

set_option maxRecDepth 100000 in
theorem kp_loop {σ : am_S} {post : Option Value → am_S → Prop} {AA : Nat → List (Option Value) → List Value → Nat → am_S → Prop} (hA : ∀ cuts f pc ls stk n τ, am_vc cX12_keepsRow xX12_keepsRow (92 + 0) post AA cuts f pc ls stk n τ → AA pc ls stk n τ) (h : ∀ τ : am_S, (∀ k, k < 51 → τ.1 79 k = σ.1 80 k) → (∀ o j, ¬ o = 79 → τ.1 o j = σ.1 o j) → τ.2 = σ.2 → post none τ) : ∀ k : Nat, k ≤ 51 → AA 2 [some (.ref 51), some (.int (Int32.ofInt (k : Int)))] [] 92 (kpl σ k) := by
  refine am_up 51 fun k hk ih => ?_
  refine hA [(2, 2)] 60 _ _ _ _ _ ?_
  try simp only [dX12_keepsRow_0, dX12_keepsRow_1, dX12_keepsRow_2, dX12_keepsRow_3, dX12_keepsRow_5, xX12_keepsRow_t5, dX12_keepsRow_8, dX12_keepsRow_9, FT_X12_101, dX12_keepsRow_12, dX12_keepsRow_13, dX12_keepsRow_14, FT_X12_104, dX12_keepsRow_17, dX12_keepsRow_18, dX12_keepsRow_19, dX12_keepsRow_20, dX12_keepsRow_23, xX12_keepsRow_t23, dX12_keepsRow_26, xX12_keepsRow_SH, xX12_keepsRow_KF, xX12_keepsRow_rt, xX12_keepsRow_FT, xX12_keepsRow_PT, xX12_keepsRow_CT, xX12_keepsRow_KT, xX12_keepsRow_LT, xX12_keepsRow_NT, o_aload_n, o_bipush, o_getfield, o_goto, o_iaload, o_iastore, o_iconst, o_if_icmp_ge, o_iinc, o_iload_n, o_istore_n, o_return_, SH_51, KF_51_45, SH_79, KF_51_46, SH_80, am_ty, am_vc, am_opt, am_cl, am_find, am_ldi, am_ldl, am_lda, am_v, am_1, am_1l, am_1a, am_2, am_2l, am_ix, am_ri, am_arr, am_pf, am_rc, am_mask, am_lg, am_av, am_nat, fv_0, fv_1, fv_2, fv_3, fw_0, fw_1, List.getElem?_cons_zero, List.getElem?_cons_succ, List.set_cons_zero, List.set_cons_succ, List.length_cons, List.length_nil, List.take_succ_cons, List.take_zero, List.drop_succ_cons, List.drop_zero, List.reverse_cons, List.reverse_nil, List.nil_append, List.cons_append, List.append_nil, List.map_cons, List.map_nil, List.sum_cons, List.sum_nil, Value.category, Option.toList_some, Option.toList_none, Nat.reduceAdd, Nat.reduceLT, Nat.reduceLeDiff, Nat.reduceEqDiff, Nat.reduceSub, Nat.add_zero, Nat.le_refl, Nat.zero_le, Int.reduceNeg, Int.reduceLE, Int.reduceLT, true_and, and_true, and_self, if_true, if_false, ite_true, ite_false, eq_self_iff_true, reduceIte, reduceCtorEq, not_false_eq_true, not_true_eq_false, or_true, true_or, or_false, false_or, Nat.lt_irrefl, Nat.zero_lt_succ, kpl_row]
  try simp (disch := omega) only [ii_0, ii_1, ii_t, ii_add, ii_sub, ii_mul, ii_lt, ii_le, ii_eq, ij_in, ii_c, Int.toNat_natCast, Int.toNat_zero, Int.reduceToNat, Int.reduceEq, Int.reduceNe, Int.reduceLE, Int.reduceLT, Int.reduceAdd, Int.reduceSub, Int.reduceMul, Int.reduceNeg, Nat.reduceLT, Nat.reduceAdd, Nat.reduceMul, not_false_eq_true, not_true_eq_false, true_and, and_true, and_self, false_and, and_false, true_implies, false_implies, implies_true, forall_const, if_true, if_false, ite_true, ite_false, reduceIte, eq_self_iff_true, Int.natCast_nonneg, Int.zero_add, Int.add_zero, pi_s, pi_n, ik_s, kpl_s]
  refine ⟨fun h1 => h _ (fun j hj => ?_) (fun o j ho => ?_) rfl, fun h1 => ⟨by omega, by omega, ih (by omega)⟩⟩
  · have hk : k = 51 := by omega
    subst hk
    simp [kpl, hj]
  · simp [kpl, ho]
set_option maxRecDepth 100000 in
theorem pX12_keepsRow : am_B cX12_keepsRow xX12_keepsRow 2 0 sX12_keepsRow := by
  intro n0 as σ post AA hA h
  obtain ⟨rfl, rfl, h⟩ := h
  refine ⟨by simp [am_sl, Value.category], ?_⟩
  show AA 0 [some (.ref 51), none] [] 92 σ
  refine hA [(2, 2)] 20 _ _ _ _ _ ?_
  try simp only [dX12_keepsRow_0, dX12_keepsRow_1, dX12_keepsRow_2, dX12_keepsRow_3, dX12_keepsRow_5, xX12_keepsRow_t5, dX12_keepsRow_8, dX12_keepsRow_9, FT_X12_101, dX12_keepsRow_12, dX12_keepsRow_13, dX12_keepsRow_14, FT_X12_104, dX12_keepsRow_17, dX12_keepsRow_18, dX12_keepsRow_19, dX12_keepsRow_20, dX12_keepsRow_23, xX12_keepsRow_t23, dX12_keepsRow_26, xX12_keepsRow_SH, xX12_keepsRow_KF, xX12_keepsRow_rt, xX12_keepsRow_FT, xX12_keepsRow_PT, xX12_keepsRow_CT, xX12_keepsRow_KT, xX12_keepsRow_LT, xX12_keepsRow_NT, o_aload_n, o_bipush, o_getfield, o_goto, o_iaload, o_iastore, o_iconst, o_if_icmp_ge, o_iinc, o_iload_n, o_istore_n, o_return_, SH_51, KF_51_45, SH_79, KF_51_46, SH_80, am_ty, am_vc, am_opt, am_cl, am_find, am_ldi, am_ldl, am_lda, am_v, am_1, am_1l, am_1a, am_2, am_2l, am_ix, am_ri, am_arr, am_pf, am_rc, am_mask, am_lg, am_av, am_nat, fv_0, fv_1, fv_2, fv_3, fw_0, fw_1, List.getElem?_cons_zero, List.getElem?_cons_succ, List.set_cons_zero, List.set_cons_succ, List.length_cons, List.length_nil, List.take_succ_cons, List.take_zero, List.drop_succ_cons, List.drop_zero, List.reverse_cons, List.reverse_nil, List.nil_append, List.cons_append, List.append_nil, List.map_cons, List.map_nil, List.sum_cons, List.sum_nil, Value.category, Option.toList_some, Option.toList_none, Nat.reduceAdd, Nat.reduceLT, Nat.reduceLeDiff, Nat.reduceEqDiff, Nat.reduceSub, Nat.add_zero, Nat.le_refl, Nat.zero_le, Int.reduceNeg, Int.reduceLE, Int.reduceLT, true_and, and_true, and_self, if_true, if_false, ite_true, ite_false, eq_self_iff_true, reduceIte, reduceCtorEq, not_false_eq_true, not_true_eq_false, or_true, true_or, or_false, false_or, Nat.lt_irrefl, Nat.zero_lt_succ]
  have := kp_loop hA h 0 (by omega)
  rw [kpl_0] at this
  exact this
theorem mX12_keepsRow (l : Launch) : am_M l TB NB vwCl SH KF yX12_keepsRow cX12_keepsRow 2 none 2 0 0 sX12_keepsRow := by
  refine am_M.of xX12_keepsRow (by decide +kernel) TB_good GF rfl rfl rfl (by decide) ⟨FT_X12_ok, PT_X12_ok _, CT_X12_ok, KT_X12_ok, LT_X12_ok, NT_X12_ok, ?_⟩ pX12_keepsRow
  exact fun _ h => absurd h List.not_mem_nil

-- records()
def sX12_records : am_Sp := fun as n σ post => ∃ (mn : Int), n = 92 ∧ as = [.ref 51] ∧ FM mn σ ∧ ∀ τ : am_S, τ.1 79 49 = Int32.ofInt mn → post none τ
def xX12_records : am_X := (SH, KF, none, FT_X12, PT_X12, CT_X12, KT_X12, LT_X12, NT_X12, [(151, 0, 1, 12, 0, 0, sX12_keepsRow)])
theorem xX12_records_SH : am_SH xX12_records = SH := rfl
theorem xX12_records_KF : am_KF xX12_records = KF := rfl
theorem xX12_records_rt : am_rt xX12_records = none := rfl
theorem xX12_records_FT : am_FT xX12_records = FT_X12 := rfl
theorem xX12_records_PT : am_PT xX12_records = PT_X12 := rfl
theorem xX12_records_CT : am_CT xX12_records = CT_X12 := rfl
theorem xX12_records_KT : am_KT xX12_records = KT_X12 := rfl
theorem xX12_records_LT : am_LT xX12_records = LT_X12 := rfl
theorem xX12_records_NT : am_NT xX12_records = NT_X12 := rfl
theorem xX12_records_c151 : am_find (am_ML xX12_records) 151 = some (0, 1, 12, 0, 0, sX12_keepsRow) := rfl
theorem xX12_records_n151 : am_find NT_X12 151 = none := rfl
theorem xX12_records_t6 (k : Nat → Prop) : am_tg 6 (43) k = k 49 := am_tg_eq (by decide)
theorem xX12_records_t15 (k : Nat → Prop) : am_tg 15 (24) k = k 39 := am_tg_eq (by decide)
theorem xX12_records_t36 (k : Nat → Prop) : am_tg 36 (-25) k = k 11 := am_tg_eq (by decide)
theorem xX12_records_t54 (k : Nat → Prop) : am_tg 54 (29) k = k 83 := am_tg_eq (by decide)
theorem xX12_records_t80 (k : Nat → Prop) : am_tg 80 (-29) k = k 51 := am_tg_eq (by decide)

set_option maxRecDepth 100000 in
theorem rc_loop {post : Option Value → am_S → Prop} {AA : Nat → List (Option Value) → List Value → Nat → am_S → Prop} (hA : ∀ cuts f pc ls stk n τ, am_vc cX12_records xX12_records (92 + 0) post AA cuts f pc ls stk n τ → AA pc ls stk n τ) {mn : Int} (h : ∀ τ : am_S, τ.1 79 49 = Int32.ofInt mn → post none τ) : ∀ k : Nat, k ≤ 51 → ∀ σ, FM mn σ → AA 51 [some (.ref 51), some (.int (Int32.ofInt (k : Int)))] [] 92 σ := by
  refine am_up 51 fun k hk ih σ hF => ?_
  have e0 : σ.1 51 49 = Int32.ofInt 0 := hF.1.2.2.2.1
  refine hA [(51, 2)] 60 _ _ _ _ _ ?_
  try simp only [dX12_records_0, dX12_records_1, FT_X12_247, dX12_records_4, dX12_records_6, xX12_records_t6, dX12_records_9, dX12_records_10, dX12_records_11, dX12_records_12, dX12_records_15, xX12_records_t15, dX12_records_18, dX12_records_19, FT_X12_107, dX12_records_22, dX12_records_23, dX12_records_24, dX12_records_27, dX12_records_28, dX12_records_30, dX12_records_31, dX12_records_32, dX12_records_33, dX12_records_36, xX12_records_t36, dX12_records_39, dX12_records_40, dX12_records_41, dX12_records_44, dX12_records_45, dX12_records_46, PT_X12_247, dX12_records_49, dX12_records_50, dX12_records_51, dX12_records_52, dX12_records_54, xX12_records_t54, dX12_records_57, dX12_records_58, dX12_records_61, dX12_records_63, dX12_records_64, dX12_records_67, dX12_records_68, dX12_records_69, dX12_records_70, dX12_records_71, FT_X12_101, dX12_records_74, dX12_records_75, dX12_records_76, dX12_records_77, dX12_records_80, xX12_records_t80, dX12_records_83, dX12_records_84, dX12_records_85, dX12_records_88, dX12_records_89, dX12_records_90, dX12_records_93, dX12_records_94, xX12_records_c151, xX12_records_n151, dX12_records_97, xX12_records_SH, xX12_records_KF, xX12_records_rt, xX12_records_FT, xX12_records_PT, xX12_records_CT, xX12_records_KT, xX12_records_LT, xX12_records_NT, o_aload_n, o_bipush, o_dup, o_getfield, o_goto, o_iadd, o_iaload, o_iastore, o_iconst, o_if_icmp_ge, o_if_icmp_ne, o_iinc, o_iload_n, o_imul, o_invokevirtual, o_istore_n, o_isub, o_putfield, o_return_, o_sipush, SH_51, KF_51_50, SH_81, KF_51_45, SH_79, KF_51_49, am_ty, am_vc, am_opt, am_cl, am_find, am_ldi, am_ldl, am_lda, am_v, am_1, am_1l, am_1a, am_2, am_2l, am_ix, am_ri, am_arr, am_pf, am_rc, am_mask, am_lg, am_av, am_nat, fv_0, fv_1, fv_2, fv_3, fw_0, fw_1, List.getElem?_cons_zero, List.getElem?_cons_succ, List.set_cons_zero, List.set_cons_succ, List.length_cons, List.length_nil, List.take_succ_cons, List.take_zero, List.drop_succ_cons, List.drop_zero, List.reverse_cons, List.reverse_nil, List.nil_append, List.cons_append, List.append_nil, List.map_cons, List.map_nil, List.sum_cons, List.sum_nil, Value.category, Option.toList_some, Option.toList_none, Nat.reduceAdd, Nat.reduceLT, Nat.reduceLeDiff, Nat.reduceEqDiff, Nat.reduceSub, Nat.add_zero, Nat.le_refl, Nat.zero_le, Int.reduceNeg, Int.reduceLE, Int.reduceLT, true_and, and_true, and_self, if_true, if_false, ite_true, ite_false, eq_self_iff_true, reduceIte, reduceCtorEq, not_false_eq_true, not_true_eq_false, or_true, true_or, or_false, false_or, Nat.lt_irrefl, Nat.zero_lt_succ, e0]
  try simp (disch := omega) only [ii_0, ii_1, ii_t, ii_add, ii_sub, ii_mul, ii_lt, ii_le, ii_eq, ij_in, ii_c, Int.toNat_natCast, Int.toNat_zero, Int.reduceToNat, Int.reduceEq, Int.reduceNe, Int.reduceLE, Int.reduceLT, Int.reduceAdd, Int.reduceSub, Int.reduceMul, Int.reduceNeg, Nat.reduceLT, Nat.reduceAdd, Nat.reduceMul, not_false_eq_true, not_true_eq_false, true_and, and_true, and_self, false_and, and_false, true_implies, false_implies, implies_true, forall_const, if_true, if_false, ite_true, ite_false, reduceIte, eq_self_iff_true, Int.natCast_nonneg, Int.zero_add, Int.add_zero, pi_s, pi_n, ik_s]
  refine ⟨fun h1 => ?_, fun h1 => ?_⟩
  · refine ⟨rfl, rfl, fun τ t1 t2 t3 => ?_⟩
    try simp only [dX12_records_0, dX12_records_1, FT_X12_247, dX12_records_4, dX12_records_6, xX12_records_t6, dX12_records_9, dX12_records_10, dX12_records_11, dX12_records_12, dX12_records_15, xX12_records_t15, dX12_records_18, dX12_records_19, FT_X12_107, dX12_records_22, dX12_records_23, dX12_records_24, dX12_records_27, dX12_records_28, dX12_records_30, dX12_records_31, dX12_records_32, dX12_records_33, dX12_records_36, xX12_records_t36, dX12_records_39, dX12_records_40, dX12_records_41, dX12_records_44, dX12_records_45, dX12_records_46, PT_X12_247, dX12_records_49, dX12_records_50, dX12_records_51, dX12_records_52, dX12_records_54, xX12_records_t54, dX12_records_57, dX12_records_58, dX12_records_61, dX12_records_63, dX12_records_64, dX12_records_67, dX12_records_68, dX12_records_69, dX12_records_70, dX12_records_71, FT_X12_101, dX12_records_74, dX12_records_75, dX12_records_76, dX12_records_77, dX12_records_80, xX12_records_t80, dX12_records_83, dX12_records_84, dX12_records_85, dX12_records_88, dX12_records_89, dX12_records_90, dX12_records_93, dX12_records_94, xX12_records_c151, xX12_records_n151, dX12_records_97, xX12_records_SH, xX12_records_KF, xX12_records_rt, xX12_records_FT, xX12_records_PT, xX12_records_CT, xX12_records_KT, xX12_records_LT, xX12_records_NT, o_aload_n, o_bipush, o_dup, o_getfield, o_goto, o_iadd, o_iaload, o_iastore, o_iconst, o_if_icmp_ge, o_if_icmp_ne, o_iinc, o_iload_n, o_imul, o_invokevirtual, o_istore_n, o_isub, o_putfield, o_return_, o_sipush, SH_51, KF_51_50, SH_81, KF_51_45, SH_79, KF_51_49, am_ty, am_vc, am_opt, am_cl, am_find, am_ldi, am_ldl, am_lda, am_v, am_1, am_1l, am_1a, am_2, am_2l, am_ix, am_ri, am_arr, am_pf, am_rc, am_mask, am_lg, am_av, am_nat, fv_0, fv_1, fv_2, fv_3, fw_0, fw_1, List.getElem?_cons_zero, List.getElem?_cons_succ, List.set_cons_zero, List.set_cons_succ, List.length_cons, List.length_nil, List.take_succ_cons, List.take_zero, List.drop_succ_cons, List.drop_zero, List.reverse_cons, List.reverse_nil, List.nil_append, List.cons_append, List.append_nil, List.map_cons, List.map_nil, List.sum_cons, List.sum_nil, Value.category, Option.toList_some, Option.toList_none, Nat.reduceAdd, Nat.reduceLT, Nat.reduceLeDiff, Nat.reduceEqDiff, Nat.reduceSub, Nat.add_zero, Nat.le_refl, Nat.zero_le, Int.reduceNeg, Int.reduceLE, Int.reduceLT, true_and, and_true, and_self, if_true, if_false, ite_true, ite_false, eq_self_iff_true, reduceIte, reduceCtorEq, not_false_eq_true, not_true_eq_false, or_true, true_or, or_false, false_or, Nat.lt_irrefl, Nat.zero_lt_succ]
    refine h τ ?_
    rw [t1 49 (by decide), pi_n _ _ _ _ (by decide)]
    exact FM_min hF
  · exact ⟨by omega, by omega, ih (by omega) _ (FM_pi rfl hF)⟩
set_option maxRecDepth 100000 in
theorem pX12_records : am_B cX12_records xX12_records 2 0 sX12_records := by
  intro n0 as σ post AA hA h
  obtain ⟨mn, rfl, rfl, hF, h⟩ := h
  refine ⟨by simp [am_sl, Value.category], ?_⟩
  show AA 0 [some (.ref 51), none] [] 92 σ
  have e0 : σ.1 51 49 = Int32.ofInt 0 := hF.1.2.2.2.1
  refine hA [(51, 2), (11, 2)] 20 _ _ _ _ _ ?_
  try simp only [dX12_records_0, dX12_records_1, FT_X12_247, dX12_records_4, dX12_records_6, xX12_records_t6, dX12_records_9, dX12_records_10, dX12_records_11, dX12_records_12, dX12_records_15, xX12_records_t15, dX12_records_18, dX12_records_19, FT_X12_107, dX12_records_22, dX12_records_23, dX12_records_24, dX12_records_27, dX12_records_28, dX12_records_30, dX12_records_31, dX12_records_32, dX12_records_33, dX12_records_36, xX12_records_t36, dX12_records_39, dX12_records_40, dX12_records_41, dX12_records_44, dX12_records_45, dX12_records_46, PT_X12_247, dX12_records_49, dX12_records_50, dX12_records_51, dX12_records_52, dX12_records_54, xX12_records_t54, dX12_records_57, dX12_records_58, dX12_records_61, dX12_records_63, dX12_records_64, dX12_records_67, dX12_records_68, dX12_records_69, dX12_records_70, dX12_records_71, FT_X12_101, dX12_records_74, dX12_records_75, dX12_records_76, dX12_records_77, dX12_records_80, xX12_records_t80, dX12_records_83, dX12_records_84, dX12_records_85, dX12_records_88, dX12_records_89, dX12_records_90, dX12_records_93, dX12_records_94, xX12_records_c151, xX12_records_n151, dX12_records_97, xX12_records_SH, xX12_records_KF, xX12_records_rt, xX12_records_FT, xX12_records_PT, xX12_records_CT, xX12_records_KT, xX12_records_LT, xX12_records_NT, o_aload_n, o_bipush, o_dup, o_getfield, o_goto, o_iadd, o_iaload, o_iastore, o_iconst, o_if_icmp_ge, o_if_icmp_ne, o_iinc, o_iload_n, o_imul, o_invokevirtual, o_istore_n, o_isub, o_putfield, o_return_, o_sipush, SH_51, KF_51_50, SH_81, KF_51_45, SH_79, KF_51_49, am_ty, am_vc, am_opt, am_cl, am_find, am_ldi, am_ldl, am_lda, am_v, am_1, am_1l, am_1a, am_2, am_2l, am_ix, am_ri, am_arr, am_pf, am_rc, am_mask, am_lg, am_av, am_nat, fv_0, fv_1, fv_2, fv_3, fw_0, fw_1, List.getElem?_cons_zero, List.getElem?_cons_succ, List.set_cons_zero, List.set_cons_succ, List.length_cons, List.length_nil, List.take_succ_cons, List.take_zero, List.drop_succ_cons, List.drop_zero, List.reverse_cons, List.reverse_nil, List.nil_append, List.cons_append, List.append_nil, List.map_cons, List.map_nil, List.sum_cons, List.sum_nil, Value.category, Option.toList_some, Option.toList_none, Nat.reduceAdd, Nat.reduceLT, Nat.reduceLeDiff, Nat.reduceEqDiff, Nat.reduceSub, Nat.add_zero, Nat.le_refl, Nat.zero_le, Int.reduceNeg, Int.reduceLE, Int.reduceLT, true_and, and_true, and_self, if_true, if_false, ite_true, ite_false, eq_self_iff_true, reduceIte, reduceCtorEq, not_false_eq_true, not_true_eq_false, or_true, true_or, or_false, false_or, Nat.lt_irrefl, Nat.zero_lt_succ, e0]
  try simp (disch := omega) only [ii_0, ii_1, ii_t, ii_add, ii_sub, ii_mul, ii_lt, ii_le, ii_eq, ij_in, ii_c, Int.toNat_natCast, Int.toNat_zero, Int.reduceToNat, Int.reduceEq, Int.reduceNe, Int.reduceLE, Int.reduceLT, Int.reduceAdd, Int.reduceSub, Int.reduceMul, Int.reduceNeg, Nat.reduceLT, Nat.reduceAdd, Nat.reduceMul, not_false_eq_true, not_true_eq_false, true_and, and_true, and_self, false_and, and_false, true_implies, false_implies, implies_true, forall_const, if_true, if_false, ite_true, ite_false, reduceIte, eq_self_iff_true, Int.natCast_nonneg, Int.zero_add, Int.add_zero, pi_s, pi_n]
  exact rc_loop hA h 0 (by omega) σ hF
theorem mX12_records (l : Launch) : am_M l TB NB vwCl SH KF yX12_records cX12_records 2 none 3 0 0 sX12_records := by
  refine am_M.of xX12_records (by decide +kernel) TB_good GF rfl rfl rfl (by decide) ⟨FT_X12_ok, PT_X12_ok _, CT_X12_ok, KT_X12_ok, LT_X12_ok, NT_X12_ok, ?_⟩ pX12_records
  exact List.forall_mem_cons.mpr ⟨⟨yX12_keepsRow, cX12_keepsRow, 2, none, 2, 0, mX12_keepsRow l, by decide, by decide, tb_at 1315 (by decide +kernel) (by decide +kernel), tb_at 120 (by decide +kernel) (by decide +kernel), ⟨by decide +kernel, by decide +kernel, by decide +kernel⟩, rfl, tb_at 1312 (by decide +kernel) (by decide +kernel), tb_at 1314 (by decide +kernel) (by decide +kernel), ⟨(RX12, TX12, 63), rfl, tb_at 39 (by decide +kernel) (by decide +kernel)⟩⟩, fun _ h => absurd h List.not_mem_nil⟩

-- pours(w)
def sX12_cupOf : am_Sp := fun _ _ _ _ => False
theorem mX12_cupOf (l : Launch) : am_M l TB NB vwCl SH KF yX12_cupOf cX12_cupOf 3 (some .int) 4 0 0 sX12_cupOf := am_never

def sX12_pours : am_Sp := fun as n σ post => ∃ (w : Int32) (mn : Int), n = 92 ∧ as = [.ref 51, .int w] ∧ FM mn σ ∧ post (some (.int w)) σ
def xX12_pours : am_X := (SH, KF, (some .int), FT_X12, PT_X12, CT_X12, KT_X12, LT_X12, NT_X12, [(390, 0, 3, 12, 0, 0, sX12_cupOf)])
theorem xX12_pours_SH : am_SH xX12_pours = SH := rfl
theorem xX12_pours_KF : am_KF xX12_pours = KF := rfl
theorem xX12_pours_rt : am_rt xX12_pours = (some .int) := rfl
theorem xX12_pours_FT : am_FT xX12_pours = FT_X12 := rfl
theorem xX12_pours_PT : am_PT xX12_pours = PT_X12 := rfl
theorem xX12_pours_CT : am_CT xX12_pours = CT_X12 := rfl
theorem xX12_pours_KT : am_KT xX12_pours = KT_X12 := rfl
theorem xX12_pours_LT : am_LT xX12_pours = LT_X12 := rfl
theorem xX12_pours_NT : am_NT xX12_pours = NT_X12 := rfl
theorem xX12_pours_c390 : am_find (am_ML xX12_pours) 390 = some (0, 3, 12, 0, 0, sX12_cupOf) := rfl
theorem xX12_pours_n390 : am_find NT_X12 390 = none := rfl
theorem xX12_pours_t14 (k : Nat → Prop) : am_tg 14 (70) k = k 84 := am_tg_eq (by decide)
theorem xX12_pours_t31 (k : Nat → Prop) : am_tg 31 (47) k = k 78 := am_tg_eq (by decide)
theorem xX12_pours_t42 (k : Nat → Prop) : am_tg 42 (6) k = k 48 := am_tg_eq (by decide)
theorem xX12_pours_t45 (k : Nat → Prop) : am_tg 45 (27) k = k 72 := am_tg_eq (by decide)
theorem xX12_pours_t75 (k : Nat → Prop) : am_tg 75 (-55) k = k 20 := am_tg_eq (by decide)
theorem xX12_pours_t81 (k : Nat → Prop) : am_tg 81 (-77) k = k 4 := am_tg_eq (by decide)

set_option maxRecDepth 100000 in
theorem po_loop {post : Option Value → am_S → Prop} {AA : Nat → List (Option Value) → List Value → Nat → am_S → Prop} (hA : ∀ cuts f pc ls stk n τ, am_vc cX12_pours xX12_pours (92 + 0) post AA cuts f pc ls stk n τ → AA pc ls stk n τ) {mn : Int} {σ : am_S} {w : Int32} (hF : FM mn σ) (h : post (some (.int w)) σ) : ∀ k : Nat, k ≤ 8 → AA 4 [some (.ref 51), some (.int w), some (.int w), some (.int (Int32.ofInt (k : Int))), none] [] 92 σ := by
  obtain ⟨e1, e2, e3, e4⟩ := FM_e hF
  refine am_up 8 fun k hk ih => ?_
  refine hA [(4, 4), (20, 5)] 60 _ _ _ _ _ ?_
  try simp only [dX12_pours_0, dX12_pours_1, dX12_pours_2, dX12_pours_3, dX12_pours_4, dX12_pours_5, dX12_pours_6, FT_X12_43, dX12_pours_9, dX12_pours_10, FT_X12_221, dX12_pours_13, dX12_pours_14, xX12_pours_t14, dX12_pours_17, dX12_pours_18, dX12_pours_20, dX12_pours_22, dX12_pours_23, FT_X12_46, dX12_pours_26, dX12_pours_27, dX12_pours_30, dX12_pours_31, xX12_pours_t31, dX12_pours_34, dX12_pours_35, FT_X12_104, dX12_pours_38, dX12_pours_40, dX12_pours_41, dX12_pours_42, xX12_pours_t42, dX12_pours_45, xX12_pours_t45, dX12_pours_48, dX12_pours_49, FT_X12_110, dX12_pours_52, dX12_pours_54, dX12_pours_55, dX12_pours_57, dX12_pours_58, xX12_pours_c390, xX12_pours_n390, dX12_pours_61, dX12_pours_62, dX12_pours_63, dX12_pours_64, dX12_pours_67, dX12_pours_69, dX12_pours_70, dX12_pours_71, dX12_pours_72, dX12_pours_75, xX12_pours_t75, dX12_pours_78, dX12_pours_81, xX12_pours_t81, dX12_pours_84, dX12_pours_85, xX12_pours_SH, xX12_pours_KF, xX12_pours_rt, xX12_pours_FT, xX12_pours_PT, xX12_pours_CT, xX12_pours_KT, xX12_pours_LT, xX12_pours_NT, o_aload_n, o_getfield, o_goto, o_iaload, o_iastore, o_iconst, o_if_icmp_eq, o_if_icmp_ge, o_iinc, o_iload, o_iload_n, o_invokevirtual, o_ireturn, o_istore, o_istore_n, o_isub, SH_51, KF_51_22, SH_60, KF_51_51, SH_82, KF_51_18, KF_51_46, SH_80, KF_51_23, SH_61, am_ty, am_vc, am_opt, am_cl, am_find, am_ldi, am_ldl, am_lda, am_v, am_1, am_1l, am_1a, am_2, am_2l, am_ix, am_ri, am_arr, am_pf, am_rc, am_mask, am_lg, am_av, am_nat, fv_0, fv_1, fv_2, fv_3, fw_0, fw_1, List.getElem?_cons_zero, List.getElem?_cons_succ, List.set_cons_zero, List.set_cons_succ, List.length_cons, List.length_nil, List.take_succ_cons, List.take_zero, List.drop_succ_cons, List.drop_zero, List.reverse_cons, List.reverse_nil, List.nil_append, List.cons_append, List.append_nil, List.map_cons, List.map_nil, List.sum_cons, List.sum_nil, Value.category, Option.toList_some, Option.toList_none, Nat.reduceAdd, Nat.reduceLT, Nat.reduceLeDiff, Nat.reduceEqDiff, Nat.reduceSub, Nat.add_zero, Nat.le_refl, Nat.zero_le, Int.reduceNeg, Int.reduceLE, Int.reduceLT, true_and, and_true, and_self, if_true, if_false, ite_true, ite_false, eq_self_iff_true, reduceIte, reduceCtorEq, not_false_eq_true, not_true_eq_false, or_true, true_or, or_false, false_or, Nat.lt_irrefl, Nat.zero_lt_succ, e1]
  try simp (disch := omega) only [ii_0, ii_1, ii_t, ii_add, ii_sub, ii_mul, ii_lt, ii_le, ii_eq, ij_in, ii_c, Int.toNat_natCast, Int.toNat_zero, Int.reduceToNat, Int.reduceEq, Int.reduceNe, Int.reduceLE, Int.reduceLT, Int.reduceAdd, Int.reduceSub, Int.reduceMul, Int.reduceNeg, Nat.reduceLT, Nat.reduceAdd, Nat.reduceMul, not_false_eq_true, not_true_eq_false, true_and, and_true, and_self, false_and, and_false, true_implies, false_implies, implies_true, forall_const, if_true, if_false, ite_true, ite_false, reduceIte, eq_self_iff_true, Int.natCast_nonneg, Int.zero_add, Int.add_zero, pi_s, pi_n, e2]
  refine ⟨fun h1 => h, fun h1 => ?_⟩
  refine hA [(4, 4), (20, 5)] 60 _ _ _ _ _ ?_
  try simp only [dX12_pours_0, dX12_pours_1, dX12_pours_2, dX12_pours_3, dX12_pours_4, dX12_pours_5, dX12_pours_6, FT_X12_43, dX12_pours_9, dX12_pours_10, FT_X12_221, dX12_pours_13, dX12_pours_14, xX12_pours_t14, dX12_pours_17, dX12_pours_18, dX12_pours_20, dX12_pours_22, dX12_pours_23, FT_X12_46, dX12_pours_26, dX12_pours_27, dX12_pours_30, dX12_pours_31, xX12_pours_t31, dX12_pours_34, dX12_pours_35, FT_X12_104, dX12_pours_38, dX12_pours_40, dX12_pours_41, dX12_pours_42, xX12_pours_t42, dX12_pours_45, xX12_pours_t45, dX12_pours_48, dX12_pours_49, FT_X12_110, dX12_pours_52, dX12_pours_54, dX12_pours_55, dX12_pours_57, dX12_pours_58, xX12_pours_c390, xX12_pours_n390, dX12_pours_61, dX12_pours_62, dX12_pours_63, dX12_pours_64, dX12_pours_67, dX12_pours_69, dX12_pours_70, dX12_pours_71, dX12_pours_72, dX12_pours_75, xX12_pours_t75, dX12_pours_78, dX12_pours_81, xX12_pours_t81, dX12_pours_84, dX12_pours_85, xX12_pours_SH, xX12_pours_KF, xX12_pours_rt, xX12_pours_FT, xX12_pours_PT, xX12_pours_CT, xX12_pours_KT, xX12_pours_LT, xX12_pours_NT, o_aload_n, o_getfield, o_goto, o_iaload, o_iastore, o_iconst, o_if_icmp_eq, o_if_icmp_ge, o_iinc, o_iload, o_iload_n, o_invokevirtual, o_ireturn, o_istore, o_istore_n, o_isub, SH_51, KF_51_22, SH_60, KF_51_51, SH_82, KF_51_18, KF_51_46, SH_80, KF_51_23, SH_61, am_ty, am_vc, am_opt, am_cl, am_find, am_ldi, am_ldl, am_lda, am_v, am_1, am_1l, am_1a, am_2, am_2l, am_ix, am_ri, am_arr, am_pf, am_rc, am_mask, am_lg, am_av, am_nat, fv_0, fv_1, fv_2, fv_3, fw_0, fw_1, List.getElem?_cons_zero, List.getElem?_cons_succ, List.set_cons_zero, List.set_cons_succ, List.length_cons, List.length_nil, List.take_succ_cons, List.take_zero, List.drop_succ_cons, List.drop_zero, List.reverse_cons, List.reverse_nil, List.nil_append, List.cons_append, List.append_nil, List.map_cons, List.map_nil, List.sum_cons, List.sum_nil, Value.category, Option.toList_some, Option.toList_none, Nat.reduceAdd, Nat.reduceLT, Nat.reduceLeDiff, Nat.reduceEqDiff, Nat.reduceSub, Nat.add_zero, Nat.le_refl, Nat.zero_le, Int.reduceNeg, Int.reduceLE, Int.reduceLT, true_and, and_true, and_self, if_true, if_false, ite_true, ite_false, eq_self_iff_true, reduceIte, reduceCtorEq, not_false_eq_true, not_true_eq_false, or_true, true_or, or_false, false_or, Nat.lt_irrefl, Nat.zero_lt_succ, e1]
  try simp (disch := omega) only [ii_0, ii_1, ii_t, ii_add, ii_sub, ii_mul, ii_lt, ii_le, ii_eq, ij_in, ii_c, Int.toNat_natCast, Int.toNat_zero, Int.reduceToNat, Int.reduceEq, Int.reduceNe, Int.reduceLE, Int.reduceLT, Int.reduceAdd, Int.reduceSub, Int.reduceMul, Int.reduceNeg, Nat.reduceLT, Nat.reduceAdd, Nat.reduceMul, not_false_eq_true, not_true_eq_false, true_and, and_true, and_self, false_and, and_false, true_implies, false_implies, implies_true, forall_const, if_true, if_false, ite_true, ite_false, reduceIte, eq_self_iff_true, Int.natCast_nonneg, Int.zero_add, Int.add_zero, pi_s, pi_n, e3, ik_s]
  exact ih (by omega)
set_option maxRecDepth 100000 in
theorem pX12_pours : am_B cX12_pours xX12_pours 5 0 sX12_pours := by
  intro n0 as σ post AA hA h
  obtain ⟨w, mn, rfl, rfl, hF, h⟩ := h
  refine ⟨by simp [am_sl, Value.category], ?_⟩
  show AA 0 [some (.ref 51), some (.int w), none, none, none] [] 92 σ
  refine hA [(4, 4), (20, 5)] 20 _ _ _ _ _ ?_
  try simp only [dX12_pours_0, dX12_pours_1, dX12_pours_2, dX12_pours_3, dX12_pours_4, dX12_pours_5, dX12_pours_6, FT_X12_43, dX12_pours_9, dX12_pours_10, FT_X12_221, dX12_pours_13, dX12_pours_14, xX12_pours_t14, dX12_pours_17, dX12_pours_18, dX12_pours_20, dX12_pours_22, dX12_pours_23, FT_X12_46, dX12_pours_26, dX12_pours_27, dX12_pours_30, dX12_pours_31, xX12_pours_t31, dX12_pours_34, dX12_pours_35, FT_X12_104, dX12_pours_38, dX12_pours_40, dX12_pours_41, dX12_pours_42, xX12_pours_t42, dX12_pours_45, xX12_pours_t45, dX12_pours_48, dX12_pours_49, FT_X12_110, dX12_pours_52, dX12_pours_54, dX12_pours_55, dX12_pours_57, dX12_pours_58, xX12_pours_c390, xX12_pours_n390, dX12_pours_61, dX12_pours_62, dX12_pours_63, dX12_pours_64, dX12_pours_67, dX12_pours_69, dX12_pours_70, dX12_pours_71, dX12_pours_72, dX12_pours_75, xX12_pours_t75, dX12_pours_78, dX12_pours_81, xX12_pours_t81, dX12_pours_84, dX12_pours_85, xX12_pours_SH, xX12_pours_KF, xX12_pours_rt, xX12_pours_FT, xX12_pours_PT, xX12_pours_CT, xX12_pours_KT, xX12_pours_LT, xX12_pours_NT, o_aload_n, o_getfield, o_goto, o_iaload, o_iastore, o_iconst, o_if_icmp_eq, o_if_icmp_ge, o_iinc, o_iload, o_iload_n, o_invokevirtual, o_ireturn, o_istore, o_istore_n, o_isub, SH_51, KF_51_22, SH_60, KF_51_51, SH_82, KF_51_18, KF_51_46, SH_80, KF_51_23, SH_61, am_ty, am_vc, am_opt, am_cl, am_find, am_ldi, am_ldl, am_lda, am_v, am_1, am_1l, am_1a, am_2, am_2l, am_ix, am_ri, am_arr, am_pf, am_rc, am_mask, am_lg, am_av, am_nat, fv_0, fv_1, fv_2, fv_3, fw_0, fw_1, List.getElem?_cons_zero, List.getElem?_cons_succ, List.set_cons_zero, List.set_cons_succ, List.length_cons, List.length_nil, List.take_succ_cons, List.take_zero, List.drop_succ_cons, List.drop_zero, List.reverse_cons, List.reverse_nil, List.nil_append, List.cons_append, List.append_nil, List.map_cons, List.map_nil, List.sum_cons, List.sum_nil, Value.category, Option.toList_some, Option.toList_none, Nat.reduceAdd, Nat.reduceLT, Nat.reduceLeDiff, Nat.reduceEqDiff, Nat.reduceSub, Nat.add_zero, Nat.le_refl, Nat.zero_le, Int.reduceNeg, Int.reduceLE, Int.reduceLT, true_and, and_true, and_self, if_true, if_false, ite_true, ite_false, eq_self_iff_true, reduceIte, reduceCtorEq, not_false_eq_true, not_true_eq_false, or_true, true_or, or_false, false_or, Nat.lt_irrefl, Nat.zero_lt_succ]
  exact po_loop hA hF h 0 (by omega)
theorem mX12_pours (l : Launch) : am_M l TB NB vwCl SH KF yX12_pours cX12_pours 5 (some .int) 5 0 0 sX12_pours := by
  refine am_M.of xX12_pours (by decide +kernel) TB_good GF rfl rfl rfl (by decide) ⟨FT_X12_ok, PT_X12_ok _, CT_X12_ok, KT_X12_ok, LT_X12_ok, NT_X12_ok, ?_⟩ pX12_pours
  exact List.forall_mem_cons.mpr ⟨⟨yX12_cupOf, cX12_cupOf, 3, (some .int), 4, 2, mX12_cupOf l, by decide, by decide, tb_at 1718 (by decide +kernel) (by decide +kernel), tb_at 120 (by decide +kernel) (by decide +kernel), ⟨by decide +kernel, by decide +kernel, by decide +kernel⟩, rfl, tb_at 1715 (by decide +kernel) (by decide +kernel), tb_at 1717 (by decide +kernel) (by decide +kernel), ⟨(RX12, TX12, 63), rfl, tb_at 78 (by decide +kernel) (by decide +kernel)⟩⟩, fun _ h => absurd h List.not_mem_nil⟩

-- isWater, isLong, isWidth
def sX12_isWater : am_Sp := fun as _ σ post => ∃ v : Int, (-2147483648 ≤ v ∧ v < 2147483648) ∧ as = [.int (Int32.ofInt v)] ∧ post (some (.int (Int32.ofInt (if 0 ≤ v ∧ v ≤ 99 then 1 else 0)))) σ
def xX12_isWater : am_X := (SH, KF, (some .boolean), FT_X12, PT_X12, CT_X12, KT_X12, LT_X12, NT_X12, [(292, 1, 3, 12, 0, 0, sX12_in)])
theorem xX12_isWater_SH : am_SH xX12_isWater = SH := rfl
theorem xX12_isWater_KF : am_KF xX12_isWater = KF := rfl
theorem xX12_isWater_rt : am_rt xX12_isWater = (some .boolean) := rfl
theorem xX12_isWater_FT : am_FT xX12_isWater = FT_X12 := rfl
theorem xX12_isWater_PT : am_PT xX12_isWater = PT_X12 := rfl
theorem xX12_isWater_CT : am_CT xX12_isWater = CT_X12 := rfl
theorem xX12_isWater_KT : am_KT xX12_isWater = KT_X12 := rfl
theorem xX12_isWater_LT : am_LT xX12_isWater = LT_X12 := rfl
theorem xX12_isWater_NT : am_NT xX12_isWater = NT_X12 := rfl
theorem xX12_isWater_c292 : am_find (am_ML xX12_isWater) 292 = some (1, 3, 12, 0, 0, sX12_in) := rfl
theorem xX12_isWater_n292 : am_find NT_X12 292 = none := rfl

set_option maxRecDepth 100000 in
theorem pX12_isWater : am_B cX12_isWater xX12_isWater 1 0 sX12_isWater := by
  intro n0 as σ post AA hA h
  obtain ⟨v, hv, rfl, h⟩ := h
  refine ⟨by simp [am_sl, Value.category], ?_⟩
  show AA 0 [some (.int (Int32.ofInt v))] [] n0 σ
  refine hA [] 20 _ _ _ _ _ ?_
  try simp only [dX12_isWater_0, dX12_isWater_1, dX12_isWater_2, dX12_isWater_4, xX12_isWater_c292, xX12_isWater_n292, dX12_isWater_7, xX12_isWater_SH, xX12_isWater_KF, xX12_isWater_rt, xX12_isWater_FT, xX12_isWater_PT, xX12_isWater_CT, xX12_isWater_KT, xX12_isWater_LT, xX12_isWater_NT, o_bipush, o_iconst, o_iload_n, o_invokestatic, o_ireturn, am_ty, am_vc, am_opt, am_cl, am_find, am_ldi, am_ldl, am_lda, am_v, am_1, am_1l, am_1a, am_2, am_2l, am_ix, am_ri, am_arr, am_pf, am_rc, am_mask, am_lg, am_av, am_nat, fv_0, fv_1, fv_2, fv_3, fw_0, fw_1, List.getElem?_cons_zero, List.getElem?_cons_succ, List.set_cons_zero, List.set_cons_succ, List.length_cons, List.length_nil, List.take_succ_cons, List.take_zero, List.drop_succ_cons, List.drop_zero, List.reverse_cons, List.reverse_nil, List.nil_append, List.cons_append, List.append_nil, List.map_cons, List.map_nil, List.sum_cons, List.sum_nil, Value.category, Option.toList_some, Option.toList_none, Nat.reduceAdd, Nat.reduceLT, Nat.reduceLeDiff, Nat.reduceEqDiff, Nat.reduceSub, Nat.add_zero, Nat.le_refl, Nat.zero_le, Int.reduceNeg, Int.reduceLE, Int.reduceLT, true_and, and_true, and_self, if_true, if_false, ite_true, ite_false, eq_self_iff_true, reduceIte, reduceCtorEq, not_false_eq_true, not_true_eq_false, or_true, true_or, or_false, false_or, Nat.lt_irrefl, Nat.zero_lt_succ]
  refine ⟨v, 0, 99, hv, by omega, by omega, rfl, ?_⟩
  try simp only [dX12_isWater_0, dX12_isWater_1, dX12_isWater_2, dX12_isWater_4, xX12_isWater_c292, xX12_isWater_n292, dX12_isWater_7, xX12_isWater_SH, xX12_isWater_KF, xX12_isWater_rt, xX12_isWater_FT, xX12_isWater_PT, xX12_isWater_CT, xX12_isWater_KT, xX12_isWater_LT, xX12_isWater_NT, o_bipush, o_iconst, o_iload_n, o_invokestatic, o_ireturn, am_ty, am_vc, am_opt, am_cl, am_find, am_ldi, am_ldl, am_lda, am_v, am_1, am_1l, am_1a, am_2, am_2l, am_ix, am_ri, am_arr, am_pf, am_rc, am_mask, am_lg, am_av, am_nat, fv_0, fv_1, fv_2, fv_3, fw_0, fw_1, List.getElem?_cons_zero, List.getElem?_cons_succ, List.set_cons_zero, List.set_cons_succ, List.length_cons, List.length_nil, List.take_succ_cons, List.take_zero, List.drop_succ_cons, List.drop_zero, List.reverse_cons, List.reverse_nil, List.nil_append, List.cons_append, List.append_nil, List.map_cons, List.map_nil, List.sum_cons, List.sum_nil, Value.category, Option.toList_some, Option.toList_none, Nat.reduceAdd, Nat.reduceLT, Nat.reduceLeDiff, Nat.reduceEqDiff, Nat.reduceSub, Nat.add_zero, Nat.le_refl, Nat.zero_le, Int.reduceNeg, Int.reduceLE, Int.reduceLT, true_and, and_true, and_self, if_true, if_false, ite_true, ite_false, eq_self_iff_true, reduceIte, reduceCtorEq, not_false_eq_true, not_true_eq_false, or_true, true_or, or_false, false_or, Nat.lt_irrefl, Nat.zero_lt_succ]
  exact ⟨nb_if, h⟩
theorem mX12_isWater (l : Launch) : am_M l TB NB vwCl SH KF yX12_isWater cX12_isWater 1 (some .boolean) 3 0 0 sX12_isWater := by
  refine am_M.of xX12_isWater (by decide +kernel) TB_good GF rfl rfl rfl (by decide) ⟨FT_X12_ok, PT_X12_ok _, CT_X12_ok, KT_X12_ok, LT_X12_ok, NT_X12_ok, ?_⟩ pX12_isWater
  exact List.forall_mem_cons.mpr ⟨⟨yX12_in, cX12_in, 3, (some .boolean), 2, 3, mX12_in l, by decide, by decide, tb_at 1621 (by decide +kernel) (by decide +kernel), tb_at 120 (by decide +kernel) (by decide +kernel), ⟨by decide +kernel, by decide +kernel, by decide +kernel⟩, rfl, tb_at 1619 (by decide +kernel) (by decide +kernel), tb_at 1620 (by decide +kernel) (by decide +kernel)⟩, fun _ h => absurd h List.not_mem_nil⟩

def sX12_isLong : am_Sp := fun as _ σ post => ∃ v : Int, (-2147483648 ≤ v ∧ v < 2147483648) ∧ as = [.int (Int32.ofInt v)] ∧ post (some (.int (Int32.ofInt (if 0 ≤ v ∧ v ≤ 60 then 1 else 0)))) σ
def xX12_isLong : am_X := (SH, KF, (some .boolean), FT_X12, PT_X12, CT_X12, KT_X12, LT_X12, NT_X12, [(292, 1, 3, 12, 0, 0, sX12_in)])
theorem xX12_isLong_SH : am_SH xX12_isLong = SH := rfl
theorem xX12_isLong_KF : am_KF xX12_isLong = KF := rfl
theorem xX12_isLong_rt : am_rt xX12_isLong = (some .boolean) := rfl
theorem xX12_isLong_FT : am_FT xX12_isLong = FT_X12 := rfl
theorem xX12_isLong_PT : am_PT xX12_isLong = PT_X12 := rfl
theorem xX12_isLong_CT : am_CT xX12_isLong = CT_X12 := rfl
theorem xX12_isLong_KT : am_KT xX12_isLong = KT_X12 := rfl
theorem xX12_isLong_LT : am_LT xX12_isLong = LT_X12 := rfl
theorem xX12_isLong_NT : am_NT xX12_isLong = NT_X12 := rfl
theorem xX12_isLong_c292 : am_find (am_ML xX12_isLong) 292 = some (1, 3, 12, 0, 0, sX12_in) := rfl
theorem xX12_isLong_n292 : am_find NT_X12 292 = none := rfl

set_option maxRecDepth 100000 in
theorem pX12_isLong : am_B cX12_isLong xX12_isLong 1 0 sX12_isLong := by
  intro n0 as σ post AA hA h
  obtain ⟨v, hv, rfl, h⟩ := h
  refine ⟨by simp [am_sl, Value.category], ?_⟩
  show AA 0 [some (.int (Int32.ofInt v))] [] n0 σ
  refine hA [] 20 _ _ _ _ _ ?_
  try simp only [dX12_isLong_0, dX12_isLong_1, dX12_isLong_2, dX12_isLong_4, xX12_isLong_c292, xX12_isLong_n292, dX12_isLong_7, xX12_isLong_SH, xX12_isLong_KF, xX12_isLong_rt, xX12_isLong_FT, xX12_isLong_PT, xX12_isLong_CT, xX12_isLong_KT, xX12_isLong_LT, xX12_isLong_NT, o_bipush, o_iconst, o_iload_n, o_invokestatic, o_ireturn, am_ty, am_vc, am_opt, am_cl, am_find, am_ldi, am_ldl, am_lda, am_v, am_1, am_1l, am_1a, am_2, am_2l, am_ix, am_ri, am_arr, am_pf, am_rc, am_mask, am_lg, am_av, am_nat, fv_0, fv_1, fv_2, fv_3, fw_0, fw_1, List.getElem?_cons_zero, List.getElem?_cons_succ, List.set_cons_zero, List.set_cons_succ, List.length_cons, List.length_nil, List.take_succ_cons, List.take_zero, List.drop_succ_cons, List.drop_zero, List.reverse_cons, List.reverse_nil, List.nil_append, List.cons_append, List.append_nil, List.map_cons, List.map_nil, List.sum_cons, List.sum_nil, Value.category, Option.toList_some, Option.toList_none, Nat.reduceAdd, Nat.reduceLT, Nat.reduceLeDiff, Nat.reduceEqDiff, Nat.reduceSub, Nat.add_zero, Nat.le_refl, Nat.zero_le, Int.reduceNeg, Int.reduceLE, Int.reduceLT, true_and, and_true, and_self, if_true, if_false, ite_true, ite_false, eq_self_iff_true, reduceIte, reduceCtorEq, not_false_eq_true, not_true_eq_false, or_true, true_or, or_false, false_or, Nat.lt_irrefl, Nat.zero_lt_succ]
  refine ⟨v, 0, 60, hv, by omega, by omega, rfl, ?_⟩
  try simp only [dX12_isLong_0, dX12_isLong_1, dX12_isLong_2, dX12_isLong_4, xX12_isLong_c292, xX12_isLong_n292, dX12_isLong_7, xX12_isLong_SH, xX12_isLong_KF, xX12_isLong_rt, xX12_isLong_FT, xX12_isLong_PT, xX12_isLong_CT, xX12_isLong_KT, xX12_isLong_LT, xX12_isLong_NT, o_bipush, o_iconst, o_iload_n, o_invokestatic, o_ireturn, am_ty, am_vc, am_opt, am_cl, am_find, am_ldi, am_ldl, am_lda, am_v, am_1, am_1l, am_1a, am_2, am_2l, am_ix, am_ri, am_arr, am_pf, am_rc, am_mask, am_lg, am_av, am_nat, fv_0, fv_1, fv_2, fv_3, fw_0, fw_1, List.getElem?_cons_zero, List.getElem?_cons_succ, List.set_cons_zero, List.set_cons_succ, List.length_cons, List.length_nil, List.take_succ_cons, List.take_zero, List.drop_succ_cons, List.drop_zero, List.reverse_cons, List.reverse_nil, List.nil_append, List.cons_append, List.append_nil, List.map_cons, List.map_nil, List.sum_cons, List.sum_nil, Value.category, Option.toList_some, Option.toList_none, Nat.reduceAdd, Nat.reduceLT, Nat.reduceLeDiff, Nat.reduceEqDiff, Nat.reduceSub, Nat.add_zero, Nat.le_refl, Nat.zero_le, Int.reduceNeg, Int.reduceLE, Int.reduceLT, true_and, and_true, and_self, if_true, if_false, ite_true, ite_false, eq_self_iff_true, reduceIte, reduceCtorEq, not_false_eq_true, not_true_eq_false, or_true, true_or, or_false, false_or, Nat.lt_irrefl, Nat.zero_lt_succ]
  exact ⟨nb_if, h⟩
theorem mX12_isLong (l : Launch) : am_M l TB NB vwCl SH KF yX12_isLong cX12_isLong 1 (some .boolean) 3 0 0 sX12_isLong := by
  refine am_M.of xX12_isLong (by decide +kernel) TB_good GF rfl rfl rfl (by decide) ⟨FT_X12_ok, PT_X12_ok _, CT_X12_ok, KT_X12_ok, LT_X12_ok, NT_X12_ok, ?_⟩ pX12_isLong
  exact List.forall_mem_cons.mpr ⟨⟨yX12_in, cX12_in, 3, (some .boolean), 2, 3, mX12_in l, by decide, by decide, tb_at 1621 (by decide +kernel) (by decide +kernel), tb_at 120 (by decide +kernel) (by decide +kernel), ⟨by decide +kernel, by decide +kernel, by decide +kernel⟩, rfl, tb_at 1619 (by decide +kernel) (by decide +kernel), tb_at 1620 (by decide +kernel) (by decide +kernel)⟩, fun _ h => absurd h List.not_mem_nil⟩

def sX12_isWidth : am_Sp := fun as _ σ post => ∃ v : Int, (-2147483648 ≤ v ∧ v < 2147483648) ∧ as = [.int (Int32.ofInt v)] ∧ post (some (.int (Int32.ofInt (if 1 ≤ v ∧ v ≤ 9 then 1 else 0)))) σ
def xX12_isWidth : am_X := (SH, KF, (some .boolean), FT_X12, PT_X12, CT_X12, KT_X12, LT_X12, NT_X12, [(292, 1, 3, 12, 0, 0, sX12_in)])
theorem xX12_isWidth_SH : am_SH xX12_isWidth = SH := rfl
theorem xX12_isWidth_KF : am_KF xX12_isWidth = KF := rfl
theorem xX12_isWidth_rt : am_rt xX12_isWidth = (some .boolean) := rfl
theorem xX12_isWidth_FT : am_FT xX12_isWidth = FT_X12 := rfl
theorem xX12_isWidth_PT : am_PT xX12_isWidth = PT_X12 := rfl
theorem xX12_isWidth_CT : am_CT xX12_isWidth = CT_X12 := rfl
theorem xX12_isWidth_KT : am_KT xX12_isWidth = KT_X12 := rfl
theorem xX12_isWidth_LT : am_LT xX12_isWidth = LT_X12 := rfl
theorem xX12_isWidth_NT : am_NT xX12_isWidth = NT_X12 := rfl
theorem xX12_isWidth_c292 : am_find (am_ML xX12_isWidth) 292 = some (1, 3, 12, 0, 0, sX12_in) := rfl
theorem xX12_isWidth_n292 : am_find NT_X12 292 = none := rfl

set_option maxRecDepth 100000 in
theorem pX12_isWidth : am_B cX12_isWidth xX12_isWidth 1 0 sX12_isWidth := by
  intro n0 as σ post AA hA h
  obtain ⟨v, hv, rfl, h⟩ := h
  refine ⟨by simp [am_sl, Value.category], ?_⟩
  show AA 0 [some (.int (Int32.ofInt v))] [] n0 σ
  refine hA [] 20 _ _ _ _ _ ?_
  try simp only [dX12_isWidth_0, dX12_isWidth_1, dX12_isWidth_2, dX12_isWidth_4, xX12_isWidth_c292, xX12_isWidth_n292, dX12_isWidth_7, xX12_isWidth_SH, xX12_isWidth_KF, xX12_isWidth_rt, xX12_isWidth_FT, xX12_isWidth_PT, xX12_isWidth_CT, xX12_isWidth_KT, xX12_isWidth_LT, xX12_isWidth_NT, o_bipush, o_iconst, o_iload_n, o_invokestatic, o_ireturn, am_ty, am_vc, am_opt, am_cl, am_find, am_ldi, am_ldl, am_lda, am_v, am_1, am_1l, am_1a, am_2, am_2l, am_ix, am_ri, am_arr, am_pf, am_rc, am_mask, am_lg, am_av, am_nat, fv_0, fv_1, fv_2, fv_3, fw_0, fw_1, List.getElem?_cons_zero, List.getElem?_cons_succ, List.set_cons_zero, List.set_cons_succ, List.length_cons, List.length_nil, List.take_succ_cons, List.take_zero, List.drop_succ_cons, List.drop_zero, List.reverse_cons, List.reverse_nil, List.nil_append, List.cons_append, List.append_nil, List.map_cons, List.map_nil, List.sum_cons, List.sum_nil, Value.category, Option.toList_some, Option.toList_none, Nat.reduceAdd, Nat.reduceLT, Nat.reduceLeDiff, Nat.reduceEqDiff, Nat.reduceSub, Nat.add_zero, Nat.le_refl, Nat.zero_le, Int.reduceNeg, Int.reduceLE, Int.reduceLT, true_and, and_true, and_self, if_true, if_false, ite_true, ite_false, eq_self_iff_true, reduceIte, reduceCtorEq, not_false_eq_true, not_true_eq_false, or_true, true_or, or_false, false_or, Nat.lt_irrefl, Nat.zero_lt_succ]
  refine ⟨v, 1, 9, hv, by omega, by omega, rfl, ?_⟩
  try simp only [dX12_isWidth_0, dX12_isWidth_1, dX12_isWidth_2, dX12_isWidth_4, xX12_isWidth_c292, xX12_isWidth_n292, dX12_isWidth_7, xX12_isWidth_SH, xX12_isWidth_KF, xX12_isWidth_rt, xX12_isWidth_FT, xX12_isWidth_PT, xX12_isWidth_CT, xX12_isWidth_KT, xX12_isWidth_LT, xX12_isWidth_NT, o_bipush, o_iconst, o_iload_n, o_invokestatic, o_ireturn, am_ty, am_vc, am_opt, am_cl, am_find, am_ldi, am_ldl, am_lda, am_v, am_1, am_1l, am_1a, am_2, am_2l, am_ix, am_ri, am_arr, am_pf, am_rc, am_mask, am_lg, am_av, am_nat, fv_0, fv_1, fv_2, fv_3, fw_0, fw_1, List.getElem?_cons_zero, List.getElem?_cons_succ, List.set_cons_zero, List.set_cons_succ, List.length_cons, List.length_nil, List.take_succ_cons, List.take_zero, List.drop_succ_cons, List.drop_zero, List.reverse_cons, List.reverse_nil, List.nil_append, List.cons_append, List.append_nil, List.map_cons, List.map_nil, List.sum_cons, List.sum_nil, Value.category, Option.toList_some, Option.toList_none, Nat.reduceAdd, Nat.reduceLT, Nat.reduceLeDiff, Nat.reduceEqDiff, Nat.reduceSub, Nat.add_zero, Nat.le_refl, Nat.zero_le, Int.reduceNeg, Int.reduceLE, Int.reduceLT, true_and, and_true, and_self, if_true, if_false, ite_true, ite_false, eq_self_iff_true, reduceIte, reduceCtorEq, not_false_eq_true, not_true_eq_false, or_true, true_or, or_false, false_or, Nat.lt_irrefl, Nat.zero_lt_succ]
  exact ⟨nb_if, h⟩
theorem mX12_isWidth (l : Launch) : am_M l TB NB vwCl SH KF yX12_isWidth cX12_isWidth 1 (some .boolean) 3 0 0 sX12_isWidth := by
  refine am_M.of xX12_isWidth (by decide +kernel) TB_good GF rfl rfl rfl (by decide) ⟨FT_X12_ok, PT_X12_ok _, CT_X12_ok, KT_X12_ok, LT_X12_ok, NT_X12_ok, ?_⟩ pX12_isWidth
  exact List.forall_mem_cons.mpr ⟨⟨yX12_in, cX12_in, 3, (some .boolean), 2, 3, mX12_in l, by decide, by decide, tb_at 1621 (by decide +kernel) (by decide +kernel), tb_at 120 (by decide +kernel) (by decide +kernel), ⟨by decide +kernel, by decide +kernel, by decide +kernel⟩, rfl, tb_at 1619 (by decide +kernel) (by decide +kernel), tb_at 1620 (by decide +kernel) (by decide +kernel)⟩, fun _ h => absurd h List.not_mem_nil⟩

