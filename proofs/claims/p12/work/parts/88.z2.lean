/-! THE CLASS'S READER: its beginning. Printed from wip/am/chk/hand/z2.in. -/
theorem dX5_begin_0 : decode cX5_begin 0 = .ok (.aload_n 0, 1) := dk_ok (by decide +kernel)
theorem dX5_begin_1 : decode cX5_begin 1 = .ok (.getfield 21, 3) := dk_ok (by decide +kernel)
theorem dX5_begin_4 : decode cX5_begin 4 = .ok (.aload_n 1, 1) := dk_ok (by decide +kernel)
theorem dX5_begin_5 : decode cX5_begin 5 = .ok (.iload_n 2, 1) := dk_ok (by decide +kernel)
theorem dX5_begin_6 : decode cX5_begin 6 = .ok (.invokevirtual 55, 3) := dk_ok (by decide +kernel)
theorem dX5_begin_9 : decode cX5_begin 9 = .ok (.aload_n 0, 1) := dk_ok (by decide +kernel)
theorem dX5_begin_10 : decode cX5_begin 10 = .ok (.getfield 12, 3) := dk_ok (by decide +kernel)
theorem dX5_begin_13 : decode cX5_begin 13 = .ok (.invokevirtual 59, 3) := dk_ok (by decide +kernel)
theorem dX5_begin_16 : decode cX5_begin 16 = .ok (.aload_n 0, 1) := dk_ok (by decide +kernel)
theorem dX5_begin_17 : decode cX5_begin 17 = .ok (.iconst 0, 1) := dk_ok (by decide +kernel)
theorem dX5_begin_18 : decode cX5_begin 18 = .ok (.putfield 43, 3) := dk_ok (by decide +kernel)
theorem dX5_begin_21 : decode cX5_begin 21 = .ok (.aload_n 0, 1) := dk_ok (by decide +kernel)
theorem dX5_begin_22 : decode cX5_begin 22 = .ok (.iconst (-1), 1) := dk_ok (by decide +kernel)
theorem dX5_begin_23 : decode cX5_begin 23 = .ok (.putfield 46, 3) := dk_ok (by decide +kernel)
theorem dX5_begin_26 : decode cX5_begin 26 = .ok (.aload_n 0, 1) := dk_ok (by decide +kernel)
theorem dX5_begin_27 : decode cX5_begin 27 = .ok (.iconst 0, 1) := dk_ok (by decide +kernel)
theorem dX5_begin_28 : decode cX5_begin 28 = .ok (.putfield 49, 3) := dk_ok (by decide +kernel)
theorem dX5_begin_31 : decode cX5_begin 31 = .ok (.aload_n 0, 1) := dk_ok (by decide +kernel)
theorem dX5_begin_32 : decode cX5_begin 32 = .ok (.iconst (-1), 1) := dk_ok (by decide +kernel)
theorem dX5_begin_33 : decode cX5_begin 33 = .ok (.putfield 52, 3) := dk_ok (by decide +kernel)
theorem dX5_begin_36 : decode cX5_begin 36 = .ok (.aload_n 0, 1) := dk_ok (by decide +kernel)
theorem dX5_begin_37 : decode cX5_begin 37 = .ok (.iconst 0, 1) := dk_ok (by decide +kernel)
theorem dX5_begin_38 : decode cX5_begin 38 = .ok (.putfield 29, 3) := dk_ok (by decide +kernel)
theorem dX5_begin_41 : decode cX5_begin 41 = .ok (.aload_n 0, 1) := dk_ok (by decide +kernel)
theorem dX5_begin_42 : decode cX5_begin 42 = .ok (.aload_n 0, 1) := dk_ok (by decide +kernel)
theorem dX5_begin_43 : decode cX5_begin 43 = .ok (.getfield 21, 3) := dk_ok (by decide +kernel)
theorem dX5_begin_46 : decode cX5_begin 46 = .ok (.iconst 0, 1) := dk_ok (by decide +kernel)
theorem dX5_begin_47 : decode cX5_begin 47 = .ok (.invokevirtual 62, 3) := dk_ok (by decide +kernel)
theorem dX5_begin_50 : decode cX5_begin 50 = .ok (.putfield 33, 3) := dk_ok (by decide +kernel)
theorem dX5_begin_53 : decode cX5_begin 53 = .ok (.aload_n 0, 1) := dk_ok (by decide +kernel)
theorem dX5_begin_54 : decode cX5_begin 54 = .ok (.aload_n 0, 1) := dk_ok (by decide +kernel)
theorem dX5_begin_55 : decode cX5_begin 55 = .ok (.getfield 21, 3) := dk_ok (by decide +kernel)
theorem dX5_begin_58 : decode cX5_begin 58 = .ok (.iconst 0, 1) := dk_ok (by decide +kernel)
theorem dX5_begin_59 : decode cX5_begin 59 = .ok (.invokevirtual 66, 3) := dk_ok (by decide +kernel)
theorem dX5_begin_62 : decode cX5_begin 62 = .ok (.putfield 36, 3) := dk_ok (by decide +kernel)
theorem dX5_begin_65 : decode cX5_begin 65 = .ok (.aload_n 0, 1) := dk_ok (by decide +kernel)
theorem dX5_begin_66 : decode cX5_begin 66 = .ok (.aload_n 0, 1) := dk_ok (by decide +kernel)
theorem dX5_begin_67 : decode cX5_begin 67 = .ok (.getfield 21, 3) := dk_ok (by decide +kernel)
theorem dX5_begin_70 : decode cX5_begin 70 = .ok (.iconst 0, 1) := dk_ok (by decide +kernel)
theorem dX5_begin_71 : decode cX5_begin 71 = .ok (.invokevirtual 69, 3) := dk_ok (by decide +kernel)
theorem dX5_begin_74 : decode cX5_begin 74 = .ok (.putfield 39, 3) := dk_ok (by decide +kernel)
theorem dX5_begin_77 : decode cX5_begin 77 = .ok (.return_, 1) := dk_ok (by decide +kernel)

def x5M : sa_M := [(2, 0, 11)]
def rgM : sa_M := adM ++ tcM ++ x5M
def sX5_beginE : am_Sp := fun as n σ post => n = 92 ∧ sb_ok BB SH σ ∧ KC σ ∧ ∃ Z : Nat, Z ≤ 2000 ∧ as = [.ref 2, .ref 1, .int (Int32.ofInt (Z : Int))] ∧ ∀ τ, sI BB SH rgM σ τ → cST (bC σ) Z τ (.inl 0) → cU τ (0, -1) → cD τ dr0 → lS τ = 6 → post none τ
def xX5_beginE : am_X := (SH, KF, none, FT_X5, PT_X5, CT_X5, KT_X5, LT_X5, NT_X5, [(55, 0, 3, 8, 0, 0, sX8_splitE), (59, 0, 1, 9, 0, 0, sX9_clearE), (62, 0, 2, 8, 0, 0, sX8_kindOfE), (66, 0, 2, 8, 0, 0, sX8_placeOfE), (69, 0, 2, 8, 0, 0, sX8_worthOfE)])
theorem xX5_beginE_SH : am_SH xX5_beginE = SH := rfl
theorem xX5_beginE_KF : am_KF xX5_beginE = KF := rfl
theorem xX5_beginE_rt : am_rt xX5_beginE = none := rfl
theorem xX5_beginE_FT : am_FT xX5_beginE = FT_X5 := rfl
theorem xX5_beginE_PT : am_PT xX5_beginE = PT_X5 := rfl
theorem xX5_beginE_CT : am_CT xX5_beginE = CT_X5 := rfl
theorem xX5_beginE_KT : am_KT xX5_beginE = KT_X5 := rfl
theorem xX5_beginE_LT : am_LT xX5_beginE = LT_X5 := rfl
theorem xX5_beginE_NT : am_NT xX5_beginE = NT_X5 := rfl
theorem xX5_beginE_c55 : am_find (am_ML xX5_beginE) 55 = some (0, 3, 8, 0, 0, sX8_splitE) := rfl
theorem xX5_beginE_n55 : am_find NT_X5 55 = none := rfl
theorem xX5_beginE_c59 : am_find (am_ML xX5_beginE) 59 = some (0, 1, 9, 0, 0, sX9_clearE) := rfl
theorem xX5_beginE_n59 : am_find NT_X5 59 = none := rfl
theorem xX5_beginE_c62 : am_find (am_ML xX5_beginE) 62 = some (0, 2, 8, 0, 0, sX8_kindOfE) := rfl
theorem xX5_beginE_n62 : am_find NT_X5 62 = none := rfl
theorem xX5_beginE_c66 : am_find (am_ML xX5_beginE) 66 = some (0, 2, 8, 0, 0, sX8_placeOfE) := rfl
theorem xX5_beginE_n66 : am_find NT_X5 66 = none := rfl
theorem xX5_beginE_c69 : am_find (am_ML xX5_beginE) 69 = some (0, 2, 8, 0, 0, sX8_worthOfE) := rfl
theorem xX5_beginE_n69 : am_find NT_X5 69 = none := rfl

set_option maxRecDepth 100000 in
theorem ptX5_beginE : am_B cX5_begin xX5_beginE 3 0 sX5_beginE := by
  intro n0 as σ post AA hA h
  obtain ⟨rfl, hB, hK, Z, hZ, rfl, h⟩ := h
  refine ⟨by simp [am_sl, Value.category], ?_⟩
  show AA 0 [some (.ref 2), some (.ref 1), some (.int (Int32.ofInt (Z : Int)))] [] 92 σ
  refine hA [] 60 _ _ _ _ _ ?_
  try simp only [dX5_begin_0, dX5_begin_1, FT_X5_21, dX5_begin_4, dX5_begin_5, dX5_begin_6, xX5_beginE_c55, xX5_beginE_n55, dX5_begin_9, dX5_begin_10, FT_X5_12, dX5_begin_13, xX5_beginE_c59, xX5_beginE_n59, dX5_begin_16, dX5_begin_17, dX5_begin_18, PT_X5_43, dX5_begin_21, dX5_begin_22, dX5_begin_23, PT_X5_46, dX5_begin_26, dX5_begin_27, dX5_begin_28, PT_X5_49, dX5_begin_31, dX5_begin_32, dX5_begin_33, PT_X5_52, dX5_begin_36, dX5_begin_37, dX5_begin_38, PT_X5_29, dX5_begin_41, dX5_begin_42, dX5_begin_43, dX5_begin_46, dX5_begin_47, xX5_beginE_c62, xX5_beginE_n62, dX5_begin_50, PT_X5_33, dX5_begin_53, dX5_begin_54, dX5_begin_55, dX5_begin_58, dX5_begin_59, xX5_beginE_c66, xX5_beginE_n66, dX5_begin_62, PT_X5_36, dX5_begin_65, dX5_begin_66, dX5_begin_67, dX5_begin_70, dX5_begin_71, xX5_beginE_c69, xX5_beginE_n69, dX5_begin_74, PT_X5_39, dX5_begin_77, xX5_beginE_SH, xX5_beginE_KF, xX5_beginE_rt, xX5_beginE_FT, xX5_beginE_PT, xX5_beginE_CT, xX5_beginE_KT, xX5_beginE_LT, xX5_beginE_NT, o_aload_n, o_getfield, o_iconst, o_iload_n, o_invokevirtual, o_putfield, o_return_, SH_2, KF_2_0, SH_3, KF_2_1, SH_14, KF_2_10, KF_2_3, KF_2_4, KF_2_5, KF_2_6, KF_2_7, KF_2_8, KF_2_9, SH_20, am_ty, am_vc, am_opt, am_cl, am_find, am_ldi, am_ldl, am_lda, am_v, am_1, am_1l, am_1a, am_2, am_2l, am_ix, am_ri, am_arr, am_pf, am_rc, am_mask, am_lg, am_av, am_nat, fv_0, fv_1, fv_2, fv_3, fw_0, fw_1, List.getElem?_cons_zero, List.getElem?_cons_succ, List.set_cons_zero, List.set_cons_succ, List.length_cons, List.length_nil, List.take_succ_cons, List.take_zero, List.drop_succ_cons, List.drop_zero, List.reverse_cons, List.reverse_nil, List.nil_append, List.cons_append, List.append_nil, List.map_cons, List.map_nil, List.sum_cons, List.sum_nil, Value.category, Option.toList_some, Option.toList_none, Nat.reduceAdd, Nat.reduceLT, Nat.reduceLeDiff, Nat.reduceEqDiff, Nat.reduceSub, Nat.add_zero, Nat.le_refl, Nat.zero_le, Int.reduceNeg, Int.reduceLE, Int.reduceLT, true_and, and_true, and_self, if_true, if_false, ite_true, ite_false, eq_self_iff_true, reduceIte, reduceCtorEq, not_false_eq_true, not_true_eq_false, or_true, true_or, or_false, false_or, Nat.lt_irrefl, Nat.zero_lt_succ, SH_1]
  refine ⟨rfl, hB, hK, Z, hZ, rfl, fun τ1 a1 a2 => ?_⟩
  try simp only [dX5_begin_0, dX5_begin_1, FT_X5_21, dX5_begin_4, dX5_begin_5, dX5_begin_6, xX5_beginE_c55, xX5_beginE_n55, dX5_begin_9, dX5_begin_10, FT_X5_12, dX5_begin_13, xX5_beginE_c59, xX5_beginE_n59, dX5_begin_16, dX5_begin_17, dX5_begin_18, PT_X5_43, dX5_begin_21, dX5_begin_22, dX5_begin_23, PT_X5_46, dX5_begin_26, dX5_begin_27, dX5_begin_28, PT_X5_49, dX5_begin_31, dX5_begin_32, dX5_begin_33, PT_X5_52, dX5_begin_36, dX5_begin_37, dX5_begin_38, PT_X5_29, dX5_begin_41, dX5_begin_42, dX5_begin_43, dX5_begin_46, dX5_begin_47, xX5_beginE_c62, xX5_beginE_n62, dX5_begin_50, PT_X5_33, dX5_begin_53, dX5_begin_54, dX5_begin_55, dX5_begin_58, dX5_begin_59, xX5_beginE_c66, xX5_beginE_n66, dX5_begin_62, PT_X5_36, dX5_begin_65, dX5_begin_66, dX5_begin_67, dX5_begin_70, dX5_begin_71, xX5_beginE_c69, xX5_beginE_n69, dX5_begin_74, PT_X5_39, dX5_begin_77, xX5_beginE_SH, xX5_beginE_KF, xX5_beginE_rt, xX5_beginE_FT, xX5_beginE_PT, xX5_beginE_CT, xX5_beginE_KT, xX5_beginE_LT, xX5_beginE_NT, o_aload_n, o_getfield, o_iconst, o_iload_n, o_invokevirtual, o_putfield, o_return_, SH_2, KF_2_0, SH_3, KF_2_1, SH_14, KF_2_10, KF_2_3, KF_2_4, KF_2_5, KF_2_6, KF_2_7, KF_2_8, KF_2_9, SH_20, am_ty, am_vc, am_opt, am_cl, am_find, am_ldi, am_ldl, am_lda, am_v, am_1, am_1l, am_1a, am_2, am_2l, am_ix, am_ri, am_arr, am_pf, am_rc, am_mask, am_lg, am_av, am_nat, fv_0, fv_1, fv_2, fv_3, fw_0, fw_1, List.getElem?_cons_zero, List.getElem?_cons_succ, List.set_cons_zero, List.set_cons_succ, List.length_cons, List.length_nil, List.take_succ_cons, List.take_zero, List.drop_succ_cons, List.drop_zero, List.reverse_cons, List.reverse_nil, List.nil_append, List.cons_append, List.append_nil, List.map_cons, List.map_nil, List.sum_cons, List.sum_nil, Value.category, Option.toList_some, Option.toList_none, Nat.reduceAdd, Nat.reduceLT, Nat.reduceLeDiff, Nat.reduceEqDiff, Nat.reduceSub, Nat.add_zero, Nat.le_refl, Nat.zero_le, Int.reduceNeg, Int.reduceLE, Int.reduceLT, true_and, and_true, and_self, if_true, if_false, ite_true, ite_false, eq_self_iff_true, reduceIte, reduceCtorEq, not_false_eq_true, not_true_eq_false, or_true, true_or, or_false, false_or, Nat.lt_irrefl, Nat.zero_lt_succ, SH_1]
  refine ⟨rfl, a1.1, rfl, fun τ2 b1 b2 b3 => ?_⟩
  have put : ∀ {τ : am_S} (k : Nat) (x : Int32), 3 ≤ k → k < 11 → sI BB SH x5M τ2 τ → (∀ k, k < 11 → BB.2 2 k = (-2147483648, 2147483647)) → sI BB SH x5M τ2 (am_pi τ 2 k x) := fun k x h1 h2 g hb => sI_fld (ci := 5) g rfl (by rw [hb k h2]; exact ⟨ii_lo _, by have := ii_hi x; show _ ≤ (2147483647 : Int); omega⟩) ⟨_, List.mem_cons_self, rfl, Nat.zero_le _, h2⟩
  have hbb : ∀ k, k < 11 → BB.2 2 k = (-2147483648, 2147483647) := by decide
  have i0 : sI BB SH x5M τ2 τ2 := ⟨b1.1, sb_fr_r _ _⟩
  have i1 := put 7 (Int32.ofInt 0) (by decide) (by decide) i0 hbb
  have i2 := put 8 (Int32.ofInt (-1)) (by decide) (by decide) i1 hbb
  have i3 := put 9 (Int32.ofInt 0) (by decide) (by decide) i2 hbb
  have i4 := put 10 (Int32.ofInt (-1)) (by decide) (by decide) i3 hbb
  have i5 := put 3 (Int32.ofInt 0) (by decide) (by decide) i4 hbb
  have f1 : (am_pi (am_pi (am_pi (am_pi (am_pi τ2 2 7 (Int32.ofInt 0)) 2 8 (Int32.ofInt (-1))) 2 9 (Int32.ofInt 0)) 2 10 (Int32.ofInt (-1))) 2 3 (Int32.ofInt 0)).1 2 7 = Int32.ofInt 0 := by
    rw [pi_n _ _ _ _ (fun z => absurd z.2 (by decide)), pi_n _ _ _ _ (fun z => absurd z.2 (by decide)), pi_n _ _ _ _ (fun z => absurd z.2 (by decide)), pi_n _ _ _ _ (fun z => absurd z.2 (by decide)), pi_s]
  have f2 : (am_pi (am_pi (am_pi (am_pi (am_pi τ2 2 7 (Int32.ofInt 0)) 2 8 (Int32.ofInt (-1))) 2 9 (Int32.ofInt 0)) 2 10 (Int32.ofInt (-1))) 2 3 (Int32.ofInt 0)).1 2 9 = Int32.ofInt 0 := by
    rw [pi_n _ _ _ _ (fun z => absurd z.2 (by decide)), pi_n _ _ _ _ (fun z => absurd z.2 (by decide)), pi_s]
  have f3 : (am_pi (am_pi (am_pi (am_pi (am_pi τ2 2 7 (Int32.ofInt 0)) 2 8 (Int32.ofInt (-1))) 2 9 (Int32.ofInt 0)) 2 10 (Int32.ofInt (-1))) 2 3 (Int32.ofInt 0)).1 2 10 = Int32.ofInt (-1) := by
    rw [pi_n _ _ _ _ (fun z => absurd z.2 (by decide)), pi_s]
  have f4 : (am_pi (am_pi (am_pi (am_pi (am_pi τ2 2 7 (Int32.ofInt 0)) 2 8 (Int32.ofInt (-1))) 2 9 (Int32.ofInt 0)) 2 10 (Int32.ofInt (-1))) 2 3 (Int32.ofInt 0)).1 2 3 = Int32.ofInt 0 := pi_s _ _ _ _
  try simp only [dX5_begin_0, dX5_begin_1, FT_X5_21, dX5_begin_4, dX5_begin_5, dX5_begin_6, xX5_beginE_c55, xX5_beginE_n55, dX5_begin_9, dX5_begin_10, FT_X5_12, dX5_begin_13, xX5_beginE_c59, xX5_beginE_n59, dX5_begin_16, dX5_begin_17, dX5_begin_18, PT_X5_43, dX5_begin_21, dX5_begin_22, dX5_begin_23, PT_X5_46, dX5_begin_26, dX5_begin_27, dX5_begin_28, PT_X5_49, dX5_begin_31, dX5_begin_32, dX5_begin_33, PT_X5_52, dX5_begin_36, dX5_begin_37, dX5_begin_38, PT_X5_29, dX5_begin_41, dX5_begin_42, dX5_begin_43, dX5_begin_46, dX5_begin_47, xX5_beginE_c62, xX5_beginE_n62, dX5_begin_50, PT_X5_33, dX5_begin_53, dX5_begin_54, dX5_begin_55, dX5_begin_58, dX5_begin_59, xX5_beginE_c66, xX5_beginE_n66, dX5_begin_62, PT_X5_36, dX5_begin_65, dX5_begin_66, dX5_begin_67, dX5_begin_70, dX5_begin_71, xX5_beginE_c69, xX5_beginE_n69, dX5_begin_74, PT_X5_39, dX5_begin_77, xX5_beginE_SH, xX5_beginE_KF, xX5_beginE_rt, xX5_beginE_FT, xX5_beginE_PT, xX5_beginE_CT, xX5_beginE_KT, xX5_beginE_LT, xX5_beginE_NT, o_aload_n, o_getfield, o_iconst, o_iload_n, o_invokevirtual, o_putfield, o_return_, SH_2, KF_2_0, SH_3, KF_2_1, SH_14, KF_2_10, KF_2_3, KF_2_4, KF_2_5, KF_2_6, KF_2_7, KF_2_8, KF_2_9, SH_20, am_ty, am_vc, am_opt, am_cl, am_find, am_ldi, am_ldl, am_lda, am_v, am_1, am_1l, am_1a, am_2, am_2l, am_ix, am_ri, am_arr, am_pf, am_rc, am_mask, am_lg, am_av, am_nat, fv_0, fv_1, fv_2, fv_3, fw_0, fw_1, List.getElem?_cons_zero, List.getElem?_cons_succ, List.set_cons_zero, List.set_cons_succ, List.length_cons, List.length_nil, List.take_succ_cons, List.take_zero, List.drop_succ_cons, List.drop_zero, List.reverse_cons, List.reverse_nil, List.nil_append, List.cons_append, List.append_nil, List.map_cons, List.map_nil, List.sum_cons, List.sum_nil, Value.category, Option.toList_some, Option.toList_none, Nat.reduceAdd, Nat.reduceLT, Nat.reduceLeDiff, Nat.reduceEqDiff, Nat.reduceSub, Nat.add_zero, Nat.le_refl, Nat.zero_le, Int.reduceNeg, Int.reduceLE, Int.reduceLT, true_and, and_true, and_self, if_true, if_false, ite_true, ite_false, eq_self_iff_true, reduceIte, reduceCtorEq, not_false_eq_true, not_true_eq_false, or_true, true_or, or_false, false_or, Nat.lt_irrefl, Nat.zero_lt_succ, SH_1]
  generalize am_pi (am_pi (am_pi (am_pi (am_pi τ2 2 7 (Int32.ofInt 0)) 2 8 (Int32.ofInt (-1))) 2 9 (Int32.ofInt 0)) 2 10 (Int32.ofInt (-1))) 2 3 (Int32.ofInt 0) = s5 at *
  have v2 := wVC_sI a2 b1 (by decide)
  have v5 := wVC_sI v2 i5 (by decide)
  refine ⟨rfl, bC σ, Z, 0, by decide, v5.1.2, v5.2 0 (by decide) (fun i hi => absurd hi (Nat.not_lt_zero _)), rfl, ?_⟩
  have i6 := put 4 (Int32.ofInt (ck (tK (bC σ) Z 0))) (by decide) (by decide) i5 hbb
  have v6 := wVC_sI v2 i6 (by decide)
  try simp only [dX5_begin_0, dX5_begin_1, FT_X5_21, dX5_begin_4, dX5_begin_5, dX5_begin_6, xX5_beginE_c55, xX5_beginE_n55, dX5_begin_9, dX5_begin_10, FT_X5_12, dX5_begin_13, xX5_beginE_c59, xX5_beginE_n59, dX5_begin_16, dX5_begin_17, dX5_begin_18, PT_X5_43, dX5_begin_21, dX5_begin_22, dX5_begin_23, PT_X5_46, dX5_begin_26, dX5_begin_27, dX5_begin_28, PT_X5_49, dX5_begin_31, dX5_begin_32, dX5_begin_33, PT_X5_52, dX5_begin_36, dX5_begin_37, dX5_begin_38, PT_X5_29, dX5_begin_41, dX5_begin_42, dX5_begin_43, dX5_begin_46, dX5_begin_47, xX5_beginE_c62, xX5_beginE_n62, dX5_begin_50, PT_X5_33, dX5_begin_53, dX5_begin_54, dX5_begin_55, dX5_begin_58, dX5_begin_59, xX5_beginE_c66, xX5_beginE_n66, dX5_begin_62, PT_X5_36, dX5_begin_65, dX5_begin_66, dX5_begin_67, dX5_begin_70, dX5_begin_71, xX5_beginE_c69, xX5_beginE_n69, dX5_begin_74, PT_X5_39, dX5_begin_77, xX5_beginE_SH, xX5_beginE_KF, xX5_beginE_rt, xX5_beginE_FT, xX5_beginE_PT, xX5_beginE_CT, xX5_beginE_KT, xX5_beginE_LT, xX5_beginE_NT, o_aload_n, o_getfield, o_iconst, o_iload_n, o_invokevirtual, o_putfield, o_return_, SH_2, KF_2_0, SH_3, KF_2_1, SH_14, KF_2_10, KF_2_3, KF_2_4, KF_2_5, KF_2_6, KF_2_7, KF_2_8, KF_2_9, SH_20, am_ty, am_vc, am_opt, am_cl, am_find, am_ldi, am_ldl, am_lda, am_v, am_1, am_1l, am_1a, am_2, am_2l, am_ix, am_ri, am_arr, am_pf, am_rc, am_mask, am_lg, am_av, am_nat, fv_0, fv_1, fv_2, fv_3, fw_0, fw_1, List.getElem?_cons_zero, List.getElem?_cons_succ, List.set_cons_zero, List.set_cons_succ, List.length_cons, List.length_nil, List.take_succ_cons, List.take_zero, List.drop_succ_cons, List.drop_zero, List.reverse_cons, List.reverse_nil, List.nil_append, List.cons_append, List.append_nil, List.map_cons, List.map_nil, List.sum_cons, List.sum_nil, Value.category, Option.toList_some, Option.toList_none, Nat.reduceAdd, Nat.reduceLT, Nat.reduceLeDiff, Nat.reduceEqDiff, Nat.reduceSub, Nat.add_zero, Nat.le_refl, Nat.zero_le, Int.reduceNeg, Int.reduceLE, Int.reduceLT, true_and, and_true, and_self, if_true, if_false, ite_true, ite_false, eq_self_iff_true, reduceIte, reduceCtorEq, not_false_eq_true, not_true_eq_false, or_true, true_or, or_false, false_or, Nat.lt_irrefl, Nat.zero_lt_succ, SH_1]
  refine ⟨rfl, bC σ, Z, 0, by decide, v6.2 0 (by decide) (fun i hi => absurd hi (Nat.not_lt_zero _)), rfl, ?_⟩
  have i7 := put 5 (Int32.ofInt (tP (bC σ) Z 0)) (by decide) (by decide) i6 hbb
  have v7 := wVC_sI v2 i7 (by decide)
  try simp only [dX5_begin_0, dX5_begin_1, FT_X5_21, dX5_begin_4, dX5_begin_5, dX5_begin_6, xX5_beginE_c55, xX5_beginE_n55, dX5_begin_9, dX5_begin_10, FT_X5_12, dX5_begin_13, xX5_beginE_c59, xX5_beginE_n59, dX5_begin_16, dX5_begin_17, dX5_begin_18, PT_X5_43, dX5_begin_21, dX5_begin_22, dX5_begin_23, PT_X5_46, dX5_begin_26, dX5_begin_27, dX5_begin_28, PT_X5_49, dX5_begin_31, dX5_begin_32, dX5_begin_33, PT_X5_52, dX5_begin_36, dX5_begin_37, dX5_begin_38, PT_X5_29, dX5_begin_41, dX5_begin_42, dX5_begin_43, dX5_begin_46, dX5_begin_47, xX5_beginE_c62, xX5_beginE_n62, dX5_begin_50, PT_X5_33, dX5_begin_53, dX5_begin_54, dX5_begin_55, dX5_begin_58, dX5_begin_59, xX5_beginE_c66, xX5_beginE_n66, dX5_begin_62, PT_X5_36, dX5_begin_65, dX5_begin_66, dX5_begin_67, dX5_begin_70, dX5_begin_71, xX5_beginE_c69, xX5_beginE_n69, dX5_begin_74, PT_X5_39, dX5_begin_77, xX5_beginE_SH, xX5_beginE_KF, xX5_beginE_rt, xX5_beginE_FT, xX5_beginE_PT, xX5_beginE_CT, xX5_beginE_KT, xX5_beginE_LT, xX5_beginE_NT, o_aload_n, o_getfield, o_iconst, o_iload_n, o_invokevirtual, o_putfield, o_return_, SH_2, KF_2_0, SH_3, KF_2_1, SH_14, KF_2_10, KF_2_3, KF_2_4, KF_2_5, KF_2_6, KF_2_7, KF_2_8, KF_2_9, SH_20, am_ty, am_vc, am_opt, am_cl, am_find, am_ldi, am_ldl, am_lda, am_v, am_1, am_1l, am_1a, am_2, am_2l, am_ix, am_ri, am_arr, am_pf, am_rc, am_mask, am_lg, am_av, am_nat, fv_0, fv_1, fv_2, fv_3, fw_0, fw_1, List.getElem?_cons_zero, List.getElem?_cons_succ, List.set_cons_zero, List.set_cons_succ, List.length_cons, List.length_nil, List.take_succ_cons, List.take_zero, List.drop_succ_cons, List.drop_zero, List.reverse_cons, List.reverse_nil, List.nil_append, List.cons_append, List.append_nil, List.map_cons, List.map_nil, List.sum_cons, List.sum_nil, Value.category, Option.toList_some, Option.toList_none, Nat.reduceAdd, Nat.reduceLT, Nat.reduceLeDiff, Nat.reduceEqDiff, Nat.reduceSub, Nat.add_zero, Nat.le_refl, Nat.zero_le, Int.reduceNeg, Int.reduceLE, Int.reduceLT, true_and, and_true, and_self, if_true, if_false, ite_true, ite_false, eq_self_iff_true, reduceIte, reduceCtorEq, not_false_eq_true, not_true_eq_false, or_true, true_or, or_false, false_or, Nat.lt_irrefl, Nat.zero_lt_succ, SH_1]
  refine ⟨rfl, 0, by decide, rfl, ?_⟩
  try simp only [dX5_begin_0, dX5_begin_1, FT_X5_21, dX5_begin_4, dX5_begin_5, dX5_begin_6, xX5_beginE_c55, xX5_beginE_n55, dX5_begin_9, dX5_begin_10, FT_X5_12, dX5_begin_13, xX5_beginE_c59, xX5_beginE_n59, dX5_begin_16, dX5_begin_17, dX5_begin_18, PT_X5_43, dX5_begin_21, dX5_begin_22, dX5_begin_23, PT_X5_46, dX5_begin_26, dX5_begin_27, dX5_begin_28, PT_X5_49, dX5_begin_31, dX5_begin_32, dX5_begin_33, PT_X5_52, dX5_begin_36, dX5_begin_37, dX5_begin_38, PT_X5_29, dX5_begin_41, dX5_begin_42, dX5_begin_43, dX5_begin_46, dX5_begin_47, xX5_beginE_c62, xX5_beginE_n62, dX5_begin_50, PT_X5_33, dX5_begin_53, dX5_begin_54, dX5_begin_55, dX5_begin_58, dX5_begin_59, xX5_beginE_c66, xX5_beginE_n66, dX5_begin_62, PT_X5_36, dX5_begin_65, dX5_begin_66, dX5_begin_67, dX5_begin_70, dX5_begin_71, xX5_beginE_c69, xX5_beginE_n69, dX5_begin_74, PT_X5_39, dX5_begin_77, xX5_beginE_SH, xX5_beginE_KF, xX5_beginE_rt, xX5_beginE_FT, xX5_beginE_PT, xX5_beginE_CT, xX5_beginE_KT, xX5_beginE_LT, xX5_beginE_NT, o_aload_n, o_getfield, o_iconst, o_iload_n, o_invokevirtual, o_putfield, o_return_, SH_2, KF_2_0, SH_3, KF_2_1, SH_14, KF_2_10, KF_2_3, KF_2_4, KF_2_5, KF_2_6, KF_2_7, KF_2_8, KF_2_9, SH_20, am_ty, am_vc, am_opt, am_cl, am_find, am_ldi, am_ldl, am_lda, am_v, am_1, am_1l, am_1a, am_2, am_2l, am_ix, am_ri, am_arr, am_pf, am_rc, am_mask, am_lg, am_av, am_nat, fv_0, fv_1, fv_2, fv_3, fw_0, fw_1, List.getElem?_cons_zero, List.getElem?_cons_succ, List.set_cons_zero, List.set_cons_succ, List.length_cons, List.length_nil, List.take_succ_cons, List.take_zero, List.drop_succ_cons, List.drop_zero, List.reverse_cons, List.reverse_nil, List.nil_append, List.cons_append, List.append_nil, List.map_cons, List.map_nil, List.sum_cons, List.sum_nil, Value.category, Option.toList_some, Option.toList_none, Nat.reduceAdd, Nat.reduceLT, Nat.reduceLeDiff, Nat.reduceEqDiff, Nat.reduceSub, Nat.add_zero, Nat.le_refl, Nat.zero_le, Int.reduceNeg, Int.reduceLE, Int.reduceLT, true_and, and_true, and_self, if_true, if_false, ite_true, ite_false, eq_self_iff_true, reduceIte, reduceCtorEq, not_false_eq_true, not_true_eq_false, or_true, true_or, or_false, false_or, Nat.lt_irrefl, Nat.zero_lt_succ, SH_1]
  have i8 := sI_pl (o := 2) (k := 6) (x := (am_pi (am_pi s5 2 4 (Int32.ofInt (ck (tK (bC σ) Z 0)))) 2 5 (Int32.ofInt (tP (bC σ) Z 0))).2 18 0) i7 ⟨_, List.mem_cons_self, rfl, by decide, by decide⟩
  have v8 := wVC_sI v2 i8 (by decide)
  have c0 := v7.2 0 (by decide) (fun i hi => absurd hi (Nat.not_lt_zero _))
  have l8 := (nl_lA i8 (by decide)).2.2
  refine h _ (sI_t (sI_t (sI_m a1 (by decide)) (sI_m b1 (by decide))) (sI_m i8 (by decide))) ⟨v8, ⟨Nat.zero_le _, fun i hi => absurd hi (Nat.not_lt_zero _)⟩, ?_, ?_, ?_, fun q => ?_, fun q => ?_, ?_⟩ ⟨?_, ?_, by decide, by decide⟩ (cD_sI b3 i8 (by decide) (by decide)) (l8.trans b2)
  · rw [pl_i1, pi_n _ _ _ _ (fun z => absurd z.2 (by decide)), pi_n _ _ _ _ (fun z => absurd z.2 (by decide))]; exact f4
  · rw [pl_i1, pi_n _ _ _ _ (fun z => absurd z.2 (by decide)), pi_s]
  · rw [pl_i1, pi_s]
  · rw [pl_s]; exact c0.2.2.2.1 q
  · rw [pl_s]; exact c0.2.2.2.2 q
  · rw [pl_i1, pi_n _ _ _ _ (fun z => absurd z.2 (by decide)), pi_n _ _ _ _ (fun z => absurd z.2 (by decide))]; exact f1
  · rw [pl_i1, pi_n _ _ _ _ (fun z => absurd z.2 (by decide)), pi_n _ _ _ _ (fun z => absurd z.2 (by decide))]; exact f2
  · rw [pl_i1, pi_n _ _ _ _ (fun z => absurd z.2 (by decide)), pi_n _ _ _ _ (fun z => absurd z.2 (by decide))]; exact f3
theorem mX5_beginE (l : Launch) : am_M l TB NB vwCl SH KF yX5_begin cX5_begin 3 none 10 0 0 sX5_beginE := by
  refine am_M.of xX5_beginE (by decide +kernel) TB_good GF rfl rfl rfl (by decide) ⟨FT_X5_ok, PT_X5_ok _, CT_X5_ok, KT_X5_ok, LT_X5_ok, NT_X5_ok, ?_⟩ ptX5_beginE
  exact List.forall_mem_cons.mpr ⟨⟨yX8_split, cX8_split, 7, none, 9, 2, mX8_splitE l, by decide, by decide, tk_540, tk_107, ⟨by decide +kernel, by decide +kernel, by decide +kernel⟩, rfl, tk_537, tk_538, ⟨(RX8, TX8, 5), rfl, tk_539⟩⟩, List.forall_mem_cons.mpr ⟨⟨yX9_clear, cX9_clear, 1, none, 4, 0, mX9_clearE l, by decide, by decide, tk_579, tk_105, ⟨by decide +kernel, by decide +kernel, by decide +kernel⟩, rfl, tk_576, tk_577, ⟨(RX9, TX9, 8), rfl, tk_578⟩⟩, List.forall_mem_cons.mpr ⟨⟨yX8_kindOf, cX8_kindOf, 2, (some .int), 2, 1, mX8_kindOfE l, by decide, by decide, tk_583, tk_107, ⟨by decide +kernel, by decide +kernel, by decide +kernel⟩, rfl, tk_580, tk_581, ⟨(RX8, TX8, 5), rfl, tk_582⟩⟩, List.forall_mem_cons.mpr ⟨⟨yX8_placeOf, cX8_placeOf, 2, (some .int), 2, 1, mX8_placeOfE l, by decide, by decide, tk_587, tk_107, ⟨by decide +kernel, by decide +kernel, by decide +kernel⟩, rfl, tk_584, tk_585, ⟨(RX8, TX8, 5), rfl, tk_586⟩⟩, List.forall_mem_cons.mpr ⟨⟨yX8_worthOf, cX8_worthOf, 2, (some .long), 2, 1, mX8_worthOfE l, by decide, by decide, tk_591, tk_107, ⟨by decide +kernel, by decide +kernel, by decide +kernel⟩, rfl, tk_588, tk_589, ⟨(RX8, TX8, 5), rfl, tk_590⟩⟩, fun _ h => absurd h List.not_mem_nil⟩⟩⟩⟩⟩

