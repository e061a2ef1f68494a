/-! IS IT A SIGN? exactly. Printed from wip/am/chk/hand/u2b.in. -/
def SGL : List Int := [59, 61, 43, 45, 42, 47, 60, 40, 41]
theorem SGL_ch : (List.range 9).all (fun j => decide (chx 1 (Int32.ofInt (j : Int)) = Int32.ofInt (SGL.getD j 0)) && decide (-128 ≤ SGL.getD j 0 ∧ SGL.getD j 0 ≤ 127)) = true := by decide +kernel
theorem SGL_s {c : Int} : sgn c ≠ 3 ↔ ∃ j, j < 9 ∧ SGL.getD j 0 = c := by
  constructor
  · intro h
    have q : c = 59 ∨ c = 61 ∨ c = 43 ∨ c = 45 ∨ c = 42 ∨ c = 47 ∨ c = 60 ∨ c = 40 ∨ c = 41 := by
      unfold sgn at h
      repeat' split at h
      all_goals omega
    rcases q with rfl | rfl | rfl | rfl | rfl | rfl | rfl | rfl | rfl
    · exact ⟨0, by decide, rfl⟩
    · exact ⟨1, by decide, rfl⟩
    · exact ⟨2, by decide, rfl⟩
    · exact ⟨3, by decide, rfl⟩
    · exact ⟨4, by decide, rfl⟩
    · exact ⟨5, by decide, rfl⟩
    · exact ⟨6, by decide, rfl⟩
    · exact ⟨7, by decide, rfl⟩
    · exact ⟨8, by decide, rfl⟩
  · rintro ⟨j, hj, rfl⟩
    have q : j = 0 ∨ j = 1 ∨ j = 2 ∨ j = 3 ∨ j = 4 ∨ j = 5 ∨ j = 6 ∨ j = 7 ∨ j = 8 := by omega
    rcases q with rfl | rfl | rfl | rfl | rfl | rfl | rfl | rfl | rfl <;> decide
def sX8_isSignE : am_Sp := fun as n σ post => n = 92 ∧ ∃ c : Int, (-128 ≤ c ∧ c ≤ 127) ∧ as = [.int (Int32.ofInt c)] ∧ ∀ z : Int, (z = 1 ∧ sgn c ≠ 3 ∨ z = 0 ∧ sgn c = 3) → post (some (.int (Int32.ofInt z))) σ
set_option maxRecDepth 100000 in
theorem is_loopE {σ : am_S} {post : Option Value → am_S → Prop} {AA : Nat → List (Option Value) → List Value → Nat → am_S → Prop} (hA : ∀ cuts f pc ls stk n τ, am_vc cX8_isSign xX8_isSign (92 + 0) post AA cuts f pc ls stk n τ → AA pc ls stk n τ)
    (rL : ∀ pc ls stk n τ, decode cX8_isSign pc = .ok (.ldc 82, 2) → decode cX8_isSign (pc + 2) = .ok (.invokevirtual 29, 3) → (stk.map fun v => v.category).sum ≤ 8 → AA (pc + 5) ls (.int (Int32.ofInt 9) :: stk) n τ → AA pc ls stk n τ)
    (rC : ∀ pc (k : Fin 4) (j : Nat) ls stk n τ, decode cX8_isSign pc = .ok (.ldc 82, 2) → decode cX8_isSign (pc + 2) = .ok (.iload_n k, 1) → decode cX8_isSign (pc + 3) = .ok (.invokevirtual 35, 3) → (stk.map fun v => v.category).sum ≤ 8 → j < 9 → ls[(k : Nat)]? = some (some (.int (Int32.ofInt (j : Int)))) → AA (pc + 6) ls (.int (chx 1 (Int32.ofInt (j : Int))) :: stk) n τ → AA pc ls stk n τ)
    {c : Int} (hc : -128 ≤ c ∧ c ≤ 127) (h : ∀ z : Int, (z = 1 ∧ sgn c ≠ 3 ∨ z = 0 ∧ sgn c = 3) → post (some (.int (Int32.ofInt z))) σ) : ∀ (m j : Nat), j ≤ 9 → 9 - j = m → (∀ i, i < j → ¬ SGL.getD i 0 = c) → AA 2 [some (.int (Int32.ofInt c)), some (.int (Int32.ofInt (j : Int)))] [] 92 σ := by
  intro m
  induction m using Nat.strongRecOn with
  | ind m ih =>
  intro j hj hm hno
  refine hA [(3, 2)] 2 _ _ _ _ _ ?_
  try simp only [dX8_isSign_0, dX8_isSign_1, dX8_isSign_2, dX8_isSign_3, KT_X8, dX8_isSign_5, dX8_isSign_8, xX8_isSign_t8, dX8_isSign_11, dX8_isSign_13, dX8_isSign_14, dX8_isSign_17, dX8_isSign_18, xX8_isSign_t18, dX8_isSign_21, dX8_isSign_22, dX8_isSign_23, dX8_isSign_26, xX8_isSign_t26, dX8_isSign_29, dX8_isSign_30, xX8_isSign_SH, xX8_isSign_KF, xX8_isSign_rt, xX8_isSign_FT, xX8_isSign_PT, xX8_isSign_CT, xX8_isSign_KT, xX8_isSign_LT, xX8_isSign_NT, o_goto, o_iconst, o_if_icmp_ge, o_if_icmp_ne, o_iinc, o_iload_n, o_invokevirtual, o_ireturn, o_istore_n, o_ldc, am_ty, am_vc, am_opt, am_cl, am_find, am_ldi, am_ldl, am_lda, am_v, am_1, am_1l, am_1a, am_2, am_2l, am_ix, am_ri, am_arr, am_pf, am_rc, am_mask, am_lg, am_av, am_nat, fv_0, fv_1, fv_2, fv_3, fw_0, fw_1, List.getElem?_cons_zero, List.getElem?_cons_succ, List.set_cons_zero, List.set_cons_succ, List.length_cons, List.length_nil, List.take_succ_cons, List.take_zero, List.drop_succ_cons, List.drop_zero, List.reverse_cons, List.reverse_nil, List.nil_append, List.cons_append, List.append_nil, List.map_cons, List.map_nil, List.sum_cons, List.sum_nil, Value.category, Option.toList_some, Option.toList_none, Nat.reduceAdd, Nat.reduceLT, Nat.reduceLeDiff, Nat.reduceEqDiff, Nat.reduceSub, Nat.add_zero, Nat.le_refl, Nat.zero_le, Int.reduceNeg, Int.reduceLE, Int.reduceLT, true_and, and_true, and_self, if_true, if_false, ite_true, ite_false, eq_self_iff_true, reduceIte, reduceCtorEq, not_false_eq_true, not_true_eq_false, or_true, true_or, or_false, false_or, Nat.lt_irrefl, Nat.zero_lt_succ]
  refine rL _ _ _ _ _ dX8_isSign_3 dX8_isSign_5 (Nat.le_of_ble_eq_true rfl) ?_
  refine hA [(11, 2)] 4 _ _ _ _ _ ?_
  try simp only [dX8_isSign_0, dX8_isSign_1, dX8_isSign_2, dX8_isSign_3, KT_X8, dX8_isSign_5, dX8_isSign_8, xX8_isSign_t8, dX8_isSign_11, dX8_isSign_13, dX8_isSign_14, dX8_isSign_17, dX8_isSign_18, xX8_isSign_t18, dX8_isSign_21, dX8_isSign_22, dX8_isSign_23, dX8_isSign_26, xX8_isSign_t26, dX8_isSign_29, dX8_isSign_30, xX8_isSign_SH, xX8_isSign_KF, xX8_isSign_rt, xX8_isSign_FT, xX8_isSign_PT, xX8_isSign_CT, xX8_isSign_KT, xX8_isSign_LT, xX8_isSign_NT, o_goto, o_iconst, o_if_icmp_ge, o_if_icmp_ne, o_iinc, o_iload_n, o_invokevirtual, o_ireturn, o_istore_n, o_ldc, am_ty, am_vc, am_opt, am_cl, am_find, am_ldi, am_ldl, am_lda, am_v, am_1, am_1l, am_1a, am_2, am_2l, am_ix, am_ri, am_arr, am_pf, am_rc, am_mask, am_lg, am_av, am_nat, fv_0, fv_1, fv_2, fv_3, fw_0, fw_1, List.getElem?_cons_zero, List.getElem?_cons_succ, List.set_cons_zero, List.set_cons_succ, List.length_cons, List.length_nil, List.take_succ_cons, List.take_zero, List.drop_succ_cons, List.drop_zero, List.reverse_cons, List.reverse_nil, List.nil_append, List.cons_append, List.append_nil, List.map_cons, List.map_nil, List.sum_cons, List.sum_nil, Value.category, Option.toList_some, Option.toList_none, Nat.reduceAdd, Nat.reduceLT, Nat.reduceLeDiff, Nat.reduceEqDiff, Nat.reduceSub, Nat.add_zero, Nat.le_refl, Nat.zero_le, Int.reduceNeg, Int.reduceLE, Int.reduceLT, true_and, and_true, and_self, if_true, if_false, ite_true, ite_false, eq_self_iff_true, reduceIte, reduceCtorEq, not_false_eq_true, not_true_eq_false, or_true, true_or, or_false, false_or, Nat.lt_irrefl, Nat.zero_lt_succ]
  try simp (disch := omega) only [ii_0, ii_1, ii_t, ii_add, ii_sub, ii_mul, ii_lt, ii_le, ii_eq, ij_in, ii_c, Int.toNat_natCast, Int.toNat_zero, Int.reduceToNat, Int.reduceEq, Int.reduceNe, Int.reduceLE, Int.reduceLT, Int.reduceAdd, Int.reduceSub, Int.reduceMul, Int.reduceNeg, Nat.reduceLT, Nat.reduceAdd, Nat.reduceMul, not_false_eq_true, not_true_eq_false, true_and, and_true, and_self, false_and, and_false, true_implies, false_implies, implies_true, forall_const, if_true, if_false, ite_true, ite_false, reduceIte, eq_self_iff_true, Int.natCast_nonneg, Int.zero_add, Int.add_zero, pi_s, pi_n, nb_0, nb_1]
  refine ⟨fun q => h 0 (Or.inr ⟨rfl, Classical.byContradiction (fun w => ?_)⟩), fun hlt => ?_⟩
  · obtain ⟨i, i1, i2⟩ := SGL_s.mp w
    exact hno i (by omega) i2
  refine rC _ 1 j _ _ _ _ dX8_isSign_11 dX8_isSign_13 dX8_isSign_14 (Nat.le_of_ble_eq_true rfl) (by omega) rfl ?_
  have e1 := List.all_eq_true.mp SGL_ch j (List.mem_range.mpr (by omega))
  simp only [Bool.and_eq_true, decide_eq_true_eq] at e1
  obtain ⟨e1, e2⟩ := e1
  rw [e1]
  refine hA [(2, 2)] 6 _ _ _ _ _ ?_
  try simp only [dX8_isSign_0, dX8_isSign_1, dX8_isSign_2, dX8_isSign_3, KT_X8, dX8_isSign_5, dX8_isSign_8, xX8_isSign_t8, dX8_isSign_11, dX8_isSign_13, dX8_isSign_14, dX8_isSign_17, dX8_isSign_18, xX8_isSign_t18, dX8_isSign_21, dX8_isSign_22, dX8_isSign_23, dX8_isSign_26, xX8_isSign_t26, dX8_isSign_29, dX8_isSign_30, xX8_isSign_SH, xX8_isSign_KF, xX8_isSign_rt, xX8_isSign_FT, xX8_isSign_PT, xX8_isSign_CT, xX8_isSign_KT, xX8_isSign_LT, xX8_isSign_NT, o_goto, o_iconst, o_if_icmp_ge, o_if_icmp_ne, o_iinc, o_iload_n, o_invokevirtual, o_ireturn, o_istore_n, o_ldc, am_ty, am_vc, am_opt, am_cl, am_find, am_ldi, am_ldl, am_lda, am_v, am_1, am_1l, am_1a, am_2, am_2l, am_ix, am_ri, am_arr, am_pf, am_rc, am_mask, am_lg, am_av, am_nat, fv_0, fv_1, fv_2, fv_3, fw_0, fw_1, List.getElem?_cons_zero, List.getElem?_cons_succ, List.set_cons_zero, List.set_cons_succ, List.length_cons, List.length_nil, List.take_succ_cons, List.take_zero, List.drop_succ_cons, List.drop_zero, List.reverse_cons, List.reverse_nil, List.nil_append, List.cons_append, List.append_nil, List.map_cons, List.map_nil, List.sum_cons, List.sum_nil, Value.category, Option.toList_some, Option.toList_none, Nat.reduceAdd, Nat.reduceLT, Nat.reduceLeDiff, Nat.reduceEqDiff, Nat.reduceSub, Nat.add_zero, Nat.le_refl, Nat.zero_le, Int.reduceNeg, Int.reduceLE, Int.reduceLT, true_and, and_true, and_self, if_true, if_false, ite_true, ite_false, eq_self_iff_true, reduceIte, reduceCtorEq, not_false_eq_true, not_true_eq_false, or_true, true_or, or_false, false_or, Nat.lt_irrefl, Nat.zero_lt_succ]
  try simp (disch := omega) only [ii_0, ii_1, ii_t, ii_add, ii_sub, ii_mul, ii_lt, ii_le, ii_eq, ij_in, ii_c, Int.toNat_natCast, Int.toNat_zero, Int.reduceToNat, Int.reduceEq, Int.reduceNe, Int.reduceLE, Int.reduceLT, Int.reduceAdd, Int.reduceSub, Int.reduceMul, Int.reduceNeg, Nat.reduceLT, Nat.reduceAdd, Nat.reduceMul, not_false_eq_true, not_true_eq_false, true_and, and_true, and_self, false_and, and_false, true_implies, false_implies, implies_true, forall_const, if_true, if_false, ite_true, ite_false, reduceIte, eq_self_iff_true, Int.natCast_nonneg, Int.zero_add, Int.add_zero, pi_s, pi_n, nb_0, nb_1]
  refine ⟨fun q => ?_, fun q => h 1 (Or.inl ⟨rfl, SGL_s.mpr ⟨j, by omega, q⟩⟩)⟩
  have e : ((j : Int) + 1) = ((j + 1 : Nat) : Int) := by omega
  rw [e]
  exact ih _ (by omega) (j + 1) (by omega) rfl (fun i hi => by
    by_cases z : i = j
    · rw [z]; exact q
    · exact hno i (by omega))
set_option maxRecDepth 100000 in
theorem mX8_isSignE (l : Launch) : am_M l TB NB vwCl SH KF yX8_isSign cX8_isSign 2 (some .boolean) 8 0 0 sX8_isSignE := by
  refine am_M.ofT2E xX8_isSign (by decide +kernel) rfl GF rfl rfl rfl (by decide) ⟨FT_X8_ok, PT_X8_ok _, CT_X8_ok, KT_X8_ok, LT_X8_ok, NT_X8_ok, fun _ h => absurd h List.not_mem_nil⟩ ?_
  intro n0 as σ post AA hA rL rC h
  obtain ⟨rfl, c, hc, rfl, h⟩ := h
  refine ⟨by simp [am_sl, Value.category], ?_⟩
  show AA 0 [some (.int (Int32.ofInt c)), none] [] 92 σ
  refine hA [(2, 2)] 3 _ _ _ _ _ ?_
  try simp only [dX8_isSign_0, dX8_isSign_1, dX8_isSign_2, dX8_isSign_3, KT_X8, dX8_isSign_5, dX8_isSign_8, xX8_isSign_t8, dX8_isSign_11, dX8_isSign_13, dX8_isSign_14, dX8_isSign_17, dX8_isSign_18, xX8_isSign_t18, dX8_isSign_21, dX8_isSign_22, dX8_isSign_23, dX8_isSign_26, xX8_isSign_t26, dX8_isSign_29, dX8_isSign_30, xX8_isSign_SH, xX8_isSign_KF, xX8_isSign_rt, xX8_isSign_FT, xX8_isSign_PT, xX8_isSign_CT, xX8_isSign_KT, xX8_isSign_LT, xX8_isSign_NT, o_goto, o_iconst, o_if_icmp_ge, o_if_icmp_ne, o_iinc, o_iload_n, o_invokevirtual, o_ireturn, o_istore_n, o_ldc, am_ty, am_vc, am_opt, am_cl, am_find, am_ldi, am_ldl, am_lda, am_v, am_1, am_1l, am_1a, am_2, am_2l, am_ix, am_ri, am_arr, am_pf, am_rc, am_mask, am_lg, am_av, am_nat, fv_0, fv_1, fv_2, fv_3, fw_0, fw_1, List.getElem?_cons_zero, List.getElem?_cons_succ, List.set_cons_zero, List.set_cons_succ, List.length_cons, List.length_nil, List.take_succ_cons, List.take_zero, List.drop_succ_cons, List.drop_zero, List.reverse_cons, List.reverse_nil, List.nil_append, List.cons_append, List.append_nil, List.map_cons, List.map_nil, List.sum_cons, List.sum_nil, Value.category, Option.toList_some, Option.toList_none, Nat.reduceAdd, Nat.reduceLT, Nat.reduceLeDiff, Nat.reduceEqDiff, Nat.reduceSub, Nat.add_zero, Nat.le_refl, Nat.zero_le, Int.reduceNeg, Int.reduceLE, Int.reduceLT, true_and, and_true, and_self, if_true, if_false, ite_true, ite_false, eq_self_iff_true, reduceIte, reduceCtorEq, not_false_eq_true, not_true_eq_false, or_true, true_or, or_false, false_or, Nat.lt_irrefl, Nat.zero_lt_succ]
  exact is_loopE hA rL rC hc h 9 0 (by omega) rfl (fun i hi => absurd hi (Nat.not_lt_zero _))
