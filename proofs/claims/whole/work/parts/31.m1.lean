theorem nb_0 : vp_nar .boolean (Int32.ofInt 0) = Int32.ofInt 0 := rfl
theorem nb_1 : vp_nar .boolean (Int32.ofInt 1) = Int32.ofInt 1 := rfl
theorem rg_of (x : Int32) : ∃ z : Int, x = Int32.ofInt z ∧ -2147483648 ≤ z ∧ z < 2147483648 := ⟨x.toInt, ii_of x, ii_lo x, ii_hi x⟩
theorem am_Sext {σ τ : am_S} (h : ∀ o k, σ.1 o k = τ.1 o k) (h2 : σ.2 = τ.2) : σ = τ := Prod.ext (funext fun o => funext fun k => h o k) h2
-- in(v, least, most)
def sX12_in : am_Sp := fun as _ σ post => ∃ v a b : Int, (-2147483648 ≤ v ∧ v < 2147483648) ∧ (-2147483648 ≤ a ∧ a < 2147483648) ∧ (-2147483648 ≤ b ∧ b < 2147483648) ∧ as = [.int (Int32.ofInt v), .int (Int32.ofInt a), .int (Int32.ofInt b)] ∧ post (some (.int (Int32.ofInt (if a ≤ v ∧ v ≤ b then 1 else 0)))) σ
def xX12_in : am_X := (SH, KF, (some .boolean), FT_X12, PT_X12, CT_X12, KT_X12, LT_X12, NT_X12, [])
theorem xX12_in_SH : am_SH xX12_in = SH := rfl
theorem xX12_in_KF : am_KF xX12_in = KF := rfl
theorem xX12_in_rt : am_rt xX12_in = (some .boolean) := rfl
theorem xX12_in_FT : am_FT xX12_in = FT_X12 := rfl
theorem xX12_in_PT : am_PT xX12_in = PT_X12 := rfl
theorem xX12_in_CT : am_CT xX12_in = CT_X12 := rfl
theorem xX12_in_KT : am_KT xX12_in = KT_X12 := rfl
theorem xX12_in_LT : am_LT xX12_in = LT_X12 := rfl
theorem xX12_in_NT : am_NT xX12_in = NT_X12 := rfl
theorem xX12_in_t2 (k : Nat → Prop) : am_tg 2 (12) k = k 14 := am_tg_eq (by decide)
theorem xX12_in_t7 (k : Nat → Prop) : am_tg 7 (7) k = k 14 := am_tg_eq (by decide)
theorem xX12_in_t11 (k : Nat → Prop) : am_tg 11 (4) k = k 15 := am_tg_eq (by decide)

theorem pX12_in : am_B cX12_in xX12_in 3 0 sX12_in := by
  intro n0 as σ post AA hA h
  obtain ⟨v, a, b, hv, ha, hb, rfl, h⟩ := h
  refine ⟨by simp [am_sl, Value.category], ?_⟩
  show AA 0 [some (.int (Int32.ofInt v)), some (.int (Int32.ofInt a)), some (.int (Int32.ofInt b))] [] n0 σ
  refine hA [] 40 _ _ _ _ _ ?_
  simp (disch := omega) only [dX12_in_0, dX12_in_1, dX12_in_2, xX12_in_t2, dX12_in_5, dX12_in_6, dX12_in_7, xX12_in_t7, dX12_in_10, dX12_in_11, xX12_in_t11, dX12_in_14, dX12_in_15, xX12_in_SH, xX12_in_KF, xX12_in_rt, xX12_in_FT, xX12_in_PT, xX12_in_CT, xX12_in_KT, xX12_in_LT, xX12_in_NT, o_goto, o_iconst, o_if_icmp_gt, o_if_icmp_lt, o_iload_n, o_ireturn, am_vc, am_opt, am_cl, am_find, am_ldi, am_ldl, am_lda, am_v, am_1, am_1l, am_1a, am_2, am_2l, am_ix, am_ri, am_arr, am_pf, am_rc, am_mask, am_lg, am_av, am_nat, fv_0, fv_1, fv_2, fv_3, fw_0, fw_1, List.getElem?_cons_zero, List.getElem?_cons_succ, List.set_cons_zero, List.set_cons_succ, List.length_cons, List.length_nil, List.take_succ_cons, List.take_zero, List.drop_succ_cons, List.drop_zero, List.reverse_cons, List.reverse_nil, List.nil_append, List.cons_append, List.append_nil, List.map_cons, List.map_nil, List.sum_cons, List.sum_nil, Value.category, Option.toList, Nat.reduceAdd, Nat.reduceLT, Nat.reduceLeDiff, Nat.reduceEqDiff, Nat.reduceSub, Nat.add_zero, Nat.le_refl, Nat.zero_le, Int.reduceNeg, Int.reduceLE, Int.reduceLT, true_and, and_true, and_self, if_true, if_false, ite_true, ite_false, eq_self_iff_true, reduceIte, reduceCtorEq, not_false_eq_true, not_true_eq_false, or_true, true_or, or_false, false_or, Nat.lt_irrefl, Nat.zero_lt_succ, nb_0, nb_1, ii_lt, ii_le]
  refine ⟨fun h1 => ?_, fun h1 => ⟨fun h2 => ?_, fun h2 => ?_⟩⟩
  · rw [if_neg (by omega)] at h; exact h
  · rw [if_neg (by omega)] at h; exact h
  · rw [if_pos (by omega)] at h; exact h
theorem mX12_in (l : Launch) : am_M l TB NB vwCl SH KF yX12_in cX12_in 3 (some .boolean) 2 0 0 sX12_in := by
  refine am_M.of xX12_in (by decide +kernel) TB_good GF rfl rfl rfl (by decide) ⟨FT_X12_ok, PT_X12_ok _, CT_X12_ok, KT_X12_ok, LT_X12_ok, NT_X12_ok, ?_⟩ pX12_in
  exact fun _ h => absurd h List.not_mem_nil

