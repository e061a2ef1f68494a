/-! THE PLACE. Printed from wip/am/chk/hand/pl.in. -/
def sX11_placeE : am_Sp := fun as n σ post => n = 92 ∧ as = [.ref 0] ∧ ∃ x : Int32, x = σ.1 0 2 ∧ post (some (.int x)) σ
def xX11_placeE : am_X := (SH, KF, (some .int), FT_X11, PT_X11, CT_X11, KT_X11, LT_X11, NT_X11, [])
theorem xX11_placeE_SH : am_SH xX11_placeE = SH := rfl
theorem xX11_placeE_KF : am_KF xX11_placeE = KF := rfl
theorem xX11_placeE_rt : am_rt xX11_placeE = (some .int) := rfl
theorem xX11_placeE_FT : am_FT xX11_placeE = FT_X11 := rfl
theorem xX11_placeE_PT : am_PT xX11_placeE = PT_X11 := rfl
theorem xX11_placeE_CT : am_CT xX11_placeE = CT_X11 := rfl
theorem xX11_placeE_KT : am_KT xX11_placeE = KT_X11 := rfl
theorem xX11_placeE_LT : am_LT xX11_placeE = LT_X11 := rfl
theorem xX11_placeE_NT : am_NT xX11_placeE = NT_X11 := rfl

theorem ptX11_placeE : am_B cX11_place xX11_placeE 1 0 sX11_placeE := by
  intro n0 as σ post AA hA h
  obtain ⟨rfl, rfl, x, rfl, h⟩ := h
  refine ⟨by simp [am_sl, Value.category], ?_⟩
  show AA 0 [some (.ref 0)] [] 92 σ
  refine hA [] 4 _ _ _ _ _ ?_
  try simp only [dX11_place_0, dX11_place_1, FT_X11_17, dX11_place_4, xX11_placeE_SH, xX11_placeE_KF, xX11_placeE_rt, xX11_placeE_FT, xX11_placeE_PT, xX11_placeE_CT, xX11_placeE_KT, xX11_placeE_LT, xX11_placeE_NT, o_aload_n, o_getfield, o_ireturn, SH_0, KF_0_2, am_ty, am_vc, am_opt, am_cl, am_find, am_ldi, am_ldl, am_lda, am_v, am_1, am_1l, am_1a, am_2, am_2l, am_ix, am_ri, am_arr, am_pf, am_rc, am_mask, am_lg, am_av, am_nat, fv_0, fv_1, fv_2, fv_3, fw_0, fw_1, List.getElem?_cons_zero, List.getElem?_cons_succ, List.set_cons_zero, List.set_cons_succ, List.length_cons, List.length_nil, List.take_succ_cons, List.take_zero, List.drop_succ_cons, List.drop_zero, List.reverse_cons, List.reverse_nil, List.nil_append, List.cons_append, List.append_nil, List.map_cons, List.map_nil, List.sum_cons, List.sum_nil, Value.category, Option.toList_some, Option.toList_none, Nat.reduceAdd, Nat.reduceLT, Nat.reduceLeDiff, Nat.reduceEqDiff, Nat.reduceSub, Nat.add_zero, Nat.le_refl, Nat.zero_le, Int.reduceNeg, Int.reduceLE, Int.reduceLT, true_and, and_true, and_self, if_true, if_false, ite_true, ite_false, eq_self_iff_true, reduceIte, reduceCtorEq, not_false_eq_true, not_true_eq_false, or_true, true_or, or_false, false_or, Nat.lt_irrefl, Nat.zero_lt_succ]
  exact h
theorem mX11_placeE (l : Launch) : am_M l TB NB vwCl SH KF yX11_place cX11_place 1 (some .int) 2 0 0 sX11_placeE := by
  refine am_M.of xX11_placeE (by decide +kernel) TB_good GF rfl rfl rfl (by decide) ⟨FT_X11_ok, PT_X11_ok _, CT_X11_ok, KT_X11_ok, LT_X11_ok, NT_X11_ok, ?_⟩ ptX11_placeE
  exact fun _ h => absurd h List.not_mem_nil

def sX12_placeE : am_Sp := fun as n σ post => n = 92 ∧ as = [.ref 51] ∧ ∃ x : Int32, x = σ.1 51 17 ∧ post (some (.int x)) σ
def xX12_placeE : am_X := (SH, KF, (some .int), FT_X12, PT_X12, CT_X12, KT_X12, LT_X12, NT_X12, [])
theorem xX12_placeE_SH : am_SH xX12_placeE = SH := rfl
theorem xX12_placeE_KF : am_KF xX12_placeE = KF := rfl
theorem xX12_placeE_rt : am_rt xX12_placeE = (some .int) := rfl
theorem xX12_placeE_FT : am_FT xX12_placeE = FT_X12 := rfl
theorem xX12_placeE_PT : am_PT xX12_placeE = PT_X12 := rfl
theorem xX12_placeE_CT : am_CT xX12_placeE = CT_X12 := rfl
theorem xX12_placeE_KT : am_KT xX12_placeE = KT_X12 := rfl
theorem xX12_placeE_LT : am_LT xX12_placeE = LT_X12 := rfl
theorem xX12_placeE_NT : am_NT xX12_placeE = NT_X12 := rfl

theorem ptX12_placeE : am_B cX12_place xX12_placeE 1 0 sX12_placeE := by
  intro n0 as σ post AA hA h
  obtain ⟨rfl, rfl, x, rfl, h⟩ := h
  refine ⟨by simp [am_sl, Value.category], ?_⟩
  show AA 0 [some (.ref 51)] [] 92 σ
  refine hA [] 4 _ _ _ _ _ ?_
  try simp only [dX12_place_0, dX12_place_1, FT_X12_37, dX12_place_4, xX12_placeE_SH, xX12_placeE_KF, xX12_placeE_rt, xX12_placeE_FT, xX12_placeE_PT, xX12_placeE_CT, xX12_placeE_KT, xX12_placeE_LT, xX12_placeE_NT, o_aload_n, o_getfield, o_ireturn, SH_51, KF_51_17, am_ty, am_vc, am_opt, am_cl, am_find, am_ldi, am_ldl, am_lda, am_v, am_1, am_1l, am_1a, am_2, am_2l, am_ix, am_ri, am_arr, am_pf, am_rc, am_mask, am_lg, am_av, am_nat, fv_0, fv_1, fv_2, fv_3, fw_0, fw_1, List.getElem?_cons_zero, List.getElem?_cons_succ, List.set_cons_zero, List.set_cons_succ, List.length_cons, List.length_nil, List.take_succ_cons, List.take_zero, List.drop_succ_cons, List.drop_zero, List.reverse_cons, List.reverse_nil, List.nil_append, List.cons_append, List.append_nil, List.map_cons, List.map_nil, List.sum_cons, List.sum_nil, Value.category, Option.toList_some, Option.toList_none, Nat.reduceAdd, Nat.reduceLT, Nat.reduceLeDiff, Nat.reduceEqDiff, Nat.reduceSub, Nat.add_zero, Nat.le_refl, Nat.zero_le, Int.reduceNeg, Int.reduceLE, Int.reduceLT, true_and, and_true, and_self, if_true, if_false, ite_true, ite_false, eq_self_iff_true, reduceIte, reduceCtorEq, not_false_eq_true, not_true_eq_false, or_true, true_or, or_false, false_or, Nat.lt_irrefl, Nat.zero_lt_succ]
  exact h
theorem mX12_placeE (l : Launch) : am_M l TB NB vwCl SH KF yX12_place cX12_place 1 (some .int) 2 0 0 sX12_placeE := by
  refine am_M.of xX12_placeE (by decide +kernel) TB_good GF rfl rfl rfl (by decide) ⟨FT_X12_ok, PT_X12_ok _, CT_X12_ok, KT_X12_ok, LT_X12_ok, NT_X12_ok, ?_⟩ ptX12_placeE
  exact fun _ h => absurd h List.not_mem_nil

