/-! THE CLASS'S READER: whether it goes on. Printed from wip/am/chk/hand/z3.in. -/
theorem dX5_placeOfFault_0 : decode cX5_placeOfFault 0 = .ok (.aload_n 0, 1) := dk_ok (by decide +kernel)
theorem dX5_placeOfFault_1 : decode cX5_placeOfFault 1 = .ok (.getfield 46, 3) := dk_ok (by decide +kernel)
theorem dX5_placeOfFault_4 : decode cX5_placeOfFault 4 = .ok (.ireturn, 1) := dk_ok (by decide +kernel)

def goB (b : Nat → Int) (Z : Nat) (s : ST) : Int := match s with
  | .inl t => if tK b Z t = 0 then 0 else 1
  | .inr _ => 0
theorem ck_0 {k : Int} (h : 0 ≤ k ∧ k ≤ 38) : ck k = 0 ↔ k = 0 := by
  have q : (List.range 39).all (fun n => decide (ck (n : Int) = 0 ↔ (n : Int) = 0)) = true := by decide +kernel
  have e := of_decide_eq_true (List.all_eq_true.mp q k.toNat (List.mem_range.mpr (by omega)))
  rw [Int.toNat_of_nonneg h.1] at e
  exact e
def sX5_goesOnE : am_Sp := fun as n σ post => n = 92 ∧ ∃ (b : Nat → Int) (Z : Nat) (s : ST), cST b Z σ s ∧ as = [.ref 2] ∧ post (some (.int (Int32.ofInt (goB b Z s)))) σ
def xX5_goesOnE : am_X := (SH, KF, (some .boolean), FT_X5, PT_X5, CT_X5, KT_X5, LT_X5, NT_X5, [])
theorem xX5_goesOnE_SH : am_SH xX5_goesOnE = SH := rfl
theorem xX5_goesOnE_KF : am_KF xX5_goesOnE = KF := rfl
theorem xX5_goesOnE_rt : am_rt xX5_goesOnE = (some .boolean) := rfl
theorem xX5_goesOnE_FT : am_FT xX5_goesOnE = FT_X5 := rfl
theorem xX5_goesOnE_PT : am_PT xX5_goesOnE = PT_X5 := rfl
theorem xX5_goesOnE_CT : am_CT xX5_goesOnE = CT_X5 := rfl
theorem xX5_goesOnE_KT : am_KT xX5_goesOnE = KT_X5 := rfl
theorem xX5_goesOnE_LT : am_LT xX5_goesOnE = LT_X5 := rfl
theorem xX5_goesOnE_NT : am_NT xX5_goesOnE = NT_X5 := rfl
theorem xX5_goesOnE_t4 (k : Nat → Prop) : am_tg 4 (14) k = k 18 := am_tg_eq (by decide)
theorem xX5_goesOnE_t11 (k : Nat → Prop) : am_tg 11 (7) k = k 18 := am_tg_eq (by decide)
theorem xX5_goesOnE_t15 (k : Nat → Prop) : am_tg 15 (4) k = k 19 := am_tg_eq (by decide)

set_option maxRecDepth 100000 in
theorem ptX5_goesOnE : am_B cX5_goesOn xX5_goesOnE 1 0 sX5_goesOnE := by
  intro n0 as σ post AA hA h
  obtain ⟨rfl, b, Z, s, hs, rfl, h⟩ := h
  refine ⟨by simp [am_sl, Value.category], ?_⟩
  show AA 0 [some (.ref 2)] [] 92 σ
  cases s with
  | inr q =>
    obtain ⟨v, q1, q2, q3, q4⟩ := hs
    obtain ⟨fv, efv⟩ : ∃ fv, fv = q.1 := ⟨_, rfl⟩
    rw [← efv] at q1 q2
    have h : post (some (.int (Int32.ofInt 0))) σ := h
    refine hA [(7, 1)] 20 _ _ _ _ _ ?_
    try simp only [dX5_goesOn_0, dX5_goesOn_1, FT_X5_43, dX5_goesOn_4, xX5_goesOnE_t4, dX5_goesOn_7, dX5_goesOn_8, FT_X5_33, dX5_goesOn_11, xX5_goesOnE_t11, dX5_goesOn_14, dX5_goesOn_15, xX5_goesOnE_t15, dX5_goesOn_18, dX5_goesOn_19, xX5_goesOnE_SH, xX5_goesOnE_KF, xX5_goesOnE_rt, xX5_goesOnE_FT, xX5_goesOnE_PT, xX5_goesOnE_CT, xX5_goesOnE_KT, xX5_goesOnE_LT, xX5_goesOnE_NT, o_aload_n, o_getfield, o_goto, o_iconst, o_ifCond_eq, o_ifCond_ne, o_ireturn, SH_2, KF_2_4, KF_2_7, am_ty, am_vc, am_opt, am_cl, am_find, am_ldi, am_ldl, am_lda, am_v, am_1, am_1l, am_1a, am_2, am_2l, am_ix, am_ri, am_arr, am_pf, am_rc, am_mask, am_lg, am_av, am_nat, fv_0, fv_1, fv_2, fv_3, fw_0, fw_1, List.getElem?_cons_zero, List.getElem?_cons_succ, List.set_cons_zero, List.set_cons_succ, List.length_cons, List.length_nil, List.take_succ_cons, List.take_zero, List.drop_succ_cons, List.drop_zero, List.reverse_cons, List.reverse_nil, List.nil_append, List.cons_append, List.append_nil, List.map_cons, List.map_nil, List.sum_cons, List.sum_nil, Value.category, Option.toList_some, Option.toList_none, Nat.reduceAdd, Nat.reduceLT, Nat.reduceLeDiff, Nat.reduceEqDiff, Nat.reduceSub, Nat.add_zero, Nat.le_refl, Nat.zero_le, Int.reduceNeg, Int.reduceLE, Int.reduceLT, true_and, and_true, and_self, if_true, if_false, ite_true, ite_false, eq_self_iff_true, reduceIte, reduceCtorEq, not_false_eq_true, not_true_eq_false, or_true, true_or, or_false, false_or, Nat.lt_irrefl, Nat.zero_lt_succ, q2, nb_0, nb_1]
    try simp (disch := omega) only [ii_0, ii_1, ii_t, ii_add, ii_sub, ii_mul, ii_lt, ii_le, ii_eq, ij_in, ii_c, Int.toNat_natCast, Int.toNat_zero, Int.reduceToNat, Int.reduceEq, Int.reduceNe, Int.reduceLE, Int.reduceLT, Int.reduceAdd, Int.reduceSub, Int.reduceMul, Int.reduceNeg, Nat.reduceLT, Nat.reduceAdd, Nat.reduceMul, not_false_eq_true, not_true_eq_false, true_and, and_true, and_self, false_and, and_false, true_implies, false_implies, implies_true, forall_const, if_true, if_false, ite_true, ite_false, reduceIte, eq_self_iff_true, Int.natCast_nonneg, Int.zero_add, Int.add_zero, pi_s, pi_n, on_2000, on_402, on_408, on_19, on_5, on_4, q2, nb_0, nb_1]
    first
    | exact h
    | exact ⟨fun z => absurd z (by omega), fun _ => h⟩
    | exact ⟨fun _ => h, fun z => absurd z (by omega)⟩
  | inl t =>
    have kb := tkd_b (b := b) (Z := Z) (i := ps b Z t)
    have c0 := ck_0 (k := tK b Z t) ⟨kb.1, kb.2.1⟩
    have kb2 := ck_b (k := tK b Z t) ⟨kb.1, kb.2.1⟩
    obtain ⟨v, ⟨t1, t2⟩, e3, e4, e5, e6, e7, e8⟩ := hs
    obtain ⟨kv, ekv⟩ : ∃ kv, kv = ck (tK b Z t) := ⟨_, rfl⟩
    rw [← ekv] at e4 c0 kb2
    have h : post (some (.int (Int32.ofInt (if tK b Z t = 0 then 0 else 1)))) σ := h
    have h0 : kv = 0 → post (some (.int (Int32.ofInt 0))) σ := fun z => by rw [if_pos (c0.mp z)] at h; exact h
    have h1 : ¬ kv = 0 → post (some (.int (Int32.ofInt 1))) σ := fun z => by rw [if_neg (fun y => z (c0.mpr y))] at h; exact h
    refine hA [] 20 _ _ _ _ _ ?_
    try simp only [dX5_goesOn_0, dX5_goesOn_1, FT_X5_43, dX5_goesOn_4, xX5_goesOnE_t4, dX5_goesOn_7, dX5_goesOn_8, FT_X5_33, dX5_goesOn_11, xX5_goesOnE_t11, dX5_goesOn_14, dX5_goesOn_15, xX5_goesOnE_t15, dX5_goesOn_18, dX5_goesOn_19, xX5_goesOnE_SH, xX5_goesOnE_KF, xX5_goesOnE_rt, xX5_goesOnE_FT, xX5_goesOnE_PT, xX5_goesOnE_CT, xX5_goesOnE_KT, xX5_goesOnE_LT, xX5_goesOnE_NT, o_aload_n, o_getfield, o_goto, o_iconst, o_ifCond_eq, o_ifCond_ne, o_ireturn, SH_2, KF_2_4, KF_2_7, am_ty, am_vc, am_opt, am_cl, am_find, am_ldi, am_ldl, am_lda, am_v, am_1, am_1l, am_1a, am_2, am_2l, am_ix, am_ri, am_arr, am_pf, am_rc, am_mask, am_lg, am_av, am_nat, fv_0, fv_1, fv_2, fv_3, fw_0, fw_1, List.getElem?_cons_zero, List.getElem?_cons_succ, List.set_cons_zero, List.set_cons_succ, List.length_cons, List.length_nil, List.take_succ_cons, List.take_zero, List.drop_succ_cons, List.drop_zero, List.reverse_cons, List.reverse_nil, List.nil_append, List.cons_append, List.append_nil, List.map_cons, List.map_nil, List.sum_cons, List.sum_nil, Value.category, Option.toList_some, Option.toList_none, Nat.reduceAdd, Nat.reduceLT, Nat.reduceLeDiff, Nat.reduceEqDiff, Nat.reduceSub, Nat.add_zero, Nat.le_refl, Nat.zero_le, Int.reduceNeg, Int.reduceLE, Int.reduceLT, true_and, and_true, and_self, if_true, if_false, ite_true, ite_false, eq_self_iff_true, reduceIte, reduceCtorEq, not_false_eq_true, not_true_eq_false, or_true, true_or, or_false, false_or, Nat.lt_irrefl, Nat.zero_lt_succ, e8, e4, nb_0, nb_1]
    try simp (disch := omega) only [ii_0, ii_1, ii_t, ii_add, ii_sub, ii_mul, ii_lt, ii_le, ii_eq, ij_in, ii_c, Int.toNat_natCast, Int.toNat_zero, Int.reduceToNat, Int.reduceEq, Int.reduceNe, Int.reduceLE, Int.reduceLT, Int.reduceAdd, Int.reduceSub, Int.reduceMul, Int.reduceNeg, Nat.reduceLT, Nat.reduceAdd, Nat.reduceMul, not_false_eq_true, not_true_eq_false, true_and, and_true, and_self, false_and, and_false, true_implies, false_implies, implies_true, forall_const, if_true, if_false, ite_true, ite_false, reduceIte, eq_self_iff_true, Int.natCast_nonneg, Int.zero_add, Int.add_zero, pi_s, pi_n, on_2000, on_402, on_408, on_19, on_5, on_4, e8, e4, nb_0, nb_1]
    first
    | exact ⟨h1, h0⟩
    | exact ⟨h0, h1⟩
theorem mX5_goesOnE (l : Launch) : am_M l TB NB vwCl SH KF yX5_goesOn cX5_goesOn 1 (some .boolean) 2 0 0 sX5_goesOnE := by
  refine am_M.of xX5_goesOnE (by decide +kernel) TB_good GF rfl rfl rfl (by decide) ⟨FT_X5_ok, PT_X5_ok _, CT_X5_ok, KT_X5_ok, LT_X5_ok, NT_X5_ok, ?_⟩ ptX5_goesOnE
  exact fun _ h => absurd h List.not_mem_nil

def sX5_placeOfFaultE : am_Sp := fun as n σ post => n = 92 ∧ as = [.ref 2] ∧ post (some (.int (σ.1 2 8))) σ
def xX5_placeOfFaultE : am_X := (SH, KF, (some .int), FT_X5, PT_X5, CT_X5, KT_X5, LT_X5, NT_X5, [])
theorem xX5_placeOfFaultE_SH : am_SH xX5_placeOfFaultE = SH := rfl
theorem xX5_placeOfFaultE_KF : am_KF xX5_placeOfFaultE = KF := rfl
theorem xX5_placeOfFaultE_rt : am_rt xX5_placeOfFaultE = (some .int) := rfl
theorem xX5_placeOfFaultE_FT : am_FT xX5_placeOfFaultE = FT_X5 := rfl
theorem xX5_placeOfFaultE_PT : am_PT xX5_placeOfFaultE = PT_X5 := rfl
theorem xX5_placeOfFaultE_CT : am_CT xX5_placeOfFaultE = CT_X5 := rfl
theorem xX5_placeOfFaultE_KT : am_KT xX5_placeOfFaultE = KT_X5 := rfl
theorem xX5_placeOfFaultE_LT : am_LT xX5_placeOfFaultE = LT_X5 := rfl
theorem xX5_placeOfFaultE_NT : am_NT xX5_placeOfFaultE = NT_X5 := rfl

theorem ptX5_placeOfFaultE : am_B cX5_placeOfFault xX5_placeOfFaultE 1 0 sX5_placeOfFaultE := by
  intro n0 as σ post AA hA h
  obtain ⟨rfl, rfl, h⟩ := h
  refine ⟨by simp [am_sl, Value.category], ?_⟩
  show AA 0 [some (.ref 2)] [] 92 σ
  refine hA [] 5 _ _ _ _ _ ?_
  try simp only [dX5_placeOfFault_0, dX5_placeOfFault_1, FT_X5_46, dX5_placeOfFault_4, xX5_placeOfFaultE_SH, xX5_placeOfFaultE_KF, xX5_placeOfFaultE_rt, xX5_placeOfFaultE_FT, xX5_placeOfFaultE_PT, xX5_placeOfFaultE_CT, xX5_placeOfFaultE_KT, xX5_placeOfFaultE_LT, xX5_placeOfFaultE_NT, o_aload_n, o_getfield, o_ireturn, SH_2, KF_2_8, am_ty, am_vc, am_opt, am_cl, am_find, am_ldi, am_ldl, am_lda, am_v, am_1, am_1l, am_1a, am_2, am_2l, am_ix, am_ri, am_arr, am_pf, am_rc, am_mask, am_lg, am_av, am_nat, fv_0, fv_1, fv_2, fv_3, fw_0, fw_1, List.getElem?_cons_zero, List.getElem?_cons_succ, List.set_cons_zero, List.set_cons_succ, List.length_cons, List.length_nil, List.take_succ_cons, List.take_zero, List.drop_succ_cons, List.drop_zero, List.reverse_cons, List.reverse_nil, List.nil_append, List.cons_append, List.append_nil, List.map_cons, List.map_nil, List.sum_cons, List.sum_nil, Value.category, Option.toList_some, Option.toList_none, Nat.reduceAdd, Nat.reduceLT, Nat.reduceLeDiff, Nat.reduceEqDiff, Nat.reduceSub, Nat.add_zero, Nat.le_refl, Nat.zero_le, Int.reduceNeg, Int.reduceLE, Int.reduceLT, true_and, and_true, and_self, if_true, if_false, ite_true, ite_false, eq_self_iff_true, reduceIte, reduceCtorEq, not_false_eq_true, not_true_eq_false, or_true, true_or, or_false, false_or, Nat.lt_irrefl, Nat.zero_lt_succ]
  exact h
theorem mX5_placeOfFaultE (l : Launch) : am_M l TB NB vwCl SH KF yX5_placeOfFault cX5_placeOfFault 1 (some .int) 2 0 0 sX5_placeOfFaultE := by
  refine am_M.of xX5_placeOfFaultE (by decide +kernel) TB_good GF rfl rfl rfl (by decide) ⟨FT_X5_ok, PT_X5_ok _, CT_X5_ok, KT_X5_ok, LT_X5_ok, NT_X5_ok, ?_⟩ ptX5_placeOfFaultE
  exact fun _ h => absurd h List.not_mem_nil

