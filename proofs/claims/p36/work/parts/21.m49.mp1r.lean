def FZe (o k : Nat) : Bool := match o with
  | 51 => k == 2 || k == 17 || k == 18 || k == 49 || k == 58
  | 60 => true
  | 61 => true
  | 66 => true
  | 67 => true
  | 68 => true
  | 90 => true
  | 87 => true
  | _ => false
theorem FZ_of {b : Int} {σ τ : am_S} (h : ∀ o k, FZe o k = true → τ.1 o k = σ.1 o k) (hF : FZ b σ) : FZ b τ := by
  obtain ⟨⟨a1, a2, a3, a4, a5⟩, b1, c1, ⟨d1, d2, d3⟩, e1⟩ := hF
  refine ⟨⟨?_, ?_, ?_, ?_, ?_⟩, fun k hk => ?_, ?_, ⟨?_, ?_, ?_⟩, fun k hk => ⟨?_, ?_⟩⟩
  · rw [h _ _ (by rfl)]; exact a1
  · rw [h _ _ (by rfl)]; exact a2
  · rw [h _ _ (by rfl)]; exact a3
  · rw [h _ _ (by rfl)]; exact a4
  · rw [h _ _ (by rfl)]; exact a5
  · rw [h _ _ (by rfl)]; exact b1 k hk
  · rw [h _ _ (by rfl)]; exact c1
  · rw [h _ _ (by rfl)]; exact d1
  · rw [h _ _ (by rfl)]; exact d2
  · rw [h _ _ (by rfl)]; exact d3
  · rw [h _ _ (by rfl)]; exact (e1 k hk).1
  · rw [h _ _ (by rfl)]; exact (e1 k hk).2
theorem FZ_pi {b : Int} {σ : am_S} {o k : Nat} {x : Int32} (hd : FZe o k = false) (hF : FZ b σ) : FZ b (am_pi σ o k x) := by
  refine FZ_of (fun o' k' h => pi_n _ _ _ _ ?_) hF
  rintro ⟨rfl, rfl⟩
  rw [hd] at h
  cases h
def sX12_begins : am_Sp := fun as n σ post => ∃ (b : Int), n = 92 ∧ as = [.ref 51] ∧ FZ b σ ∧ ∀ τ, FZ b τ → Lo σ τ → (∀ k, k < 51 → τ.1 80 k = Int32.ofInt (n0w k)) → post none τ
def xX12_begins : am_X := (SH, KF, none, FT_X12, PT_X12, CT_X12, KT_X12, LT_X12, NT_X12, [])
theorem xX12_begins_SH : am_SH xX12_begins = SH := rfl
theorem xX12_begins_KF : am_KF xX12_begins = KF := rfl
theorem xX12_begins_rt : am_rt xX12_begins = none := rfl
theorem xX12_begins_FT : am_FT xX12_begins = FT_X12 := rfl
theorem xX12_begins_PT : am_PT xX12_begins = PT_X12 := rfl
theorem xX12_begins_CT : am_CT xX12_begins = CT_X12 := rfl
theorem xX12_begins_KT : am_KT xX12_begins = KT_X12 := rfl
theorem xX12_begins_LT : am_LT xX12_begins = LT_X12 := rfl
theorem xX12_begins_NT : am_NT xX12_begins = NT_X12 := rfl
theorem xX12_begins_t5 (k : Nat → Prop) : am_tg 5 (16) k = k 21 := am_tg_eq (by decide)
theorem xX12_begins_t18 (k : Nat → Prop) : am_tg 18 (-16) k = k 2 := am_tg_eq (by decide)
theorem xX12_begins_t25 (k : Nat → Prop) : am_tg 25 (55) k = k 80 := am_tg_eq (by decide)
theorem xX12_begins_t43 (k : Nat → Prop) : am_tg 43 (19) k = k 62 := am_tg_eq (by decide)
theorem xX12_begins_t59 (k : Nat → Prop) : am_tg 59 (4) k = k 63 := am_tg_eq (by decide)
theorem xX12_begins_t77 (k : Nat → Prop) : am_tg 77 (-54) k = k 23 := am_tg_eq (by decide)

def rowA (a j : Nat) : Int := if j < a then -1 else if 5 ≤ j ∧ j < 5 + a then -2 else 0
set_option maxRecDepth 100000 in
theorem bg_loop2 {post : Option Value → am_S → Prop} {AA : Nat → List (Option Value) → List Value → Nat → am_S → Prop} (hA : ∀ cuts f pc ls stk n τ, am_vc cX12_begins xX12_begins (92 + 0) post AA cuts f pc ls stk n τ → AA pc ls stk n τ) {b : Int} {σ0 : am_S} (h : ∀ τ, FZ b τ → Lo σ0 τ → (∀ k, k < 51 → τ.1 80 k = Int32.ofInt (n0w k)) → post none τ) : ∀ k : Nat, k ≤ 5 → ∀ σ, FZ b σ → Lo σ0 σ → (∀ j, j < 51 → σ.1 80 j = Int32.ofInt (rowA k j)) → AA 23 [some (.ref 51), some (.int (Int32.ofInt (k : Int)))] [] 92 σ := by
  refine am_up 5 fun k hk ih σ hF hL hR => ?_
  have e1 : σ.1 51 18 = Int32.ofInt 0 := hF.1.2.2.1
  have e3 : σ.1 61 0 = Int32.ofInt 0 := hF.2.2.2.1.2.1
  refine hA [(23, 2)] 60 _ _ _ _ _ ?_
  try simp only [dX12_begins_0, dX12_begins_1, dX12_begins_2, dX12_begins_3, dX12_begins_5, xX12_begins_t5, dX12_begins_8, dX12_begins_9, FT_X12_104, dX12_begins_12, dX12_begins_13, dX12_begins_14, dX12_begins_15, dX12_begins_18, xX12_begins_t18, dX12_begins_21, dX12_begins_22, dX12_begins_23, dX12_begins_24, dX12_begins_25, xX12_begins_t25, dX12_begins_28, dX12_begins_29, dX12_begins_32, dX12_begins_33, dX12_begins_34, dX12_begins_35, FT_X12_46, dX12_begins_38, dX12_begins_39, FT_X12_221, dX12_begins_42, dX12_begins_43, xX12_begins_t43, dX12_begins_46, dX12_begins_47, FT_X12_49, dX12_begins_50, dX12_begins_51, dX12_begins_52, dX12_begins_55, dX12_begins_56, dX12_begins_57, dX12_begins_58, dX12_begins_59, xX12_begins_t59, dX12_begins_62, dX12_begins_63, dX12_begins_64, dX12_begins_65, dX12_begins_68, dX12_begins_69, dX12_begins_70, dX12_begins_71, dX12_begins_73, dX12_begins_74, dX12_begins_77, xX12_begins_t77, dX12_begins_80, dX12_begins_81, dX12_begins_82, FT_X12_61, dX12_begins_85, dX12_begins_86, dX12_begins_89, dX12_begins_90, PT_X12_296, dX12_begins_93, dX12_begins_94, dX12_begins_95, PT_X12_299, dX12_begins_98, xX12_begins_SH, xX12_begins_KF, xX12_begins_rt, xX12_begins_FT, xX12_begins_PT, xX12_begins_CT, xX12_begins_KT, xX12_begins_LT, xX12_begins_NT, o_aload_n, o_bipush, o_getfield, o_goto, o_iadd, o_iaload, o_iastore, o_iconst, o_if_icmp_ge, o_iinc, o_iload_n, o_imul, o_istore_n, o_putfield, o_return_, SH_51, KF_51_18, KF_51_24, SH_62, KF_51_46, SH_80, KF_51_23, SH_61, KF_51_48, KF_51_28, SH_66, KF_51_47, am_ty, am_vc, am_opt, am_cl, am_find, am_ldi, am_ldl, am_lda, am_v, am_1, am_1l, am_1a, am_2, am_2l, am_ix, am_ri, am_arr, am_pf, am_rc, am_mask, am_lg, am_av, am_nat, fv_0, fv_1, fv_2, fv_3, fw_0, fw_1, List.getElem?_cons_zero, List.getElem?_cons_succ, List.set_cons_zero, List.set_cons_succ, List.length_cons, List.length_nil, List.take_succ_cons, List.take_zero, List.drop_succ_cons, List.drop_zero, List.reverse_cons, List.reverse_nil, List.nil_append, List.cons_append, List.append_nil, List.map_cons, List.map_nil, List.sum_cons, List.sum_nil, Value.category, Option.toList_some, Option.toList_none, Nat.reduceAdd, Nat.reduceLT, Nat.reduceLeDiff, Nat.reduceEqDiff, Nat.reduceSub, Nat.add_zero, Nat.le_refl, Nat.zero_le, Int.reduceNeg, Int.reduceLE, Int.reduceLT, true_and, and_true, and_self, if_true, if_false, ite_true, ite_false, eq_self_iff_true, reduceIte, reduceCtorEq, not_false_eq_true, not_true_eq_false, or_true, true_or, or_false, false_or, Nat.lt_irrefl, Nat.zero_lt_succ, e1, nb_0]
  try simp (disch := omega) only [ii_0, ii_1, ii_t, ii_add, ii_sub, ii_mul, ii_lt, ii_le, ii_eq, ij_in, ii_c, Int.toNat_natCast, Int.toNat_zero, Int.reduceToNat, Int.reduceEq, Int.reduceNe, Int.reduceLE, Int.reduceLT, Int.reduceAdd, Int.reduceSub, Int.reduceMul, Int.reduceNeg, Nat.reduceLT, Nat.reduceAdd, Nat.reduceMul, not_false_eq_true, not_true_eq_false, true_and, and_true, and_self, false_and, and_false, true_implies, false_implies, implies_true, forall_const, if_true, if_false, ite_true, ite_false, reduceIte, eq_self_iff_true, Int.natCast_nonneg, Int.zero_add, Int.add_zero, pi_s, pi_n, e1, e3, ik_s]
  refine ⟨fun h1 => ?_, fun h1 => ?_⟩
  · have : k = 5 := by omega
    subst this
    refine h _ (FZ_pi rfl (FZ_pi rfl hF)) (Lo_pi (Lo_pi hL (by decide)) (by decide)) (fun j hj => ?_)
    rw [pi_n _ _ _ _ (by omega), pi_n _ _ _ _ (by omega), hR j hj]
    congr 1
    unfold rowA n0w
    (repeat' split) <;> omega
  · have hS : ∀ j, j < 51 → (am_pi (am_pi σ 80 k (Int32.ofInt (-1))) 80 (5 + (k : Int)).toNat (Int32.ofInt (-2))).1 80 j = Int32.ofInt (rowA (k + 1) j) := by
      intro j hj
      by_cases q1 : j = 5 + k
      · rw [show (5 + (k : Int)).toNat = j by omega, pi_s]
        congr 1
        unfold rowA
        (repeat' split) <;> omega
      · rw [pi_n _ _ _ _ (by omega)]
        by_cases q2 : j = k
        · subst q2
          rw [pi_s]
          congr 1
          unfold rowA
          (repeat' split) <;> omega
        · rw [pi_n _ _ _ _ (by omega), hR j hj]
          congr 1
          unfold rowA
          (repeat' split) <;> omega
    have i0 := ih (by omega) _ (FZ_pi rfl (FZ_pi rfl hF)) (Lo_pi (Lo_pi hL (by decide)) (by decide)) hS
    repeat' (first | exact i0 | refine And.intro ?_ ?_ | intro _)
    all_goals first | exact i0 | omega
set_option maxRecDepth 100000 in
theorem bg_loop1 {post : Option Value → am_S → Prop} {AA : Nat → List (Option Value) → List Value → Nat → am_S → Prop} (hA : ∀ cuts f pc ls stk n τ, am_vc cX12_begins xX12_begins (92 + 0) post AA cuts f pc ls stk n τ → AA pc ls stk n τ) {b : Int} {σ0 : am_S} (h : ∀ τ, FZ b τ → Lo σ0 τ → (∀ k, k < 51 → τ.1 80 k = Int32.ofInt (n0w k)) → post none τ) : ∀ k : Nat, k ≤ 51 → ∀ σ, FZ b σ → Lo σ0 σ → (∀ j, j < k → σ.1 80 j = Int32.ofInt 0) → AA 2 [some (.ref 51), some (.int (Int32.ofInt (k : Int)))] [] 92 σ := by
  refine am_up 51 fun k hk ih σ hF hL hR => ?_
  refine hA [(2, 2), (23, 2)] 60 _ _ _ _ _ ?_
  try simp only [dX12_begins_0, dX12_begins_1, dX12_begins_2, dX12_begins_3, dX12_begins_5, xX12_begins_t5, dX12_begins_8, dX12_begins_9, FT_X12_104, dX12_begins_12, dX12_begins_13, dX12_begins_14, dX12_begins_15, dX12_begins_18, xX12_begins_t18, dX12_begins_21, dX12_begins_22, dX12_begins_23, dX12_begins_24, dX12_begins_25, xX12_begins_t25, dX12_begins_28, dX12_begins_29, dX12_begins_32, dX12_begins_33, dX12_begins_34, dX12_begins_35, FT_X12_46, dX12_begins_38, dX12_begins_39, FT_X12_221, dX12_begins_42, dX12_begins_43, xX12_begins_t43, dX12_begins_46, dX12_begins_47, FT_X12_49, dX12_begins_50, dX12_begins_51, dX12_begins_52, dX12_begins_55, dX12_begins_56, dX12_begins_57, dX12_begins_58, dX12_begins_59, xX12_begins_t59, dX12_begins_62, dX12_begins_63, dX12_begins_64, dX12_begins_65, dX12_begins_68, dX12_begins_69, dX12_begins_70, dX12_begins_71, dX12_begins_73, dX12_begins_74, dX12_begins_77, xX12_begins_t77, dX12_begins_80, dX12_begins_81, dX12_begins_82, FT_X12_61, dX12_begins_85, dX12_begins_86, dX12_begins_89, dX12_begins_90, PT_X12_296, dX12_begins_93, dX12_begins_94, dX12_begins_95, PT_X12_299, dX12_begins_98, xX12_begins_SH, xX12_begins_KF, xX12_begins_rt, xX12_begins_FT, xX12_begins_PT, xX12_begins_CT, xX12_begins_KT, xX12_begins_LT, xX12_begins_NT, o_aload_n, o_bipush, o_getfield, o_goto, o_iadd, o_iaload, o_iastore, o_iconst, o_if_icmp_ge, o_iinc, o_iload_n, o_imul, o_istore_n, o_putfield, o_return_, SH_51, KF_51_18, KF_51_24, SH_62, KF_51_46, SH_80, KF_51_23, SH_61, KF_51_48, KF_51_28, SH_66, KF_51_47, am_ty, am_vc, am_opt, am_cl, am_find, am_ldi, am_ldl, am_lda, am_v, am_1, am_1l, am_1a, am_2, am_2l, am_ix, am_ri, am_arr, am_pf, am_rc, am_mask, am_lg, am_av, am_nat, fv_0, fv_1, fv_2, fv_3, fw_0, fw_1, List.getElem?_cons_zero, List.getElem?_cons_succ, List.set_cons_zero, List.set_cons_succ, List.length_cons, List.length_nil, List.take_succ_cons, List.take_zero, List.drop_succ_cons, List.drop_zero, List.reverse_cons, List.reverse_nil, List.nil_append, List.cons_append, List.append_nil, List.map_cons, List.map_nil, List.sum_cons, List.sum_nil, Value.category, Option.toList_some, Option.toList_none, Nat.reduceAdd, Nat.reduceLT, Nat.reduceLeDiff, Nat.reduceEqDiff, Nat.reduceSub, Nat.add_zero, Nat.le_refl, Nat.zero_le, Int.reduceNeg, Int.reduceLE, Int.reduceLT, true_and, and_true, and_self, if_true, if_false, ite_true, ite_false, eq_self_iff_true, reduceIte, reduceCtorEq, not_false_eq_true, not_true_eq_false, or_true, true_or, or_false, false_or, Nat.lt_irrefl, Nat.zero_lt_succ]
  try simp (disch := omega) only [ii_0, ii_1, ii_t, ii_add, ii_sub, ii_mul, ii_lt, ii_le, ii_eq, ij_in, ii_c, Int.toNat_natCast, Int.toNat_zero, Int.reduceToNat, Int.reduceEq, Int.reduceNe, Int.reduceLE, Int.reduceLT, Int.reduceAdd, Int.reduceSub, Int.reduceMul, Int.reduceNeg, Nat.reduceLT, Nat.reduceAdd, Nat.reduceMul, not_false_eq_true, not_true_eq_false, true_and, and_true, and_self, false_and, and_false, true_implies, false_implies, implies_true, forall_const, if_true, if_false, ite_true, ite_false, reduceIte, eq_self_iff_true, Int.natCast_nonneg, Int.zero_add, Int.add_zero, pi_s, pi_n, ik_s]
  refine ⟨fun h1 => ?_, fun h1 => ?_⟩
  · refine bg_loop2 hA h 0 (by omega) σ hF hL (fun j hj => ?_)
    rw [hR j (by omega)]
    congr 1
    unfold rowA
    (repeat' split) <;> omega
  · refine ⟨by omega, ih (by omega) _ (FZ_pi rfl hF) (Lo_pi hL (by decide)) (fun j hj => ?_)⟩
    by_cases q : j = k
    · subst q; rw [pi_s]
    · rw [pi_n _ _ _ _ (by omega)]; exact hR j (by omega)
set_option maxRecDepth 100000 in
theorem pX12_begins : am_B cX12_begins xX12_begins 2 0 sX12_begins := by
  intro n0 as σ post AA hA h
  obtain ⟨b, rfl, rfl, hF, h⟩ := h
  refine ⟨by simp [am_sl, Value.category], ?_⟩
  show AA 0 [some (.ref 51), none] [] 92 σ
  refine hA [(2, 2)] 20 _ _ _ _ _ ?_
  try simp only [dX12_begins_0, dX12_begins_1, dX12_begins_2, dX12_begins_3, dX12_begins_5, xX12_begins_t5, dX12_begins_8, dX12_begins_9, FT_X12_104, dX12_begins_12, dX12_begins_13, dX12_begins_14, dX12_begins_15, dX12_begins_18, xX12_begins_t18, dX12_begins_21, dX12_begins_22, dX12_begins_23, dX12_begins_24, dX12_begins_25, xX12_begins_t25, dX12_begins_28, dX12_begins_29, dX12_begins_32, dX12_begins_33, dX12_begins_34, dX12_begins_35, FT_X12_46, dX12_begins_38, dX12_begins_39, FT_X12_221, dX12_begins_42, dX12_begins_43, xX12_begins_t43, dX12_begins_46, dX12_begins_47, FT_X12_49, dX12_begins_50, dX12_begins_51, dX12_begins_52, dX12_begins_55, dX12_begins_56, dX12_begins_57, dX12_begins_58, dX12_begins_59, xX12_begins_t59, dX12_begins_62, dX12_begins_63, dX12_begins_64, dX12_begins_65, dX12_begins_68, dX12_begins_69, dX12_begins_70, dX12_begins_71, dX12_begins_73, dX12_begins_74, dX12_begins_77, xX12_begins_t77, dX12_begins_80, dX12_begins_81, dX12_begins_82, FT_X12_61, dX12_begins_85, dX12_begins_86, dX12_begins_89, dX12_begins_90, PT_X12_296, dX12_begins_93, dX12_begins_94, dX12_begins_95, PT_X12_299, dX12_begins_98, xX12_begins_SH, xX12_begins_KF, xX12_begins_rt, xX12_begins_FT, xX12_begins_PT, xX12_begins_CT, xX12_begins_KT, xX12_begins_LT, xX12_begins_NT, o_aload_n, o_bipush, o_getfield, o_goto, o_iadd, o_iaload, o_iastore, o_iconst, o_if_icmp_ge, o_iinc, o_iload_n, o_imul, o_istore_n, o_putfield, o_return_, SH_51, KF_51_18, KF_51_24, SH_62, KF_51_46, SH_80, KF_51_23, SH_61, KF_51_48, KF_51_28, SH_66, KF_51_47, am_ty, am_vc, am_opt, am_cl, am_find, am_ldi, am_ldl, am_lda, am_v, am_1, am_1l, am_1a, am_2, am_2l, am_ix, am_ri, am_arr, am_pf, am_rc, am_mask, am_lg, am_av, am_nat, fv_0, fv_1, fv_2, fv_3, fw_0, fw_1, List.getElem?_cons_zero, List.getElem?_cons_succ, List.set_cons_zero, List.set_cons_succ, List.length_cons, List.length_nil, List.take_succ_cons, List.take_zero, List.drop_succ_cons, List.drop_zero, List.reverse_cons, List.reverse_nil, List.nil_append, List.cons_append, List.append_nil, List.map_cons, List.map_nil, List.sum_cons, List.sum_nil, Value.category, Option.toList_some, Option.toList_none, Nat.reduceAdd, Nat.reduceLT, Nat.reduceLeDiff, Nat.reduceEqDiff, Nat.reduceSub, Nat.add_zero, Nat.le_refl, Nat.zero_le, Int.reduceNeg, Int.reduceLE, Int.reduceLT, true_and, and_true, and_self, if_true, if_false, ite_true, ite_false, eq_self_iff_true, reduceIte, reduceCtorEq, not_false_eq_true, not_true_eq_false, or_true, true_or, or_false, false_or, Nat.lt_irrefl, Nat.zero_lt_succ]
  exact bg_loop1 hA h 0 (by omega) σ hF (Lo.refl σ) (fun j hj => absurd hj (by omega))
theorem mX12_begins (l : Launch) : am_M l TB NB vwCl SH KF yX12_begins cX12_begins 2 none 2 0 0 sX12_begins := by
  refine am_M.of xX12_begins (by decide +kernel) TB_good GF rfl rfl rfl (by decide) ⟨FT_X12_ok, PT_X12_ok _, CT_X12_ok, KT_X12_ok, LT_X12_ok, NT_X12_ok, ?_⟩ pX12_begins
  exact fun _ h => absurd h List.not_mem_nil

