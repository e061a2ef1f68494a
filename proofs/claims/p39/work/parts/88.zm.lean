/-! THE REFERENCE RECKONS: a term, a law, exactly. Printed from wip/am/chk/hand/jc.in. -/
/-- only the pile and byNothing change -/
def trA (σ τ : am_S) : Prop := (∀ o i, o ≠ 78 → ¬ (o = 51 ∧ i = 44) → τ.1 o i = σ.1 o i) ∧ τ.2 = σ.2
theorem trA_r (σ : am_S) : trA σ σ := ⟨fun _ _ _ _ => rfl, rfl⟩
theorem trA_t {σ τ υ : am_S} (h : trA σ τ) (g : trA τ υ) : trA σ υ := ⟨fun o i q w => (g.1 o i q w).trans (h.1 o i q w), g.2.trans h.2⟩
theorem trA_pi {σ : am_S} {k : Nat} {x : Int32} : trA σ (am_pi σ 78 k x) := ⟨fun o i q _ => pi_n _ _ _ _ (fun z => q z.1), rfl⟩
theorem trA_by {σ : am_S} {x : Int32} : trA σ (am_pi σ 51 44 x) := ⟨fun o i _ w => pi_n _ _ _ _ w, rfl⟩
theorem rSg_A {σ τ : am_S} {p q : Int} {c : List (Int × Int)} (h : rSg σ p q c) (g : trA σ τ) : rSg τ p q c := rSg_cg h (fun i _ _ => ⟨by unfold cd; rw [g.1 _ _ (by decide) (fun z => absurd z.1 (by decide))], by unfold cI; rw [g.1 _ _ (by decide) (fun z => absurd z.1 (by decide))]⟩)
abbrev vrR (σ : am_S) (j : Nat) : Int32 := σ.1 77 j
theorem vrR_A {σ τ : am_S} (g : trA σ τ) : vrR τ = vrR σ := funext fun j => g.1 _ _ (by decide) (fun z => absurd z.1 (by decide))
/-- the pile, the last first -/
def trP (σ : am_S) : List Int32 → Prop
  | [] => True
  | x :: t => σ.1 78 t.length = x ∧ trP σ t
theorem trP_up {σ : am_S} {k : Nat} {x : Int32} : ∀ {st : List Int32}, trP σ st → st.length ≤ k → trP (am_pi σ 78 k x) st
  | [], _, _ => trivial
  | y :: t, h, hk => by
    have hk : t.length + 1 ≤ k := hk
    refine ⟨?_, trP_up h.2 (by omega)⟩
    rw [pi_n _ _ _ _ (fun z => by have := z.2; omega)]
    exact h.1
/-- codes as cells -/
def cRt (σ : am_S) (n : Nat) (c : List (Int × Int)) : Prop := ∀ i : Nat, i < c.length → σ.1 74 (n + i) = Int32.ofInt (c.getD i (0, 0)).1 ∧ σ.1 75 (n + i) = Int32.ofInt (c.getD i (0, 0)).2
theorem CLn_get {σ : am_S} {c : Nat} : ∀ {n i : Nat}, i < n → (CLn σ c n).getD i (0, 0) = (cd σ (c + i), cI σ (c + i))
  | n + 1, i, h => by
    simp only [CLn]
    rw [List.getD_eq_getElem?_getD]
    by_cases q : i < n
    · rw [List.getElem?_append_left (by rw [CLn_len]; exact q), ← List.getD_eq_getElem?_getD]
      exact CLn_get q
    · have e : i = n := by omega
      subst e
      rw [List.getElem?_append_right (by rw [CLn_len]; exact Nat.le_refl _), CLn_len, Nat.sub_self]
      rfl
theorem rSg_Rt {σ : am_S} {p q : Int} {c : List (Int × Int)} (h : rSg σ p q c) : cRt σ p.toNat c ∧ q = p + (c.length : Int) := by
  obtain ⟨h1, h2, h3⟩ := h
  have hl : c.length = (q - p).toNat := by rw [← h3, CLn_len]
  refine ⟨fun i hi => ?_, by omega⟩
  rw [← h3, CLn_get (by omega)]
  exact ⟨ii_of _, ii_of _⟩
theorem cRt_cons {σ : am_S} {n : Nat} {p : Int × Int} {e : List (Int × Int)} (h : cRt σ n (p :: e)) : (σ.1 74 n = Int32.ofInt p.1 ∧ σ.1 75 n = Int32.ofInt p.2) ∧ cRt σ (n + 1) e := by
  refine ⟨?_, fun i hi => ?_⟩
  · have := h 0 (Nat.zero_lt_succ _)
    exact this
  · have := h (i + 1) (Nat.succ_lt_succ hi)
    rw [show n + (i + 1) = n + 1 + i by omega] at this
    exact this
theorem cRt_A {σ τ : am_S} {n : Nat} {c : List (Int × Int)} (h : cRt σ n c) (g : trA σ τ) : cRt τ n c := fun i hi => by
  rw [g.1 _ _ (by decide) (fun z => absurd z.1 (by decide)), g.1 _ _ (by decide) (fun z => absurd z.1 (by decide))]
  exact h i hi
def tr5 (p q t c : Int) : List (Option Value) := [some (.ref 51), some (.int (Int32.ofInt p)), some (.int (Int32.ofInt q)), some (.int (Int32.ofInt t)), some (.int (Int32.ofInt c)), none, none, none]
def sX12_termOfE : am_Sp := fun as n σ post => n = 92 ∧ ∃ (p q : Int) (c : List (Int × Int)), as = [.ref 51, .int (Int32.ofInt p), .int (Int32.ofInt q)] ∧ rSg σ p q c ∧ q ≤ 840 ∧ kvc c ∧ wfc c ∧ (∀ τ x, exV (vrR σ) c = some x → trA σ τ → τ.1 51 44 = σ.1 51 44 → post (some (.int x)) τ) ∧ (∀ τ, exV (vrR σ) c = none → trA σ τ → τ.1 51 44 = Int32.ofInt 1 → post (some (.int (Int32.ofInt 0))) τ)
section
variable {post : Option Value → am_S → Prop} {AA : Nat → List (Option Value) → List Value → Nat → am_S → Prop}
set_option maxRecDepth 100000 in
/-- a number -/
theorem tr_num (hA : ∀ cuts f pc ls stk n τ, am_vc cX12_termOf xX12_termOf (92 + 0) post AA cuts f pc ls stk n τ → AA pc ls stk n τ) {σ : am_S} {p q v : Int} {n t : Nat} (hn : (n : Int) < q) (hq : q ≤ 840) (ht : t < 30) (e1 : σ.1 74 n = Int32.ofInt 0) (e2 : σ.1 75 n = Int32.ofInt v) (h : AA 5 (tr5 p q ((t + 1 : Nat) : Int) ((n + 1 : Nat) : Int)) [] 92 (am_pi σ 78 t (Int32.ofInt v))) : AA 5 (tr5 p q (t : Int) (n : Int)) [] 92 σ := by
  unfold tr5 at h ⊢
  have f1 : ¬ q ≤ (n : Int) := by omega
  have f2 : (n : Int) < q := hn
  refine hA [(5, 5)] 40 _ _ _ _ _ ?_
  try simp only [dX12_termOf_0, dX12_termOf_1, dX12_termOf_2, dX12_termOf_3, dX12_termOf_5, dX12_termOf_7, dX12_termOf_8, xX12_termOf_t8, dX12_termOf_11, dX12_termOf_12, FT_X12_86, dX12_termOf_15, dX12_termOf_17, dX12_termOf_18, dX12_termOf_20, dX12_termOf_22, dX12_termOf_23, xX12_termOf_t23, dX12_termOf_26, dX12_termOf_27, FT_X12_98, dX12_termOf_30, dX12_termOf_31, dX12_termOf_33, xX12_termOf_t33, dX12_termOf_36, dX12_termOf_37, FT_X12_89, dX12_termOf_40, dX12_termOf_42, dX12_termOf_43, xX12_termOf_t43, dX12_termOf_46, dX12_termOf_47, FT_X12_95, dX12_termOf_50, dX12_termOf_51, dX12_termOf_54, dX12_termOf_56, dX12_termOf_57, dX12_termOf_58, dX12_termOf_59, dX12_termOf_62, xX12_termOf_t62, dX12_termOf_65, dX12_termOf_68, dX12_termOf_69, dX12_termOf_72, dX12_termOf_73, dX12_termOf_74, dX12_termOf_75, dX12_termOf_76, dX12_termOf_78, dX12_termOf_79, dX12_termOf_82, dX12_termOf_83, dX12_termOf_84, dX12_termOf_86, dX12_termOf_88, dX12_termOf_89, xX12_termOf_t89, dX12_termOf_92, dX12_termOf_94, xX12_termOf_t94, dX12_termOf_97, dX12_termOf_98, dX12_termOf_99, PT_X12_288, dX12_termOf_102, dX12_termOf_103, dX12_termOf_104, dX12_termOf_105, dX12_termOf_108, dX12_termOf_109, dX12_termOf_110, dX12_termOf_111, dX12_termOf_113, dX12_termOf_114, xX12_termOf_t114, dX12_termOf_117, dX12_termOf_119, dX12_termOf_121, dX12_termOf_122, xX12_termOf_t122, dX12_termOf_125, dX12_termOf_127, dX12_termOf_128, xX12_termOf_t128, dX12_termOf_131, dX12_termOf_133, dX12_termOf_135, dX12_termOf_136, xX12_termOf_t136, dX12_termOf_139, dX12_termOf_141, dX12_termOf_142, xX12_termOf_t142, dX12_termOf_145, dX12_termOf_147, dX12_termOf_149, dX12_termOf_150, xX12_termOf_t150, dX12_termOf_153, dX12_termOf_155, dX12_termOf_157, dX12_termOf_158, dX12_termOf_159, dX12_termOf_162, xX12_termOf_t162, dX12_termOf_165, dX12_termOf_166, dX12_termOf_169, dX12_termOf_170, dX12_termOf_171, xX12_termOf_SH, xX12_termOf_KF, xX12_termOf_rt, xX12_termOf_FT, xX12_termOf_PT, xX12_termOf_CT, xX12_termOf_KT, xX12_termOf_LT, xX12_termOf_NT, o_aload_n, o_getfield, o_goto, o_iadd, o_iaload, o_iastore, o_iconst, o_idiv, o_ifCond_ne, o_if_icmp_ge, o_if_icmp_ne, o_iinc, o_iload, o_iload_n, o_imul, o_ireturn, o_istore, o_istore_n, o_isub, o_putfield, SH_51, KF_51_38, SH_74, KF_51_39, SH_75, KF_51_42, SH_77, KF_51_43, SH_78, KF_51_44, am_ty, am_vc, am_opt, am_cl, am_find, am_ldi, am_ldl, am_lda, am_v, am_1, am_1l, am_1a, am_2, am_2l, am_ix, am_ri, am_arr, am_pf, am_rc, am_mask, am_lg, am_av, am_nat, fv_0, fv_1, fv_2, fv_3, fw_0, fw_1, List.getElem?_cons_zero, List.getElem?_cons_succ, List.set_cons_zero, List.set_cons_succ, List.length_cons, List.length_nil, List.take_succ_cons, List.take_zero, List.drop_succ_cons, List.drop_zero, List.reverse_cons, List.reverse_nil, List.nil_append, List.cons_append, List.append_nil, List.map_cons, List.map_nil, List.sum_cons, List.sum_nil, Value.category, Option.toList_some, Option.toList_none, Nat.reduceAdd, Nat.reduceLT, Nat.reduceLeDiff, Nat.reduceEqDiff, Nat.reduceSub, Nat.add_zero, Nat.le_refl, Nat.zero_le, Int.reduceNeg, Int.reduceLE, Int.reduceLT, true_and, and_true, and_self, if_true, if_false, ite_true, ite_false, eq_self_iff_true, reduceIte, reduceCtorEq, not_false_eq_true, not_true_eq_false, or_true, true_or, or_false, false_or, Nat.lt_irrefl, Nat.zero_lt_succ, e1, e2]
  try simp (disch := omega) only [ii_0, ii_1, ii_t, ii_add, ii_sub, ii_mul, ii_lt, ii_le, ii_eq, ij_in, ii_c, Int.toNat_natCast, Int.toNat_zero, Int.reduceToNat, Int.reduceEq, Int.reduceNe, Int.reduceLE, Int.reduceLT, Int.reduceAdd, Int.reduceSub, Int.reduceMul, Int.reduceNeg, Nat.reduceLT, Nat.reduceAdd, Nat.reduceMul, not_false_eq_true, not_true_eq_false, true_and, and_true, and_self, false_and, and_false, true_implies, false_implies, implies_true, forall_const, if_true, if_false, ite_true, ite_false, reduceIte, eq_self_iff_true, Int.natCast_nonneg, Int.zero_add, Int.add_zero, pi_s, pi_n, e1, e2, f1, f2, ik_s, ik_c]
  first
  | exact h
  | exact ⟨⟨by omega, by omega⟩, ⟨by omega, by omega⟩, ⟨by omega, by omega⟩, h⟩
  | exact ⟨by omega, by omega, by omega, h⟩
  | trace_state
set_option maxRecDepth 100000 in
/-- a VAR -/
theorem tr_var (hA : ∀ cuts f pc ls stk n τ, am_vc cX12_termOf xX12_termOf (92 + 0) post AA cuts f pc ls stk n τ → AA pc ls stk n τ) {σ : am_S} {p q v : Int} {n t : Nat} (hn : (n : Int) < q) (hq : q ≤ 840) (ht : t < 30) (hv : 0 ≤ v ∧ v ≤ 8) (e1 : σ.1 74 n = Int32.ofInt 1) (e2 : σ.1 75 n = Int32.ofInt v) (h : AA 5 (tr5 p q ((t + 1 : Nat) : Int) ((n + 1 : Nat) : Int)) [] 92 (am_pi σ 78 t (σ.1 77 v.toNat))) : AA 5 (tr5 p q (t : Int) (n : Int)) [] 92 σ := by
  unfold tr5 at h ⊢
  have f1 : ¬ q ≤ (n : Int) := by omega
  have f2 : (n : Int) < q := hn
  refine hA [(5, 5)] 40 _ _ _ _ _ ?_
  try simp only [dX12_termOf_0, dX12_termOf_1, dX12_termOf_2, dX12_termOf_3, dX12_termOf_5, dX12_termOf_7, dX12_termOf_8, xX12_termOf_t8, dX12_termOf_11, dX12_termOf_12, FT_X12_86, dX12_termOf_15, dX12_termOf_17, dX12_termOf_18, dX12_termOf_20, dX12_termOf_22, dX12_termOf_23, xX12_termOf_t23, dX12_termOf_26, dX12_termOf_27, FT_X12_98, dX12_termOf_30, dX12_termOf_31, dX12_termOf_33, xX12_termOf_t33, dX12_termOf_36, dX12_termOf_37, FT_X12_89, dX12_termOf_40, dX12_termOf_42, dX12_termOf_43, xX12_termOf_t43, dX12_termOf_46, dX12_termOf_47, FT_X12_95, dX12_termOf_50, dX12_termOf_51, dX12_termOf_54, dX12_termOf_56, dX12_termOf_57, dX12_termOf_58, dX12_termOf_59, dX12_termOf_62, xX12_termOf_t62, dX12_termOf_65, dX12_termOf_68, dX12_termOf_69, dX12_termOf_72, dX12_termOf_73, dX12_termOf_74, dX12_termOf_75, dX12_termOf_76, dX12_termOf_78, dX12_termOf_79, dX12_termOf_82, dX12_termOf_83, dX12_termOf_84, dX12_termOf_86, dX12_termOf_88, dX12_termOf_89, xX12_termOf_t89, dX12_termOf_92, dX12_termOf_94, xX12_termOf_t94, dX12_termOf_97, dX12_termOf_98, dX12_termOf_99, PT_X12_288, dX12_termOf_102, dX12_termOf_103, dX12_termOf_104, dX12_termOf_105, dX12_termOf_108, dX12_termOf_109, dX12_termOf_110, dX12_termOf_111, dX12_termOf_113, dX12_termOf_114, xX12_termOf_t114, dX12_termOf_117, dX12_termOf_119, dX12_termOf_121, dX12_termOf_122, xX12_termOf_t122, dX12_termOf_125, dX12_termOf_127, dX12_termOf_128, xX12_termOf_t128, dX12_termOf_131, dX12_termOf_133, dX12_termOf_135, dX12_termOf_136, xX12_termOf_t136, dX12_termOf_139, dX12_termOf_141, dX12_termOf_142, xX12_termOf_t142, dX12_termOf_145, dX12_termOf_147, dX12_termOf_149, dX12_termOf_150, xX12_termOf_t150, dX12_termOf_153, dX12_termOf_155, dX12_termOf_157, dX12_termOf_158, dX12_termOf_159, dX12_termOf_162, xX12_termOf_t162, dX12_termOf_165, dX12_termOf_166, dX12_termOf_169, dX12_termOf_170, dX12_termOf_171, xX12_termOf_SH, xX12_termOf_KF, xX12_termOf_rt, xX12_termOf_FT, xX12_termOf_PT, xX12_termOf_CT, xX12_termOf_KT, xX12_termOf_LT, xX12_termOf_NT, o_aload_n, o_getfield, o_goto, o_iadd, o_iaload, o_iastore, o_iconst, o_idiv, o_ifCond_ne, o_if_icmp_ge, o_if_icmp_ne, o_iinc, o_iload, o_iload_n, o_imul, o_ireturn, o_istore, o_istore_n, o_isub, o_putfield, SH_51, KF_51_38, SH_74, KF_51_39, SH_75, KF_51_42, SH_77, KF_51_43, SH_78, KF_51_44, am_ty, am_vc, am_opt, am_cl, am_find, am_ldi, am_ldl, am_lda, am_v, am_1, am_1l, am_1a, am_2, am_2l, am_ix, am_ri, am_arr, am_pf, am_rc, am_mask, am_lg, am_av, am_nat, fv_0, fv_1, fv_2, fv_3, fw_0, fw_1, List.getElem?_cons_zero, List.getElem?_cons_succ, List.set_cons_zero, List.set_cons_succ, List.length_cons, List.length_nil, List.take_succ_cons, List.take_zero, List.drop_succ_cons, List.drop_zero, List.reverse_cons, List.reverse_nil, List.nil_append, List.cons_append, List.append_nil, List.map_cons, List.map_nil, List.sum_cons, List.sum_nil, Value.category, Option.toList_some, Option.toList_none, Nat.reduceAdd, Nat.reduceLT, Nat.reduceLeDiff, Nat.reduceEqDiff, Nat.reduceSub, Nat.add_zero, Nat.le_refl, Nat.zero_le, Int.reduceNeg, Int.reduceLE, Int.reduceLT, true_and, and_true, and_self, if_true, if_false, ite_true, ite_false, eq_self_iff_true, reduceIte, reduceCtorEq, not_false_eq_true, not_true_eq_false, or_true, true_or, or_false, false_or, Nat.lt_irrefl, Nat.zero_lt_succ, e1, e2]
  try simp (disch := omega) only [ii_0, ii_1, ii_t, ii_add, ii_sub, ii_mul, ii_lt, ii_le, ii_eq, ij_in, ii_c, Int.toNat_natCast, Int.toNat_zero, Int.reduceToNat, Int.reduceEq, Int.reduceNe, Int.reduceLE, Int.reduceLT, Int.reduceAdd, Int.reduceSub, Int.reduceMul, Int.reduceNeg, Nat.reduceLT, Nat.reduceAdd, Nat.reduceMul, not_false_eq_true, not_true_eq_false, true_and, and_true, and_self, false_and, and_false, true_implies, false_implies, implies_true, forall_const, if_true, if_false, ite_true, ite_false, reduceIte, eq_self_iff_true, Int.natCast_nonneg, Int.zero_add, Int.add_zero, pi_s, pi_n, e1, e2, f1, f2, ik_s, ik_c]
  first
  | exact h
  | exact ⟨⟨by omega, by omega⟩, ⟨by omega, by omega⟩, ⟨by omega, by omega⟩, ⟨by omega, by omega⟩, h⟩
  | exact ⟨by omega, by omega, by omega, by omega, h⟩
  | trace_state
set_option maxRecDepth 100000 in
/-- a sign -/
theorem tr_op (hA : ∀ cuts f pc ls stk n τ, am_vc cX12_termOf xX12_termOf (92 + 0) post AA cuts f pc ls stk n τ → AA pc ls stk n τ) {σ : am_S} {p q k : Int} {n t : Nat} {x y : Int32} (hn : (n : Int) < q) (hq : q ≤ 840) (ht : t + 2 ≤ 30) (hk : 2 ≤ k ∧ k ≤ 5) (e1 : σ.1 74 n = Int32.ofInt k) (ex : σ.1 78 t = x) (ey : σ.1 78 (t + 1) = y) (h0 : k = 5 → y = 0 → post (some (.int (Int32.ofInt 0))) (am_pi σ 51 44 (Int32.ofInt 1))) (h : ¬ (k = 5 ∧ y = 0) → AA 5 (tr5 p q ((t + 1 : Nat) : Int) ((n + 1 : Nat) : Int)) [] 92 (am_pi σ 78 t (opv k x y))) : AA 5 (tr5 p q ((t + 2 : Nat) : Int) (n : Int)) [] 92 σ := by
  unfold tr5 at h ⊢
  have f1 : ¬ q ≤ (n : Int) := by omega
  have f2 : (n : Int) < q := hn
  have f3 : ¬ k < 2 := by omega
  have i3 : (((t + 2 : Nat) : Int) + -1) = ((t + 1 : Nat) : Int) := by omega
  have i4 : (((t + 1 : Nat) : Int) - 1).toNat = t := by omega
  have at104 : ¬ (k = 5 ∧ y = 0) → AA 104 [some (.ref 51), some (.int (Int32.ofInt p)), some (.int (Int32.ofInt q)), some (.int (Int32.ofInt ((t + 1 : Nat) : Int))), some (.int (Int32.ofInt (n : Int))), some (.int (Int32.ofInt k)), some (.int x), some (.int y)] [] 92 σ := fun z => by
    have h := h z
    have hc : k = 2 ∨ k = 3 ∨ k = 4 ∨ k = 5 := by omega
    refine hA [(5, 5)] 40 _ _ _ _ _ ?_
    try simp only [dX12_termOf_0, dX12_termOf_1, dX12_termOf_2, dX12_termOf_3, dX12_termOf_5, dX12_termOf_7, dX12_termOf_8, xX12_termOf_t8, dX12_termOf_11, dX12_termOf_12, FT_X12_86, dX12_termOf_15, dX12_termOf_17, dX12_termOf_18, dX12_termOf_20, dX12_termOf_22, dX12_termOf_23, xX12_termOf_t23, dX12_termOf_26, dX12_termOf_27, FT_X12_98, dX12_termOf_30, dX12_termOf_31, dX12_termOf_33, xX12_termOf_t33, dX12_termOf_36, dX12_termOf_37, FT_X12_89, dX12_termOf_40, dX12_termOf_42, dX12_termOf_43, xX12_termOf_t43, dX12_termOf_46, dX12_termOf_47, FT_X12_95, dX12_termOf_50, dX12_termOf_51, dX12_termOf_54, dX12_termOf_56, dX12_termOf_57, dX12_termOf_58, dX12_termOf_59, dX12_termOf_62, xX12_termOf_t62, dX12_termOf_65, dX12_termOf_68, dX12_termOf_69, dX12_termOf_72, dX12_termOf_73, dX12_termOf_74, dX12_termOf_75, dX12_termOf_76, dX12_termOf_78, dX12_termOf_79, dX12_termOf_82, dX12_termOf_83, dX12_termOf_84, dX12_termOf_86, dX12_termOf_88, dX12_termOf_89, xX12_termOf_t89, dX12_termOf_92, dX12_termOf_94, xX12_termOf_t94, dX12_termOf_97, dX12_termOf_98, dX12_termOf_99, PT_X12_288, dX12_termOf_102, dX12_termOf_103, dX12_termOf_104, dX12_termOf_105, dX12_termOf_108, dX12_termOf_109, dX12_termOf_110, dX12_termOf_111, dX12_termOf_113, dX12_termOf_114, xX12_termOf_t114, dX12_termOf_117, dX12_termOf_119, dX12_termOf_121, dX12_termOf_122, xX12_termOf_t122, dX12_termOf_125, dX12_termOf_127, dX12_termOf_128, xX12_termOf_t128, dX12_termOf_131, dX12_termOf_133, dX12_termOf_135, dX12_termOf_136, xX12_termOf_t136, dX12_termOf_139, dX12_termOf_141, dX12_termOf_142, xX12_termOf_t142, dX12_termOf_145, dX12_termOf_147, dX12_termOf_149, dX12_termOf_150, xX12_termOf_t150, dX12_termOf_153, dX12_termOf_155, dX12_termOf_157, dX12_termOf_158, dX12_termOf_159, dX12_termOf_162, xX12_termOf_t162, dX12_termOf_165, dX12_termOf_166, dX12_termOf_169, dX12_termOf_170, dX12_termOf_171, xX12_termOf_SH, xX12_termOf_KF, xX12_termOf_rt, xX12_termOf_FT, xX12_termOf_PT, xX12_termOf_CT, xX12_termOf_KT, xX12_termOf_LT, xX12_termOf_NT, o_aload_n, o_getfield, o_goto, o_iadd, o_iaload, o_iastore, o_iconst, o_idiv, o_ifCond_ne, o_if_icmp_ge, o_if_icmp_ne, o_iinc, o_iload, o_iload_n, o_imul, o_ireturn, o_istore, o_istore_n, o_isub, o_putfield, SH_51, KF_51_38, SH_74, KF_51_39, SH_75, KF_51_42, SH_77, KF_51_43, SH_78, KF_51_44, am_ty, am_vc, am_opt, am_cl, am_find, am_ldi, am_ldl, am_lda, am_v, am_1, am_1l, am_1a, am_2, am_2l, am_ix, am_ri, am_arr, am_pf, am_rc, am_mask, am_lg, am_av, am_nat, fv_0, fv_1, fv_2, fv_3, fw_0, fw_1, List.getElem?_cons_zero, List.getElem?_cons_succ, List.set_cons_zero, List.set_cons_succ, List.length_cons, List.length_nil, List.take_succ_cons, List.take_zero, List.drop_succ_cons, List.drop_zero, List.reverse_cons, List.reverse_nil, List.nil_append, List.cons_append, List.append_nil, List.map_cons, List.map_nil, List.sum_cons, List.sum_nil, Value.category, Option.toList_some, Option.toList_none, Nat.reduceAdd, Nat.reduceLT, Nat.reduceLeDiff, Nat.reduceEqDiff, Nat.reduceSub, Nat.add_zero, Nat.le_refl, Nat.zero_le, Int.reduceNeg, Int.reduceLE, Int.reduceLT, true_and, and_true, and_self, if_true, if_false, ite_true, ite_false, eq_self_iff_true, reduceIte, reduceCtorEq, not_false_eq_true, not_true_eq_false, or_true, true_or, or_false, false_or, Nat.lt_irrefl, Nat.zero_lt_succ]
    rcases hc with rfl | rfl | rfl | rfl
    · try simp (disch := omega) only [ii_0, ii_1, ii_t, ii_add, ii_sub, ii_mul, ii_lt, ii_le, ii_eq, ij_in, ii_c, Int.toNat_natCast, Int.toNat_zero, Int.reduceToNat, Int.reduceEq, Int.reduceNe, Int.reduceLE, Int.reduceLT, Int.reduceAdd, Int.reduceSub, Int.reduceMul, Int.reduceNeg, Nat.reduceLT, Nat.reduceAdd, Nat.reduceMul, not_false_eq_true, not_true_eq_false, true_and, and_true, and_self, false_and, and_false, true_implies, false_implies, implies_true, forall_const, if_true, if_false, ite_true, ite_false, reduceIte, eq_self_iff_true, Int.natCast_nonneg, Int.zero_add, Int.add_zero, pi_s, pi_n, i4, ik_s, ik_c]
      first
      | exact h
      | exact ⟨⟨by omega, by omega⟩, h⟩
      | exact ⟨by omega, h⟩
      | trace_state
    · try simp (disch := omega) only [ii_0, ii_1, ii_t, ii_add, ii_sub, ii_mul, ii_lt, ii_le, ii_eq, ij_in, ii_c, Int.toNat_natCast, Int.toNat_zero, Int.reduceToNat, Int.reduceEq, Int.reduceNe, Int.reduceLE, Int.reduceLT, Int.reduceAdd, Int.reduceSub, Int.reduceMul, Int.reduceNeg, Nat.reduceLT, Nat.reduceAdd, Nat.reduceMul, not_false_eq_true, not_true_eq_false, true_and, and_true, and_self, false_and, and_false, true_implies, false_implies, implies_true, forall_const, if_true, if_false, ite_true, ite_false, reduceIte, eq_self_iff_true, Int.natCast_nonneg, Int.zero_add, Int.add_zero, pi_s, pi_n, i4, ik_s, ik_c]
      first
      | exact h
      | exact ⟨⟨by omega, by omega⟩, h⟩
      | exact ⟨by omega, h⟩
      | trace_state
    · try simp (disch := omega) only [ii_0, ii_1, ii_t, ii_add, ii_sub, ii_mul, ii_lt, ii_le, ii_eq, ij_in, ii_c, Int.toNat_natCast, Int.toNat_zero, Int.reduceToNat, Int.reduceEq, Int.reduceNe, Int.reduceLE, Int.reduceLT, Int.reduceAdd, Int.reduceSub, Int.reduceMul, Int.reduceNeg, Nat.reduceLT, Nat.reduceAdd, Nat.reduceMul, not_false_eq_true, not_true_eq_false, true_and, and_true, and_self, false_and, and_false, true_implies, false_implies, implies_true, forall_const, if_true, if_false, ite_true, ite_false, reduceIte, eq_self_iff_true, Int.natCast_nonneg, Int.zero_add, Int.add_zero, pi_s, pi_n, i4, ik_s, ik_c]
      first
      | exact h
      | exact ⟨⟨by omega, by omega⟩, h⟩
      | exact ⟨by omega, h⟩
      | trace_state
    · have hy : ¬ y = 0 := fun w => z ⟨rfl, w⟩
      try simp (disch := omega) only [ii_0, ii_1, ii_t, ii_add, ii_sub, ii_mul, ii_lt, ii_le, ii_eq, ij_in, ii_c, Int.toNat_natCast, Int.toNat_zero, Int.reduceToNat, Int.reduceEq, Int.reduceNe, Int.reduceLE, Int.reduceLT, Int.reduceAdd, Int.reduceSub, Int.reduceMul, Int.reduceNeg, Nat.reduceLT, Nat.reduceAdd, Nat.reduceMul, not_false_eq_true, not_true_eq_false, true_and, and_true, and_self, false_and, and_false, true_implies, false_implies, implies_true, forall_const, if_true, if_false, ite_true, ite_false, reduceIte, eq_self_iff_true, Int.natCast_nonneg, Int.zero_add, Int.add_zero, pi_s, pi_n, i4, ik_s, ik_c]
      first
      | exact ⟨hy, h⟩
      | exact ⟨hy, ⟨by omega, by omega⟩, h⟩
      | exact ⟨hy, by omega, h⟩
      | exact h
      | trace_state
  have at92 : k = 5 → AA 92 [some (.ref 51), some (.int (Int32.ofInt p)), some (.int (Int32.ofInt q)), some (.int (Int32.ofInt ((t + 1 : Nat) : Int))), some (.int (Int32.ofInt (n : Int))), some (.int (Int32.ofInt k)), some (.int x), some (.int y)] [] 92 σ := fun z => by
    refine hA [(104, 8)] 8 _ _ _ _ _ ?_
    try simp only [dX12_termOf_0, dX12_termOf_1, dX12_termOf_2, dX12_termOf_3, dX12_termOf_5, dX12_termOf_7, dX12_termOf_8, xX12_termOf_t8, dX12_termOf_11, dX12_termOf_12, FT_X12_86, dX12_termOf_15, dX12_termOf_17, dX12_termOf_18, dX12_termOf_20, dX12_termOf_22, dX12_termOf_23, xX12_termOf_t23, dX12_termOf_26, dX12_termOf_27, FT_X12_98, dX12_termOf_30, dX12_termOf_31, dX12_termOf_33, xX12_termOf_t33, dX12_termOf_36, dX12_termOf_37, FT_X12_89, dX12_termOf_40, dX12_termOf_42, dX12_termOf_43, xX12_termOf_t43, dX12_termOf_46, dX12_termOf_47, FT_X12_95, dX12_termOf_50, dX12_termOf_51, dX12_termOf_54, dX12_termOf_56, dX12_termOf_57, dX12_termOf_58, dX12_termOf_59, dX12_termOf_62, xX12_termOf_t62, dX12_termOf_65, dX12_termOf_68, dX12_termOf_69, dX12_termOf_72, dX12_termOf_73, dX12_termOf_74, dX12_termOf_75, dX12_termOf_76, dX12_termOf_78, dX12_termOf_79, dX12_termOf_82, dX12_termOf_83, dX12_termOf_84, dX12_termOf_86, dX12_termOf_88, dX12_termOf_89, xX12_termOf_t89, dX12_termOf_92, dX12_termOf_94, xX12_termOf_t94, dX12_termOf_97, dX12_termOf_98, dX12_termOf_99, PT_X12_288, dX12_termOf_102, dX12_termOf_103, dX12_termOf_104, dX12_termOf_105, dX12_termOf_108, dX12_termOf_109, dX12_termOf_110, dX12_termOf_111, dX12_termOf_113, dX12_termOf_114, xX12_termOf_t114, dX12_termOf_117, dX12_termOf_119, dX12_termOf_121, dX12_termOf_122, xX12_termOf_t122, dX12_termOf_125, dX12_termOf_127, dX12_termOf_128, xX12_termOf_t128, dX12_termOf_131, dX12_termOf_133, dX12_termOf_135, dX12_termOf_136, xX12_termOf_t136, dX12_termOf_139, dX12_termOf_141, dX12_termOf_142, xX12_termOf_t142, dX12_termOf_145, dX12_termOf_147, dX12_termOf_149, dX12_termOf_150, xX12_termOf_t150, dX12_termOf_153, dX12_termOf_155, dX12_termOf_157, dX12_termOf_158, dX12_termOf_159, dX12_termOf_162, xX12_termOf_t162, dX12_termOf_165, dX12_termOf_166, dX12_termOf_169, dX12_termOf_170, dX12_termOf_171, xX12_termOf_SH, xX12_termOf_KF, xX12_termOf_rt, xX12_termOf_FT, xX12_termOf_PT, xX12_termOf_CT, xX12_termOf_KT, xX12_termOf_LT, xX12_termOf_NT, o_aload_n, o_getfield, o_goto, o_iadd, o_iaload, o_iastore, o_iconst, o_idiv, o_ifCond_ne, o_if_icmp_ge, o_if_icmp_ne, o_iinc, o_iload, o_iload_n, o_imul, o_ireturn, o_istore, o_istore_n, o_isub, o_putfield, SH_51, KF_51_38, SH_74, KF_51_39, SH_75, KF_51_42, SH_77, KF_51_43, SH_78, KF_51_44, am_ty, am_vc, am_opt, am_cl, am_find, am_ldi, am_ldl, am_lda, am_v, am_1, am_1l, am_1a, am_2, am_2l, am_ix, am_ri, am_arr, am_pf, am_rc, am_mask, am_lg, am_av, am_nat, fv_0, fv_1, fv_2, fv_3, fw_0, fw_1, List.getElem?_cons_zero, List.getElem?_cons_succ, List.set_cons_zero, List.set_cons_succ, List.length_cons, List.length_nil, List.take_succ_cons, List.take_zero, List.drop_succ_cons, List.drop_zero, List.reverse_cons, List.reverse_nil, List.nil_append, List.cons_append, List.append_nil, List.map_cons, List.map_nil, List.sum_cons, List.sum_nil, Value.category, Option.toList_some, Option.toList_none, Nat.reduceAdd, Nat.reduceLT, Nat.reduceLeDiff, Nat.reduceEqDiff, Nat.reduceSub, Nat.add_zero, Nat.le_refl, Nat.zero_le, Int.reduceNeg, Int.reduceLE, Int.reduceLT, true_and, and_true, and_self, if_true, if_false, ite_true, ite_false, eq_self_iff_true, reduceIte, reduceCtorEq, not_false_eq_true, not_true_eq_false, or_true, true_or, or_false, false_or, Nat.lt_irrefl, Nat.zero_lt_succ, nb_1]
    by_cases w : y = 0
    · have hP := h0 z w
      first
      | exact ⟨fun g => absurd w g, fun _ => hP⟩
      | exact ⟨fun _ => hP, fun g => absurd w g⟩
      | trace_state
    · have k5 := at104 (fun g => w g.2)
      first
      | exact ⟨fun _ => k5, fun g => absurd g w⟩
      | exact ⟨fun g => absurd g w, fun _ => k5⟩
      | trace_state
  refine hA [(104, 8), (92, 8)] 40 _ _ _ _ _ ?_
  try simp only [dX12_termOf_0, dX12_termOf_1, dX12_termOf_2, dX12_termOf_3, dX12_termOf_5, dX12_termOf_7, dX12_termOf_8, xX12_termOf_t8, dX12_termOf_11, dX12_termOf_12, FT_X12_86, dX12_termOf_15, dX12_termOf_17, dX12_termOf_18, dX12_termOf_20, dX12_termOf_22, dX12_termOf_23, xX12_termOf_t23, dX12_termOf_26, dX12_termOf_27, FT_X12_98, dX12_termOf_30, dX12_termOf_31, dX12_termOf_33, xX12_termOf_t33, dX12_termOf_36, dX12_termOf_37, FT_X12_89, dX12_termOf_40, dX12_termOf_42, dX12_termOf_43, xX12_termOf_t43, dX12_termOf_46, dX12_termOf_47, FT_X12_95, dX12_termOf_50, dX12_termOf_51, dX12_termOf_54, dX12_termOf_56, dX12_termOf_57, dX12_termOf_58, dX12_termOf_59, dX12_termOf_62, xX12_termOf_t62, dX12_termOf_65, dX12_termOf_68, dX12_termOf_69, dX12_termOf_72, dX12_termOf_73, dX12_termOf_74, dX12_termOf_75, dX12_termOf_76, dX12_termOf_78, dX12_termOf_79, dX12_termOf_82, dX12_termOf_83, dX12_termOf_84, dX12_termOf_86, dX12_termOf_88, dX12_termOf_89, xX12_termOf_t89, dX12_termOf_92, dX12_termOf_94, xX12_termOf_t94, dX12_termOf_97, dX12_termOf_98, dX12_termOf_99, PT_X12_288, dX12_termOf_102, dX12_termOf_103, dX12_termOf_104, dX12_termOf_105, dX12_termOf_108, dX12_termOf_109, dX12_termOf_110, dX12_termOf_111, dX12_termOf_113, dX12_termOf_114, xX12_termOf_t114, dX12_termOf_117, dX12_termOf_119, dX12_termOf_121, dX12_termOf_122, xX12_termOf_t122, dX12_termOf_125, dX12_termOf_127, dX12_termOf_128, xX12_termOf_t128, dX12_termOf_131, dX12_termOf_133, dX12_termOf_135, dX12_termOf_136, xX12_termOf_t136, dX12_termOf_139, dX12_termOf_141, dX12_termOf_142, xX12_termOf_t142, dX12_termOf_145, dX12_termOf_147, dX12_termOf_149, dX12_termOf_150, xX12_termOf_t150, dX12_termOf_153, dX12_termOf_155, dX12_termOf_157, dX12_termOf_158, dX12_termOf_159, dX12_termOf_162, xX12_termOf_t162, dX12_termOf_165, dX12_termOf_166, dX12_termOf_169, dX12_termOf_170, dX12_termOf_171, xX12_termOf_SH, xX12_termOf_KF, xX12_termOf_rt, xX12_termOf_FT, xX12_termOf_PT, xX12_termOf_CT, xX12_termOf_KT, xX12_termOf_LT, xX12_termOf_NT, o_aload_n, o_getfield, o_goto, o_iadd, o_iaload, o_iastore, o_iconst, o_idiv, o_ifCond_ne, o_if_icmp_ge, o_if_icmp_ne, o_iinc, o_iload, o_iload_n, o_imul, o_ireturn, o_istore, o_istore_n, o_isub, o_putfield, SH_51, KF_51_38, SH_74, KF_51_39, SH_75, KF_51_42, SH_77, KF_51_43, SH_78, KF_51_44, am_ty, am_vc, am_opt, am_cl, am_find, am_ldi, am_ldl, am_lda, am_v, am_1, am_1l, am_1a, am_2, am_2l, am_ix, am_ri, am_arr, am_pf, am_rc, am_mask, am_lg, am_av, am_nat, fv_0, fv_1, fv_2, fv_3, fw_0, fw_1, List.getElem?_cons_zero, List.getElem?_cons_succ, List.set_cons_zero, List.set_cons_succ, List.length_cons, List.length_nil, List.take_succ_cons, List.take_zero, List.drop_succ_cons, List.drop_zero, List.reverse_cons, List.reverse_nil, List.nil_append, List.cons_append, List.append_nil, List.map_cons, List.map_nil, List.sum_cons, List.sum_nil, Value.category, Option.toList_some, Option.toList_none, Nat.reduceAdd, Nat.reduceLT, Nat.reduceLeDiff, Nat.reduceEqDiff, Nat.reduceSub, Nat.add_zero, Nat.le_refl, Nat.zero_le, Int.reduceNeg, Int.reduceLE, Int.reduceLT, true_and, and_true, and_self, if_true, if_false, ite_true, ite_false, eq_self_iff_true, reduceIte, reduceCtorEq, not_false_eq_true, not_true_eq_false, or_true, true_or, or_false, false_or, Nat.lt_irrefl, Nat.zero_lt_succ, e1]
  try simp (disch := omega) only [ii_0, ii_1, ii_t, ii_add, ii_sub, ii_mul, ii_lt, ii_le, ii_eq, ij_in, ii_c, Int.toNat_natCast, Int.toNat_zero, Int.reduceToNat, Int.reduceEq, Int.reduceNe, Int.reduceLE, Int.reduceLT, Int.reduceAdd, Int.reduceSub, Int.reduceMul, Int.reduceNeg, Nat.reduceLT, Nat.reduceAdd, Nat.reduceMul, not_false_eq_true, not_true_eq_false, true_and, and_true, and_self, false_and, and_false, true_implies, false_implies, implies_true, forall_const, if_true, if_false, ite_true, ite_false, reduceIte, eq_self_iff_true, Int.natCast_nonneg, Int.zero_add, Int.add_zero, pi_s, pi_n, e1, f1, f2, f3, i3, i4, ex, ey, ik_s, ik_c]
  by_cases z : k = 5
  · have k5 := at92 z
    subst z
    try simp (disch := omega) only [ii_0, ii_1, ii_t, ii_add, ii_sub, ii_mul, ii_lt, ii_le, ii_eq, ij_in, ii_c, Int.toNat_natCast, Int.toNat_zero, Int.reduceToNat, Int.reduceEq, Int.reduceNe, Int.reduceLE, Int.reduceLT, Int.reduceAdd, Int.reduceSub, Int.reduceMul, Int.reduceNeg, Nat.reduceLT, Nat.reduceAdd, Nat.reduceMul, not_false_eq_true, not_true_eq_false, true_and, and_true, and_self, false_and, and_false, true_implies, false_implies, implies_true, forall_const, if_true, if_false, ite_true, ite_false, reduceIte, eq_self_iff_true, Int.natCast_nonneg, Int.zero_add, Int.add_zero, pi_s, pi_n]
    first
    | exact k5
    | exact ⟨⟨by omega, by omega⟩, ⟨by omega, by omega⟩, k5⟩
    | exact ⟨by omega, by omega, k5⟩
    | exact ⟨by omega, ⟨by omega, by omega⟩, by omega, k5⟩
    | exact ⟨by omega, fun _ => ⟨⟨by omega, by omega⟩, by omega, k5⟩, fun w => absurd hk.1 w⟩
    | exact ⟨by omega, ⟨by omega, by omega⟩, by omega, fun _ => k5, fun g => absurd g z⟩
    | exact ⟨fun g => absurd rfl g, fun _ => k5⟩
    | exact ⟨by omega, by omega, fun g => absurd rfl g, fun _ => k5⟩
    | exact ⟨⟨by omega, by omega⟩, ⟨by omega, by omega⟩, fun g => absurd rfl g, fun _ => k5⟩
    | trace_state
  · have k5 := at104 (fun g => z g.1)
    try simp (disch := omega) only [ii_0, ii_1, ii_t, ii_add, ii_sub, ii_mul, ii_lt, ii_le, ii_eq, ij_in, ii_c, Int.toNat_natCast, Int.toNat_zero, Int.reduceToNat, Int.reduceEq, Int.reduceNe, Int.reduceLE, Int.reduceLT, Int.reduceAdd, Int.reduceSub, Int.reduceMul, Int.reduceNeg, Nat.reduceLT, Nat.reduceAdd, Nat.reduceMul, not_false_eq_true, not_true_eq_false, true_and, and_true, and_self, false_and, and_false, true_implies, false_implies, implies_true, forall_const, if_true, if_false, ite_true, ite_false, reduceIte, eq_self_iff_true, Int.natCast_nonneg, Int.zero_add, Int.add_zero, pi_s, pi_n, z]
    first
    | exact k5
    | exact ⟨⟨by omega, by omega⟩, ⟨by omega, by omega⟩, k5⟩
    | exact ⟨by omega, by omega, k5⟩
    | exact ⟨by omega, ⟨by omega, by omega⟩, by omega, k5⟩
    | exact ⟨by omega, fun _ => ⟨⟨by omega, by omega⟩, by omega, k5⟩, fun w => absurd hk.1 w⟩
    | exact ⟨by omega, ⟨by omega, by omega⟩, by omega, fun _ => k5, fun g => absurd g z⟩
    | exact ⟨fun _ => k5, fun g => absurd g z⟩
    | exact ⟨by omega, by omega, fun _ => k5, fun g => absurd g z⟩
    | exact ⟨⟨by omega, by omega⟩, ⟨by omega, by omega⟩, fun _ => k5, fun g => absurd g z⟩
    | trace_state
set_option maxRecDepth 100000 in
/-- the end -/
theorem tr_end (hA : ∀ cuts f pc ls stk n τ, am_vc cX12_termOf xX12_termOf (92 + 0) post AA cuts f pc ls stk n τ → AA pc ls stk n τ) {σ : am_S} {p q t : Int} (h : post (some (.int (σ.1 78 0))) σ) : AA 5 (tr5 p q t q) [] 92 σ := by
  unfold tr5
  refine hA [] 8 _ _ _ _ _ ?_
  try simp only [dX12_termOf_0, dX12_termOf_1, dX12_termOf_2, dX12_termOf_3, dX12_termOf_5, dX12_termOf_7, dX12_termOf_8, xX12_termOf_t8, dX12_termOf_11, dX12_termOf_12, FT_X12_86, dX12_termOf_15, dX12_termOf_17, dX12_termOf_18, dX12_termOf_20, dX12_termOf_22, dX12_termOf_23, xX12_termOf_t23, dX12_termOf_26, dX12_termOf_27, FT_X12_98, dX12_termOf_30, dX12_termOf_31, dX12_termOf_33, xX12_termOf_t33, dX12_termOf_36, dX12_termOf_37, FT_X12_89, dX12_termOf_40, dX12_termOf_42, dX12_termOf_43, xX12_termOf_t43, dX12_termOf_46, dX12_termOf_47, FT_X12_95, dX12_termOf_50, dX12_termOf_51, dX12_termOf_54, dX12_termOf_56, dX12_termOf_57, dX12_termOf_58, dX12_termOf_59, dX12_termOf_62, xX12_termOf_t62, dX12_termOf_65, dX12_termOf_68, dX12_termOf_69, dX12_termOf_72, dX12_termOf_73, dX12_termOf_74, dX12_termOf_75, dX12_termOf_76, dX12_termOf_78, dX12_termOf_79, dX12_termOf_82, dX12_termOf_83, dX12_termOf_84, dX12_termOf_86, dX12_termOf_88, dX12_termOf_89, xX12_termOf_t89, dX12_termOf_92, dX12_termOf_94, xX12_termOf_t94, dX12_termOf_97, dX12_termOf_98, dX12_termOf_99, PT_X12_288, dX12_termOf_102, dX12_termOf_103, dX12_termOf_104, dX12_termOf_105, dX12_termOf_108, dX12_termOf_109, dX12_termOf_110, dX12_termOf_111, dX12_termOf_113, dX12_termOf_114, xX12_termOf_t114, dX12_termOf_117, dX12_termOf_119, dX12_termOf_121, dX12_termOf_122, xX12_termOf_t122, dX12_termOf_125, dX12_termOf_127, dX12_termOf_128, xX12_termOf_t128, dX12_termOf_131, dX12_termOf_133, dX12_termOf_135, dX12_termOf_136, xX12_termOf_t136, dX12_termOf_139, dX12_termOf_141, dX12_termOf_142, xX12_termOf_t142, dX12_termOf_145, dX12_termOf_147, dX12_termOf_149, dX12_termOf_150, xX12_termOf_t150, dX12_termOf_153, dX12_termOf_155, dX12_termOf_157, dX12_termOf_158, dX12_termOf_159, dX12_termOf_162, xX12_termOf_t162, dX12_termOf_165, dX12_termOf_166, dX12_termOf_169, dX12_termOf_170, dX12_termOf_171, xX12_termOf_SH, xX12_termOf_KF, xX12_termOf_rt, xX12_termOf_FT, xX12_termOf_PT, xX12_termOf_CT, xX12_termOf_KT, xX12_termOf_LT, xX12_termOf_NT, o_aload_n, o_getfield, o_goto, o_iadd, o_iaload, o_iastore, o_iconst, o_idiv, o_ifCond_ne, o_if_icmp_ge, o_if_icmp_ne, o_iinc, o_iload, o_iload_n, o_imul, o_ireturn, o_istore, o_istore_n, o_isub, o_putfield, SH_51, KF_51_38, SH_74, KF_51_39, SH_75, KF_51_42, SH_77, KF_51_43, SH_78, KF_51_44, am_ty, am_vc, am_opt, am_cl, am_find, am_ldi, am_ldl, am_lda, am_v, am_1, am_1l, am_1a, am_2, am_2l, am_ix, am_ri, am_arr, am_pf, am_rc, am_mask, am_lg, am_av, am_nat, fv_0, fv_1, fv_2, fv_3, fw_0, fw_1, List.getElem?_cons_zero, List.getElem?_cons_succ, List.set_cons_zero, List.set_cons_succ, List.length_cons, List.length_nil, List.take_succ_cons, List.take_zero, List.drop_succ_cons, List.drop_zero, List.reverse_cons, List.reverse_nil, List.nil_append, List.cons_append, List.append_nil, List.map_cons, List.map_nil, List.sum_cons, List.sum_nil, Value.category, Option.toList_some, Option.toList_none, Nat.reduceAdd, Nat.reduceLT, Nat.reduceLeDiff, Nat.reduceEqDiff, Nat.reduceSub, Nat.add_zero, Nat.le_refl, Nat.zero_le, Int.reduceNeg, Int.reduceLE, Int.reduceLT, true_and, and_true, and_self, if_true, if_false, ite_true, ite_false, eq_self_iff_true, reduceIte, reduceCtorEq, not_false_eq_true, not_true_eq_false, or_true, true_or, or_false, false_or, Nat.lt_irrefl, Nat.zero_lt_succ]
  try simp (disch := omega) only [ii_0, ii_1, ii_t, ii_add, ii_sub, ii_mul, ii_lt, ii_le, ii_eq, ij_in, ii_c, Int.toNat_natCast, Int.toNat_zero, Int.reduceToNat, Int.reduceEq, Int.reduceNe, Int.reduceLE, Int.reduceLT, Int.reduceAdd, Int.reduceSub, Int.reduceMul, Int.reduceNeg, Nat.reduceLT, Nat.reduceAdd, Nat.reduceMul, not_false_eq_true, not_true_eq_false, true_and, and_true, and_self, false_and, and_false, true_implies, false_implies, implies_true, forall_const, if_true, if_false, ite_true, ite_false, reduceIte, eq_self_iff_true, Int.natCast_nonneg, Int.zero_add, Int.add_zero, pi_s, pi_n, Int.le_refl, Int.lt_irrefl]
  first
  | exact h
  | exact ⟨fun _ => h, fun z => absurd z (by simp)⟩
  | exact ⟨fun _ => h, fun z => absurd (Int32.le_refl _) z⟩
  | trace_state
/-- codes are gone through -/
theorem tr_run (hA : ∀ cuts f pc ls stk n τ, am_vc cX12_termOf xX12_termOf (92 + 0) post AA cuts f pc ls stk n τ → AA pc ls stk n τ) {p q : Int} (hq : q ≤ 840) : ∀ (c : List (Int × Int)) (st : List Int32) (n : Nat) (σ : am_S) (m : Nat), kvc c → st.length ≤ 24 → dpt 24 c st.length = some m → (n : Int) + (c.length : Int) = q → cRt σ n c → trP σ st → (∀ τ st', tev (vrR σ) c st = some st' → trA σ τ → τ.1 51 44 = σ.1 51 44 → trP τ st' → AA 5 (tr5 p q ((st'.length : Nat) : Int) q) [] 92 τ) → (tev (vrR σ) c st = none → ∀ τ, trA σ τ → τ.1 51 44 = Int32.ofInt 1 → post (some (.int (Int32.ofInt 0))) τ) → AA 5 (tr5 p q ((st.length : Nat) : Int) (n : Int)) [] 92 σ
  | [], st, n, σ, m, _, _, _, hn, _, hp, h, _ => by
    have e : (n : Int) = q := by simpa using hn
    rw [e]
    exact h σ st rfl (trA_r σ) rfl hp
  | (k, v) :: t, st, n, σ, m, hk, h24, hd, hn, hc, hp, h, h0 => by
    obtain ⟨⟨c2, c3⟩, c4⟩ := cRt_cons (p := (k, v)) (e := t) hc
    have c2 : σ.1 74 n = Int32.ofInt k := c2
    have c3 : σ.1 75 n = Int32.ofInt v := c3
    have hkt : kvc t := fun p hp => hk p (List.mem_cons_of_mem _ hp)
    have hk1 := hk (k, v) List.mem_cons_self
    rw [List.length_cons] at hn
    have hn2 : ((n + 1 : Nat) : Int) + (t.length : Int) = q := by omega
    have hnq : (n : Int) < q := by omega
    have hby : ∀ (i : Nat) (x : Int32), (am_pi σ 78 i x).1 51 44 = σ.1 51 44 := fun i x => pi_n _ _ _ _ (fun z => absurd z.1 (by decide))
    simp only [dpt] at hd
    by_cases q' : k < 2
    · rw [if_pos q'] at hd
      by_cases q2 : st.length < 24
      · rw [if_pos q2] at hd
        by_cases z : k = 0
        · subst z
          have et : tev (vrR σ) ((0, v) :: t) st = tev (vrR σ) t (Int32.ofInt v :: st) := rfl
          refine tr_num hA hnq hq (by omega) c2 c3 ?_
          refine tr_run hA hq t (Int32.ofInt v :: st) (n + 1) _ m hkt (by simp only [List.length_cons] at *; omega) hd hn2 (cRt_A c4 trA_pi) ⟨pi_s _ _ _ _, trP_up hp (Nat.le_refl _)⟩ (fun τ st' a1 a2 ab a3 => ?_) (fun a1 τ a2 ab => ?_)
          · rw [vrR_A trA_pi, ← et] at a1
            exact h τ st' a1 (trA_t trA_pi a2) (ab.trans (hby _ _)) a3
          · rw [vrR_A trA_pi, ← et] at a1
            exact h0 a1 τ (trA_t trA_pi a2) ab
        · have z1 : k = 1 := by have := hk1; simp only at this; omega
          subst z1
          have hv : 0 ≤ v ∧ v ≤ 8 := by have := hk1; simp only at this; omega
          have et : tev (vrR σ) ((1, v) :: t) st = tev (vrR σ) t (vrR σ v.toNat :: st) := rfl
          refine tr_var hA hnq hq (by omega) hv c2 c3 ?_
          refine tr_run hA hq t (vrR σ v.toNat :: st) (n + 1) _ m hkt (by simp only [List.length_cons] at *; omega) hd hn2 (cRt_A c4 trA_pi) ⟨pi_s _ _ _ _, trP_up hp (Nat.le_refl _)⟩ (fun τ st' a1 a2 ab a3 => ?_) (fun a1 τ a2 ab => ?_)
          · rw [vrR_A trA_pi, ← et] at a1
            exact h τ st' a1 (trA_t trA_pi a2) (ab.trans (hby _ _)) a3
          · rw [vrR_A trA_pi, ← et] at a1
            exact h0 a1 τ (trA_t trA_pi a2) ab
      · rw [if_neg q2] at hd; cases hd
    · rw [if_neg q'] at hd
      by_cases q2 : 2 ≤ st.length
      · rw [if_pos q2] at hd
        have hk2 : 2 ≤ k ∧ k ≤ 5 := by have := hk1; simp only at this; omega
        match st, q2, h24, hd, hp, h, h0 with
        | y :: x :: r, _, h24, hd, hp, h, h0 =>
          obtain ⟨p1, p2, p3⟩ := hp
          have et : tev (vrR σ) ((k, v) :: t) (y :: x :: r) = if k = 5 ∧ y = 0 then none else tev (vrR σ) t (opv k x y :: r) := by
            simp only [tev]
            rw [if_neg (by omega), if_neg (by omega)]
          have hl : (y :: x :: r).length = r.length + 2 := rfl
          rw [hl]
          refine tr_op hA (x := x) (y := y) hnq hq ?_ hk2 c2 p2 p1 (fun w1 w2 => ?_) (fun w => ?_)
          · have h24 : r.length + 2 ≤ 24 := h24
            omega
          · rw [if_pos ⟨w1, w2⟩] at et
            exact h0 et _ trA_by (pi_s _ _ _ _)
          · rw [if_neg w] at et
            refine tr_run hA hq t (opv k x y :: r) (n + 1) _ m hkt (by simp only [List.length_cons] at *; omega) hd hn2 (cRt_A c4 trA_pi) ⟨pi_s _ _ _ _, trP_up p3 (Nat.le_refl _)⟩ (fun τ st' a1 a2 ab a3 => ?_) (fun a1 τ a2 ab => ?_)
            · rw [vrR_A trA_pi, ← et] at a1
              exact h τ st' a1 (trA_t trA_pi a2) (ab.trans (hby _ _)) a3
            · rw [vrR_A trA_pi, ← et] at a1
              exact h0 a1 τ (trA_t trA_pi a2) ab
      · rw [if_neg q2] at hd; cases hd
end
set_option maxRecDepth 100000 in
theorem ptX12_termOfE : am_B cX12_termOf xX12_termOf 8 0 sX12_termOfE := by
  intro n0 as σ post AA hA h
  obtain ⟨rfl, p, q, c, rfl, hs, hq, hk, hw, h, h0⟩ := h
  obtain ⟨hc, hl⟩ := rSg_Rt hs
  have hp0 := hs.1
  refine ⟨by simp [am_sl, Value.category], ?_⟩
  show AA 0 [some (.ref 51), some (.int (Int32.ofInt p)), some (.int (Int32.ofInt q)), none, none, none, none, none] [] 92 σ
  refine hA [(5, 5)] 4 _ _ _ _ _ ?_
  try simp only [dX12_termOf_0, dX12_termOf_1, dX12_termOf_2, dX12_termOf_3, dX12_termOf_5, dX12_termOf_7, dX12_termOf_8, xX12_termOf_t8, dX12_termOf_11, dX12_termOf_12, FT_X12_86, dX12_termOf_15, dX12_termOf_17, dX12_termOf_18, dX12_termOf_20, dX12_termOf_22, dX12_termOf_23, xX12_termOf_t23, dX12_termOf_26, dX12_termOf_27, FT_X12_98, dX12_termOf_30, dX12_termOf_31, dX12_termOf_33, xX12_termOf_t33, dX12_termOf_36, dX12_termOf_37, FT_X12_89, dX12_termOf_40, dX12_termOf_42, dX12_termOf_43, xX12_termOf_t43, dX12_termOf_46, dX12_termOf_47, FT_X12_95, dX12_termOf_50, dX12_termOf_51, dX12_termOf_54, dX12_termOf_56, dX12_termOf_57, dX12_termOf_58, dX12_termOf_59, dX12_termOf_62, xX12_termOf_t62, dX12_termOf_65, dX12_termOf_68, dX12_termOf_69, dX12_termOf_72, dX12_termOf_73, dX12_termOf_74, dX12_termOf_75, dX12_termOf_76, dX12_termOf_78, dX12_termOf_79, dX12_termOf_82, dX12_termOf_83, dX12_termOf_84, dX12_termOf_86, dX12_termOf_88, dX12_termOf_89, xX12_termOf_t89, dX12_termOf_92, dX12_termOf_94, xX12_termOf_t94, dX12_termOf_97, dX12_termOf_98, dX12_termOf_99, PT_X12_288, dX12_termOf_102, dX12_termOf_103, dX12_termOf_104, dX12_termOf_105, dX12_termOf_108, dX12_termOf_109, dX12_termOf_110, dX12_termOf_111, dX12_termOf_113, dX12_termOf_114, xX12_termOf_t114, dX12_termOf_117, dX12_termOf_119, dX12_termOf_121, dX12_termOf_122, xX12_termOf_t122, dX12_termOf_125, dX12_termOf_127, dX12_termOf_128, xX12_termOf_t128, dX12_termOf_131, dX12_termOf_133, dX12_termOf_135, dX12_termOf_136, xX12_termOf_t136, dX12_termOf_139, dX12_termOf_141, dX12_termOf_142, xX12_termOf_t142, dX12_termOf_145, dX12_termOf_147, dX12_termOf_149, dX12_termOf_150, xX12_termOf_t150, dX12_termOf_153, dX12_termOf_155, dX12_termOf_157, dX12_termOf_158, dX12_termOf_159, dX12_termOf_162, xX12_termOf_t162, dX12_termOf_165, dX12_termOf_166, dX12_termOf_169, dX12_termOf_170, dX12_termOf_171, xX12_termOf_SH, xX12_termOf_KF, xX12_termOf_rt, xX12_termOf_FT, xX12_termOf_PT, xX12_termOf_CT, xX12_termOf_KT, xX12_termOf_LT, xX12_termOf_NT, o_aload_n, o_getfield, o_goto, o_iadd, o_iaload, o_iastore, o_iconst, o_idiv, o_ifCond_ne, o_if_icmp_ge, o_if_icmp_ne, o_iinc, o_iload, o_iload_n, o_imul, o_ireturn, o_istore, o_istore_n, o_isub, o_putfield, SH_51, KF_51_38, SH_74, KF_51_39, SH_75, KF_51_42, SH_77, KF_51_43, SH_78, KF_51_44, am_ty, am_vc, am_opt, am_cl, am_find, am_ldi, am_ldl, am_lda, am_v, am_1, am_1l, am_1a, am_2, am_2l, am_ix, am_ri, am_arr, am_pf, am_rc, am_mask, am_lg, am_av, am_nat, fv_0, fv_1, fv_2, fv_3, fw_0, fw_1, List.getElem?_cons_zero, List.getElem?_cons_succ, List.set_cons_zero, List.set_cons_succ, List.length_cons, List.length_nil, List.take_succ_cons, List.take_zero, List.drop_succ_cons, List.drop_zero, List.reverse_cons, List.reverse_nil, List.nil_append, List.cons_append, List.append_nil, List.map_cons, List.map_nil, List.sum_cons, List.sum_nil, Value.category, Option.toList_some, Option.toList_none, Nat.reduceAdd, Nat.reduceLT, Nat.reduceLeDiff, Nat.reduceEqDiff, Nat.reduceSub, Nat.add_zero, Nat.le_refl, Nat.zero_le, Int.reduceNeg, Int.reduceLE, Int.reduceLT, true_and, and_true, and_self, if_true, if_false, ite_true, ite_false, eq_self_iff_true, reduceIte, reduceCtorEq, not_false_eq_true, not_true_eq_false, or_true, true_or, or_false, false_or, Nat.lt_irrefl, Nat.zero_lt_succ]
  have k9 := tr_run hA (p := p) hq c [] p.toNat σ 1 hk (Nat.zero_le _) (dpt_mono c 0 1 hw) (by omega) hc trivial (fun τ st' a1 a2 ab a3 => by
    rcases exV_e (vr := vrR σ) hw (kvc_0 hk) with ⟨x, b1, b2⟩ | ⟨b1, b2⟩
    · rw [a1] at b1
      cases b1
      refine tr_end hA ?_
      have a3' : τ.1 78 0 = x := a3.1
      rw [a3']
      exact h τ x b2 a2 ab
    · rw [a1] at b1; cases b1) (fun a1 τ a2 ab => by
    refine h0 τ ?_ a2 ab
    rcases exV_e (vr := vrR σ) hw (kvc_0 hk) with ⟨x, b1, b2⟩ | ⟨b1, b2⟩
    · rw [a1] at b1; cases b1
    · exact b2)
  rw [Int.toNat_of_nonneg hp0] at k9
  exact k9
theorem mX12_termOfE (l : Launch) : am_M l TB NB vwCl SH KF yX12_termOf cX12_termOf 8 (some .int) 2 0 0 sX12_termOfE :=
  am_M.of xX12_termOf (by decide +kernel) TB_good GF rfl rfl rfl (by decide) ⟨FT_X12_ok, PT_X12_ok _, CT_X12_ok, KT_X12_ok, LT_X12_ok, NT_X12_ok, fun _ h => absurd h List.not_mem_nil⟩ ptX12_termOfE
