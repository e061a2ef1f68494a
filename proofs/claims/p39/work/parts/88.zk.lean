/-! WHAT A LAW TELLS, by the class. Printed from wip/am/chk/hand/jb.in. -/
/-- codes as they are written: numbers, VARS, signs -/
def kvc (c : List (Int × Int)) : Prop := ∀ p ∈ c, p.1 = 0 ∨ (p.1 = 1 ∧ 0 ≤ p.2 ∧ p.2 ≤ 8) ∨ (2 ≤ p.1 ∧ p.1 ≤ 5)
theorem dpt_up {M : Nat} (j : Nat) : ∀ (c : List (Int × Int)) (n m : Nat), dpt M c n = some m → dpt (M + j) c (n + j) = some (m + j)
  | [], n, m, h => by
    have h : n = m := by simpa [dpt] using h
    subst h
    rfl
  | (k, v) :: t, n, m, h => by
    simp only [dpt] at h ⊢
    by_cases q : k < 2
    · rw [if_pos q] at h ⊢
      by_cases q2 : n < M
      · rw [if_pos q2] at h
        rw [if_pos (by omega)]
        have := dpt_up j t _ _ h
        rw [show n + 1 + j = n + j + 1 by omega] at this
        exact this
      · rw [if_neg q2] at h; cases h
    · rw [if_neg q] at h ⊢
      by_cases q2 : 2 ≤ n
      · rw [if_pos q2] at h
        rw [if_pos (by omega)]
        have := dpt_up j t _ _ h
        rw [show n - 1 + j = n + j - 1 by omega] at this
        exact this
      · rw [if_neg q2] at h; cases h
theorem dpt_mono2 (c : List (Int × Int)) (h : wfc c) : dpt 24 c 1 = some 2 := dpt_up0 8 c 1 2 (dpt_up 1 c 0 1 h)
/-- a stretch of the town's steps, from a on -/
def cKt (σ : am_S) (a : Nat) (c : List (Int × Int)) : Prop := a + c.length ≤ 408 ∧ ∀ i : Nat, i < c.length → σ.1 22 (a + i) = Int32.ofInt (c.getD i (0, 0)).1 ∧ σ.1 23 (a + i) = Int32.ofInt (c.getD i (0, 0)).2
theorem cKt_app {σ : am_S} {a : Nat} {c e : List (Int × Int)} (h : cKt σ a (c ++ e)) : cKt σ a c ∧ cKt σ (a + c.length) e := by
  obtain ⟨h1, h2⟩ := h
  rw [List.length_append] at h1
  refine ⟨⟨by omega, fun i hi => ?_⟩, by omega, fun i hi => ?_⟩
  · have := h2 i (by rw [List.length_append]; omega)
    simp only [List.getD_eq_getElem?_getD] at this ⊢
    rw [List.getElem?_append_left hi] at this
    exact this
  · have := h2 (c.length + i) (by rw [List.length_append]; omega)
    simp only [List.getD_eq_getElem?_getD] at this ⊢
    rw [List.getElem?_append_right (by omega), Nat.add_sub_cancel_left] at this
    rw [Nat.add_assoc]
    exact this
theorem cKt_cons {σ : am_S} {a : Nat} {p : Int × Int} {e : List (Int × Int)} (h : cKt σ a (p :: e)) : (a < 408 ∧ σ.1 22 a = Int32.ofInt p.1 ∧ σ.1 23 a = Int32.ofInt p.2) ∧ cKt σ (a + 1) e := by
  have h' : cKt σ a ([p] ++ e) := h
  obtain ⟨h1, h2⟩ := cKt_app h'
  have := h1.2 0 (Nat.zero_lt_succ _)
  have hl := h1.1
  simp only [List.length_cons, List.length_nil] at hl
  exact ⟨⟨by omega, this⟩, h2⟩
/-- all as it was but for what is pending -/
def wsA (σ τ : am_S) : Prop := (∀ o i, ¬ o = 26 → τ.1 o i = σ.1 o i) ∧ τ.2 = σ.2
theorem wsA_r (σ : am_S) : wsA σ σ := ⟨fun _ _ _ => rfl, rfl⟩
theorem wsA_t {σ τ υ : am_S} (h : wsA σ τ) (g : wsA τ υ) : wsA σ υ := ⟨fun o i q => (g.1 o i q).trans (h.1 o i q), g.2.trans h.2⟩
theorem wsA_pi {σ : am_S} {k : Nat} {x : Int32} : wsA σ (am_pi σ 26 k x) := ⟨fun o i q => pi_n _ _ _ _ (fun z => q z.1), rfl⟩
theorem cKt_A {σ τ : am_S} {a : Nat} {c : List (Int × Int)} (h : cKt σ a c) (g : wsA σ τ) : cKt τ a c := ⟨h.1, fun i hi => by
  rw [g.1 _ _ (by decide), g.1 _ _ (by decide)]
  exact h.2 i hi⟩
/-- what is pending, the last first -/
def wsP (σ : am_S) : List Int32 → Prop
  | [] => True
  | x :: t => σ.1 26 t.length = x ∧ wsP σ t
theorem wsP_up {σ : am_S} {k : Nat} {x : Int32} : ∀ {st : List Int32}, wsP σ st → st.length ≤ k → wsP (am_pi σ 26 k x) st
  | [], _, _ => trivial
  | y :: t, h, hk => by
    have hk : t.length + 1 ≤ k := hk
    refine ⟨?_, wsP_up h.2 (by omega)⟩
    rw [pi_n _ _ _ _ (fun z => by have := z.2; omega)]
    exact h.1
theorem on_24 : Int32.ofNat 24 = Int32.ofInt 24 := rfl
theorem oc_0 : Int32.ofInt ((0 : Nat) : Int) = Int32.ofInt 0 := rfl
theorem oc_1 : Int32.ofInt ((1 : Nat) : Int) = Int32.ofInt 1 := rfl
theorem oc_2 : Int32.ofInt ((2 : Nat) : Int) = Int32.ofInt 2 := rfl
def wl (k nx tp tn : Int32) : List (Option Value) := [some (.ref 21), some (.int k), some (.int nx), some (.int tp), some (.int tn), none, none, none, none]
/-- a law's word: its code stands from a on -/
def sX2_worth : am_Sp := fun as n σ post => n = 92 ∧ ∃ (d : DR) (k a : Nat), k < 4 ∧ as = [.ref 21, .int (Int32.ofInt (k : Int))] ∧ σ.1 24 k = Int32.ofInt (a : Int) ∧ cKt σ a (match d.2.2.2 k with | some w => cLw (a : Int) w | none => dfl k) ∧ (∀ w, d.2.2.2 k = some w → (∀ br ∈ w.1, (wfc br.1 ∧ wfc br.2.1 ∧ wfc br.2.2) ∧ kvc br.1 ∧ kvc br.2.1 ∧ kvc br.2.2) ∧ wfc w.2 ∧ kvc w.2) ∧ ∀ τ, wsA σ τ → post (some (.int (lwV d k (fun j => σ.1 25 j)))) τ
def sX2_reckoned : am_Sp := fun as n σ post => n = 92 ∧ ∃ (k : Int) (a b : Int32), (2 ≤ k ∧ k ≤ 5) ∧ (k = 5 → ¬ b = 0) ∧ as = [.int (Int32.ofInt (lc (k, 0)).1), .int a, .int b] ∧ post (some (.int (opv k a b))) σ
def xX2_reckoned : am_X := (SH, KF, (some .int), FT_X2, PT_X2, CT_X2, KT_X2, LT_X2, NT_X2, [])
theorem xX2_reckoned_SH : am_SH xX2_reckoned = SH := rfl
theorem xX2_reckoned_KF : am_KF xX2_reckoned = KF := rfl
theorem xX2_reckoned_rt : am_rt xX2_reckoned = (some .int) := rfl
theorem xX2_reckoned_FT : am_FT xX2_reckoned = FT_X2 := rfl
theorem xX2_reckoned_PT : am_PT xX2_reckoned = PT_X2 := rfl
theorem xX2_reckoned_CT : am_CT xX2_reckoned = CT_X2 := rfl
theorem xX2_reckoned_KT : am_KT xX2_reckoned = KT_X2 := rfl
theorem xX2_reckoned_LT : am_LT xX2_reckoned = LT_X2 := rfl
theorem xX2_reckoned_NT : am_NT xX2_reckoned = NT_X2 := rfl
theorem xX2_reckoned_t1_39 (k : Nat → Prop) : am_tg 1 39 k = k 40 := am_tg_eq (by decide)
theorem xX2_reckoned_t1_43 (k : Nat → Prop) : am_tg 1 43 k = k 44 := am_tg_eq (by decide)
theorem xX2_reckoned_t1_47 (k : Nat → Prop) : am_tg 1 47 k = k 48 := am_tg_eq (by decide)
theorem xX2_reckoned_t1_51 (k : Nat → Prop) : am_tg 1 51 k = k 52 := am_tg_eq (by decide)
theorem xX2_reckoned_t1_63 (k : Nat → Prop) : am_tg 1 63 k = k 64 := am_tg_eq (by decide)
theorem xX2_reckoned_t53 (k : Nat → Prop) : am_tg 53 (7) k = k 60 := am_tg_eq (by decide)
theorem xX2_reckoned_t57 (k : Nat → Prop) : am_tg 57 (6) k = k 63 := am_tg_eq (by decide)

set_option maxRecDepth 100000 in
theorem ptX2_reckoned : am_B cX2_reckoned xX2_reckoned 3 0 sX2_reckoned := by
  intro n0 as σ post AA hA h
  obtain ⟨rfl, k, a, b, hk, h5, rfl, h⟩ := h
  refine ⟨by simp [am_sl, Value.category], ?_⟩
  show AA 0 [some (.int (Int32.ofInt (lc (k, 0)).1)), some (.int a), some (.int b)] [] 92 σ
  have hc : k = 2 ∨ k = 3 ∨ k = 4 ∨ k = 5 := by omega
  have at40 : k = 2 → AA 40 [some (.int (Int32.ofInt (lc (k, 0)).1)), some (.int a), some (.int b)] [] 92 σ := fun q => by
    subst q
    refine hA [] 6 _ _ _ _ _ ?_
    try simp only [dX2_reckoned_0, dX2_reckoned_1, xX2_reckoned_t1_39, xX2_reckoned_t1_43, xX2_reckoned_t1_47, xX2_reckoned_t1_51, xX2_reckoned_t1_63, am_ts, List.toList_toArray, List.size_toArray, dX2_reckoned_40, dX2_reckoned_41, dX2_reckoned_42, dX2_reckoned_43, dX2_reckoned_44, dX2_reckoned_45, dX2_reckoned_46, dX2_reckoned_47, dX2_reckoned_48, dX2_reckoned_49, dX2_reckoned_50, dX2_reckoned_51, dX2_reckoned_52, dX2_reckoned_53, xX2_reckoned_t53, dX2_reckoned_56, dX2_reckoned_57, xX2_reckoned_t57, dX2_reckoned_60, dX2_reckoned_61, dX2_reckoned_62, dX2_reckoned_63, dX2_reckoned_64, dX2_reckoned_65, xX2_reckoned_SH, xX2_reckoned_KF, xX2_reckoned_rt, xX2_reckoned_FT, xX2_reckoned_PT, xX2_reckoned_CT, xX2_reckoned_KT, xX2_reckoned_LT, xX2_reckoned_NT, o_goto, o_iadd, o_iconst, o_idiv, o_ifCond_ne, o_iload_n, o_imul, o_ireturn, o_isub, o_tableswitch, am_ty, am_vc, am_opt, am_cl, am_find, am_ldi, am_ldl, am_lda, am_v, am_1, am_1l, am_1a, am_2, am_2l, am_ix, am_ri, am_arr, am_pf, am_rc, am_mask, am_lg, am_av, am_nat, fv_0, fv_1, fv_2, fv_3, fw_0, fw_1, List.getElem?_cons_zero, List.getElem?_cons_succ, List.set_cons_zero, List.set_cons_succ, List.length_cons, List.length_nil, List.take_succ_cons, List.take_zero, List.drop_succ_cons, List.drop_zero, List.reverse_cons, List.reverse_nil, List.nil_append, List.cons_append, List.append_nil, List.map_cons, List.map_nil, List.sum_cons, List.sum_nil, Value.category, Option.toList_some, Option.toList_none, Nat.reduceAdd, Nat.reduceLT, Nat.reduceLeDiff, Nat.reduceEqDiff, Nat.reduceSub, Nat.add_zero, Nat.le_refl, Nat.zero_le, Int.reduceNeg, Int.reduceLE, Int.reduceLT, true_and, and_true, and_self, if_true, if_false, ite_true, ite_false, eq_self_iff_true, reduceIte, reduceCtorEq, not_false_eq_true, not_true_eq_false, or_true, true_or, or_false, false_or, Nat.lt_irrefl, Nat.zero_lt_succ]
    exact h
  have at44 : k = 3 → AA 44 [some (.int (Int32.ofInt (lc (k, 0)).1)), some (.int a), some (.int b)] [] 92 σ := fun q => by
    subst q
    refine hA [] 6 _ _ _ _ _ ?_
    try simp only [dX2_reckoned_0, dX2_reckoned_1, xX2_reckoned_t1_39, xX2_reckoned_t1_43, xX2_reckoned_t1_47, xX2_reckoned_t1_51, xX2_reckoned_t1_63, am_ts, List.toList_toArray, List.size_toArray, dX2_reckoned_40, dX2_reckoned_41, dX2_reckoned_42, dX2_reckoned_43, dX2_reckoned_44, dX2_reckoned_45, dX2_reckoned_46, dX2_reckoned_47, dX2_reckoned_48, dX2_reckoned_49, dX2_reckoned_50, dX2_reckoned_51, dX2_reckoned_52, dX2_reckoned_53, xX2_reckoned_t53, dX2_reckoned_56, dX2_reckoned_57, xX2_reckoned_t57, dX2_reckoned_60, dX2_reckoned_61, dX2_reckoned_62, dX2_reckoned_63, dX2_reckoned_64, dX2_reckoned_65, xX2_reckoned_SH, xX2_reckoned_KF, xX2_reckoned_rt, xX2_reckoned_FT, xX2_reckoned_PT, xX2_reckoned_CT, xX2_reckoned_KT, xX2_reckoned_LT, xX2_reckoned_NT, o_goto, o_iadd, o_iconst, o_idiv, o_ifCond_ne, o_iload_n, o_imul, o_ireturn, o_isub, o_tableswitch, am_ty, am_vc, am_opt, am_cl, am_find, am_ldi, am_ldl, am_lda, am_v, am_1, am_1l, am_1a, am_2, am_2l, am_ix, am_ri, am_arr, am_pf, am_rc, am_mask, am_lg, am_av, am_nat, fv_0, fv_1, fv_2, fv_3, fw_0, fw_1, List.getElem?_cons_zero, List.getElem?_cons_succ, List.set_cons_zero, List.set_cons_succ, List.length_cons, List.length_nil, List.take_succ_cons, List.take_zero, List.drop_succ_cons, List.drop_zero, List.reverse_cons, List.reverse_nil, List.nil_append, List.cons_append, List.append_nil, List.map_cons, List.map_nil, List.sum_cons, List.sum_nil, Value.category, Option.toList_some, Option.toList_none, Nat.reduceAdd, Nat.reduceLT, Nat.reduceLeDiff, Nat.reduceEqDiff, Nat.reduceSub, Nat.add_zero, Nat.le_refl, Nat.zero_le, Int.reduceNeg, Int.reduceLE, Int.reduceLT, true_and, and_true, and_self, if_true, if_false, ite_true, ite_false, eq_self_iff_true, reduceIte, reduceCtorEq, not_false_eq_true, not_true_eq_false, or_true, true_or, or_false, false_or, Nat.lt_irrefl, Nat.zero_lt_succ]
    exact h
  have at48 : k = 4 → AA 48 [some (.int (Int32.ofInt (lc (k, 0)).1)), some (.int a), some (.int b)] [] 92 σ := fun q => by
    subst q
    refine hA [] 6 _ _ _ _ _ ?_
    try simp only [dX2_reckoned_0, dX2_reckoned_1, xX2_reckoned_t1_39, xX2_reckoned_t1_43, xX2_reckoned_t1_47, xX2_reckoned_t1_51, xX2_reckoned_t1_63, am_ts, List.toList_toArray, List.size_toArray, dX2_reckoned_40, dX2_reckoned_41, dX2_reckoned_42, dX2_reckoned_43, dX2_reckoned_44, dX2_reckoned_45, dX2_reckoned_46, dX2_reckoned_47, dX2_reckoned_48, dX2_reckoned_49, dX2_reckoned_50, dX2_reckoned_51, dX2_reckoned_52, dX2_reckoned_53, xX2_reckoned_t53, dX2_reckoned_56, dX2_reckoned_57, xX2_reckoned_t57, dX2_reckoned_60, dX2_reckoned_61, dX2_reckoned_62, dX2_reckoned_63, dX2_reckoned_64, dX2_reckoned_65, xX2_reckoned_SH, xX2_reckoned_KF, xX2_reckoned_rt, xX2_reckoned_FT, xX2_reckoned_PT, xX2_reckoned_CT, xX2_reckoned_KT, xX2_reckoned_LT, xX2_reckoned_NT, o_goto, o_iadd, o_iconst, o_idiv, o_ifCond_ne, o_iload_n, o_imul, o_ireturn, o_isub, o_tableswitch, am_ty, am_vc, am_opt, am_cl, am_find, am_ldi, am_ldl, am_lda, am_v, am_1, am_1l, am_1a, am_2, am_2l, am_ix, am_ri, am_arr, am_pf, am_rc, am_mask, am_lg, am_av, am_nat, fv_0, fv_1, fv_2, fv_3, fw_0, fw_1, List.getElem?_cons_zero, List.getElem?_cons_succ, List.set_cons_zero, List.set_cons_succ, List.length_cons, List.length_nil, List.take_succ_cons, List.take_zero, List.drop_succ_cons, List.drop_zero, List.reverse_cons, List.reverse_nil, List.nil_append, List.cons_append, List.append_nil, List.map_cons, List.map_nil, List.sum_cons, List.sum_nil, Value.category, Option.toList_some, Option.toList_none, Nat.reduceAdd, Nat.reduceLT, Nat.reduceLeDiff, Nat.reduceEqDiff, Nat.reduceSub, Nat.add_zero, Nat.le_refl, Nat.zero_le, Int.reduceNeg, Int.reduceLE, Int.reduceLT, true_and, and_true, and_self, if_true, if_false, ite_true, ite_false, eq_self_iff_true, reduceIte, reduceCtorEq, not_false_eq_true, not_true_eq_false, or_true, true_or, or_false, false_or, Nat.lt_irrefl, Nat.zero_lt_succ]
    exact h
  have at52 : k = 5 → AA 52 [some (.int (Int32.ofInt (lc (k, 0)).1)), some (.int a), some (.int b)] [] 92 σ := fun q => by
    subst q
    have h5 := h5 rfl
    refine hA [] 12 _ _ _ _ _ ?_
    try simp only [dX2_reckoned_0, dX2_reckoned_1, xX2_reckoned_t1_39, xX2_reckoned_t1_43, xX2_reckoned_t1_47, xX2_reckoned_t1_51, xX2_reckoned_t1_63, am_ts, List.toList_toArray, List.size_toArray, dX2_reckoned_40, dX2_reckoned_41, dX2_reckoned_42, dX2_reckoned_43, dX2_reckoned_44, dX2_reckoned_45, dX2_reckoned_46, dX2_reckoned_47, dX2_reckoned_48, dX2_reckoned_49, dX2_reckoned_50, dX2_reckoned_51, dX2_reckoned_52, dX2_reckoned_53, xX2_reckoned_t53, dX2_reckoned_56, dX2_reckoned_57, xX2_reckoned_t57, dX2_reckoned_60, dX2_reckoned_61, dX2_reckoned_62, dX2_reckoned_63, dX2_reckoned_64, dX2_reckoned_65, xX2_reckoned_SH, xX2_reckoned_KF, xX2_reckoned_rt, xX2_reckoned_FT, xX2_reckoned_PT, xX2_reckoned_CT, xX2_reckoned_KT, xX2_reckoned_LT, xX2_reckoned_NT, o_goto, o_iadd, o_iconst, o_idiv, o_ifCond_ne, o_iload_n, o_imul, o_ireturn, o_isub, o_tableswitch, am_ty, am_vc, am_opt, am_cl, am_find, am_ldi, am_ldl, am_lda, am_v, am_1, am_1l, am_1a, am_2, am_2l, am_ix, am_ri, am_arr, am_pf, am_rc, am_mask, am_lg, am_av, am_nat, fv_0, fv_1, fv_2, fv_3, fw_0, fw_1, List.getElem?_cons_zero, List.getElem?_cons_succ, List.set_cons_zero, List.set_cons_succ, List.length_cons, List.length_nil, List.take_succ_cons, List.take_zero, List.drop_succ_cons, List.drop_zero, List.reverse_cons, List.reverse_nil, List.nil_append, List.cons_append, List.append_nil, List.map_cons, List.map_nil, List.sum_cons, List.sum_nil, Value.category, Option.toList_some, Option.toList_none, Nat.reduceAdd, Nat.reduceLT, Nat.reduceLeDiff, Nat.reduceEqDiff, Nat.reduceSub, Nat.add_zero, Nat.le_refl, Nat.zero_le, Int.reduceNeg, Int.reduceLE, Int.reduceLT, true_and, and_true, and_self, if_true, if_false, ite_true, ite_false, eq_self_iff_true, reduceIte, reduceCtorEq, not_false_eq_true, not_true_eq_false, or_true, true_or, or_false, false_or, Nat.lt_irrefl, Nat.zero_lt_succ]
    exact ⟨fun _ => ⟨h5, h⟩, fun z => absurd z h5⟩
  have t : (Int32.ofInt (lc (k, 0)).1).toInt = (lc (k, 0)).1 := ii_t (by rcases hc with rfl | rfl | rfl | rfl <;> decide) (by rcases hc with rfl | rfl | rfl | rfl <;> decide)
  refine hA [(40, 3), (44, 3), (48, 3), (52, 3)] 2 _ _ _ _ _ ?_
  try simp only [dX2_reckoned_0, dX2_reckoned_1, xX2_reckoned_t1_39, xX2_reckoned_t1_43, xX2_reckoned_t1_47, xX2_reckoned_t1_51, xX2_reckoned_t1_63, am_ts, List.toList_toArray, List.size_toArray, dX2_reckoned_40, dX2_reckoned_41, dX2_reckoned_42, dX2_reckoned_43, dX2_reckoned_44, dX2_reckoned_45, dX2_reckoned_46, dX2_reckoned_47, dX2_reckoned_48, dX2_reckoned_49, dX2_reckoned_50, dX2_reckoned_51, dX2_reckoned_52, dX2_reckoned_53, xX2_reckoned_t53, dX2_reckoned_56, dX2_reckoned_57, xX2_reckoned_t57, dX2_reckoned_60, dX2_reckoned_61, dX2_reckoned_62, dX2_reckoned_63, dX2_reckoned_64, dX2_reckoned_65, xX2_reckoned_SH, xX2_reckoned_KF, xX2_reckoned_rt, xX2_reckoned_FT, xX2_reckoned_PT, xX2_reckoned_CT, xX2_reckoned_KT, xX2_reckoned_LT, xX2_reckoned_NT, o_goto, o_iadd, o_iconst, o_idiv, o_ifCond_ne, o_iload_n, o_imul, o_ireturn, o_isub, o_tableswitch, am_ty, am_vc, am_opt, am_cl, am_find, am_ldi, am_ldl, am_lda, am_v, am_1, am_1l, am_1a, am_2, am_2l, am_ix, am_ri, am_arr, am_pf, am_rc, am_mask, am_lg, am_av, am_nat, fv_0, fv_1, fv_2, fv_3, fw_0, fw_1, List.getElem?_cons_zero, List.getElem?_cons_succ, List.set_cons_zero, List.set_cons_succ, List.length_cons, List.length_nil, List.take_succ_cons, List.take_zero, List.drop_succ_cons, List.drop_zero, List.reverse_cons, List.reverse_nil, List.nil_append, List.cons_append, List.append_nil, List.map_cons, List.map_nil, List.sum_cons, List.sum_nil, Value.category, Option.toList_some, Option.toList_none, Nat.reduceAdd, Nat.reduceLT, Nat.reduceLeDiff, Nat.reduceEqDiff, Nat.reduceSub, Nat.add_zero, Nat.le_refl, Nat.zero_le, Int.reduceNeg, Int.reduceLE, Int.reduceLT, true_and, and_true, and_self, if_true, if_false, ite_true, ite_false, eq_self_iff_true, reduceIte, reduceCtorEq, not_false_eq_true, not_true_eq_false, or_true, true_or, or_false, false_or, Nat.lt_irrefl, Nat.zero_lt_succ]
  rw [t]
  rcases hc with rfl | rfl | rfl | rfl
  · have := at40 rfl
    simp [lc, am_ts]
    exact this
  · have := at44 rfl
    simp [lc, am_ts]
    exact this
  · have := at48 rfl
    simp [lc, am_ts]
    exact this
  · have := at52 rfl
    simp [lc, am_ts]
    exact this
theorem mX2_reckoned (l : Launch) : am_M l TB NB vwCl SH KF yX2_reckoned cX2_reckoned 3 (some .int) 2 0 0 sX2_reckoned := by
  refine am_M.of xX2_reckoned (by decide +kernel) TB_good GF rfl rfl rfl (by decide) ⟨FT_X2_ok, PT_X2_ok _, CT_X2_ok, KT_X2_ok, LT_X2_ok, NT_X2_ok, ?_⟩ ptX2_reckoned
  exact fun _ h => absurd h List.not_mem_nil

def xX2_worth : am_X := (SH, KF, (some .int), FT_X2, PT_X2, CT_X2, KT_X2, LT_X2, NT_X2, [(55, 4, 2, 11, 0, 0, sX11_at), (61, 1, 3, 2, 0, 0, sX2_reckoned)])
theorem xX2_worth_SH : am_SH xX2_worth = SH := rfl
theorem xX2_worth_KF : am_KF xX2_worth = KF := rfl
theorem xX2_worth_rt : am_rt xX2_worth = (some .int) := rfl
theorem xX2_worth_FT : am_FT xX2_worth = FT_X2 := rfl
theorem xX2_worth_PT : am_PT xX2_worth = PT_X2 := rfl
theorem xX2_worth_CT : am_CT xX2_worth = CT_X2 := rfl
theorem xX2_worth_KT : am_KT xX2_worth = KT_X2 := rfl
theorem xX2_worth_LT : am_LT xX2_worth = LT_X2 := rfl
theorem xX2_worth_NT : am_NT xX2_worth = NT_X2 := rfl
theorem xX2_worth_c55 : am_find (am_ML xX2_worth) 55 = some (4, 2, 11, 0, 0, sX11_at) := rfl
theorem xX2_worth_n55 : am_find NT_X2 55 = none := rfl
theorem xX2_worth_c61 : am_find (am_ML xX2_worth) 61 = some (1, 3, 2, 0, 0, sX2_reckoned) := rfl
theorem xX2_worth_n61 : am_find NT_X2 61 = none := rfl
theorem xX2_worth_t19 (k : Nat → Prop) : am_tg 19 (228) k = k 247 := am_tg_eq (by decide)
theorem xX2_worth_t23 (k : Nat → Prop) : am_tg 23 (21) k = k 44 := am_tg_eq (by decide)
theorem xX2_worth_t32 (k : Nat → Prop) : am_tg 32 (12) k = k 44 := am_tg_eq (by decide)
theorem xX2_worth_t41 (k : Nat → Prop) : am_tg 41 (5) k = k 46 := am_tg_eq (by decide)
theorem xX2_worth_t67 (k : Nat → Prop) : am_tg 67 (19) k = k 86 := am_tg_eq (by decide)
theorem xX2_worth_t72 (k : Nat → Prop) : am_tg 72 (12) k = k 84 := am_tg_eq (by decide)
theorem xX2_worth_t81 (k : Nat → Prop) : am_tg 81 (4) k = k 85 := am_tg_eq (by decide)
theorem xX2_worth_t89 (k : Nat → Prop) : am_tg 89 (9) k = k 98 := am_tg_eq (by decide)
theorem xX2_worth_t95 (k : Nat → Prop) : am_tg 95 (50) k = k 145 := am_tg_eq (by decide)
theorem xX2_worth_t99 (k : Nat → Prop) : am_tg 99 (12) k = k 111 := am_tg_eq (by decide)
theorem xX2_worth_t108 (k : Nat → Prop) : am_tg 108 (5) k = k 113 := am_tg_eq (by decide)
theorem xX2_worth_t121 (k : Nat → Prop) : am_tg 121 (8) k = k 129 := am_tg_eq (by decide)
theorem xX2_worth_t126 (k : Nat → Prop) : am_tg 126 (12) k = k 138 := am_tg_eq (by decide)
theorem xX2_worth_t142 (k : Nat → Prop) : am_tg 142 (99) k = k 241 := am_tg_eq (by decide)
theorem xX2_worth_t147 (k : Nat → Prop) : am_tg 147 (12) k = k 159 := am_tg_eq (by decide)
theorem xX2_worth_t156 (k : Nat → Prop) : am_tg 156 (5) k = k 161 := am_tg_eq (by decide)
theorem xX2_worth_t185 (k : Nat → Prop) : am_tg 185 (10) k = k 195 := am_tg_eq (by decide)
theorem xX2_worth_t190 (k : Nat → Prop) : am_tg 190 (5) k = k 195 := am_tg_eq (by decide)
theorem xX2_worth_t198 (k : Nat → Prop) : am_tg 198 (23) k = k 221 := am_tg_eq (by decide)
theorem xX2_worth_t208 (k : Nat → Prop) : am_tg 208 (7) k = k 215 := am_tg_eq (by decide)
theorem xX2_worth_t212 (k : Nat → Prop) : am_tg 212 (5) k = k 217 := am_tg_eq (by decide)
theorem xX2_worth_t218 (k : Nat → Prop) : am_tg 218 (23) k = k 241 := am_tg_eq (by decide)
theorem xX2_worth_t244 (k : Nat → Prop) : am_tg 244 (-230) k = k 14 := am_tg_eq (by decide)

section
variable {post : Option Value → am_S → Prop} {AA : Nat → List (Option Value) → List Value → Nat → am_S → Prop} {law : Int32}
set_option maxRecDepth 100000 in
/-- a step is read -/
theorem ws_65 (hA : ∀ cuts f pc ls stk n τ, am_vc cX2_worth xX2_worth (92 + 0) post AA cuts f pc ls stk n τ → AA pc ls stk n τ) {σ : am_S} {n t u : Nat} {o a : Int} (hu : u < 408) (hn : n < 408) (e1 : σ.1 22 n = Int32.ofInt o) (e2 : σ.1 23 n = Int32.ofInt a) (h : AA 65 [some (.ref 21), some (.int law), some (.int (Int32.ofInt ((n + 1 : Nat) : Int))), some (.int (Int32.ofInt (t : Int))), some (.int (Int32.ofInt (u : Int))), some (.int (Int32.ofInt o)), some (.int (Int32.ofInt a)), none, none] [] 92 σ) : AA 14 (wl law (Int32.ofInt (n : Int)) (Int32.ofInt (t : Int)) (Int32.ofInt (u : Int))) [] 92 σ := by
  have f1 : ¬ (408 : Int) ≤ (u : Int) := by omega
  have f2 : ¬ (n : Int) < 0 := by omega
  have f3 : ¬ (408 : Int) ≤ (n : Int) := by omega
  have f4 : (n : Int) < 408 := by omega
  unfold wl
  refine hA [(65, 7)] 32 _ _ _ _ _ ?_
  try simp only [dX2_worth_0, dX2_worth_1, FT_X2_18, dX2_worth_4, dX2_worth_5, xX2_worth_c55, xX2_worth_n55, dX2_worth_8, dX2_worth_9, dX2_worth_10, dX2_worth_11, dX2_worth_12, dX2_worth_14, dX2_worth_16, dX2_worth_19, xX2_worth_t19, dX2_worth_22, dX2_worth_23, xX2_worth_t23, dX2_worth_26, dX2_worth_27, dX2_worth_28, FT_X2_11, dX2_worth_31, dX2_worth_32, xX2_worth_t32, dX2_worth_35, dX2_worth_36, dX2_worth_37, FT_X2_15, dX2_worth_40, dX2_worth_41, xX2_worth_t41, dX2_worth_44, dX2_worth_45, dX2_worth_46, dX2_worth_47, dX2_worth_50, dX2_worth_51, dX2_worth_52, dX2_worth_54, dX2_worth_55, dX2_worth_58, dX2_worth_59, dX2_worth_60, dX2_worth_62, dX2_worth_65, dX2_worth_67, xX2_worth_t67, dX2_worth_70, dX2_worth_71, dX2_worth_72, xX2_worth_t72, dX2_worth_75, dX2_worth_76, FT_X2_24, dX2_worth_79, dX2_worth_80, dX2_worth_81, xX2_worth_t81, dX2_worth_84, dX2_worth_85, dX2_worth_86, dX2_worth_88, dX2_worth_89, xX2_worth_t89, dX2_worth_92, dX2_worth_94, dX2_worth_95, xX2_worth_t95, dX2_worth_98, dX2_worth_99, xX2_worth_t99, dX2_worth_102, dX2_worth_103, dX2_worth_104, dX2_worth_107, dX2_worth_108, xX2_worth_t108, dX2_worth_111, dX2_worth_112, dX2_worth_113, dX2_worth_114, dX2_worth_117, dX2_worth_118, dX2_worth_120, dX2_worth_121, xX2_worth_t121, dX2_worth_124, dX2_worth_126, xX2_worth_t126, dX2_worth_129, dX2_worth_130, FT_X2_21, dX2_worth_133, dX2_worth_135, dX2_worth_138, dX2_worth_139, dX2_worth_142, xX2_worth_t142, dX2_worth_145, dX2_worth_146, dX2_worth_147, xX2_worth_t147, dX2_worth_150, dX2_worth_151, dX2_worth_152, dX2_worth_155, dX2_worth_156, xX2_worth_t156, dX2_worth_159, dX2_worth_160, dX2_worth_161, dX2_worth_162, dX2_worth_165, dX2_worth_166, dX2_worth_167, dX2_worth_168, dX2_worth_169, dX2_worth_171, dX2_worth_172, dX2_worth_175, dX2_worth_176, dX2_worth_177, dX2_worth_178, dX2_worth_179, dX2_worth_181, dX2_worth_183, dX2_worth_185, xX2_worth_t185, dX2_worth_188, dX2_worth_190, xX2_worth_t190, dX2_worth_193, dX2_worth_194, dX2_worth_195, dX2_worth_197, dX2_worth_198, xX2_worth_t198, dX2_worth_201, dX2_worth_204, dX2_worth_206, dX2_worth_208, xX2_worth_t208, dX2_worth_211, dX2_worth_212, xX2_worth_t212, dX2_worth_215, dX2_worth_217, dX2_worth_218, xX2_worth_t218, dX2_worth_221, dX2_worth_224, dX2_worth_225, dX2_worth_228, dX2_worth_229, dX2_worth_230, dX2_worth_231, dX2_worth_233, dX2_worth_235, dX2_worth_237, xX2_worth_c61, xX2_worth_n61, dX2_worth_240, dX2_worth_241, dX2_worth_244, xX2_worth_t244, dX2_worth_247, dX2_worth_248, xX2_worth_SH, xX2_worth_KF, xX2_worth_rt, xX2_worth_FT, xX2_worth_PT, xX2_worth_CT, xX2_worth_KT, xX2_worth_LT, xX2_worth_NT, o_aload_n, o_arraylength, o_bipush, o_getfield, o_goto, o_iaload, o_iastore, o_iconst, o_ifCond_lt, o_ifCond_ne, o_if_icmp_eq, o_if_icmp_ge, o_if_icmp_le, o_if_icmp_lt, o_if_icmp_ne, o_iinc, o_iload, o_iload_n, o_invokestatic, o_ireturn, o_istore, o_istore_n, o_isub, o_sipush, SH_4, KF_4_0, SH_5, KF_4_1, SH_6, KF_4_2, SH_7, KF_4_3, SH_8, KF_4_4, SH_9, SH_21, KF_21_0, SH_22, KF_21_1, SH_23, KF_21_2, SH_24, KF_21_3, SH_25, KF_21_4, SH_26, am_ty, am_vc, am_opt, am_cl, am_find, am_ldi, am_ldl, am_lda, am_v, am_1, am_1l, am_1a, am_2, am_2l, am_ix, am_ri, am_arr, am_pf, am_rc, am_mask, am_lg, am_av, am_nat, fv_0, fv_1, fv_2, fv_3, fw_0, fw_1, List.getElem?_cons_zero, List.getElem?_cons_succ, List.set_cons_zero, List.set_cons_succ, List.length_cons, List.length_nil, List.take_succ_cons, List.take_zero, List.drop_succ_cons, List.drop_zero, List.reverse_cons, List.reverse_nil, List.nil_append, List.cons_append, List.append_nil, List.map_cons, List.map_nil, List.sum_cons, List.sum_nil, Value.category, Option.toList_some, Option.toList_none, Nat.reduceAdd, Nat.reduceLT, Nat.reduceLeDiff, Nat.reduceEqDiff, Nat.reduceSub, Nat.add_zero, Nat.le_refl, Nat.zero_le, Int.reduceNeg, Int.reduceLE, Int.reduceLT, true_and, and_true, and_self, if_true, if_false, ite_true, ite_false, eq_self_iff_true, reduceIte, reduceCtorEq, not_false_eq_true, not_true_eq_false, or_true, true_or, or_false, false_or, Nat.lt_irrefl, Nat.zero_lt_succ, e1, e2]
  try simp (disch := omega) only [ii_0, ii_1, ii_t, ii_add, ii_sub, ii_mul, ii_lt, ii_le, ii_eq, ij_in, ii_c, Int.toNat_natCast, Int.toNat_zero, Int.reduceToNat, Int.reduceEq, Int.reduceNe, Int.reduceLE, Int.reduceLT, Int.reduceAdd, Int.reduceSub, Int.reduceMul, Int.reduceNeg, Nat.reduceLT, Nat.reduceAdd, Nat.reduceMul, not_false_eq_true, not_true_eq_false, true_and, and_true, and_self, false_and, and_false, true_implies, false_implies, implies_true, forall_const, if_true, if_false, ite_true, ite_false, reduceIte, eq_self_iff_true, Int.natCast_nonneg, Int.zero_add, Int.add_zero, pi_s, pi_n, on_408, e1, e2, f1, f2, f3, f4, ik_s]
  first
  | exact h
  | exact ⟨hn, hn, h⟩
set_option maxRecDepth 100000 in
theorem ws_241 (hA : ∀ cuts f pc ls stk n τ, am_vc cX2_worth xX2_worth (92 + 0) post AA cuts f pc ls stk n τ → AA pc ls stk n τ) {σ : am_S} {t u : Nat} {nx : Int32} {v5 v6 v7 v8 : Option Value} (h : AA 14 (wl law nx (Int32.ofInt (t : Int)) (Int32.ofInt ((u + 1 : Nat) : Int))) [] 92 σ) : AA 241 [some (.ref 21), some (.int law), some (.int nx), some (.int (Int32.ofInt (t : Int))), some (.int (Int32.ofInt (u : Int))), v5, v6, v7, v8] [] 92 σ := by
  unfold wl at h
  refine hA [(14, 5)] 3 _ _ _ _ _ ?_
  try simp only [dX2_worth_0, dX2_worth_1, FT_X2_18, dX2_worth_4, dX2_worth_5, xX2_worth_c55, xX2_worth_n55, dX2_worth_8, dX2_worth_9, dX2_worth_10, dX2_worth_11, dX2_worth_12, dX2_worth_14, dX2_worth_16, dX2_worth_19, xX2_worth_t19, dX2_worth_22, dX2_worth_23, xX2_worth_t23, dX2_worth_26, dX2_worth_27, dX2_worth_28, FT_X2_11, dX2_worth_31, dX2_worth_32, xX2_worth_t32, dX2_worth_35, dX2_worth_36, dX2_worth_37, FT_X2_15, dX2_worth_40, dX2_worth_41, xX2_worth_t41, dX2_worth_44, dX2_worth_45, dX2_worth_46, dX2_worth_47, dX2_worth_50, dX2_worth_51, dX2_worth_52, dX2_worth_54, dX2_worth_55, dX2_worth_58, dX2_worth_59, dX2_worth_60, dX2_worth_62, dX2_worth_65, dX2_worth_67, xX2_worth_t67, dX2_worth_70, dX2_worth_71, dX2_worth_72, xX2_worth_t72, dX2_worth_75, dX2_worth_76, FT_X2_24, dX2_worth_79, dX2_worth_80, dX2_worth_81, xX2_worth_t81, dX2_worth_84, dX2_worth_85, dX2_worth_86, dX2_worth_88, dX2_worth_89, xX2_worth_t89, dX2_worth_92, dX2_worth_94, dX2_worth_95, xX2_worth_t95, dX2_worth_98, dX2_worth_99, xX2_worth_t99, dX2_worth_102, dX2_worth_103, dX2_worth_104, dX2_worth_107, dX2_worth_108, xX2_worth_t108, dX2_worth_111, dX2_worth_112, dX2_worth_113, dX2_worth_114, dX2_worth_117, dX2_worth_118, dX2_worth_120, dX2_worth_121, xX2_worth_t121, dX2_worth_124, dX2_worth_126, xX2_worth_t126, dX2_worth_129, dX2_worth_130, FT_X2_21, dX2_worth_133, dX2_worth_135, dX2_worth_138, dX2_worth_139, dX2_worth_142, xX2_worth_t142, dX2_worth_145, dX2_worth_146, dX2_worth_147, xX2_worth_t147, dX2_worth_150, dX2_worth_151, dX2_worth_152, dX2_worth_155, dX2_worth_156, xX2_worth_t156, dX2_worth_159, dX2_worth_160, dX2_worth_161, dX2_worth_162, dX2_worth_165, dX2_worth_166, dX2_worth_167, dX2_worth_168, dX2_worth_169, dX2_worth_171, dX2_worth_172, dX2_worth_175, dX2_worth_176, dX2_worth_177, dX2_worth_178, dX2_worth_179, dX2_worth_181, dX2_worth_183, dX2_worth_185, xX2_worth_t185, dX2_worth_188, dX2_worth_190, xX2_worth_t190, dX2_worth_193, dX2_worth_194, dX2_worth_195, dX2_worth_197, dX2_worth_198, xX2_worth_t198, dX2_worth_201, dX2_worth_204, dX2_worth_206, dX2_worth_208, xX2_worth_t208, dX2_worth_211, dX2_worth_212, xX2_worth_t212, dX2_worth_215, dX2_worth_217, dX2_worth_218, xX2_worth_t218, dX2_worth_221, dX2_worth_224, dX2_worth_225, dX2_worth_228, dX2_worth_229, dX2_worth_230, dX2_worth_231, dX2_worth_233, dX2_worth_235, dX2_worth_237, xX2_worth_c61, xX2_worth_n61, dX2_worth_240, dX2_worth_241, dX2_worth_244, xX2_worth_t244, dX2_worth_247, dX2_worth_248, xX2_worth_SH, xX2_worth_KF, xX2_worth_rt, xX2_worth_FT, xX2_worth_PT, xX2_worth_CT, xX2_worth_KT, xX2_worth_LT, xX2_worth_NT, o_aload_n, o_arraylength, o_bipush, o_getfield, o_goto, o_iaload, o_iastore, o_iconst, o_ifCond_lt, o_ifCond_ne, o_if_icmp_eq, o_if_icmp_ge, o_if_icmp_le, o_if_icmp_lt, o_if_icmp_ne, o_iinc, o_iload, o_iload_n, o_invokestatic, o_ireturn, o_istore, o_istore_n, o_isub, o_sipush, SH_4, KF_4_0, SH_5, KF_4_1, SH_6, KF_4_2, SH_7, KF_4_3, SH_8, KF_4_4, SH_9, SH_21, KF_21_0, SH_22, KF_21_1, SH_23, KF_21_2, SH_24, KF_21_3, SH_25, KF_21_4, SH_26, am_ty, am_vc, am_opt, am_cl, am_find, am_ldi, am_ldl, am_lda, am_v, am_1, am_1l, am_1a, am_2, am_2l, am_ix, am_ri, am_arr, am_pf, am_rc, am_mask, am_lg, am_av, am_nat, fv_0, fv_1, fv_2, fv_3, fw_0, fw_1, List.getElem?_cons_zero, List.getElem?_cons_succ, List.set_cons_zero, List.set_cons_succ, List.length_cons, List.length_nil, List.take_succ_cons, List.take_zero, List.drop_succ_cons, List.drop_zero, List.reverse_cons, List.reverse_nil, List.nil_append, List.cons_append, List.append_nil, List.map_cons, List.map_nil, List.sum_cons, List.sum_nil, Value.category, Option.toList_some, Option.toList_none, Nat.reduceAdd, Nat.reduceLT, Nat.reduceLeDiff, Nat.reduceEqDiff, Nat.reduceSub, Nat.add_zero, Nat.le_refl, Nat.zero_le, Int.reduceNeg, Int.reduceLE, Int.reduceLT, true_and, and_true, and_self, if_true, if_false, ite_true, ite_false, eq_self_iff_true, reduceIte, reduceCtorEq, not_false_eq_true, not_true_eq_false, or_true, true_or, or_false, false_or, Nat.lt_irrefl, Nat.zero_lt_succ]
  try simp (disch := omega) only [ii_0, ii_1, ii_t, ii_add, ii_sub, ii_mul, ii_lt, ii_le, ii_eq, ij_in, ii_c, Int.toNat_natCast, Int.toNat_zero, Int.reduceToNat, Int.reduceEq, Int.reduceNe, Int.reduceLE, Int.reduceLT, Int.reduceAdd, Int.reduceSub, Int.reduceMul, Int.reduceNeg, Nat.reduceLT, Nat.reduceAdd, Nat.reduceMul, not_false_eq_true, not_true_eq_false, true_and, and_true, and_self, false_and, and_false, true_implies, false_implies, implies_true, forall_const, if_true, if_false, ite_true, ite_false, reduceIte, eq_self_iff_true, Int.natCast_nonneg, Int.zero_add, Int.add_zero, pi_s, pi_n, ik_s]
  exact h
set_option maxRecDepth 100000 in
/-- a number -/
theorem ws_num (hA : ∀ cuts f pc ls stk n τ, am_vc cX2_worth xX2_worth (92 + 0) post AA cuts f pc ls stk n τ → AA pc ls stk n τ) {σ : am_S} {n t u : Nat} {v : Int} (hu : u < 408) (hn : n < 408) (ht : t < 24) (e1 : σ.1 22 n = Int32.ofInt 1) (e2 : σ.1 23 n = Int32.ofInt v) (h : AA 14 (wl law (Int32.ofInt ((n + 1 : Nat) : Int)) (Int32.ofInt ((t + 1 : Nat) : Int)) (Int32.ofInt ((u + 1 : Nat) : Int))) [] 92 (am_pi σ 26 t (Int32.ofInt v))) : AA 14 (wl law (Int32.ofInt (n : Int)) (Int32.ofInt (t : Int)) (Int32.ofInt (u : Int))) [] 92 σ := by
  refine ws_65 hA hu hn e1 e2 ?_
  have f1 : ¬ (t : Int) < 0 := by omega
  have f2 : (t : Int) < 24 := by omega
  have k := ws_241 hA (v5 := some (.int (Int32.ofInt 1))) (v6 := some (.int (Int32.ofInt v))) (v7 := none) (v8 := none) h
  refine hA [(241, 9)] 25 _ _ _ _ _ ?_
  try simp only [dX2_worth_0, dX2_worth_1, FT_X2_18, dX2_worth_4, dX2_worth_5, xX2_worth_c55, xX2_worth_n55, dX2_worth_8, dX2_worth_9, dX2_worth_10, dX2_worth_11, dX2_worth_12, dX2_worth_14, dX2_worth_16, dX2_worth_19, xX2_worth_t19, dX2_worth_22, dX2_worth_23, xX2_worth_t23, dX2_worth_26, dX2_worth_27, dX2_worth_28, FT_X2_11, dX2_worth_31, dX2_worth_32, xX2_worth_t32, dX2_worth_35, dX2_worth_36, dX2_worth_37, FT_X2_15, dX2_worth_40, dX2_worth_41, xX2_worth_t41, dX2_worth_44, dX2_worth_45, dX2_worth_46, dX2_worth_47, dX2_worth_50, dX2_worth_51, dX2_worth_52, dX2_worth_54, dX2_worth_55, dX2_worth_58, dX2_worth_59, dX2_worth_60, dX2_worth_62, dX2_worth_65, dX2_worth_67, xX2_worth_t67, dX2_worth_70, dX2_worth_71, dX2_worth_72, xX2_worth_t72, dX2_worth_75, dX2_worth_76, FT_X2_24, dX2_worth_79, dX2_worth_80, dX2_worth_81, xX2_worth_t81, dX2_worth_84, dX2_worth_85, dX2_worth_86, dX2_worth_88, dX2_worth_89, xX2_worth_t89, dX2_worth_92, dX2_worth_94, dX2_worth_95, xX2_worth_t95, dX2_worth_98, dX2_worth_99, xX2_worth_t99, dX2_worth_102, dX2_worth_103, dX2_worth_104, dX2_worth_107, dX2_worth_108, xX2_worth_t108, dX2_worth_111, dX2_worth_112, dX2_worth_113, dX2_worth_114, dX2_worth_117, dX2_worth_118, dX2_worth_120, dX2_worth_121, xX2_worth_t121, dX2_worth_124, dX2_worth_126, xX2_worth_t126, dX2_worth_129, dX2_worth_130, FT_X2_21, dX2_worth_133, dX2_worth_135, dX2_worth_138, dX2_worth_139, dX2_worth_142, xX2_worth_t142, dX2_worth_145, dX2_worth_146, dX2_worth_147, xX2_worth_t147, dX2_worth_150, dX2_worth_151, dX2_worth_152, dX2_worth_155, dX2_worth_156, xX2_worth_t156, dX2_worth_159, dX2_worth_160, dX2_worth_161, dX2_worth_162, dX2_worth_165, dX2_worth_166, dX2_worth_167, dX2_worth_168, dX2_worth_169, dX2_worth_171, dX2_worth_172, dX2_worth_175, dX2_worth_176, dX2_worth_177, dX2_worth_178, dX2_worth_179, dX2_worth_181, dX2_worth_183, dX2_worth_185, xX2_worth_t185, dX2_worth_188, dX2_worth_190, xX2_worth_t190, dX2_worth_193, dX2_worth_194, dX2_worth_195, dX2_worth_197, dX2_worth_198, xX2_worth_t198, dX2_worth_201, dX2_worth_204, dX2_worth_206, dX2_worth_208, xX2_worth_t208, dX2_worth_211, dX2_worth_212, xX2_worth_t212, dX2_worth_215, dX2_worth_217, dX2_worth_218, xX2_worth_t218, dX2_worth_221, dX2_worth_224, dX2_worth_225, dX2_worth_228, dX2_worth_229, dX2_worth_230, dX2_worth_231, dX2_worth_233, dX2_worth_235, dX2_worth_237, xX2_worth_c61, xX2_worth_n61, dX2_worth_240, dX2_worth_241, dX2_worth_244, xX2_worth_t244, dX2_worth_247, dX2_worth_248, xX2_worth_SH, xX2_worth_KF, xX2_worth_rt, xX2_worth_FT, xX2_worth_PT, xX2_worth_CT, xX2_worth_KT, xX2_worth_LT, xX2_worth_NT, o_aload_n, o_arraylength, o_bipush, o_getfield, o_goto, o_iaload, o_iastore, o_iconst, o_ifCond_lt, o_ifCond_ne, o_if_icmp_eq, o_if_icmp_ge, o_if_icmp_le, o_if_icmp_lt, o_if_icmp_ne, o_iinc, o_iload, o_iload_n, o_invokestatic, o_ireturn, o_istore, o_istore_n, o_isub, o_sipush, SH_4, KF_4_0, SH_5, KF_4_1, SH_6, KF_4_2, SH_7, KF_4_3, SH_8, KF_4_4, SH_9, SH_21, KF_21_0, SH_22, KF_21_1, SH_23, KF_21_2, SH_24, KF_21_3, SH_25, KF_21_4, SH_26, am_ty, am_vc, am_opt, am_cl, am_find, am_ldi, am_ldl, am_lda, am_v, am_1, am_1l, am_1a, am_2, am_2l, am_ix, am_ri, am_arr, am_pf, am_rc, am_mask, am_lg, am_av, am_nat, fv_0, fv_1, fv_2, fv_3, fw_0, fw_1, List.getElem?_cons_zero, List.getElem?_cons_succ, List.set_cons_zero, List.set_cons_succ, List.length_cons, List.length_nil, List.take_succ_cons, List.take_zero, List.drop_succ_cons, List.drop_zero, List.reverse_cons, List.reverse_nil, List.nil_append, List.cons_append, List.append_nil, List.map_cons, List.map_nil, List.sum_cons, List.sum_nil, Value.category, Option.toList_some, Option.toList_none, Nat.reduceAdd, Nat.reduceLT, Nat.reduceLeDiff, Nat.reduceEqDiff, Nat.reduceSub, Nat.add_zero, Nat.le_refl, Nat.zero_le, Int.reduceNeg, Int.reduceLE, Int.reduceLT, true_and, and_true, and_self, if_true, if_false, ite_true, ite_false, eq_self_iff_true, reduceIte, reduceCtorEq, not_false_eq_true, not_true_eq_false, or_true, true_or, or_false, false_or, Nat.lt_irrefl, Nat.zero_lt_succ, on_24, on_408]
  try simp (disch := omega) only [ii_0, ii_1, ii_t, ii_add, ii_sub, ii_mul, ii_lt, ii_le, ii_eq, ij_in, ii_c, Int.toNat_natCast, Int.toNat_zero, Int.reduceToNat, Int.reduceEq, Int.reduceNe, Int.reduceLE, Int.reduceLT, Int.reduceAdd, Int.reduceSub, Int.reduceMul, Int.reduceNeg, Nat.reduceLT, Nat.reduceAdd, Nat.reduceMul, not_false_eq_true, not_true_eq_false, true_and, and_true, and_self, false_and, and_false, true_implies, false_implies, implies_true, forall_const, if_true, if_false, ite_true, ite_false, reduceIte, eq_self_iff_true, Int.natCast_nonneg, Int.zero_add, Int.add_zero, pi_s, pi_n, f1, f2, ik_s, ik_c]
  first
  | exact k
  | exact ⟨by omega, k⟩
  | exact ⟨⟨by omega, by omega⟩, k⟩
set_option maxRecDepth 100000 in
/-- a VAR -/
theorem ws_var (hA : ∀ cuts f pc ls stk n τ, am_vc cX2_worth xX2_worth (92 + 0) post AA cuts f pc ls stk n τ → AA pc ls stk n τ) {σ : am_S} {n t u : Nat} {v : Int} (hu : u < 408) (hn : n < 408) (ht : t < 24) (hv : 0 ≤ v ∧ v ≤ 8) (e1 : σ.1 22 n = Int32.ofInt 2) (e2 : σ.1 23 n = Int32.ofInt v) (h : AA 14 (wl law (Int32.ofInt ((n + 1 : Nat) : Int)) (Int32.ofInt ((t + 1 : Nat) : Int)) (Int32.ofInt ((u + 1 : Nat) : Int))) [] 92 (am_pi σ 26 t (σ.1 25 v.toNat))) : AA 14 (wl law (Int32.ofInt (n : Int)) (Int32.ofInt (t : Int)) (Int32.ofInt (u : Int))) [] 92 σ := by
  refine ws_65 hA hu hn e1 e2 ?_
  have f1 : ¬ (t : Int) < 0 := by omega
  have f2 : (t : Int) < 24 := by omega
  have k := ws_241 hA (v5 := some (.int (Int32.ofInt 2))) (v6 := some (.int (Int32.ofInt v))) (v7 := none) (v8 := none) h
  refine hA [(135, 7)] 25 _ _ _ _ _ ?_
  try simp only [dX2_worth_0, dX2_worth_1, FT_X2_18, dX2_worth_4, dX2_worth_5, xX2_worth_c55, xX2_worth_n55, dX2_worth_8, dX2_worth_9, dX2_worth_10, dX2_worth_11, dX2_worth_12, dX2_worth_14, dX2_worth_16, dX2_worth_19, xX2_worth_t19, dX2_worth_22, dX2_worth_23, xX2_worth_t23, dX2_worth_26, dX2_worth_27, dX2_worth_28, FT_X2_11, dX2_worth_31, dX2_worth_32, xX2_worth_t32, dX2_worth_35, dX2_worth_36, dX2_worth_37, FT_X2_15, dX2_worth_40, dX2_worth_41, xX2_worth_t41, dX2_worth_44, dX2_worth_45, dX2_worth_46, dX2_worth_47, dX2_worth_50, dX2_worth_51, dX2_worth_52, dX2_worth_54, dX2_worth_55, dX2_worth_58, dX2_worth_59, dX2_worth_60, dX2_worth_62, dX2_worth_65, dX2_worth_67, xX2_worth_t67, dX2_worth_70, dX2_worth_71, dX2_worth_72, xX2_worth_t72, dX2_worth_75, dX2_worth_76, FT_X2_24, dX2_worth_79, dX2_worth_80, dX2_worth_81, xX2_worth_t81, dX2_worth_84, dX2_worth_85, dX2_worth_86, dX2_worth_88, dX2_worth_89, xX2_worth_t89, dX2_worth_92, dX2_worth_94, dX2_worth_95, xX2_worth_t95, dX2_worth_98, dX2_worth_99, xX2_worth_t99, dX2_worth_102, dX2_worth_103, dX2_worth_104, dX2_worth_107, dX2_worth_108, xX2_worth_t108, dX2_worth_111, dX2_worth_112, dX2_worth_113, dX2_worth_114, dX2_worth_117, dX2_worth_118, dX2_worth_120, dX2_worth_121, xX2_worth_t121, dX2_worth_124, dX2_worth_126, xX2_worth_t126, dX2_worth_129, dX2_worth_130, FT_X2_21, dX2_worth_133, dX2_worth_135, dX2_worth_138, dX2_worth_139, dX2_worth_142, xX2_worth_t142, dX2_worth_145, dX2_worth_146, dX2_worth_147, xX2_worth_t147, dX2_worth_150, dX2_worth_151, dX2_worth_152, dX2_worth_155, dX2_worth_156, xX2_worth_t156, dX2_worth_159, dX2_worth_160, dX2_worth_161, dX2_worth_162, dX2_worth_165, dX2_worth_166, dX2_worth_167, dX2_worth_168, dX2_worth_169, dX2_worth_171, dX2_worth_172, dX2_worth_175, dX2_worth_176, dX2_worth_177, dX2_worth_178, dX2_worth_179, dX2_worth_181, dX2_worth_183, dX2_worth_185, xX2_worth_t185, dX2_worth_188, dX2_worth_190, xX2_worth_t190, dX2_worth_193, dX2_worth_194, dX2_worth_195, dX2_worth_197, dX2_worth_198, xX2_worth_t198, dX2_worth_201, dX2_worth_204, dX2_worth_206, dX2_worth_208, xX2_worth_t208, dX2_worth_211, dX2_worth_212, xX2_worth_t212, dX2_worth_215, dX2_worth_217, dX2_worth_218, xX2_worth_t218, dX2_worth_221, dX2_worth_224, dX2_worth_225, dX2_worth_228, dX2_worth_229, dX2_worth_230, dX2_worth_231, dX2_worth_233, dX2_worth_235, dX2_worth_237, xX2_worth_c61, xX2_worth_n61, dX2_worth_240, dX2_worth_241, dX2_worth_244, xX2_worth_t244, dX2_worth_247, dX2_worth_248, xX2_worth_SH, xX2_worth_KF, xX2_worth_rt, xX2_worth_FT, xX2_worth_PT, xX2_worth_CT, xX2_worth_KT, xX2_worth_LT, xX2_worth_NT, o_aload_n, o_arraylength, o_bipush, o_getfield, o_goto, o_iaload, o_iastore, o_iconst, o_ifCond_lt, o_ifCond_ne, o_if_icmp_eq, o_if_icmp_ge, o_if_icmp_le, o_if_icmp_lt, o_if_icmp_ne, o_iinc, o_iload, o_iload_n, o_invokestatic, o_ireturn, o_istore, o_istore_n, o_isub, o_sipush, SH_4, KF_4_0, SH_5, KF_4_1, SH_6, KF_4_2, SH_7, KF_4_3, SH_8, KF_4_4, SH_9, SH_21, KF_21_0, SH_22, KF_21_1, SH_23, KF_21_2, SH_24, KF_21_3, SH_25, KF_21_4, SH_26, am_ty, am_vc, am_opt, am_cl, am_find, am_ldi, am_ldl, am_lda, am_v, am_1, am_1l, am_1a, am_2, am_2l, am_ix, am_ri, am_arr, am_pf, am_rc, am_mask, am_lg, am_av, am_nat, fv_0, fv_1, fv_2, fv_3, fw_0, fw_1, List.getElem?_cons_zero, List.getElem?_cons_succ, List.set_cons_zero, List.set_cons_succ, List.length_cons, List.length_nil, List.take_succ_cons, List.take_zero, List.drop_succ_cons, List.drop_zero, List.reverse_cons, List.reverse_nil, List.nil_append, List.cons_append, List.append_nil, List.map_cons, List.map_nil, List.sum_cons, List.sum_nil, Value.category, Option.toList_some, Option.toList_none, Nat.reduceAdd, Nat.reduceLT, Nat.reduceLeDiff, Nat.reduceEqDiff, Nat.reduceSub, Nat.add_zero, Nat.le_refl, Nat.zero_le, Int.reduceNeg, Int.reduceLE, Int.reduceLT, true_and, and_true, and_self, if_true, if_false, ite_true, ite_false, eq_self_iff_true, reduceIte, reduceCtorEq, not_false_eq_true, not_true_eq_false, or_true, true_or, or_false, false_or, Nat.lt_irrefl, Nat.zero_lt_succ, on_24, on_408]
  try simp (disch := omega) only [ii_0, ii_1, ii_t, ii_add, ii_sub, ii_mul, ii_lt, ii_le, ii_eq, ij_in, ii_c, Int.toNat_natCast, Int.toNat_zero, Int.reduceToNat, Int.reduceEq, Int.reduceNe, Int.reduceLE, Int.reduceLT, Int.reduceAdd, Int.reduceSub, Int.reduceMul, Int.reduceNeg, Nat.reduceLT, Nat.reduceAdd, Nat.reduceMul, not_false_eq_true, not_true_eq_false, true_and, and_true, and_self, false_and, and_false, true_implies, false_implies, implies_true, forall_const, if_true, if_false, ite_true, ite_false, reduceIte, eq_self_iff_true, Int.natCast_nonneg, Int.zero_add, Int.add_zero, pi_s, pi_n, f1, f2, ik_s, ik_c]
  refine hA [(241, 9)] 6 _ _ _ _ _ ?_
  try simp only [dX2_worth_0, dX2_worth_1, FT_X2_18, dX2_worth_4, dX2_worth_5, xX2_worth_c55, xX2_worth_n55, dX2_worth_8, dX2_worth_9, dX2_worth_10, dX2_worth_11, dX2_worth_12, dX2_worth_14, dX2_worth_16, dX2_worth_19, xX2_worth_t19, dX2_worth_22, dX2_worth_23, xX2_worth_t23, dX2_worth_26, dX2_worth_27, dX2_worth_28, FT_X2_11, dX2_worth_31, dX2_worth_32, xX2_worth_t32, dX2_worth_35, dX2_worth_36, dX2_worth_37, FT_X2_15, dX2_worth_40, dX2_worth_41, xX2_worth_t41, dX2_worth_44, dX2_worth_45, dX2_worth_46, dX2_worth_47, dX2_worth_50, dX2_worth_51, dX2_worth_52, dX2_worth_54, dX2_worth_55, dX2_worth_58, dX2_worth_59, dX2_worth_60, dX2_worth_62, dX2_worth_65, dX2_worth_67, xX2_worth_t67, dX2_worth_70, dX2_worth_71, dX2_worth_72, xX2_worth_t72, dX2_worth_75, dX2_worth_76, FT_X2_24, dX2_worth_79, dX2_worth_80, dX2_worth_81, xX2_worth_t81, dX2_worth_84, dX2_worth_85, dX2_worth_86, dX2_worth_88, dX2_worth_89, xX2_worth_t89, dX2_worth_92, dX2_worth_94, dX2_worth_95, xX2_worth_t95, dX2_worth_98, dX2_worth_99, xX2_worth_t99, dX2_worth_102, dX2_worth_103, dX2_worth_104, dX2_worth_107, dX2_worth_108, xX2_worth_t108, dX2_worth_111, dX2_worth_112, dX2_worth_113, dX2_worth_114, dX2_worth_117, dX2_worth_118, dX2_worth_120, dX2_worth_121, xX2_worth_t121, dX2_worth_124, dX2_worth_126, xX2_worth_t126, dX2_worth_129, dX2_worth_130, FT_X2_21, dX2_worth_133, dX2_worth_135, dX2_worth_138, dX2_worth_139, dX2_worth_142, xX2_worth_t142, dX2_worth_145, dX2_worth_146, dX2_worth_147, xX2_worth_t147, dX2_worth_150, dX2_worth_151, dX2_worth_152, dX2_worth_155, dX2_worth_156, xX2_worth_t156, dX2_worth_159, dX2_worth_160, dX2_worth_161, dX2_worth_162, dX2_worth_165, dX2_worth_166, dX2_worth_167, dX2_worth_168, dX2_worth_169, dX2_worth_171, dX2_worth_172, dX2_worth_175, dX2_worth_176, dX2_worth_177, dX2_worth_178, dX2_worth_179, dX2_worth_181, dX2_worth_183, dX2_worth_185, xX2_worth_t185, dX2_worth_188, dX2_worth_190, xX2_worth_t190, dX2_worth_193, dX2_worth_194, dX2_worth_195, dX2_worth_197, dX2_worth_198, xX2_worth_t198, dX2_worth_201, dX2_worth_204, dX2_worth_206, dX2_worth_208, xX2_worth_t208, dX2_worth_211, dX2_worth_212, xX2_worth_t212, dX2_worth_215, dX2_worth_217, dX2_worth_218, xX2_worth_t218, dX2_worth_221, dX2_worth_224, dX2_worth_225, dX2_worth_228, dX2_worth_229, dX2_worth_230, dX2_worth_231, dX2_worth_233, dX2_worth_235, dX2_worth_237, xX2_worth_c61, xX2_worth_n61, dX2_worth_240, dX2_worth_241, dX2_worth_244, xX2_worth_t244, dX2_worth_247, dX2_worth_248, xX2_worth_SH, xX2_worth_KF, xX2_worth_rt, xX2_worth_FT, xX2_worth_PT, xX2_worth_CT, xX2_worth_KT, xX2_worth_LT, xX2_worth_NT, o_aload_n, o_arraylength, o_bipush, o_getfield, o_goto, o_iaload, o_iastore, o_iconst, o_ifCond_lt, o_ifCond_ne, o_if_icmp_eq, o_if_icmp_ge, o_if_icmp_le, o_if_icmp_lt, o_if_icmp_ne, o_iinc, o_iload, o_iload_n, o_invokestatic, o_ireturn, o_istore, o_istore_n, o_isub, o_sipush, SH_4, KF_4_0, SH_5, KF_4_1, SH_6, KF_4_2, SH_7, KF_4_3, SH_8, KF_4_4, SH_9, SH_21, KF_21_0, SH_22, KF_21_1, SH_23, KF_21_2, SH_24, KF_21_3, SH_25, KF_21_4, SH_26, am_ty, am_vc, am_opt, am_cl, am_find, am_ldi, am_ldl, am_lda, am_v, am_1, am_1l, am_1a, am_2, am_2l, am_ix, am_ri, am_arr, am_pf, am_rc, am_mask, am_lg, am_av, am_nat, fv_0, fv_1, fv_2, fv_3, fw_0, fw_1, List.getElem?_cons_zero, List.getElem?_cons_succ, List.set_cons_zero, List.set_cons_succ, List.length_cons, List.length_nil, List.take_succ_cons, List.take_zero, List.drop_succ_cons, List.drop_zero, List.reverse_cons, List.reverse_nil, List.nil_append, List.cons_append, List.append_nil, List.map_cons, List.map_nil, List.sum_cons, List.sum_nil, Value.category, Option.toList_some, Option.toList_none, Nat.reduceAdd, Nat.reduceLT, Nat.reduceLeDiff, Nat.reduceEqDiff, Nat.reduceSub, Nat.add_zero, Nat.le_refl, Nat.zero_le, Int.reduceNeg, Int.reduceLE, Int.reduceLT, true_and, and_true, and_self, if_true, if_false, ite_true, ite_false, eq_self_iff_true, reduceIte, reduceCtorEq, not_false_eq_true, not_true_eq_false, or_true, true_or, or_false, false_or, Nat.lt_irrefl, Nat.zero_lt_succ]
  refine ⟨25, 9, v, by decide, ⟨by omega, by omega⟩, rfl, by decide, rfl, rfl, ?_⟩
  rw [if_pos ⟨by omega, by omega⟩]
  try simp only [dX2_worth_0, dX2_worth_1, FT_X2_18, dX2_worth_4, dX2_worth_5, xX2_worth_c55, xX2_worth_n55, dX2_worth_8, dX2_worth_9, dX2_worth_10, dX2_worth_11, dX2_worth_12, dX2_worth_14, dX2_worth_16, dX2_worth_19, xX2_worth_t19, dX2_worth_22, dX2_worth_23, xX2_worth_t23, dX2_worth_26, dX2_worth_27, dX2_worth_28, FT_X2_11, dX2_worth_31, dX2_worth_32, xX2_worth_t32, dX2_worth_35, dX2_worth_36, dX2_worth_37, FT_X2_15, dX2_worth_40, dX2_worth_41, xX2_worth_t41, dX2_worth_44, dX2_worth_45, dX2_worth_46, dX2_worth_47, dX2_worth_50, dX2_worth_51, dX2_worth_52, dX2_worth_54, dX2_worth_55, dX2_worth_58, dX2_worth_59, dX2_worth_60, dX2_worth_62, dX2_worth_65, dX2_worth_67, xX2_worth_t67, dX2_worth_70, dX2_worth_71, dX2_worth_72, xX2_worth_t72, dX2_worth_75, dX2_worth_76, FT_X2_24, dX2_worth_79, dX2_worth_80, dX2_worth_81, xX2_worth_t81, dX2_worth_84, dX2_worth_85, dX2_worth_86, dX2_worth_88, dX2_worth_89, xX2_worth_t89, dX2_worth_92, dX2_worth_94, dX2_worth_95, xX2_worth_t95, dX2_worth_98, dX2_worth_99, xX2_worth_t99, dX2_worth_102, dX2_worth_103, dX2_worth_104, dX2_worth_107, dX2_worth_108, xX2_worth_t108, dX2_worth_111, dX2_worth_112, dX2_worth_113, dX2_worth_114, dX2_worth_117, dX2_worth_118, dX2_worth_120, dX2_worth_121, xX2_worth_t121, dX2_worth_124, dX2_worth_126, xX2_worth_t126, dX2_worth_129, dX2_worth_130, FT_X2_21, dX2_worth_133, dX2_worth_135, dX2_worth_138, dX2_worth_139, dX2_worth_142, xX2_worth_t142, dX2_worth_145, dX2_worth_146, dX2_worth_147, xX2_worth_t147, dX2_worth_150, dX2_worth_151, dX2_worth_152, dX2_worth_155, dX2_worth_156, xX2_worth_t156, dX2_worth_159, dX2_worth_160, dX2_worth_161, dX2_worth_162, dX2_worth_165, dX2_worth_166, dX2_worth_167, dX2_worth_168, dX2_worth_169, dX2_worth_171, dX2_worth_172, dX2_worth_175, dX2_worth_176, dX2_worth_177, dX2_worth_178, dX2_worth_179, dX2_worth_181, dX2_worth_183, dX2_worth_185, xX2_worth_t185, dX2_worth_188, dX2_worth_190, xX2_worth_t190, dX2_worth_193, dX2_worth_194, dX2_worth_195, dX2_worth_197, dX2_worth_198, xX2_worth_t198, dX2_worth_201, dX2_worth_204, dX2_worth_206, dX2_worth_208, xX2_worth_t208, dX2_worth_211, dX2_worth_212, xX2_worth_t212, dX2_worth_215, dX2_worth_217, dX2_worth_218, xX2_worth_t218, dX2_worth_221, dX2_worth_224, dX2_worth_225, dX2_worth_228, dX2_worth_229, dX2_worth_230, dX2_worth_231, dX2_worth_233, dX2_worth_235, dX2_worth_237, xX2_worth_c61, xX2_worth_n61, dX2_worth_240, dX2_worth_241, dX2_worth_244, xX2_worth_t244, dX2_worth_247, dX2_worth_248, xX2_worth_SH, xX2_worth_KF, xX2_worth_rt, xX2_worth_FT, xX2_worth_PT, xX2_worth_CT, xX2_worth_KT, xX2_worth_LT, xX2_worth_NT, o_aload_n, o_arraylength, o_bipush, o_getfield, o_goto, o_iaload, o_iastore, o_iconst, o_ifCond_lt, o_ifCond_ne, o_if_icmp_eq, o_if_icmp_ge, o_if_icmp_le, o_if_icmp_lt, o_if_icmp_ne, o_iinc, o_iload, o_iload_n, o_invokestatic, o_ireturn, o_istore, o_istore_n, o_isub, o_sipush, SH_4, KF_4_0, SH_5, KF_4_1, SH_6, KF_4_2, SH_7, KF_4_3, SH_8, KF_4_4, SH_9, SH_21, KF_21_0, SH_22, KF_21_1, SH_23, KF_21_2, SH_24, KF_21_3, SH_25, KF_21_4, SH_26, am_ty, am_vc, am_opt, am_cl, am_find, am_ldi, am_ldl, am_lda, am_v, am_1, am_1l, am_1a, am_2, am_2l, am_ix, am_ri, am_arr, am_pf, am_rc, am_mask, am_lg, am_av, am_nat, fv_0, fv_1, fv_2, fv_3, fw_0, fw_1, List.getElem?_cons_zero, List.getElem?_cons_succ, List.set_cons_zero, List.set_cons_succ, List.length_cons, List.length_nil, List.take_succ_cons, List.take_zero, List.drop_succ_cons, List.drop_zero, List.reverse_cons, List.reverse_nil, List.nil_append, List.cons_append, List.append_nil, List.map_cons, List.map_nil, List.sum_cons, List.sum_nil, Value.category, Option.toList_some, Option.toList_none, Nat.reduceAdd, Nat.reduceLT, Nat.reduceLeDiff, Nat.reduceEqDiff, Nat.reduceSub, Nat.add_zero, Nat.le_refl, Nat.zero_le, Int.reduceNeg, Int.reduceLE, Int.reduceLT, true_and, and_true, and_self, if_true, if_false, ite_true, ite_false, eq_self_iff_true, reduceIte, reduceCtorEq, not_false_eq_true, not_true_eq_false, or_true, true_or, or_false, false_or, Nat.lt_irrefl, Nat.zero_lt_succ]
  try simp (disch := omega) only [ii_0, ii_1, ii_t, ii_add, ii_sub, ii_mul, ii_lt, ii_le, ii_eq, ij_in, ii_c, Int.toNat_natCast, Int.toNat_zero, Int.reduceToNat, Int.reduceEq, Int.reduceNe, Int.reduceLE, Int.reduceLT, Int.reduceAdd, Int.reduceSub, Int.reduceMul, Int.reduceNeg, Nat.reduceLT, Nat.reduceAdd, Nat.reduceMul, not_false_eq_true, not_true_eq_false, true_and, and_true, and_self, false_and, and_false, true_implies, false_implies, implies_true, forall_const, if_true, if_false, ite_true, ite_false, reduceIte, eq_self_iff_true, Int.natCast_nonneg, Int.zero_add, Int.add_zero, pi_s, pi_n, ik_s, ik_c]
  first
  | exact k
  | exact ⟨by omega, k⟩
  | exact ⟨⟨by omega, by omega⟩, k⟩
set_option maxRecDepth 100000 in
/-- a sign -/
theorem ws_op (hA : ∀ cuts f pc ls stk n τ, am_vc cX2_worth xX2_worth (92 + 0) post AA cuts f pc ls stk n τ → AA pc ls stk n τ) {σ : am_S} {n t u : Nat} {k : Int} {x y : Int32} {v : Int} (hu : u < 408) (hn : n < 408) (ht : t + 2 ≤ 24) (hk : 2 ≤ k ∧ k ≤ 5) (e1 : σ.1 22 n = Int32.ofInt (lc (k, 0)).1) (e2 : σ.1 23 n = Int32.ofInt v) (ex : σ.1 26 t = x) (ey : σ.1 26 (t + 1) = y) (h0 : k = 5 → y = 0 → post (some (.int (Int32.ofInt 0))) σ) (h : ¬ (k = 5 ∧ y = 0) → AA 14 (wl law (Int32.ofInt ((n + 1 : Nat) : Int)) (Int32.ofInt ((t + 1 : Nat) : Int)) (Int32.ofInt ((u + 1 : Nat) : Int))) [] 92 (am_pi σ 26 t (opv k x y))) : AA 14 (wl law (Int32.ofInt (n : Int)) (Int32.ofInt ((t + 2 : Nat) : Int)) (Int32.ofInt (u : Int))) [] 92 σ := by
  refine ws_65 hA hu hn e1 e2 ?_
  obtain ⟨q, eq⟩ : ∃ q, q = (lc (k, 0)).1 := ⟨_, rfl⟩
  have hq : (k = 2 ∧ q = 43 ∨ k = 3 ∧ q = 45 ∨ k = 4 ∧ q = 42 ∨ k = 5 ∧ q = 47) := by
    rw [eq]
    have hc : k = 2 ∨ k = 3 ∨ k = 4 ∨ k = 5 := by omega
    rcases hc with rfl | rfl | rfl | rfl
    · exact Or.inl ⟨rfl, rfl⟩
    · exact Or.inr (Or.inl ⟨rfl, rfl⟩)
    · exact Or.inr (Or.inr (Or.inl ⟨rfl, rfl⟩))
    · exact Or.inr (Or.inr (Or.inr ⟨rfl, rfl⟩))
  rw [← eq]
  have f0 : ¬ q = 0 := by omega
  have f1 : ¬ q = 1 := by omega
  have f2 : ¬ q = 2 := by omega
  have f3 : ¬ q = 3 := by omega
  have f4 : ¬ (((t + 2 : Nat) : Int)) < 2 := by omega
  have f5 : (((t + 2 : Nat) : Int)) ≤ 24 := by omega
  have i1 : (((t + 2 : Nat) : Int) - 2).toNat = t := by omega
  have i2 : (((t + 2 : Nat) : Int) - 1).toNat = t + 1 := by omega
  have i3 : (((t + 2 : Nat) : Int) + -1) = ((t + 1 : Nat) : Int) := by omega
  have i4 : (((t + 1 : Nat) : Int) - 1).toNat = t := by omega
  have at195 : ¬ (k = 5 ∧ y = 0) → AA 195 [some (.ref 21), some (.int law), some (.int (Int32.ofInt ((n + 1 : Nat) : Int))), some (.int (Int32.ofInt ((t + 2 : Nat) : Int))), some (.int (Int32.ofInt (u : Int))), some (.int (Int32.ofInt q)), some (.int (Int32.ofInt v)), some (.int x), some (.int y)] [] 92 σ := fun z => by
    have k9 := ws_241 hA (v5 := some (.int (Int32.ofInt q))) (v6 := some (.int (Int32.ofInt v))) (v7 := some (.int x)) (v8 := some (.int y)) (h z)
    refine hA [(241, 9)] 16 _ _ _ _ _ ?_
    try simp only [dX2_worth_0, dX2_worth_1, FT_X2_18, dX2_worth_4, dX2_worth_5, xX2_worth_c55, xX2_worth_n55, dX2_worth_8, dX2_worth_9, dX2_worth_10, dX2_worth_11, dX2_worth_12, dX2_worth_14, dX2_worth_16, dX2_worth_19, xX2_worth_t19, dX2_worth_22, dX2_worth_23, xX2_worth_t23, dX2_worth_26, dX2_worth_27, dX2_worth_28, FT_X2_11, dX2_worth_31, dX2_worth_32, xX2_worth_t32, dX2_worth_35, dX2_worth_36, dX2_worth_37, FT_X2_15, dX2_worth_40, dX2_worth_41, xX2_worth_t41, dX2_worth_44, dX2_worth_45, dX2_worth_46, dX2_worth_47, dX2_worth_50, dX2_worth_51, dX2_worth_52, dX2_worth_54, dX2_worth_55, dX2_worth_58, dX2_worth_59, dX2_worth_60, dX2_worth_62, dX2_worth_65, dX2_worth_67, xX2_worth_t67, dX2_worth_70, dX2_worth_71, dX2_worth_72, xX2_worth_t72, dX2_worth_75, dX2_worth_76, FT_X2_24, dX2_worth_79, dX2_worth_80, dX2_worth_81, xX2_worth_t81, dX2_worth_84, dX2_worth_85, dX2_worth_86, dX2_worth_88, dX2_worth_89, xX2_worth_t89, dX2_worth_92, dX2_worth_94, dX2_worth_95, xX2_worth_t95, dX2_worth_98, dX2_worth_99, xX2_worth_t99, dX2_worth_102, dX2_worth_103, dX2_worth_104, dX2_worth_107, dX2_worth_108, xX2_worth_t108, dX2_worth_111, dX2_worth_112, dX2_worth_113, dX2_worth_114, dX2_worth_117, dX2_worth_118, dX2_worth_120, dX2_worth_121, xX2_worth_t121, dX2_worth_124, dX2_worth_126, xX2_worth_t126, dX2_worth_129, dX2_worth_130, FT_X2_21, dX2_worth_133, dX2_worth_135, dX2_worth_138, dX2_worth_139, dX2_worth_142, xX2_worth_t142, dX2_worth_145, dX2_worth_146, dX2_worth_147, xX2_worth_t147, dX2_worth_150, dX2_worth_151, dX2_worth_152, dX2_worth_155, dX2_worth_156, xX2_worth_t156, dX2_worth_159, dX2_worth_160, dX2_worth_161, dX2_worth_162, dX2_worth_165, dX2_worth_166, dX2_worth_167, dX2_worth_168, dX2_worth_169, dX2_worth_171, dX2_worth_172, dX2_worth_175, dX2_worth_176, dX2_worth_177, dX2_worth_178, dX2_worth_179, dX2_worth_181, dX2_worth_183, dX2_worth_185, xX2_worth_t185, dX2_worth_188, dX2_worth_190, xX2_worth_t190, dX2_worth_193, dX2_worth_194, dX2_worth_195, dX2_worth_197, dX2_worth_198, xX2_worth_t198, dX2_worth_201, dX2_worth_204, dX2_worth_206, dX2_worth_208, xX2_worth_t208, dX2_worth_211, dX2_worth_212, xX2_worth_t212, dX2_worth_215, dX2_worth_217, dX2_worth_218, xX2_worth_t218, dX2_worth_221, dX2_worth_224, dX2_worth_225, dX2_worth_228, dX2_worth_229, dX2_worth_230, dX2_worth_231, dX2_worth_233, dX2_worth_235, dX2_worth_237, xX2_worth_c61, xX2_worth_n61, dX2_worth_240, dX2_worth_241, dX2_worth_244, xX2_worth_t244, dX2_worth_247, dX2_worth_248, xX2_worth_SH, xX2_worth_KF, xX2_worth_rt, xX2_worth_FT, xX2_worth_PT, xX2_worth_CT, xX2_worth_KT, xX2_worth_LT, xX2_worth_NT, o_aload_n, o_arraylength, o_bipush, o_getfield, o_goto, o_iaload, o_iastore, o_iconst, o_ifCond_lt, o_ifCond_ne, o_if_icmp_eq, o_if_icmp_ge, o_if_icmp_le, o_if_icmp_lt, o_if_icmp_ne, o_iinc, o_iload, o_iload_n, o_invokestatic, o_ireturn, o_istore, o_istore_n, o_isub, o_sipush, SH_4, KF_4_0, SH_5, KF_4_1, SH_6, KF_4_2, SH_7, KF_4_3, SH_8, KF_4_4, SH_9, SH_21, KF_21_0, SH_22, KF_21_1, SH_23, KF_21_2, SH_24, KF_21_3, SH_25, KF_21_4, SH_26, am_ty, am_vc, am_opt, am_cl, am_find, am_ldi, am_ldl, am_lda, am_v, am_1, am_1l, am_1a, am_2, am_2l, am_ix, am_ri, am_arr, am_pf, am_rc, am_mask, am_lg, am_av, am_nat, fv_0, fv_1, fv_2, fv_3, fw_0, fw_1, List.getElem?_cons_zero, List.getElem?_cons_succ, List.set_cons_zero, List.set_cons_succ, List.length_cons, List.length_nil, List.take_succ_cons, List.take_zero, List.drop_succ_cons, List.drop_zero, List.reverse_cons, List.reverse_nil, List.nil_append, List.cons_append, List.append_nil, List.map_cons, List.map_nil, List.sum_cons, List.sum_nil, Value.category, Option.toList_some, Option.toList_none, Nat.reduceAdd, Nat.reduceLT, Nat.reduceLeDiff, Nat.reduceEqDiff, Nat.reduceSub, Nat.add_zero, Nat.le_refl, Nat.zero_le, Int.reduceNeg, Int.reduceLE, Int.reduceLT, true_and, and_true, and_self, if_true, if_false, ite_true, ite_false, eq_self_iff_true, reduceIte, reduceCtorEq, not_false_eq_true, not_true_eq_false, or_true, true_or, or_false, false_or, Nat.lt_irrefl, Nat.zero_lt_succ]
    try simp (disch := omega) only [ii_0, ii_1, ii_t, ii_add, ii_sub, ii_mul, ii_lt, ii_le, ii_eq, ij_in, ii_c, Int.toNat_natCast, Int.toNat_zero, Int.reduceToNat, Int.reduceEq, Int.reduceNe, Int.reduceLE, Int.reduceLT, Int.reduceAdd, Int.reduceSub, Int.reduceMul, Int.reduceNeg, Nat.reduceLT, Nat.reduceAdd, Nat.reduceMul, not_false_eq_true, not_true_eq_false, true_and, and_true, and_self, false_and, and_false, true_implies, false_implies, implies_true, forall_const, if_true, if_false, ite_true, ite_false, reduceIte, eq_self_iff_true, Int.natCast_nonneg, Int.zero_add, Int.add_zero, pi_s, pi_n, f3, i3]
    refine ⟨rfl, k, x, y, hk, fun w1 w2 => z ⟨w1, w2⟩, by rw [eq], ?_⟩
    try simp only [dX2_worth_0, dX2_worth_1, FT_X2_18, dX2_worth_4, dX2_worth_5, xX2_worth_c55, xX2_worth_n55, dX2_worth_8, dX2_worth_9, dX2_worth_10, dX2_worth_11, dX2_worth_12, dX2_worth_14, dX2_worth_16, dX2_worth_19, xX2_worth_t19, dX2_worth_22, dX2_worth_23, xX2_worth_t23, dX2_worth_26, dX2_worth_27, dX2_worth_28, FT_X2_11, dX2_worth_31, dX2_worth_32, xX2_worth_t32, dX2_worth_35, dX2_worth_36, dX2_worth_37, FT_X2_15, dX2_worth_40, dX2_worth_41, xX2_worth_t41, dX2_worth_44, dX2_worth_45, dX2_worth_46, dX2_worth_47, dX2_worth_50, dX2_worth_51, dX2_worth_52, dX2_worth_54, dX2_worth_55, dX2_worth_58, dX2_worth_59, dX2_worth_60, dX2_worth_62, dX2_worth_65, dX2_worth_67, xX2_worth_t67, dX2_worth_70, dX2_worth_71, dX2_worth_72, xX2_worth_t72, dX2_worth_75, dX2_worth_76, FT_X2_24, dX2_worth_79, dX2_worth_80, dX2_worth_81, xX2_worth_t81, dX2_worth_84, dX2_worth_85, dX2_worth_86, dX2_worth_88, dX2_worth_89, xX2_worth_t89, dX2_worth_92, dX2_worth_94, dX2_worth_95, xX2_worth_t95, dX2_worth_98, dX2_worth_99, xX2_worth_t99, dX2_worth_102, dX2_worth_103, dX2_worth_104, dX2_worth_107, dX2_worth_108, xX2_worth_t108, dX2_worth_111, dX2_worth_112, dX2_worth_113, dX2_worth_114, dX2_worth_117, dX2_worth_118, dX2_worth_120, dX2_worth_121, xX2_worth_t121, dX2_worth_124, dX2_worth_126, xX2_worth_t126, dX2_worth_129, dX2_worth_130, FT_X2_21, dX2_worth_133, dX2_worth_135, dX2_worth_138, dX2_worth_139, dX2_worth_142, xX2_worth_t142, dX2_worth_145, dX2_worth_146, dX2_worth_147, xX2_worth_t147, dX2_worth_150, dX2_worth_151, dX2_worth_152, dX2_worth_155, dX2_worth_156, xX2_worth_t156, dX2_worth_159, dX2_worth_160, dX2_worth_161, dX2_worth_162, dX2_worth_165, dX2_worth_166, dX2_worth_167, dX2_worth_168, dX2_worth_169, dX2_worth_171, dX2_worth_172, dX2_worth_175, dX2_worth_176, dX2_worth_177, dX2_worth_178, dX2_worth_179, dX2_worth_181, dX2_worth_183, dX2_worth_185, xX2_worth_t185, dX2_worth_188, dX2_worth_190, xX2_worth_t190, dX2_worth_193, dX2_worth_194, dX2_worth_195, dX2_worth_197, dX2_worth_198, xX2_worth_t198, dX2_worth_201, dX2_worth_204, dX2_worth_206, dX2_worth_208, xX2_worth_t208, dX2_worth_211, dX2_worth_212, xX2_worth_t212, dX2_worth_215, dX2_worth_217, dX2_worth_218, xX2_worth_t218, dX2_worth_221, dX2_worth_224, dX2_worth_225, dX2_worth_228, dX2_worth_229, dX2_worth_230, dX2_worth_231, dX2_worth_233, dX2_worth_235, dX2_worth_237, xX2_worth_c61, xX2_worth_n61, dX2_worth_240, dX2_worth_241, dX2_worth_244, xX2_worth_t244, dX2_worth_247, dX2_worth_248, xX2_worth_SH, xX2_worth_KF, xX2_worth_rt, xX2_worth_FT, xX2_worth_PT, xX2_worth_CT, xX2_worth_KT, xX2_worth_LT, xX2_worth_NT, o_aload_n, o_arraylength, o_bipush, o_getfield, o_goto, o_iaload, o_iastore, o_iconst, o_ifCond_lt, o_ifCond_ne, o_if_icmp_eq, o_if_icmp_ge, o_if_icmp_le, o_if_icmp_lt, o_if_icmp_ne, o_iinc, o_iload, o_iload_n, o_invokestatic, o_ireturn, o_istore, o_istore_n, o_isub, o_sipush, SH_4, KF_4_0, SH_5, KF_4_1, SH_6, KF_4_2, SH_7, KF_4_3, SH_8, KF_4_4, SH_9, SH_21, KF_21_0, SH_22, KF_21_1, SH_23, KF_21_2, SH_24, KF_21_3, SH_25, KF_21_4, SH_26, am_ty, am_vc, am_opt, am_cl, am_find, am_ldi, am_ldl, am_lda, am_v, am_1, am_1l, am_1a, am_2, am_2l, am_ix, am_ri, am_arr, am_pf, am_rc, am_mask, am_lg, am_av, am_nat, fv_0, fv_1, fv_2, fv_3, fw_0, fw_1, List.getElem?_cons_zero, List.getElem?_cons_succ, List.set_cons_zero, List.set_cons_succ, List.length_cons, List.length_nil, List.take_succ_cons, List.take_zero, List.drop_succ_cons, List.drop_zero, List.reverse_cons, List.reverse_nil, List.nil_append, List.cons_append, List.append_nil, List.map_cons, List.map_nil, List.sum_cons, List.sum_nil, Value.category, Option.toList_some, Option.toList_none, Nat.reduceAdd, Nat.reduceLT, Nat.reduceLeDiff, Nat.reduceEqDiff, Nat.reduceSub, Nat.add_zero, Nat.le_refl, Nat.zero_le, Int.reduceNeg, Int.reduceLE, Int.reduceLT, true_and, and_true, and_self, if_true, if_false, ite_true, ite_false, eq_self_iff_true, reduceIte, reduceCtorEq, not_false_eq_true, not_true_eq_false, or_true, true_or, or_false, false_or, Nat.lt_irrefl, Nat.zero_lt_succ]
    try simp (disch := omega) only [ii_0, ii_1, ii_t, ii_add, ii_sub, ii_mul, ii_lt, ii_le, ii_eq, ij_in, ii_c, Int.toNat_natCast, Int.toNat_zero, Int.reduceToNat, Int.reduceEq, Int.reduceNe, Int.reduceLE, Int.reduceLT, Int.reduceAdd, Int.reduceSub, Int.reduceMul, Int.reduceNeg, Nat.reduceLT, Nat.reduceAdd, Nat.reduceMul, not_false_eq_true, not_true_eq_false, true_and, and_true, and_self, false_and, and_false, true_implies, false_implies, implies_true, forall_const, if_true, if_false, ite_true, ite_false, reduceIte, eq_self_iff_true, Int.natCast_nonneg, Int.zero_add, Int.add_zero, pi_s, pi_n, i4]
    first
    | exact k9
    | exact ⟨by omega, k9⟩
    | exact ⟨⟨by omega, by omega⟩, k9⟩
  have at190 : k = 5 → AA 188 [some (.ref 21), some (.int law), some (.int (Int32.ofInt ((n + 1 : Nat) : Int))), some (.int (Int32.ofInt ((t + 2 : Nat) : Int))), some (.int (Int32.ofInt (u : Int))), some (.int (Int32.ofInt q)), some (.int (Int32.ofInt v)), some (.int x), some (.int y)] [] 92 σ := fun z => by
    refine hA [(195, 9)] 6 _ _ _ _ _ ?_
    try simp only [dX2_worth_0, dX2_worth_1, FT_X2_18, dX2_worth_4, dX2_worth_5, xX2_worth_c55, xX2_worth_n55, dX2_worth_8, dX2_worth_9, dX2_worth_10, dX2_worth_11, dX2_worth_12, dX2_worth_14, dX2_worth_16, dX2_worth_19, xX2_worth_t19, dX2_worth_22, dX2_worth_23, xX2_worth_t23, dX2_worth_26, dX2_worth_27, dX2_worth_28, FT_X2_11, dX2_worth_31, dX2_worth_32, xX2_worth_t32, dX2_worth_35, dX2_worth_36, dX2_worth_37, FT_X2_15, dX2_worth_40, dX2_worth_41, xX2_worth_t41, dX2_worth_44, dX2_worth_45, dX2_worth_46, dX2_worth_47, dX2_worth_50, dX2_worth_51, dX2_worth_52, dX2_worth_54, dX2_worth_55, dX2_worth_58, dX2_worth_59, dX2_worth_60, dX2_worth_62, dX2_worth_65, dX2_worth_67, xX2_worth_t67, dX2_worth_70, dX2_worth_71, dX2_worth_72, xX2_worth_t72, dX2_worth_75, dX2_worth_76, FT_X2_24, dX2_worth_79, dX2_worth_80, dX2_worth_81, xX2_worth_t81, dX2_worth_84, dX2_worth_85, dX2_worth_86, dX2_worth_88, dX2_worth_89, xX2_worth_t89, dX2_worth_92, dX2_worth_94, dX2_worth_95, xX2_worth_t95, dX2_worth_98, dX2_worth_99, xX2_worth_t99, dX2_worth_102, dX2_worth_103, dX2_worth_104, dX2_worth_107, dX2_worth_108, xX2_worth_t108, dX2_worth_111, dX2_worth_112, dX2_worth_113, dX2_worth_114, dX2_worth_117, dX2_worth_118, dX2_worth_120, dX2_worth_121, xX2_worth_t121, dX2_worth_124, dX2_worth_126, xX2_worth_t126, dX2_worth_129, dX2_worth_130, FT_X2_21, dX2_worth_133, dX2_worth_135, dX2_worth_138, dX2_worth_139, dX2_worth_142, xX2_worth_t142, dX2_worth_145, dX2_worth_146, dX2_worth_147, xX2_worth_t147, dX2_worth_150, dX2_worth_151, dX2_worth_152, dX2_worth_155, dX2_worth_156, xX2_worth_t156, dX2_worth_159, dX2_worth_160, dX2_worth_161, dX2_worth_162, dX2_worth_165, dX2_worth_166, dX2_worth_167, dX2_worth_168, dX2_worth_169, dX2_worth_171, dX2_worth_172, dX2_worth_175, dX2_worth_176, dX2_worth_177, dX2_worth_178, dX2_worth_179, dX2_worth_181, dX2_worth_183, dX2_worth_185, xX2_worth_t185, dX2_worth_188, dX2_worth_190, xX2_worth_t190, dX2_worth_193, dX2_worth_194, dX2_worth_195, dX2_worth_197, dX2_worth_198, xX2_worth_t198, dX2_worth_201, dX2_worth_204, dX2_worth_206, dX2_worth_208, xX2_worth_t208, dX2_worth_211, dX2_worth_212, xX2_worth_t212, dX2_worth_215, dX2_worth_217, dX2_worth_218, xX2_worth_t218, dX2_worth_221, dX2_worth_224, dX2_worth_225, dX2_worth_228, dX2_worth_229, dX2_worth_230, dX2_worth_231, dX2_worth_233, dX2_worth_235, dX2_worth_237, xX2_worth_c61, xX2_worth_n61, dX2_worth_240, dX2_worth_241, dX2_worth_244, xX2_worth_t244, dX2_worth_247, dX2_worth_248, xX2_worth_SH, xX2_worth_KF, xX2_worth_rt, xX2_worth_FT, xX2_worth_PT, xX2_worth_CT, xX2_worth_KT, xX2_worth_LT, xX2_worth_NT, o_aload_n, o_arraylength, o_bipush, o_getfield, o_goto, o_iaload, o_iastore, o_iconst, o_ifCond_lt, o_ifCond_ne, o_if_icmp_eq, o_if_icmp_ge, o_if_icmp_le, o_if_icmp_lt, o_if_icmp_ne, o_iinc, o_iload, o_iload_n, o_invokestatic, o_ireturn, o_istore, o_istore_n, o_isub, o_sipush, SH_4, KF_4_0, SH_5, KF_4_1, SH_6, KF_4_2, SH_7, KF_4_3, SH_8, KF_4_4, SH_9, SH_21, KF_21_0, SH_22, KF_21_1, SH_23, KF_21_2, SH_24, KF_21_3, SH_25, KF_21_4, SH_26, am_ty, am_vc, am_opt, am_cl, am_find, am_ldi, am_ldl, am_lda, am_v, am_1, am_1l, am_1a, am_2, am_2l, am_ix, am_ri, am_arr, am_pf, am_rc, am_mask, am_lg, am_av, am_nat, fv_0, fv_1, fv_2, fv_3, fw_0, fw_1, List.getElem?_cons_zero, List.getElem?_cons_succ, List.set_cons_zero, List.set_cons_succ, List.length_cons, List.length_nil, List.take_succ_cons, List.take_zero, List.drop_succ_cons, List.drop_zero, List.reverse_cons, List.reverse_nil, List.nil_append, List.cons_append, List.append_nil, List.map_cons, List.map_nil, List.sum_cons, List.sum_nil, Value.category, Option.toList_some, Option.toList_none, Nat.reduceAdd, Nat.reduceLT, Nat.reduceLeDiff, Nat.reduceEqDiff, Nat.reduceSub, Nat.add_zero, Nat.le_refl, Nat.zero_le, Int.reduceNeg, Int.reduceLE, Int.reduceLT, true_and, and_true, and_self, if_true, if_false, ite_true, ite_false, eq_self_iff_true, reduceIte, reduceCtorEq, not_false_eq_true, not_true_eq_false, or_true, true_or, or_false, false_or, Nat.lt_irrefl, Nat.zero_lt_succ]
    by_cases w : y = 0
    · have hP := h0 z w
      first
      | exact ⟨fun g => absurd w g, fun _ => hP⟩
      | exact ⟨fun _ => hP, fun g => absurd w g⟩
    · have k5 := at195 (fun g => w g.2)
      first
      | exact ⟨fun _ => k5, fun g => absurd g w⟩
      | exact ⟨fun g => absurd g w, fun _ => k5⟩
  refine hA [(195, 9), (188, 9)] 44 _ _ _ _ _ ?_
  try simp only [dX2_worth_0, dX2_worth_1, FT_X2_18, dX2_worth_4, dX2_worth_5, xX2_worth_c55, xX2_worth_n55, dX2_worth_8, dX2_worth_9, dX2_worth_10, dX2_worth_11, dX2_worth_12, dX2_worth_14, dX2_worth_16, dX2_worth_19, xX2_worth_t19, dX2_worth_22, dX2_worth_23, xX2_worth_t23, dX2_worth_26, dX2_worth_27, dX2_worth_28, FT_X2_11, dX2_worth_31, dX2_worth_32, xX2_worth_t32, dX2_worth_35, dX2_worth_36, dX2_worth_37, FT_X2_15, dX2_worth_40, dX2_worth_41, xX2_worth_t41, dX2_worth_44, dX2_worth_45, dX2_worth_46, dX2_worth_47, dX2_worth_50, dX2_worth_51, dX2_worth_52, dX2_worth_54, dX2_worth_55, dX2_worth_58, dX2_worth_59, dX2_worth_60, dX2_worth_62, dX2_worth_65, dX2_worth_67, xX2_worth_t67, dX2_worth_70, dX2_worth_71, dX2_worth_72, xX2_worth_t72, dX2_worth_75, dX2_worth_76, FT_X2_24, dX2_worth_79, dX2_worth_80, dX2_worth_81, xX2_worth_t81, dX2_worth_84, dX2_worth_85, dX2_worth_86, dX2_worth_88, dX2_worth_89, xX2_worth_t89, dX2_worth_92, dX2_worth_94, dX2_worth_95, xX2_worth_t95, dX2_worth_98, dX2_worth_99, xX2_worth_t99, dX2_worth_102, dX2_worth_103, dX2_worth_104, dX2_worth_107, dX2_worth_108, xX2_worth_t108, dX2_worth_111, dX2_worth_112, dX2_worth_113, dX2_worth_114, dX2_worth_117, dX2_worth_118, dX2_worth_120, dX2_worth_121, xX2_worth_t121, dX2_worth_124, dX2_worth_126, xX2_worth_t126, dX2_worth_129, dX2_worth_130, FT_X2_21, dX2_worth_133, dX2_worth_135, dX2_worth_138, dX2_worth_139, dX2_worth_142, xX2_worth_t142, dX2_worth_145, dX2_worth_146, dX2_worth_147, xX2_worth_t147, dX2_worth_150, dX2_worth_151, dX2_worth_152, dX2_worth_155, dX2_worth_156, xX2_worth_t156, dX2_worth_159, dX2_worth_160, dX2_worth_161, dX2_worth_162, dX2_worth_165, dX2_worth_166, dX2_worth_167, dX2_worth_168, dX2_worth_169, dX2_worth_171, dX2_worth_172, dX2_worth_175, dX2_worth_176, dX2_worth_177, dX2_worth_178, dX2_worth_179, dX2_worth_181, dX2_worth_183, dX2_worth_185, xX2_worth_t185, dX2_worth_188, dX2_worth_190, xX2_worth_t190, dX2_worth_193, dX2_worth_194, dX2_worth_195, dX2_worth_197, dX2_worth_198, xX2_worth_t198, dX2_worth_201, dX2_worth_204, dX2_worth_206, dX2_worth_208, xX2_worth_t208, dX2_worth_211, dX2_worth_212, xX2_worth_t212, dX2_worth_215, dX2_worth_217, dX2_worth_218, xX2_worth_t218, dX2_worth_221, dX2_worth_224, dX2_worth_225, dX2_worth_228, dX2_worth_229, dX2_worth_230, dX2_worth_231, dX2_worth_233, dX2_worth_235, dX2_worth_237, xX2_worth_c61, xX2_worth_n61, dX2_worth_240, dX2_worth_241, dX2_worth_244, xX2_worth_t244, dX2_worth_247, dX2_worth_248, xX2_worth_SH, xX2_worth_KF, xX2_worth_rt, xX2_worth_FT, xX2_worth_PT, xX2_worth_CT, xX2_worth_KT, xX2_worth_LT, xX2_worth_NT, o_aload_n, o_arraylength, o_bipush, o_getfield, o_goto, o_iaload, o_iastore, o_iconst, o_ifCond_lt, o_ifCond_ne, o_if_icmp_eq, o_if_icmp_ge, o_if_icmp_le, o_if_icmp_lt, o_if_icmp_ne, o_iinc, o_iload, o_iload_n, o_invokestatic, o_ireturn, o_istore, o_istore_n, o_isub, o_sipush, SH_4, KF_4_0, SH_5, KF_4_1, SH_6, KF_4_2, SH_7, KF_4_3, SH_8, KF_4_4, SH_9, SH_21, KF_21_0, SH_22, KF_21_1, SH_23, KF_21_2, SH_24, KF_21_3, SH_25, KF_21_4, SH_26, am_ty, am_vc, am_opt, am_cl, am_find, am_ldi, am_ldl, am_lda, am_v, am_1, am_1l, am_1a, am_2, am_2l, am_ix, am_ri, am_arr, am_pf, am_rc, am_mask, am_lg, am_av, am_nat, fv_0, fv_1, fv_2, fv_3, fw_0, fw_1, List.getElem?_cons_zero, List.getElem?_cons_succ, List.set_cons_zero, List.set_cons_succ, List.length_cons, List.length_nil, List.take_succ_cons, List.take_zero, List.drop_succ_cons, List.drop_zero, List.reverse_cons, List.reverse_nil, List.nil_append, List.cons_append, List.append_nil, List.map_cons, List.map_nil, List.sum_cons, List.sum_nil, Value.category, Option.toList_some, Option.toList_none, Nat.reduceAdd, Nat.reduceLT, Nat.reduceLeDiff, Nat.reduceEqDiff, Nat.reduceSub, Nat.add_zero, Nat.le_refl, Nat.zero_le, Int.reduceNeg, Int.reduceLE, Int.reduceLT, true_and, and_true, and_self, if_true, if_false, ite_true, ite_false, eq_self_iff_true, reduceIte, reduceCtorEq, not_false_eq_true, not_true_eq_false, or_true, true_or, or_false, false_or, Nat.lt_irrefl, Nat.zero_lt_succ, on_24, on_408]
  try simp (disch := omega) only [ii_0, ii_1, ii_t, ii_add, ii_sub, ii_mul, ii_lt, ii_le, ii_eq, ij_in, ii_c, Int.toNat_natCast, Int.toNat_zero, Int.reduceToNat, Int.reduceEq, Int.reduceNe, Int.reduceLE, Int.reduceLT, Int.reduceAdd, Int.reduceSub, Int.reduceMul, Int.reduceNeg, Nat.reduceLT, Nat.reduceAdd, Nat.reduceMul, not_false_eq_true, not_true_eq_false, true_and, and_true, and_self, false_and, and_false, true_implies, false_implies, implies_true, forall_const, if_true, if_false, ite_true, ite_false, reduceIte, eq_self_iff_true, Int.natCast_nonneg, Int.zero_add, Int.add_zero, pi_s, pi_n, f0, f1, f2, f4, f5, i1, i2, ex, ey, ii_sub]
  by_cases z : k = 5
  · have k5 := at190 z
    have f6 : q = 47 := by omega
    subst f6
    first
    | exact k5
    | exact ⟨fun g => absurd rfl g, fun _ => k5⟩
    | exact ⟨⟨by omega, by omega⟩, ⟨by omega, by omega⟩, fun g => absurd rfl g, fun _ => k5⟩
    | exact ⟨by omega, by omega, fun g => absurd rfl g, fun _ => k5⟩
  · have k5 := at195 (fun g => z g.1)
    have f6 : ¬ q = 47 := by omega
    first
    | exact k5
    | exact ⟨fun _ => k5, fun g => absurd g f6⟩
    | exact ⟨⟨by omega, by omega⟩, ⟨by omega, by omega⟩, fun _ => k5, fun g => absurd g f6⟩
    | exact ⟨by omega, by omega, fun _ => k5, fun g => absurd g f6⟩
set_option maxRecDepth 100000 in
/-- a jump unless -/
theorem ws_unless (hA : ∀ cuts f pc ls stk n τ, am_vc cX2_worth xX2_worth (92 + 0) post AA cuts f pc ls stk n τ → AA pc ls stk n τ) {σ : am_S} {n u m : Nat} {x y : Int32} (hu : u < 408) (hn : n < 408) (e1 : σ.1 22 n = Int32.ofInt 3) (e2 : σ.1 23 n = Int32.ofInt (m : Int)) (ex : σ.1 26 0 = x) (ey : σ.1 26 1 = y) (h1 : x < y → AA 14 (wl law (Int32.ofInt ((n + 1 : Nat) : Int)) (Int32.ofInt ((0 : Nat) : Int)) (Int32.ofInt ((u + 1 : Nat) : Int))) [] 92 σ) (h2 : ¬ x < y → AA 14 (wl law (Int32.ofInt (m : Int)) (Int32.ofInt ((0 : Nat) : Int)) (Int32.ofInt ((u + 1 : Nat) : Int))) [] 92 σ) : AA 14 (wl law (Int32.ofInt (n : Int)) (Int32.ofInt ((2 : Nat) : Int)) (Int32.ofInt (u : Int))) [] 92 σ := by
  refine ws_65 hA hu hn e1 e2 ?_
  have k1 := fun z => ws_241 hA (v5 := some (.int (Int32.ofInt 3))) (v6 := some (.int (Int32.ofInt (m : Int)))) (v7 := some (.int x)) (v8 := some (.int y)) (h1 z)
  have k2 := fun z => ws_241 hA (v5 := some (.int (Int32.ofInt 3))) (v6 := some (.int (Int32.ofInt (m : Int)))) (v7 := some (.int x)) (v8 := some (.int y)) (h2 z)
  have i0 : (2 : Int) + -2 = ((0 : Nat) : Int) := by decide
  have at204 : AA 204 [some (.ref 21), some (.int law), some (.int (Int32.ofInt ((n + 1 : Nat) : Int))), some (.int (Int32.ofInt ((0 : Nat) : Int))), some (.int (Int32.ofInt (u : Int))), some (.int (Int32.ofInt 3)), some (.int (Int32.ofInt (m : Int))), some (.int x), some (.int y)] [] 92 σ := by
    refine hA [(241, 9)] 8 _ _ _ _ _ ?_
    try simp only [dX2_worth_0, dX2_worth_1, FT_X2_18, dX2_worth_4, dX2_worth_5, xX2_worth_c55, xX2_worth_n55, dX2_worth_8, dX2_worth_9, dX2_worth_10, dX2_worth_11, dX2_worth_12, dX2_worth_14, dX2_worth_16, dX2_worth_19, xX2_worth_t19, dX2_worth_22, dX2_worth_23, xX2_worth_t23, dX2_worth_26, dX2_worth_27, dX2_worth_28, FT_X2_11, dX2_worth_31, dX2_worth_32, xX2_worth_t32, dX2_worth_35, dX2_worth_36, dX2_worth_37, FT_X2_15, dX2_worth_40, dX2_worth_41, xX2_worth_t41, dX2_worth_44, dX2_worth_45, dX2_worth_46, dX2_worth_47, dX2_worth_50, dX2_worth_51, dX2_worth_52, dX2_worth_54, dX2_worth_55, dX2_worth_58, dX2_worth_59, dX2_worth_60, dX2_worth_62, dX2_worth_65, dX2_worth_67, xX2_worth_t67, dX2_worth_70, dX2_worth_71, dX2_worth_72, xX2_worth_t72, dX2_worth_75, dX2_worth_76, FT_X2_24, dX2_worth_79, dX2_worth_80, dX2_worth_81, xX2_worth_t81, dX2_worth_84, dX2_worth_85, dX2_worth_86, dX2_worth_88, dX2_worth_89, xX2_worth_t89, dX2_worth_92, dX2_worth_94, dX2_worth_95, xX2_worth_t95, dX2_worth_98, dX2_worth_99, xX2_worth_t99, dX2_worth_102, dX2_worth_103, dX2_worth_104, dX2_worth_107, dX2_worth_108, xX2_worth_t108, dX2_worth_111, dX2_worth_112, dX2_worth_113, dX2_worth_114, dX2_worth_117, dX2_worth_118, dX2_worth_120, dX2_worth_121, xX2_worth_t121, dX2_worth_124, dX2_worth_126, xX2_worth_t126, dX2_worth_129, dX2_worth_130, FT_X2_21, dX2_worth_133, dX2_worth_135, dX2_worth_138, dX2_worth_139, dX2_worth_142, xX2_worth_t142, dX2_worth_145, dX2_worth_146, dX2_worth_147, xX2_worth_t147, dX2_worth_150, dX2_worth_151, dX2_worth_152, dX2_worth_155, dX2_worth_156, xX2_worth_t156, dX2_worth_159, dX2_worth_160, dX2_worth_161, dX2_worth_162, dX2_worth_165, dX2_worth_166, dX2_worth_167, dX2_worth_168, dX2_worth_169, dX2_worth_171, dX2_worth_172, dX2_worth_175, dX2_worth_176, dX2_worth_177, dX2_worth_178, dX2_worth_179, dX2_worth_181, dX2_worth_183, dX2_worth_185, xX2_worth_t185, dX2_worth_188, dX2_worth_190, xX2_worth_t190, dX2_worth_193, dX2_worth_194, dX2_worth_195, dX2_worth_197, dX2_worth_198, xX2_worth_t198, dX2_worth_201, dX2_worth_204, dX2_worth_206, dX2_worth_208, xX2_worth_t208, dX2_worth_211, dX2_worth_212, xX2_worth_t212, dX2_worth_215, dX2_worth_217, dX2_worth_218, xX2_worth_t218, dX2_worth_221, dX2_worth_224, dX2_worth_225, dX2_worth_228, dX2_worth_229, dX2_worth_230, dX2_worth_231, dX2_worth_233, dX2_worth_235, dX2_worth_237, xX2_worth_c61, xX2_worth_n61, dX2_worth_240, dX2_worth_241, dX2_worth_244, xX2_worth_t244, dX2_worth_247, dX2_worth_248, xX2_worth_SH, xX2_worth_KF, xX2_worth_rt, xX2_worth_FT, xX2_worth_PT, xX2_worth_CT, xX2_worth_KT, xX2_worth_LT, xX2_worth_NT, o_aload_n, o_arraylength, o_bipush, o_getfield, o_goto, o_iaload, o_iastore, o_iconst, o_ifCond_lt, o_ifCond_ne, o_if_icmp_eq, o_if_icmp_ge, o_if_icmp_le, o_if_icmp_lt, o_if_icmp_ne, o_iinc, o_iload, o_iload_n, o_invokestatic, o_ireturn, o_istore, o_istore_n, o_isub, o_sipush, SH_4, KF_4_0, SH_5, KF_4_1, SH_6, KF_4_2, SH_7, KF_4_3, SH_8, KF_4_4, SH_9, SH_21, KF_21_0, SH_22, KF_21_1, SH_23, KF_21_2, SH_24, KF_21_3, SH_25, KF_21_4, SH_26, am_ty, am_vc, am_opt, am_cl, am_find, am_ldi, am_ldl, am_lda, am_v, am_1, am_1l, am_1a, am_2, am_2l, am_ix, am_ri, am_arr, am_pf, am_rc, am_mask, am_lg, am_av, am_nat, fv_0, fv_1, fv_2, fv_3, fw_0, fw_1, List.getElem?_cons_zero, List.getElem?_cons_succ, List.set_cons_zero, List.set_cons_succ, List.length_cons, List.length_nil, List.take_succ_cons, List.take_zero, List.drop_succ_cons, List.drop_zero, List.reverse_cons, List.reverse_nil, List.nil_append, List.cons_append, List.append_nil, List.map_cons, List.map_nil, List.sum_cons, List.sum_nil, Value.category, Option.toList_some, Option.toList_none, Nat.reduceAdd, Nat.reduceLT, Nat.reduceLeDiff, Nat.reduceEqDiff, Nat.reduceSub, Nat.add_zero, Nat.le_refl, Nat.zero_le, Int.reduceNeg, Int.reduceLE, Int.reduceLT, true_and, and_true, and_self, if_true, if_false, ite_true, ite_false, eq_self_iff_true, reduceIte, reduceCtorEq, not_false_eq_true, not_true_eq_false, or_true, true_or, or_false, false_or, Nat.lt_irrefl, Nat.zero_lt_succ]
    by_cases z : x < y
    · have k := k1 z
      have z' : ¬ y ≤ x := fun w => absurd z (Int32.not_lt.mpr w)
      first
      | exact ⟨fun w => absurd w z', fun _ => k⟩
      | exact ⟨fun _ => k, fun w => absurd w z'⟩
    · have k := k2 z
      have z' : y ≤ x := Int32.not_lt.mp z
      first
      | exact ⟨fun _ => k, fun w => absurd z' w⟩
      | exact ⟨fun w => absurd z' w, fun _ => k⟩
  refine hA [(204, 9)] 40 _ _ _ _ _ ?_
  try simp only [dX2_worth_0, dX2_worth_1, FT_X2_18, dX2_worth_4, dX2_worth_5, xX2_worth_c55, xX2_worth_n55, dX2_worth_8, dX2_worth_9, dX2_worth_10, dX2_worth_11, dX2_worth_12, dX2_worth_14, dX2_worth_16, dX2_worth_19, xX2_worth_t19, dX2_worth_22, dX2_worth_23, xX2_worth_t23, dX2_worth_26, dX2_worth_27, dX2_worth_28, FT_X2_11, dX2_worth_31, dX2_worth_32, xX2_worth_t32, dX2_worth_35, dX2_worth_36, dX2_worth_37, FT_X2_15, dX2_worth_40, dX2_worth_41, xX2_worth_t41, dX2_worth_44, dX2_worth_45, dX2_worth_46, dX2_worth_47, dX2_worth_50, dX2_worth_51, dX2_worth_52, dX2_worth_54, dX2_worth_55, dX2_worth_58, dX2_worth_59, dX2_worth_60, dX2_worth_62, dX2_worth_65, dX2_worth_67, xX2_worth_t67, dX2_worth_70, dX2_worth_71, dX2_worth_72, xX2_worth_t72, dX2_worth_75, dX2_worth_76, FT_X2_24, dX2_worth_79, dX2_worth_80, dX2_worth_81, xX2_worth_t81, dX2_worth_84, dX2_worth_85, dX2_worth_86, dX2_worth_88, dX2_worth_89, xX2_worth_t89, dX2_worth_92, dX2_worth_94, dX2_worth_95, xX2_worth_t95, dX2_worth_98, dX2_worth_99, xX2_worth_t99, dX2_worth_102, dX2_worth_103, dX2_worth_104, dX2_worth_107, dX2_worth_108, xX2_worth_t108, dX2_worth_111, dX2_worth_112, dX2_worth_113, dX2_worth_114, dX2_worth_117, dX2_worth_118, dX2_worth_120, dX2_worth_121, xX2_worth_t121, dX2_worth_124, dX2_worth_126, xX2_worth_t126, dX2_worth_129, dX2_worth_130, FT_X2_21, dX2_worth_133, dX2_worth_135, dX2_worth_138, dX2_worth_139, dX2_worth_142, xX2_worth_t142, dX2_worth_145, dX2_worth_146, dX2_worth_147, xX2_worth_t147, dX2_worth_150, dX2_worth_151, dX2_worth_152, dX2_worth_155, dX2_worth_156, xX2_worth_t156, dX2_worth_159, dX2_worth_160, dX2_worth_161, dX2_worth_162, dX2_worth_165, dX2_worth_166, dX2_worth_167, dX2_worth_168, dX2_worth_169, dX2_worth_171, dX2_worth_172, dX2_worth_175, dX2_worth_176, dX2_worth_177, dX2_worth_178, dX2_worth_179, dX2_worth_181, dX2_worth_183, dX2_worth_185, xX2_worth_t185, dX2_worth_188, dX2_worth_190, xX2_worth_t190, dX2_worth_193, dX2_worth_194, dX2_worth_195, dX2_worth_197, dX2_worth_198, xX2_worth_t198, dX2_worth_201, dX2_worth_204, dX2_worth_206, dX2_worth_208, xX2_worth_t208, dX2_worth_211, dX2_worth_212, xX2_worth_t212, dX2_worth_215, dX2_worth_217, dX2_worth_218, xX2_worth_t218, dX2_worth_221, dX2_worth_224, dX2_worth_225, dX2_worth_228, dX2_worth_229, dX2_worth_230, dX2_worth_231, dX2_worth_233, dX2_worth_235, dX2_worth_237, xX2_worth_c61, xX2_worth_n61, dX2_worth_240, dX2_worth_241, dX2_worth_244, xX2_worth_t244, dX2_worth_247, dX2_worth_248, xX2_worth_SH, xX2_worth_KF, xX2_worth_rt, xX2_worth_FT, xX2_worth_PT, xX2_worth_CT, xX2_worth_KT, xX2_worth_LT, xX2_worth_NT, o_aload_n, o_arraylength, o_bipush, o_getfield, o_goto, o_iaload, o_iastore, o_iconst, o_ifCond_lt, o_ifCond_ne, o_if_icmp_eq, o_if_icmp_ge, o_if_icmp_le, o_if_icmp_lt, o_if_icmp_ne, o_iinc, o_iload, o_iload_n, o_invokestatic, o_ireturn, o_istore, o_istore_n, o_isub, o_sipush, SH_4, KF_4_0, SH_5, KF_4_1, SH_6, KF_4_2, SH_7, KF_4_3, SH_8, KF_4_4, SH_9, SH_21, KF_21_0, SH_22, KF_21_1, SH_23, KF_21_2, SH_24, KF_21_3, SH_25, KF_21_4, SH_26, am_ty, am_vc, am_opt, am_cl, am_find, am_ldi, am_ldl, am_lda, am_v, am_1, am_1l, am_1a, am_2, am_2l, am_ix, am_ri, am_arr, am_pf, am_rc, am_mask, am_lg, am_av, am_nat, fv_0, fv_1, fv_2, fv_3, fw_0, fw_1, List.getElem?_cons_zero, List.getElem?_cons_succ, List.set_cons_zero, List.set_cons_succ, List.length_cons, List.length_nil, List.take_succ_cons, List.take_zero, List.drop_succ_cons, List.drop_zero, List.reverse_cons, List.reverse_nil, List.nil_append, List.cons_append, List.append_nil, List.map_cons, List.map_nil, List.sum_cons, List.sum_nil, Value.category, Option.toList_some, Option.toList_none, Nat.reduceAdd, Nat.reduceLT, Nat.reduceLeDiff, Nat.reduceEqDiff, Nat.reduceSub, Nat.add_zero, Nat.le_refl, Nat.zero_le, Int.reduceNeg, Int.reduceLE, Int.reduceLT, true_and, and_true, and_self, if_true, if_false, ite_true, ite_false, eq_self_iff_true, reduceIte, reduceCtorEq, not_false_eq_true, not_true_eq_false, or_true, true_or, or_false, false_or, Nat.lt_irrefl, Nat.zero_lt_succ, on_24, on_408]
  try simp (disch := omega) only [ii_0, ii_1, ii_t, ii_add, ii_sub, ii_mul, ii_lt, ii_le, ii_eq, ij_in, ii_c, Int.toNat_natCast, Int.toNat_zero, Int.reduceToNat, Int.reduceEq, Int.reduceNe, Int.reduceLE, Int.reduceLT, Int.reduceAdd, Int.reduceSub, Int.reduceMul, Int.reduceNeg, Nat.reduceLT, Nat.reduceAdd, Nat.reduceMul, not_false_eq_true, not_true_eq_false, true_and, and_true, and_self, false_and, and_false, true_implies, false_implies, implies_true, forall_const, if_true, if_false, ite_true, ite_false, reduceIte, eq_self_iff_true, Int.natCast_nonneg, Int.zero_add, Int.add_zero, pi_s, pi_n, oc_0, oc_1, oc_2, ex, ey, ii_sub, i0]
  first
  | exact at204
  | exact ⟨⟨by omega, by omega⟩, ⟨by omega, by omega⟩, at204⟩
set_option maxRecDepth 100000 in
/-- the end -/
theorem ws_ret (hA : ∀ cuts f pc ls stk n τ, am_vc cX2_worth xX2_worth (92 + 0) post AA cuts f pc ls stk n τ → AA pc ls stk n τ) {σ : am_S} {n u : Nat} {v : Int} (hu : u < 408) (hn : n < 408) (e1 : σ.1 22 n = Int32.ofInt 0) (e2 : σ.1 23 n = Int32.ofInt v) (h : post (some (.int (σ.1 26 0))) σ) : AA 14 (wl law (Int32.ofInt (n : Int)) (Int32.ofInt ((1 : Nat) : Int)) (Int32.ofInt (u : Int))) [] 92 σ := by
  refine ws_65 hA hu hn e1 e2 ?_
  refine hA [] 14 _ _ _ _ _ ?_
  try simp only [dX2_worth_0, dX2_worth_1, FT_X2_18, dX2_worth_4, dX2_worth_5, xX2_worth_c55, xX2_worth_n55, dX2_worth_8, dX2_worth_9, dX2_worth_10, dX2_worth_11, dX2_worth_12, dX2_worth_14, dX2_worth_16, dX2_worth_19, xX2_worth_t19, dX2_worth_22, dX2_worth_23, xX2_worth_t23, dX2_worth_26, dX2_worth_27, dX2_worth_28, FT_X2_11, dX2_worth_31, dX2_worth_32, xX2_worth_t32, dX2_worth_35, dX2_worth_36, dX2_worth_37, FT_X2_15, dX2_worth_40, dX2_worth_41, xX2_worth_t41, dX2_worth_44, dX2_worth_45, dX2_worth_46, dX2_worth_47, dX2_worth_50, dX2_worth_51, dX2_worth_52, dX2_worth_54, dX2_worth_55, dX2_worth_58, dX2_worth_59, dX2_worth_60, dX2_worth_62, dX2_worth_65, dX2_worth_67, xX2_worth_t67, dX2_worth_70, dX2_worth_71, dX2_worth_72, xX2_worth_t72, dX2_worth_75, dX2_worth_76, FT_X2_24, dX2_worth_79, dX2_worth_80, dX2_worth_81, xX2_worth_t81, dX2_worth_84, dX2_worth_85, dX2_worth_86, dX2_worth_88, dX2_worth_89, xX2_worth_t89, dX2_worth_92, dX2_worth_94, dX2_worth_95, xX2_worth_t95, dX2_worth_98, dX2_worth_99, xX2_worth_t99, dX2_worth_102, dX2_worth_103, dX2_worth_104, dX2_worth_107, dX2_worth_108, xX2_worth_t108, dX2_worth_111, dX2_worth_112, dX2_worth_113, dX2_worth_114, dX2_worth_117, dX2_worth_118, dX2_worth_120, dX2_worth_121, xX2_worth_t121, dX2_worth_124, dX2_worth_126, xX2_worth_t126, dX2_worth_129, dX2_worth_130, FT_X2_21, dX2_worth_133, dX2_worth_135, dX2_worth_138, dX2_worth_139, dX2_worth_142, xX2_worth_t142, dX2_worth_145, dX2_worth_146, dX2_worth_147, xX2_worth_t147, dX2_worth_150, dX2_worth_151, dX2_worth_152, dX2_worth_155, dX2_worth_156, xX2_worth_t156, dX2_worth_159, dX2_worth_160, dX2_worth_161, dX2_worth_162, dX2_worth_165, dX2_worth_166, dX2_worth_167, dX2_worth_168, dX2_worth_169, dX2_worth_171, dX2_worth_172, dX2_worth_175, dX2_worth_176, dX2_worth_177, dX2_worth_178, dX2_worth_179, dX2_worth_181, dX2_worth_183, dX2_worth_185, xX2_worth_t185, dX2_worth_188, dX2_worth_190, xX2_worth_t190, dX2_worth_193, dX2_worth_194, dX2_worth_195, dX2_worth_197, dX2_worth_198, xX2_worth_t198, dX2_worth_201, dX2_worth_204, dX2_worth_206, dX2_worth_208, xX2_worth_t208, dX2_worth_211, dX2_worth_212, xX2_worth_t212, dX2_worth_215, dX2_worth_217, dX2_worth_218, xX2_worth_t218, dX2_worth_221, dX2_worth_224, dX2_worth_225, dX2_worth_228, dX2_worth_229, dX2_worth_230, dX2_worth_231, dX2_worth_233, dX2_worth_235, dX2_worth_237, xX2_worth_c61, xX2_worth_n61, dX2_worth_240, dX2_worth_241, dX2_worth_244, xX2_worth_t244, dX2_worth_247, dX2_worth_248, xX2_worth_SH, xX2_worth_KF, xX2_worth_rt, xX2_worth_FT, xX2_worth_PT, xX2_worth_CT, xX2_worth_KT, xX2_worth_LT, xX2_worth_NT, o_aload_n, o_arraylength, o_bipush, o_getfield, o_goto, o_iaload, o_iastore, o_iconst, o_ifCond_lt, o_ifCond_ne, o_if_icmp_eq, o_if_icmp_ge, o_if_icmp_le, o_if_icmp_lt, o_if_icmp_ne, o_iinc, o_iload, o_iload_n, o_invokestatic, o_ireturn, o_istore, o_istore_n, o_isub, o_sipush, SH_4, KF_4_0, SH_5, KF_4_1, SH_6, KF_4_2, SH_7, KF_4_3, SH_8, KF_4_4, SH_9, SH_21, KF_21_0, SH_22, KF_21_1, SH_23, KF_21_2, SH_24, KF_21_3, SH_25, KF_21_4, SH_26, am_ty, am_vc, am_opt, am_cl, am_find, am_ldi, am_ldl, am_lda, am_v, am_1, am_1l, am_1a, am_2, am_2l, am_ix, am_ri, am_arr, am_pf, am_rc, am_mask, am_lg, am_av, am_nat, fv_0, fv_1, fv_2, fv_3, fw_0, fw_1, List.getElem?_cons_zero, List.getElem?_cons_succ, List.set_cons_zero, List.set_cons_succ, List.length_cons, List.length_nil, List.take_succ_cons, List.take_zero, List.drop_succ_cons, List.drop_zero, List.reverse_cons, List.reverse_nil, List.nil_append, List.cons_append, List.append_nil, List.map_cons, List.map_nil, List.sum_cons, List.sum_nil, Value.category, Option.toList_some, Option.toList_none, Nat.reduceAdd, Nat.reduceLT, Nat.reduceLeDiff, Nat.reduceEqDiff, Nat.reduceSub, Nat.add_zero, Nat.le_refl, Nat.zero_le, Int.reduceNeg, Int.reduceLE, Int.reduceLT, true_and, and_true, and_self, if_true, if_false, ite_true, ite_false, eq_self_iff_true, reduceIte, reduceCtorEq, not_false_eq_true, not_true_eq_false, or_true, true_or, or_false, false_or, Nat.lt_irrefl, Nat.zero_lt_succ, on_24, on_408]
  try simp (disch := omega) only [ii_0, ii_1, ii_t, ii_add, ii_sub, ii_mul, ii_lt, ii_le, ii_eq, ij_in, ii_c, Int.toNat_natCast, Int.toNat_zero, Int.reduceToNat, Int.reduceEq, Int.reduceNe, Int.reduceLE, Int.reduceLT, Int.reduceAdd, Int.reduceSub, Int.reduceMul, Int.reduceNeg, Nat.reduceLT, Nat.reduceAdd, Nat.reduceMul, not_false_eq_true, not_true_eq_false, true_and, and_true, and_self, false_and, and_false, true_implies, false_implies, implies_true, forall_const, if_true, if_false, ite_true, ite_false, reduceIte, eq_self_iff_true, Int.natCast_nonneg, Int.zero_add, Int.add_zero, pi_s, pi_n, oc_0, oc_1, oc_2]
  first
  | exact h
  | exact ⟨by omega, h⟩
  | exact ⟨⟨by omega, by omega⟩, h⟩
theorem lc_2 {k v : Int} (h : 2 ≤ k) : lc (k, v) = ((lc (k, 0)).1, 0) := by
  unfold lc
  simp only [if_neg (show ¬ k = 0 by omega), if_neg (show ¬ k = 1 by omega)]
  by_cases a : k = 2
  · rw [if_pos a]
  · rw [if_neg a]
    by_cases b : k = 3
    · rw [if_pos b]
    · rw [if_neg b]
      by_cases c : k = 4
      · rw [if_pos c]
      · rw [if_neg c]
abbrev vrT (σ : am_S) (j : Nat) : Int32 := σ.1 25 j
theorem vrT_A {σ τ : am_S} (g : wsA σ τ) : vrT τ = vrT σ := funext fun j => g.1 _ _ (by decide)
/-- codes are gone through -/
theorem ws_run (hA : ∀ cuts f pc ls stk n τ, am_vc cX2_worth xX2_worth (92 + 0) post AA cuts f pc ls stk n τ → AA pc ls stk n τ) : ∀ (c : List (Int × Int)) (st : List Int32) (n u : Nat) (σ : am_S) (m : Nat), kvc c → st.length ≤ 24 → dpt 24 c st.length = some m → cKt σ n (c.map lc) → u ≤ n → wsP σ st → (∀ τ st' u', tev (vrT σ) c st = some st' → wsA σ τ → wsP τ st' → u' ≤ n + c.length → AA 14 (wl law (Int32.ofInt ((n + c.length : Nat) : Int)) (Int32.ofInt ((st'.length : Nat) : Int)) (Int32.ofInt (u' : Int))) [] 92 τ) → (tev (vrT σ) c st = none → ∀ τ, wsA σ τ → post (some (.int (Int32.ofInt 0))) τ) → AA 14 (wl law (Int32.ofInt (n : Int)) (Int32.ofInt ((st.length : Nat) : Int)) (Int32.ofInt (u : Int))) [] 92 σ
  | [], st, n, u, σ, m, _, _, _, _, hu, hp, h, _ => h σ st u rfl (wsA_r σ) hp (Nat.le_add_right_of_le hu)
  | (k, v) :: t, st, n, u, σ, m, hk, h24, hd, hc, hu, hp, h, h0 => by
    obtain ⟨⟨c1, c2, c3⟩, c4⟩ := cKt_cons (p := lc (k, v)) (e := t.map lc) hc
    have hkt : kvc t := fun p hp => hk p (List.mem_cons_of_mem _ hp)
    have hk1 := hk (k, v) List.mem_cons_self
    have el : n + ((k, v) :: t).length = n + 1 + t.length := by rw [List.length_cons]; omega
    simp only [dpt] at hd
    by_cases q : k < 2
    · rw [if_pos q] at hd
      by_cases q2 : st.length < 24
      · rw [if_pos q2] at hd
        by_cases z : k = 0
        · subst z
          have et : tev (vrT σ) ((0, v) :: t) st = tev (vrT σ) t (Int32.ofInt v :: st) := rfl
          refine ws_num hA (by omega) c1 q2 c2 c3 ?_
          refine ws_run hA t (Int32.ofInt v :: st) (n + 1) (u + 1) _ m hkt (by simp only [List.length_cons] at *; omega) hd (cKt_A c4 wsA_pi) (by omega) ⟨pi_s _ _ _ _, wsP_up hp (Nat.le_refl _)⟩ (fun τ st' u' a1 a2 a3 a4 => ?_) (fun a1 τ a2 => ?_)
          · rw [vrT_A wsA_pi, ← et] at a1
            have := h τ st' u' a1 (wsA_t wsA_pi a2) a3 (by omega)
            rw [el] at this
            exact this
          · rw [vrT_A wsA_pi, ← et] at a1
            exact h0 a1 τ (wsA_t wsA_pi a2)
        · have z1 : k = 1 := by have := hk1; simp only at this; omega
          subst z1
          have hv : 0 ≤ v ∧ v ≤ 8 := by have := hk1; simp only at this; omega
          have et : tev (vrT σ) ((1, v) :: t) st = tev (vrT σ) t (vrT σ v.toNat :: st) := rfl
          refine ws_var hA (by omega) c1 q2 hv c2 c3 ?_
          refine ws_run hA t (vrT σ v.toNat :: st) (n + 1) (u + 1) _ m hkt (by simp only [List.length_cons] at *; omega) hd (cKt_A c4 wsA_pi) (by omega) ⟨pi_s _ _ _ _, wsP_up hp (Nat.le_refl _)⟩ (fun τ st' u' a1 a2 a3 a4 => ?_) (fun a1 τ a2 => ?_)
          · rw [vrT_A wsA_pi, ← et] at a1
            have := h τ st' u' a1 (wsA_t wsA_pi a2) a3 (by omega)
            rw [el] at this
            exact this
          · rw [vrT_A wsA_pi, ← et] at a1
            exact h0 a1 τ (wsA_t wsA_pi a2)
      · rw [if_neg q2] at hd; cases hd
    · rw [if_neg q] at hd
      by_cases q2 : 2 ≤ st.length
      · rw [if_pos q2] at hd
        have hk2 : 2 ≤ k ∧ k ≤ 5 := by have := hk1; simp only at this; omega
        rw [lc_2 hk2.1] at c2 c3
        match st, q2, h24, hd, hp, h, h0 with
        | y :: x :: r, _, h24, hd, hp, h, h0 =>
          obtain ⟨p1, p2, p3⟩ := hp
          have et : tev (vrT σ) ((k, v) :: t) (y :: x :: r) = if k = 5 ∧ y = 0 then none else tev (vrT σ) t (opv k x y :: r) := by
            simp only [tev]
            rw [if_neg (by omega), if_neg (by omega)]
          have hl : (y :: x :: r).length = r.length + 2 := rfl
          rw [hl]
          refine ws_op hA (x := x) (y := y) (by omega) c1 ?_ hk2 c2 c3 p2 p1 (fun w1 w2 => ?_) (fun w => ?_)
          · exact h24
          · rw [if_pos ⟨w1, w2⟩] at et
            exact h0 et σ (wsA_r σ)
          · rw [if_neg w] at et
            refine ws_run hA t (opv k x y :: r) (n + 1) (u + 1) _ m hkt (by simp only [List.length_cons] at *; omega) hd (cKt_A c4 wsA_pi) (by omega) ⟨pi_s _ _ _ _, wsP_up p3 (Nat.le_refl _)⟩ (fun τ st' u' a1 a2 a3 a4 => ?_) (fun a1 τ a2 => ?_)
            · rw [vrT_A wsA_pi, ← et] at a1
              have := h τ st' u' a1 (wsA_t wsA_pi a2) a3 (by omega)
              rw [el] at this
              exact this
            · rw [vrT_A wsA_pi, ← et] at a1
              exact h0 a1 τ (wsA_t wsA_pi a2)
      · rw [if_neg q2] at hd; cases hd
theorem kvc_0 {c : List (Int × Int)} (h : kvc c) : ∀ p ∈ c, 0 ≤ p.1 := fun p hp => by
  have := h p hp
  omega
/-- an expression on an empty pile -/
theorem ws_ex (hA : ∀ cuts f pc ls stk n τ, am_vc cX2_worth xX2_worth (92 + 0) post AA cuts f pc ls stk n τ → AA pc ls stk n τ) {c : List (Int × Int)} {n u : Nat} {σ : am_S} (hw : wfc c) (hk : kvc c) (hc : cKt σ n (c.map lc)) (hu : u ≤ n) (h : ∀ τ x u', exV (vrT σ) c = some x → wsA σ τ → wsP τ [x] → u' ≤ n + c.length → AA 14 (wl law (Int32.ofInt ((n + c.length : Nat) : Int)) (Int32.ofInt ((1 : Nat) : Int)) (Int32.ofInt (u' : Int))) [] 92 τ) (h0 : exV (vrT σ) c = none → ∀ τ, wsA σ τ → post (some (.int (Int32.ofInt 0))) τ) : AA 14 (wl law (Int32.ofInt (n : Int)) (Int32.ofInt ((0 : Nat) : Int)) (Int32.ofInt (u : Int))) [] 92 σ := by
  have hd : dpt 24 c ([] : List Int32).length = some 1 := dpt_mono c 0 1 hw
  refine ws_run hA c [] n u σ 1 hk (Nat.zero_le _) hd hc hu trivial (fun τ st' u' a1 a2 a3 a4 => ?_) (fun a1 τ a2 => ?_)
  · rcases exV_e (vr := vrT σ) hw (kvc_0 hk) with ⟨x, b1, b2⟩ | ⟨b1, b2⟩
    · rw [a1] at b1
      cases b1
      exact h τ x u' b2 a2 a3 a4
    · rw [a1] at b1; cases b1
  · refine h0 ?_ τ a2
    rcases exV_e (vr := vrT σ) hw (kvc_0 hk) with ⟨x, b1, b2⟩ | ⟨b1, b2⟩
    · rw [a1] at b1; cases b1
    · exact b2
theorem ws_law (hA : ∀ cuts f pc ls stk n τ, am_vc cX2_worth xX2_worth (92 + 0) post AA cuts f pc ls stk n τ → AA pc ls stk n τ) : ∀ (brs : List BR) (c : List (Int × Int)) (n u : Nat) (σ : am_S), (∀ br ∈ brs, (wfc br.1 ∧ wfc br.2.1 ∧ wfc br.2.2) ∧ kvc br.1 ∧ kvc br.2.1 ∧ kvc br.2.2) → wfc c → kvc c → cKt σ n (cBs (n : Int) brs ++ (c.map lc ++ [(0, 0)])) → u ≤ n → (∀ τ, wsA σ τ → post (some (.int (lwB (vrT σ) brs c))) τ) → AA 14 (wl law (Int32.ofInt (n : Int)) (Int32.ofInt ((0 : Nat) : Int)) (Int32.ofInt (u : Int))) [] 92 σ
  | [], c, n, u, σ, _, hw, hk, hc, hu, h => by
    have hc : cKt σ n (c.map lc ++ [(0, 0)]) := hc
    obtain ⟨c1, c2⟩ := cKt_app hc
    rw [List.length_map] at c2
    obtain ⟨⟨d1, d2, d3⟩, _⟩ := cKt_cons c2
    have hv : lwB (vrT σ) [] c = (exV (vrT σ) c).getD 0 := rfl
    refine ws_ex hA hw hk c1 hu (fun τ x u' a1 a2 a3 a4 => ?_) (fun a1 τ a2 => ?_)
    · refine ws_ret hA (v := 0) (by omega) d1 (by rw [a2.1 _ _ (by decide)]; exact d2) (by rw [a2.1 _ _ (by decide)]; exact d3) ?_
      have := h τ a2
      rw [hv, a1] at this
      have a3' : τ.1 26 0 = x := a3.1
      rw [a3']
      exact this
    · have := h τ a2
      rw [hv, a1] at this
      exact this
  | (x, y, z) :: t, c, n, u, σ, hb, hw, hk, hc, hu, h => by
    obtain ⟨⟨wx, wy, wz⟩, kx, ky, kz⟩ := hb (x, y, z) List.mem_cons_self
    have wx : wfc x := wx
    have wy : wfc y := wy
    have wz : wfc z := wz
    have kx : kvc x := kx
    have ky : kvc y := ky
    have kz : kvc z := kz
    have hbt := fun br hbr => hb br (List.mem_cons_of_mem _ hbr)
    have hc : cKt σ n ((cBr (n : Int) (x, y, z) ++ cBs ((n : Int) + ((cBr (n : Int) (x, y, z)).length : Int)) t) ++ (c.map lc ++ [(0, 0)])) := hc
    rw [List.append_assoc] at hc
    obtain ⟨c1, c2⟩ := cKt_app hc
    have hlen : (cBr (n : Int) (x, y, z)).length = x.length + y.length + 1 + z.length + 1 := by
      unfold cBr
      simp only [List.length_append, List.length_map, List.length_cons, List.length_nil]
      omega
    have c1' : cKt σ n ((x.map lc ++ y.map lc) ++ ((3, (n : Int) + ((x.length + y.length + 1 + z.length + 1 : Nat) : Int)) :: (z.map lc ++ [(0, 0)]))) := c1
    obtain ⟨p1, p2⟩ := cKt_app c1'
    obtain ⟨px, py⟩ := cKt_app p1
    rw [List.length_append, List.length_map, List.length_map] at p2
    rw [List.length_map] at py
    obtain ⟨⟨g1, g2, g3⟩, p3⟩ := cKt_cons p2
    obtain ⟨pz, p4⟩ := cKt_app p3
    rw [List.length_map] at p4
    obtain ⟨⟨r1, r2, r3⟩, _⟩ := cKt_cons p4
    have hv : lwB (vrT σ) ((x, y, z) :: t) c = (match exV (vrT σ) x, exV (vrT σ) y with
      | some u, some v => if u < v then (exV (vrT σ) z).getD 0 else lwB (vrT σ) t c
      | _, _ => 0) := rfl
    refine ws_ex hA wx kx px hu (fun τ X u1 a1 a2 a3 a4 => ?_) (fun a1 τ a2 => ?_)
    · have dy : dpt 24 y ([X] : List Int32).length = some 2 := dpt_mono2 y wy
      have py' := cKt_A py a2
      refine ws_run hA y [X] (n + x.length) u1 τ 2 ky (by show (1 : Nat) ≤ 24; decide) dy py' a4 a3 (fun υ st' u2 b1 b2 b3 b4 => ?_) (fun b1 υ b2 => ?_)
      · rw [vrT_A a2, show ([X] : List Int32) = [] ++ [X] from rfl, tev_r (M := 15) [X] y [] 1 (kvc_0 ky) wy] at b1
        rcases exV_e (vr := vrT σ) wy (kvc_0 ky) with ⟨Y, e1, e2⟩ | ⟨e1, e2⟩
        · rw [e1] at b1
          have b1 : some ([Y] ++ [X]) = some st' := b1
          cases b1
          have A2 := wsA_t a2 b2
          obtain ⟨y1, y2, _⟩ := b3
          refine ws_unless hA (m := n + (x.length + y.length + 1 + z.length + 1)) (x := X) (y := Y) (by omega) (by omega) ?_ ?_ y2 y1 (fun w => ?_) (fun w => ?_)
          · rw [A2.1 _ _ (by decide), Nat.add_assoc]; exact g2
          · rw [A2.1 _ _ (by decide), Nat.add_assoc, g3]
            congr 1
          · refine ws_ex hA wz kz ?_ (by omega) (fun ω Z u3 d1 d2 d3 d4 => ?_) (fun d1 ω d2 => ?_)
            · rw [show n + x.length + y.length + 1 = n + (x.length + y.length) + 1 by omega]
              exact cKt_A pz A2
            · have A3 := wsA_t A2 d2
              rw [vrT_A A2] at d1
              refine ws_ret hA (v := 0) (by omega) (by omega) ?_ ?_ ?_
              · rw [A3.1 _ _ (by decide), show n + x.length + y.length + 1 + z.length = n + (x.length + y.length) + 1 + z.length by omega]; exact r2
              · rw [A3.1 _ _ (by decide), show n + x.length + y.length + 1 + z.length = n + (x.length + y.length) + 1 + z.length by omega]; exact r3
              · have := h ω A3
                rw [hv, a1, e2] at this
                simp only at this
                rw [if_pos w, d1] at this
                have d3' : ω.1 26 0 = Z := d3.1
                rw [d3']
                exact this
            · have A3 := wsA_t A2 d2
              rw [vrT_A A2] at d1
              have := h ω A3
              rw [hv, a1, e2] at this
              simp only at this
              rw [if_pos w, d1] at this
              exact this
          · refine ws_law hA t c (n + (x.length + y.length + 1 + z.length + 1)) (u2 + 1) υ hbt hw hk ?_ (by omega) (fun ω d2 => ?_)
            · rw [hlen] at c2
              have e : (n : Int) + ((x.length + y.length + 1 + z.length + 1 : Nat) : Int) = ((n + (x.length + y.length + 1 + z.length + 1) : Nat) : Int) := by omega
              rw [e] at c2
              exact cKt_A c2 A2
            · have := h ω (wsA_t A2 d2)
              rw [hv, a1, e2] at this
              simp only at this
              rw [if_neg w] at this
              rw [vrT_A A2]
              exact this
        · rw [e1] at b1; cases b1
      · rw [vrT_A a2, show ([X] : List Int32) = [] ++ [X] from rfl, tev_r (M := 15) [X] y [] 1 (kvc_0 ky) wy] at b1
        rcases exV_e (vr := vrT σ) wy (kvc_0 ky) with ⟨Y, e1, e2⟩ | ⟨e1, e2⟩
        · rw [e1] at b1; cases b1
        · have := h υ (wsA_t a2 b2)
          rw [hv, a1, e2] at this
          exact this
    · have := h τ a2
      rw [hv, a1] at this
      exact this
end
set_option maxRecDepth 100000 in
theorem ptX2_worth : am_B cX2_worth xX2_worth 9 0 sX2_worth := by
  intro n0 as σ post AA hA h
  obtain ⟨rfl, d, k, a, hk, rfl, e1, hc, hw, h⟩ := h
  refine ⟨by simp [am_sl, Value.category], ?_⟩
  show AA 0 [some (.ref 21), some (.int (Int32.ofInt (k : Int))), none, none, none, none, none, none, none] [] 92 σ
  have go : AA 14 (wl (Int32.ofInt (k : Int)) (Int32.ofInt (a : Int)) (Int32.ofInt ((0 : Nat) : Int)) (Int32.ofInt ((0 : Nat) : Int))) [] 92 σ := by
    unfold lwV at h
    cases ew : d.2.2.2 k with
    | some w =>
      rw [ew] at hc h
      obtain ⟨w1, w2, w3⟩ := hw w ew
      exact ws_law hA w.1 w.2 a 0 σ w1 w2 w3 hc (Nat.zero_le _) h
    | none =>
      rw [ew] at hc h
      have hc : cKt σ a (dfl k) := hc
      unfold dfl at hc
      by_cases q0 : k = 0
      · rw [if_pos q0] at hc
        simp only [if_pos q0] at h
        obtain ⟨⟨c1, c2, c3⟩, c4⟩ := cKt_cons hc
        obtain ⟨⟨d1, d2, d3⟩, _⟩ := cKt_cons c4
        refine ws_num hA (by decide) c1 (by decide) c2 c3 ?_
        refine ws_ret hA (v := 0) (by decide) d1 ?_ ?_ ?_
        · rw [pi_n _ _ _ _ (fun z => absurd z.1 (by decide))]; exact d2
        · rw [pi_n _ _ _ _ (fun z => absurd z.1 (by decide))]; exact d3
        · rw [pi_s]
          exact h _ wsA_pi
      · rw [if_neg q0] at hc
        simp only [if_neg q0] at h
        by_cases q2 : k = 2
        · rw [if_pos q2] at hc
          simp only [if_pos q2] at h
          obtain ⟨⟨c1, c2, c3⟩, c4⟩ := cKt_cons hc
          obtain ⟨⟨d1, d2, d3⟩, _⟩ := cKt_cons c4
          refine ws_var hA (by decide) c1 (by decide) ⟨by decide, by decide⟩ c2 c3 ?_
          refine ws_ret hA (v := 0) (by decide) d1 ?_ ?_ ?_
          · rw [pi_n _ _ _ _ (fun z => absurd z.1 (by decide))]; exact d2
          · rw [pi_n _ _ _ _ (fun z => absurd z.1 (by decide))]; exact d3
          · rw [pi_s]
            exact h _ wsA_pi
        · rw [if_neg q2] at hc
          simp only [if_neg q2] at h
          obtain ⟨⟨c1, c2, c3⟩, c4⟩ := cKt_cons hc
          obtain ⟨⟨d1, d2, d3⟩, _⟩ := cKt_cons c4
          refine ws_num hA (by decide) c1 (by decide) c2 c3 ?_
          refine ws_ret hA (v := 0) (by decide) d1 ?_ ?_ ?_
          · rw [pi_n _ _ _ _ (fun z => absurd z.1 (by decide))]; exact d2
          · rw [pi_n _ _ _ _ (fun z => absurd z.1 (by decide))]; exact d3
          · rw [pi_s]
            exact h _ wsA_pi
  unfold wl at go
  refine hA [(14, 5)] 12 _ _ _ _ _ ?_
  try simp only [dX2_worth_0, dX2_worth_1, FT_X2_18, dX2_worth_4, dX2_worth_5, xX2_worth_c55, xX2_worth_n55, dX2_worth_8, dX2_worth_9, dX2_worth_10, dX2_worth_11, dX2_worth_12, dX2_worth_14, dX2_worth_16, dX2_worth_19, xX2_worth_t19, dX2_worth_22, dX2_worth_23, xX2_worth_t23, dX2_worth_26, dX2_worth_27, dX2_worth_28, FT_X2_11, dX2_worth_31, dX2_worth_32, xX2_worth_t32, dX2_worth_35, dX2_worth_36, dX2_worth_37, FT_X2_15, dX2_worth_40, dX2_worth_41, xX2_worth_t41, dX2_worth_44, dX2_worth_45, dX2_worth_46, dX2_worth_47, dX2_worth_50, dX2_worth_51, dX2_worth_52, dX2_worth_54, dX2_worth_55, dX2_worth_58, dX2_worth_59, dX2_worth_60, dX2_worth_62, dX2_worth_65, dX2_worth_67, xX2_worth_t67, dX2_worth_70, dX2_worth_71, dX2_worth_72, xX2_worth_t72, dX2_worth_75, dX2_worth_76, FT_X2_24, dX2_worth_79, dX2_worth_80, dX2_worth_81, xX2_worth_t81, dX2_worth_84, dX2_worth_85, dX2_worth_86, dX2_worth_88, dX2_worth_89, xX2_worth_t89, dX2_worth_92, dX2_worth_94, dX2_worth_95, xX2_worth_t95, dX2_worth_98, dX2_worth_99, xX2_worth_t99, dX2_worth_102, dX2_worth_103, dX2_worth_104, dX2_worth_107, dX2_worth_108, xX2_worth_t108, dX2_worth_111, dX2_worth_112, dX2_worth_113, dX2_worth_114, dX2_worth_117, dX2_worth_118, dX2_worth_120, dX2_worth_121, xX2_worth_t121, dX2_worth_124, dX2_worth_126, xX2_worth_t126, dX2_worth_129, dX2_worth_130, FT_X2_21, dX2_worth_133, dX2_worth_135, dX2_worth_138, dX2_worth_139, dX2_worth_142, xX2_worth_t142, dX2_worth_145, dX2_worth_146, dX2_worth_147, xX2_worth_t147, dX2_worth_150, dX2_worth_151, dX2_worth_152, dX2_worth_155, dX2_worth_156, xX2_worth_t156, dX2_worth_159, dX2_worth_160, dX2_worth_161, dX2_worth_162, dX2_worth_165, dX2_worth_166, dX2_worth_167, dX2_worth_168, dX2_worth_169, dX2_worth_171, dX2_worth_172, dX2_worth_175, dX2_worth_176, dX2_worth_177, dX2_worth_178, dX2_worth_179, dX2_worth_181, dX2_worth_183, dX2_worth_185, xX2_worth_t185, dX2_worth_188, dX2_worth_190, xX2_worth_t190, dX2_worth_193, dX2_worth_194, dX2_worth_195, dX2_worth_197, dX2_worth_198, xX2_worth_t198, dX2_worth_201, dX2_worth_204, dX2_worth_206, dX2_worth_208, xX2_worth_t208, dX2_worth_211, dX2_worth_212, xX2_worth_t212, dX2_worth_215, dX2_worth_217, dX2_worth_218, xX2_worth_t218, dX2_worth_221, dX2_worth_224, dX2_worth_225, dX2_worth_228, dX2_worth_229, dX2_worth_230, dX2_worth_231, dX2_worth_233, dX2_worth_235, dX2_worth_237, xX2_worth_c61, xX2_worth_n61, dX2_worth_240, dX2_worth_241, dX2_worth_244, xX2_worth_t244, dX2_worth_247, dX2_worth_248, xX2_worth_SH, xX2_worth_KF, xX2_worth_rt, xX2_worth_FT, xX2_worth_PT, xX2_worth_CT, xX2_worth_KT, xX2_worth_LT, xX2_worth_NT, o_aload_n, o_arraylength, o_bipush, o_getfield, o_goto, o_iaload, o_iastore, o_iconst, o_ifCond_lt, o_ifCond_ne, o_if_icmp_eq, o_if_icmp_ge, o_if_icmp_le, o_if_icmp_lt, o_if_icmp_ne, o_iinc, o_iload, o_iload_n, o_invokestatic, o_ireturn, o_istore, o_istore_n, o_isub, o_sipush, SH_4, KF_4_0, SH_5, KF_4_1, SH_6, KF_4_2, SH_7, KF_4_3, SH_8, KF_4_4, SH_9, SH_21, KF_21_0, SH_22, KF_21_1, SH_23, KF_21_2, SH_24, KF_21_3, SH_25, KF_21_4, SH_26, am_ty, am_vc, am_opt, am_cl, am_find, am_ldi, am_ldl, am_lda, am_v, am_1, am_1l, am_1a, am_2, am_2l, am_ix, am_ri, am_arr, am_pf, am_rc, am_mask, am_lg, am_av, am_nat, fv_0, fv_1, fv_2, fv_3, fw_0, fw_1, List.getElem?_cons_zero, List.getElem?_cons_succ, List.set_cons_zero, List.set_cons_succ, List.length_cons, List.length_nil, List.take_succ_cons, List.take_zero, List.drop_succ_cons, List.drop_zero, List.reverse_cons, List.reverse_nil, List.nil_append, List.cons_append, List.append_nil, List.map_cons, List.map_nil, List.sum_cons, List.sum_nil, Value.category, Option.toList_some, Option.toList_none, Nat.reduceAdd, Nat.reduceLT, Nat.reduceLeDiff, Nat.reduceEqDiff, Nat.reduceSub, Nat.add_zero, Nat.le_refl, Nat.zero_le, Int.reduceNeg, Int.reduceLE, Int.reduceLT, true_and, and_true, and_self, if_true, if_false, ite_true, ite_false, eq_self_iff_true, reduceIte, reduceCtorEq, not_false_eq_true, not_true_eq_false, or_true, true_or, or_false, false_or, Nat.lt_irrefl, Nat.zero_lt_succ]
  refine ⟨24, 4, (k : Int), by decide, ⟨by omega, by omega⟩, rfl, by decide, rfl, rfl, ?_⟩
  rw [if_pos ⟨by omega, by omega⟩, Int.toNat_natCast, e1]
  try simp only [dX2_worth_0, dX2_worth_1, FT_X2_18, dX2_worth_4, dX2_worth_5, xX2_worth_c55, xX2_worth_n55, dX2_worth_8, dX2_worth_9, dX2_worth_10, dX2_worth_11, dX2_worth_12, dX2_worth_14, dX2_worth_16, dX2_worth_19, xX2_worth_t19, dX2_worth_22, dX2_worth_23, xX2_worth_t23, dX2_worth_26, dX2_worth_27, dX2_worth_28, FT_X2_11, dX2_worth_31, dX2_worth_32, xX2_worth_t32, dX2_worth_35, dX2_worth_36, dX2_worth_37, FT_X2_15, dX2_worth_40, dX2_worth_41, xX2_worth_t41, dX2_worth_44, dX2_worth_45, dX2_worth_46, dX2_worth_47, dX2_worth_50, dX2_worth_51, dX2_worth_52, dX2_worth_54, dX2_worth_55, dX2_worth_58, dX2_worth_59, dX2_worth_60, dX2_worth_62, dX2_worth_65, dX2_worth_67, xX2_worth_t67, dX2_worth_70, dX2_worth_71, dX2_worth_72, xX2_worth_t72, dX2_worth_75, dX2_worth_76, FT_X2_24, dX2_worth_79, dX2_worth_80, dX2_worth_81, xX2_worth_t81, dX2_worth_84, dX2_worth_85, dX2_worth_86, dX2_worth_88, dX2_worth_89, xX2_worth_t89, dX2_worth_92, dX2_worth_94, dX2_worth_95, xX2_worth_t95, dX2_worth_98, dX2_worth_99, xX2_worth_t99, dX2_worth_102, dX2_worth_103, dX2_worth_104, dX2_worth_107, dX2_worth_108, xX2_worth_t108, dX2_worth_111, dX2_worth_112, dX2_worth_113, dX2_worth_114, dX2_worth_117, dX2_worth_118, dX2_worth_120, dX2_worth_121, xX2_worth_t121, dX2_worth_124, dX2_worth_126, xX2_worth_t126, dX2_worth_129, dX2_worth_130, FT_X2_21, dX2_worth_133, dX2_worth_135, dX2_worth_138, dX2_worth_139, dX2_worth_142, xX2_worth_t142, dX2_worth_145, dX2_worth_146, dX2_worth_147, xX2_worth_t147, dX2_worth_150, dX2_worth_151, dX2_worth_152, dX2_worth_155, dX2_worth_156, xX2_worth_t156, dX2_worth_159, dX2_worth_160, dX2_worth_161, dX2_worth_162, dX2_worth_165, dX2_worth_166, dX2_worth_167, dX2_worth_168, dX2_worth_169, dX2_worth_171, dX2_worth_172, dX2_worth_175, dX2_worth_176, dX2_worth_177, dX2_worth_178, dX2_worth_179, dX2_worth_181, dX2_worth_183, dX2_worth_185, xX2_worth_t185, dX2_worth_188, dX2_worth_190, xX2_worth_t190, dX2_worth_193, dX2_worth_194, dX2_worth_195, dX2_worth_197, dX2_worth_198, xX2_worth_t198, dX2_worth_201, dX2_worth_204, dX2_worth_206, dX2_worth_208, xX2_worth_t208, dX2_worth_211, dX2_worth_212, xX2_worth_t212, dX2_worth_215, dX2_worth_217, dX2_worth_218, xX2_worth_t218, dX2_worth_221, dX2_worth_224, dX2_worth_225, dX2_worth_228, dX2_worth_229, dX2_worth_230, dX2_worth_231, dX2_worth_233, dX2_worth_235, dX2_worth_237, xX2_worth_c61, xX2_worth_n61, dX2_worth_240, dX2_worth_241, dX2_worth_244, xX2_worth_t244, dX2_worth_247, dX2_worth_248, xX2_worth_SH, xX2_worth_KF, xX2_worth_rt, xX2_worth_FT, xX2_worth_PT, xX2_worth_CT, xX2_worth_KT, xX2_worth_LT, xX2_worth_NT, o_aload_n, o_arraylength, o_bipush, o_getfield, o_goto, o_iaload, o_iastore, o_iconst, o_ifCond_lt, o_ifCond_ne, o_if_icmp_eq, o_if_icmp_ge, o_if_icmp_le, o_if_icmp_lt, o_if_icmp_ne, o_iinc, o_iload, o_iload_n, o_invokestatic, o_ireturn, o_istore, o_istore_n, o_isub, o_sipush, SH_4, KF_4_0, SH_5, KF_4_1, SH_6, KF_4_2, SH_7, KF_4_3, SH_8, KF_4_4, SH_9, SH_21, KF_21_0, SH_22, KF_21_1, SH_23, KF_21_2, SH_24, KF_21_3, SH_25, KF_21_4, SH_26, am_ty, am_vc, am_opt, am_cl, am_find, am_ldi, am_ldl, am_lda, am_v, am_1, am_1l, am_1a, am_2, am_2l, am_ix, am_ri, am_arr, am_pf, am_rc, am_mask, am_lg, am_av, am_nat, fv_0, fv_1, fv_2, fv_3, fw_0, fw_1, List.getElem?_cons_zero, List.getElem?_cons_succ, List.set_cons_zero, List.set_cons_succ, List.length_cons, List.length_nil, List.take_succ_cons, List.take_zero, List.drop_succ_cons, List.drop_zero, List.reverse_cons, List.reverse_nil, List.nil_append, List.cons_append, List.append_nil, List.map_cons, List.map_nil, List.sum_cons, List.sum_nil, Value.category, Option.toList_some, Option.toList_none, Nat.reduceAdd, Nat.reduceLT, Nat.reduceLeDiff, Nat.reduceEqDiff, Nat.reduceSub, Nat.add_zero, Nat.le_refl, Nat.zero_le, Int.reduceNeg, Int.reduceLE, Int.reduceLT, true_and, and_true, and_self, if_true, if_false, ite_true, ite_false, eq_self_iff_true, reduceIte, reduceCtorEq, not_false_eq_true, not_true_eq_false, or_true, true_or, or_false, false_or, Nat.lt_irrefl, Nat.zero_lt_succ]
  exact go
theorem mX2_worth (l : Launch) : am_M l TB NB vwCl SH KF yX2_worth cX2_worth 9 (some .int) 3 0 0 sX2_worth := by
  refine am_M.of xX2_worth (by decide +kernel) TB_good GF rfl rfl rfl (by decide) ⟨FT_X2_ok, PT_X2_ok _, CT_X2_ok, KT_X2_ok, LT_X2_ok, NT_X2_ok, ?_⟩ ptX2_worth
  exact List.forall_mem_cons.mpr ⟨⟨yX11_at, cX11_at, 2, (some .int), 2, 2, mX11_at l, by decide, by decide, tk_469, tk_103, ⟨by decide +kernel, by decide +kernel, by decide +kernel⟩, rfl, ⟨"LadderStreet", nb_at 743 (by decide +kernel)⟩, tk_468⟩, List.forall_mem_cons.mpr ⟨⟨yX2_reckoned, cX2_reckoned, 3, (some .int), 2, 3, mX2_reckoned l, by decide, by decide, tk_746, tk_106, ⟨by decide +kernel, by decide +kernel, by decide +kernel⟩, rfl, tk_744, tk_745⟩, fun _ h => absurd h List.not_mem_nil⟩⟩

