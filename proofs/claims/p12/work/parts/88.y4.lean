/-! THE CLASS'S SENTENCES: what a law is made of. Printed from wip/am/chk/hand/y4.in. -/
theorem lA_add {σ τ : am_S} {x : Int32} {op arg : Int} (h0 : 0 ≤ lS σ) (h1 : lS σ ≤ 407) (h : 0 ≤ lS σ → lS σ ≤ 407 → (lS τ = lS σ + 1 ∧ x = Int32.ofInt (lS σ)) ∧ ∀ i : Nat, (τ.1 5 i = if i = (lS σ).toNat then Int32.ofInt op else σ.1 5 i) ∧ (τ.1 6 i = if i = (lS σ).toNat then Int32.ofInt arg else σ.1 6 i)) : lA σ τ [(op, arg)] ∧ x = Int32.ofInt (lS σ) := ⟨lA_one h0 (h h0 h1).1.1 (h h0 h1).2, (h h0 h1).1.2⟩
/-- a step that jumps, mended -/
theorem lA_jump {σ τ υ : am_S} {p r : List (Int × Int)} {k : Nat} {op w v : Int} (h : lA σ τ (p ++ (op, w) :: r)) (h0 : 0 ≤ lS σ) (hk : k = (lS σ).toNat + p.length) (h1 : lS υ = lS τ) (h2 : ∀ i : Nat, υ.1 5 i = τ.1 5 i ∧ υ.1 6 i = if i = k then Int32.ofInt v else τ.1 6 i) : lA σ υ (p ++ (op, v) :: r) := by
  obtain ⟨g1, g2, g3⟩ := h
  refine ⟨by rw [h1, g1, List.length_append, List.length_append]; rfl, fun i hi => ?_, fun i hi => ?_⟩
  · obtain ⟨a, b⟩ := g2 i hi
    obtain ⟨a', b'⟩ := h2 i
    rw [if_neg (by omega)] at b'
    exact ⟨a'.trans a, b'.trans b⟩
  · rw [List.length_append] at hi
    have hi' : i < (p ++ (op, w) :: r).length := by rw [List.length_append]; exact hi
    obtain ⟨a, b⟩ := g3 i hi'
    obtain ⟨a', b'⟩ := h2 ((lS σ).toNat + i)
    by_cases q : i = p.length
    · subst q
      rw [if_pos hk.symm] at b'
      have e : ∀ z : Int, (p ++ (op, z) :: r).getD p.length (0, 0) = (op, z) := fun z => by
        rw [List.getD_eq_getElem?_getD, List.getElem?_append_right (Nat.le_refl _), Nat.sub_self]
        rfl
      rw [e] at a ⊢
      exact ⟨a'.trans a, b'⟩
    · rw [if_neg (by omega)] at b'
      have e : (p ++ (op, v) :: r).getD i (0, 0) = (p ++ (op, w) :: r).getD i (0, 0) := by
        rw [List.getD_eq_getElem?_getD, List.getD_eq_getElem?_getD]
        by_cases z : i < p.length
        · rw [List.getElem?_append_left z, List.getElem?_append_left z]
        · rw [List.getElem?_append_right (by omega), List.getElem?_append_right (by omega)]
          obtain ⟨m, hm⟩ : ∃ m, i - p.length = m + 1 := ⟨i - p.length - 1, by omega⟩
          rw [hm]
          rfl
      rw [e]
      exact ⟨a'.trans a, b'.trans b⟩
/-- an expression behind a place -/
theorem ex_post {b : Nat → Int} {Z : Nat} {s s' : ST} {σ τ : am_S} (hs : cST b Z σ s) (g2 : cST b Z τ s') (g3 : ∀ q, s = .inr q → s' = s) (g4 : ∀ t, s = .inl t → ∃ c, eS (tK b Z) (tV b Z) (tP b Z) 0 t s' c ∧ ∀ t', s' = .inl t' → lA σ τ (c.map lc)) : s' = (spE b Z s).1 ∧ ∀ t', (spE b Z s).1 = .inl t' → ∃ t, s = .inl t ∧ (spE b Z s).2.length + t ≤ t' ∧ lA σ τ ((spE b Z s).2.map lc) := by
  cases s with
  | inr q => exact ⟨g3 q rfl, fun t' z => by cases z⟩
  | inl t =>
    obtain ⟨c, c1, c2⟩ := g4 t rfl
    have e := cST_expr c1 hs.2.1.1 (fun t' z => by subst z; exact g2.2.1.1)
    refine ⟨e.1, fun t' z => ⟨t, rfl, ?_, ?_⟩⟩
    · have e2 := e.2 t' (e.1.trans z)
      have e3 : s' = .inl t' := e.1.trans z
      rw [← e2]
      subst e3
      exact (eSi_len c1.1).2
    · have e2 := e.2 t' (e.1.trans z)
      rw [← e2]
      exact c2 t' (e.1.trans z)
def bgM : sa_M := [(7, 0, 4)]
def jhM : sa_M := [(6, 0, 408)]
def sX2_beginE : am_Sp := fun as n σ post => n = 92 ∧ sb_ok BB SH σ ∧ ∃ k : Nat, k < 4 ∧ as = [.ref 4, .int (Int32.ofInt (k : Int))] ∧ ∀ τ, sI BB SH bgM σ τ → (∀ i, τ.1 7 i = if i = k then Int32.ofInt (lS σ) else σ.1 7 i) → post none τ
def xX2_beginE : am_X := (SH, KF, none, FT_X2, PT_X2, CT_X2, KT_X2, LT_X2, NT_X2, [])
theorem xX2_beginE_SH : am_SH xX2_beginE = SH := rfl
theorem xX2_beginE_KF : am_KF xX2_beginE = KF := rfl
theorem xX2_beginE_rt : am_rt xX2_beginE = none := rfl
theorem xX2_beginE_FT : am_FT xX2_beginE = FT_X2 := rfl
theorem xX2_beginE_PT : am_PT xX2_beginE = PT_X2 := rfl
theorem xX2_beginE_CT : am_CT xX2_beginE = CT_X2 := rfl
theorem xX2_beginE_KT : am_KT xX2_beginE = KT_X2 := rfl
theorem xX2_beginE_LT : am_LT xX2_beginE = LT_X2 := rfl
theorem xX2_beginE_NT : am_NT xX2_beginE = NT_X2 := rfl
theorem xX2_beginE_t1 (k : Nat → Prop) : am_tg 1 (22) k = k 23 := am_tg_eq (by decide)
theorem xX2_beginE_t10 (k : Nat → Prop) : am_tg 10 (13) k = k 23 := am_tg_eq (by decide)

set_option maxRecDepth 100000 in
theorem ptX2_beginE : am_B cX2_begin xX2_beginE 2 0 sX2_beginE := by
  intro n0 as σ post AA hA h
  obtain ⟨rfl, hB, k, hk, rfl, h⟩ := h
  refine ⟨by simp [am_sl, Value.category], ?_⟩
  show AA 0 [some (.ref 4), some (.int (Int32.ofInt (k : Int)))] [] 92 σ
  have e1 : σ.1 4 5 = Int32.ofInt (lS σ) := ii_of _
  have y2 := ii_hi (Int32.ofInt (lS σ))
  have i1 : sI BB SH bgM σ (am_pi σ 7 k (Int32.ofInt (lS σ))) := sI_arr (q := (0, 4)) ⟨hB, sb_fr_r _ _⟩ rfl (by rw [sb_1 (q := (-2147483648, 2147483647)) rfl]; exact ⟨ii_lo _, by show _ ≤ (2147483647 : Int); omega⟩) ⟨(7, 0, 4), by decide, rfl, Nat.zero_le _, hk⟩
  have hP := h _ i1 (fun i => by
    by_cases w : i = k
    · rw [if_pos w, w, pi_s]
    · rw [if_neg w, pi_n _ _ _ _ (fun z => w z.2)])
  refine hA [] 20 _ _ _ _ _ ?_
  try simp only [dX2_begin_0, dX2_begin_1, xX2_beginE_t1, dX2_begin_4, dX2_begin_5, dX2_begin_6, FT_X2_18, dX2_begin_9, dX2_begin_10, xX2_beginE_t10, dX2_begin_13, dX2_begin_14, dX2_begin_17, dX2_begin_18, dX2_begin_19, FT_X2_27, dX2_begin_22, dX2_begin_23, xX2_beginE_SH, xX2_beginE_KF, xX2_beginE_rt, xX2_beginE_FT, xX2_beginE_PT, xX2_beginE_CT, xX2_beginE_KT, xX2_beginE_LT, xX2_beginE_NT, o_aload_n, o_arraylength, o_getfield, o_iastore, o_ifCond_lt, o_if_icmp_ge, o_iload_n, o_return_, SH_4, KF_4_2, SH_7, KF_4_5, SH_21, KF_21_2, SH_24, KF_21_5, am_ty, am_vc, am_opt, am_cl, am_find, am_ldi, am_ldl, am_lda, am_v, am_1, am_1l, am_1a, am_2, am_2l, am_ix, am_ri, am_arr, am_pf, am_rc, am_mask, am_lg, am_av, am_nat, fv_0, fv_1, fv_2, fv_3, fw_0, fw_1, List.getElem?_cons_zero, List.getElem?_cons_succ, List.set_cons_zero, List.set_cons_succ, List.length_cons, List.length_nil, List.take_succ_cons, List.take_zero, List.drop_succ_cons, List.drop_zero, List.reverse_cons, List.reverse_nil, List.nil_append, List.cons_append, List.append_nil, List.map_cons, List.map_nil, List.sum_cons, List.sum_nil, Value.category, Option.toList_some, Option.toList_none, Nat.reduceAdd, Nat.reduceLT, Nat.reduceLeDiff, Nat.reduceEqDiff, Nat.reduceSub, Nat.add_zero, Nat.le_refl, Nat.zero_le, Int.reduceNeg, Int.reduceLE, Int.reduceLT, true_and, and_true, and_self, if_true, if_false, ite_true, ite_false, eq_self_iff_true, reduceIte, reduceCtorEq, not_false_eq_true, not_true_eq_false, or_true, true_or, or_false, false_or, Nat.lt_irrefl, Nat.zero_lt_succ, e1]
  try simp (disch := omega) only [ii_0, ii_1, ii_t, ii_add, ii_sub, ii_mul, ii_lt, ii_le, ii_eq, ij_in, ii_c, Int.toNat_natCast, Int.toNat_zero, Int.reduceToNat, Int.reduceEq, Int.reduceNe, Int.reduceLE, Int.reduceLT, Int.reduceAdd, Int.reduceSub, Int.reduceMul, Int.reduceNeg, Nat.reduceLT, Nat.reduceAdd, Nat.reduceMul, not_false_eq_true, not_true_eq_false, true_and, and_true, and_self, false_and, and_false, true_implies, false_implies, implies_true, forall_const, if_true, if_false, ite_true, ite_false, reduceIte, eq_self_iff_true, Int.natCast_nonneg, Int.zero_add, Int.add_zero, pi_s, pi_n, on_2000, on_402, on_408, on_19, on_5, on_4, e1]
  first
  | exact hP
  | exact ⟨fun z => absurd z (by omega), fun _ => ⟨fun z => absurd z (by omega), fun _ => ⟨by omega, hP⟩⟩⟩
theorem mX2_beginE (l : Launch) : am_M l TB NB vwCl SH KF yX2_begin cX2_begin 2 none 2 0 0 sX2_beginE := by
  refine am_M.of xX2_beginE (by decide +kernel) TB_good GF rfl rfl rfl (by decide) ⟨FT_X2_ok, PT_X2_ok _, CT_X2_ok, KT_X2_ok, LT_X2_ok, NT_X2_ok, ?_⟩ ptX2_beginE
  exact fun _ h => absurd h List.not_mem_nil

def sX2_jumpHereE : am_Sp := fun as n σ post => n = 92 ∧ sb_ok BB SH σ ∧ ∃ x : Int32, as = [.ref 4, .int x] ∧ ∀ τ, sI BB SH jhM σ τ → (∀ k : Nat, k < 408 → x = Int32.ofInt (k : Int) → ∀ i, τ.1 6 i = if i = k then Int32.ofInt (lS σ) else σ.1 6 i) → post none τ
def xX2_jumpHereE : am_X := (SH, KF, none, FT_X2, PT_X2, CT_X2, KT_X2, LT_X2, NT_X2, [])
theorem xX2_jumpHereE_SH : am_SH xX2_jumpHereE = SH := rfl
theorem xX2_jumpHereE_KF : am_KF xX2_jumpHereE = KF := rfl
theorem xX2_jumpHereE_rt : am_rt xX2_jumpHereE = none := rfl
theorem xX2_jumpHereE_FT : am_FT xX2_jumpHereE = FT_X2 := rfl
theorem xX2_jumpHereE_PT : am_PT xX2_jumpHereE = PT_X2 := rfl
theorem xX2_jumpHereE_CT : am_CT xX2_jumpHereE = CT_X2 := rfl
theorem xX2_jumpHereE_KT : am_KT xX2_jumpHereE = KT_X2 := rfl
theorem xX2_jumpHereE_LT : am_LT xX2_jumpHereE = LT_X2 := rfl
theorem xX2_jumpHereE_NT : am_NT xX2_jumpHereE = NT_X2 := rfl
theorem xX2_jumpHereE_t1 (k : Nat → Prop) : am_tg 1 (22) k = k 23 := am_tg_eq (by decide)
theorem xX2_jumpHereE_t10 (k : Nat → Prop) : am_tg 10 (13) k = k 23 := am_tg_eq (by decide)

set_option maxRecDepth 100000 in
theorem ptX2_jumpHereE : am_B cX2_jumpHere xX2_jumpHereE 2 0 sX2_jumpHereE := by
  intro n0 as σ post AA hA h
  obtain ⟨rfl, hB, x, rfl, h⟩ := h
  obtain ⟨kv, ekv⟩ : ∃ kv, kv = x.toInt := ⟨_, rfl⟩
  have ex : x = Int32.ofInt kv := by rw [ekv]; exact ii_of _
  have k1 : -2147483648 ≤ kv := by rw [ekv]; exact ii_lo _
  have k2 : kv < 2147483648 := by rw [ekv]; exact ii_hi _
  subst ex
  refine ⟨by simp [am_sl, Value.category], ?_⟩
  show AA 0 [some (.ref 4), some (.int (Int32.ofInt kv))] [] 92 σ
  have e1 : σ.1 4 5 = Int32.ofInt (lS σ) := ii_of _
  have y2 := ii_hi (Int32.ofInt (lS σ))
  by_cases q : 0 ≤ kv ∧ kv < 408
  · obtain ⟨k, rfl⟩ : ∃ k : Nat, kv = (k : Int) := ⟨kv.toNat, by omega⟩
    have i1 : sI BB SH jhM σ (am_pi σ 6 k (Int32.ofInt (lS σ))) := sI_arr (q := (0, 408)) ⟨hB, sb_fr_r _ _⟩ rfl (by rw [sb_1 (q := (-2147483648, 2147483647)) rfl]; exact ⟨ii_lo _, by show _ ≤ (2147483647 : Int); omega⟩) ⟨(6, 0, 408), by decide, rfl, Nat.zero_le _, by show k < 408; omega⟩
    have hP := h _ i1 (fun k' hk' e' i => by
      have e2 : (k : Int) = (k' : Int) := by
        have := congrArg Int32.toInt e'
        rw [ii_t (by omega) (by omega), ii_t (by omega) (by omega)] at this
        exact this
      have e3 : k' = k := by omega
      subst e3
      by_cases w : i = k'
      · rw [if_pos w, w, pi_s]
      · rw [if_neg w, pi_n _ _ _ _ (fun z => w z.2)])
    refine hA [] 20 _ _ _ _ _ ?_
    try simp only [dX2_jumpHere_0, dX2_jumpHere_1, xX2_jumpHereE_t1, dX2_jumpHere_4, dX2_jumpHere_5, dX2_jumpHere_6, FT_X2_15, dX2_jumpHere_9, dX2_jumpHere_10, xX2_jumpHereE_t10, dX2_jumpHere_13, dX2_jumpHere_14, dX2_jumpHere_17, dX2_jumpHere_18, dX2_jumpHere_19, FT_X2_27, dX2_jumpHere_22, dX2_jumpHere_23, xX2_jumpHereE_SH, xX2_jumpHereE_KF, xX2_jumpHereE_rt, xX2_jumpHereE_FT, xX2_jumpHereE_PT, xX2_jumpHereE_CT, xX2_jumpHereE_KT, xX2_jumpHereE_LT, xX2_jumpHereE_NT, o_aload_n, o_arraylength, o_getfield, o_iastore, o_ifCond_lt, o_if_icmp_ge, o_iload_n, o_return_, SH_4, KF_4_1, SH_6, KF_4_5, SH_21, KF_21_1, SH_23, KF_21_5, am_ty, am_vc, am_opt, am_cl, am_find, am_ldi, am_ldl, am_lda, am_v, am_1, am_1l, am_1a, am_2, am_2l, am_ix, am_ri, am_arr, am_pf, am_rc, am_mask, am_lg, am_av, am_nat, fv_0, fv_1, fv_2, fv_3, fw_0, fw_1, List.getElem?_cons_zero, List.getElem?_cons_succ, List.set_cons_zero, List.set_cons_succ, List.length_cons, List.length_nil, List.take_succ_cons, List.take_zero, List.drop_succ_cons, List.drop_zero, List.reverse_cons, List.reverse_nil, List.nil_append, List.cons_append, List.append_nil, List.map_cons, List.map_nil, List.sum_cons, List.sum_nil, Value.category, Option.toList_some, Option.toList_none, Nat.reduceAdd, Nat.reduceLT, Nat.reduceLeDiff, Nat.reduceEqDiff, Nat.reduceSub, Nat.add_zero, Nat.le_refl, Nat.zero_le, Int.reduceNeg, Int.reduceLE, Int.reduceLT, true_and, and_true, and_self, if_true, if_false, ite_true, ite_false, eq_self_iff_true, reduceIte, reduceCtorEq, not_false_eq_true, not_true_eq_false, or_true, true_or, or_false, false_or, Nat.lt_irrefl, Nat.zero_lt_succ, e1]
    try simp (disch := omega) only [ii_0, ii_1, ii_t, ii_add, ii_sub, ii_mul, ii_lt, ii_le, ii_eq, ij_in, ii_c, Int.toNat_natCast, Int.toNat_zero, Int.reduceToNat, Int.reduceEq, Int.reduceNe, Int.reduceLE, Int.reduceLT, Int.reduceAdd, Int.reduceSub, Int.reduceMul, Int.reduceNeg, Nat.reduceLT, Nat.reduceAdd, Nat.reduceMul, not_false_eq_true, not_true_eq_false, true_and, and_true, and_self, false_and, and_false, true_implies, false_implies, implies_true, forall_const, if_true, if_false, ite_true, ite_false, reduceIte, eq_self_iff_true, Int.natCast_nonneg, Int.zero_add, Int.add_zero, pi_s, pi_n, on_2000, on_402, on_408, on_19, on_5, on_4, e1]
    first
    | exact hP
    | exact ⟨fun z => absurd z (by omega), fun _ => ⟨fun z => absurd z (by omega), fun _ => ⟨by omega, hP⟩⟩⟩
  · have hP := h σ ⟨hB, sb_fr_r _ _⟩ (fun k' hk' e' => by
      have := congrArg Int32.toInt e'
      rw [ii_t (by omega) (by omega), ii_t (by omega) (by omega)] at this
      omega)
    have at23 : ∀ ls, AA 23 ls [] 92 σ := fun ls => by
      refine hA [] 2 _ _ _ _ _ ?_
      try simp only [dX2_jumpHere_0, dX2_jumpHere_1, xX2_jumpHereE_t1, dX2_jumpHere_4, dX2_jumpHere_5, dX2_jumpHere_6, FT_X2_15, dX2_jumpHere_9, dX2_jumpHere_10, xX2_jumpHereE_t10, dX2_jumpHere_13, dX2_jumpHere_14, dX2_jumpHere_17, dX2_jumpHere_18, dX2_jumpHere_19, FT_X2_27, dX2_jumpHere_22, dX2_jumpHere_23, xX2_jumpHereE_SH, xX2_jumpHereE_KF, xX2_jumpHereE_rt, xX2_jumpHereE_FT, xX2_jumpHereE_PT, xX2_jumpHereE_CT, xX2_jumpHereE_KT, xX2_jumpHereE_LT, xX2_jumpHereE_NT, o_aload_n, o_arraylength, o_getfield, o_iastore, o_ifCond_lt, o_if_icmp_ge, o_iload_n, o_return_, SH_4, KF_4_1, SH_6, KF_4_5, SH_21, KF_21_1, SH_23, KF_21_5, am_ty, am_vc, am_opt, am_cl, am_find, am_ldi, am_ldl, am_lda, am_v, am_1, am_1l, am_1a, am_2, am_2l, am_ix, am_ri, am_arr, am_pf, am_rc, am_mask, am_lg, am_av, am_nat, fv_0, fv_1, fv_2, fv_3, fw_0, fw_1, List.getElem?_cons_zero, List.getElem?_cons_succ, List.set_cons_zero, List.set_cons_succ, List.length_cons, List.length_nil, List.take_succ_cons, List.take_zero, List.drop_succ_cons, List.drop_zero, List.reverse_cons, List.reverse_nil, List.nil_append, List.cons_append, List.append_nil, List.map_cons, List.map_nil, List.sum_cons, List.sum_nil, Value.category, Option.toList_some, Option.toList_none, Nat.reduceAdd, Nat.reduceLT, Nat.reduceLeDiff, Nat.reduceEqDiff, Nat.reduceSub, Nat.add_zero, Nat.le_refl, Nat.zero_le, Int.reduceNeg, Int.reduceLE, Int.reduceLT, true_and, and_true, and_self, if_true, if_false, ite_true, ite_false, eq_self_iff_true, reduceIte, reduceCtorEq, not_false_eq_true, not_true_eq_false, or_true, true_or, or_false, false_or, Nat.lt_irrefl, Nat.zero_lt_succ, e1]
      exact hP
    refine hA [(23, 2), (13, 2)] 8 _ _ _ _ _ ?_
    try simp only [dX2_jumpHere_0, dX2_jumpHere_1, xX2_jumpHereE_t1, dX2_jumpHere_4, dX2_jumpHere_5, dX2_jumpHere_6, FT_X2_15, dX2_jumpHere_9, dX2_jumpHere_10, xX2_jumpHereE_t10, dX2_jumpHere_13, dX2_jumpHere_14, dX2_jumpHere_17, dX2_jumpHere_18, dX2_jumpHere_19, FT_X2_27, dX2_jumpHere_22, dX2_jumpHere_23, xX2_jumpHereE_SH, xX2_jumpHereE_KF, xX2_jumpHereE_rt, xX2_jumpHereE_FT, xX2_jumpHereE_PT, xX2_jumpHereE_CT, xX2_jumpHereE_KT, xX2_jumpHereE_LT, xX2_jumpHereE_NT, o_aload_n, o_arraylength, o_getfield, o_iastore, o_ifCond_lt, o_if_icmp_ge, o_iload_n, o_return_, SH_4, KF_4_1, SH_6, KF_4_5, SH_21, KF_21_1, SH_23, KF_21_5, am_ty, am_vc, am_opt, am_cl, am_find, am_ldi, am_ldl, am_lda, am_v, am_1, am_1l, am_1a, am_2, am_2l, am_ix, am_ri, am_arr, am_pf, am_rc, am_mask, am_lg, am_av, am_nat, fv_0, fv_1, fv_2, fv_3, fw_0, fw_1, List.getElem?_cons_zero, List.getElem?_cons_succ, List.set_cons_zero, List.set_cons_succ, List.length_cons, List.length_nil, List.take_succ_cons, List.take_zero, List.drop_succ_cons, List.drop_zero, List.reverse_cons, List.reverse_nil, List.nil_append, List.cons_append, List.append_nil, List.map_cons, List.map_nil, List.sum_cons, List.sum_nil, Value.category, Option.toList_some, Option.toList_none, Nat.reduceAdd, Nat.reduceLT, Nat.reduceLeDiff, Nat.reduceEqDiff, Nat.reduceSub, Nat.add_zero, Nat.le_refl, Nat.zero_le, Int.reduceNeg, Int.reduceLE, Int.reduceLT, true_and, and_true, and_self, if_true, if_false, ite_true, ite_false, eq_self_iff_true, reduceIte, reduceCtorEq, not_false_eq_true, not_true_eq_false, or_true, true_or, or_false, false_or, Nat.lt_irrefl, Nat.zero_lt_succ, e1]
    try simp (disch := omega) only [ii_0, ii_1, ii_t, ii_add, ii_sub, ii_mul, ii_lt, ii_le, ii_eq, ij_in, ii_c, Int.toNat_natCast, Int.toNat_zero, Int.reduceToNat, Int.reduceEq, Int.reduceNe, Int.reduceLE, Int.reduceLT, Int.reduceAdd, Int.reduceSub, Int.reduceMul, Int.reduceNeg, Nat.reduceLT, Nat.reduceAdd, Nat.reduceMul, not_false_eq_true, not_true_eq_false, true_and, and_true, and_self, false_and, and_false, true_implies, false_implies, implies_true, forall_const, if_true, if_false, ite_true, ite_false, reduceIte, eq_self_iff_true, Int.natCast_nonneg, Int.zero_add, Int.add_zero, pi_s, pi_n, on_2000, on_402, on_408, on_19, on_5, on_4, e1]
    first
    | exact ⟨fun _ => at23 _, fun _ => ⟨fun _ => at23 _, fun z => absurd z (by omega)⟩⟩
    | exact ⟨fun _ => at23 _, fun _ => ⟨fun z => absurd z (by omega), fun _ => at23 _⟩⟩
theorem mX2_jumpHereE (l : Launch) : am_M l TB NB vwCl SH KF yX2_jumpHere cX2_jumpHere 2 none 2 0 0 sX2_jumpHereE := by
  refine am_M.of xX2_jumpHereE (by decide +kernel) TB_good GF rfl rfl rfl (by decide) ⟨FT_X2_ok, PT_X2_ok _, CT_X2_ok, KT_X2_ok, LT_X2_ok, NT_X2_ok, ?_⟩ ptX2_jumpHereE
  exact fun _ h => absurd h List.not_mem_nil

/-- a branch as the class writes it, from step L on -/
def cBr (L : Int) (br : BR) : List (Int × Int) := (br.1.map lc ++ br.2.1.map lc) ++ (3, L + ((br.1.length + br.2.1.length + 1 + br.2.2.length + 1 : Nat) : Int)) :: (br.2.2.map lc ++ [(0, 0)])
def cBs (L : Int) : List BR → List (Int × Int)
  | [] => []
  | br :: r => cBr L br ++ cBs (L + ((cBr L br).length : Int)) r
def cLw (L : Int) (w : LW) : List (Int × Int) := cBs L w.1 ++ (w.2.map lc ++ [(0, 0)])
theorem cBs_snoc (br : BR) : ∀ (a : List BR) (L : Int), cBs L (a ++ [br]) = cBs L a ++ cBr (L + ((cBs L a).length : Int)) br := by
  intro a
  induction a with
  | nil => intro L; show cBr L br ++ [] = [] ++ cBr (L + 0) br; rw [List.append_nil, List.nil_append, Int.add_zero]
  | cons x r ih =>
    intro L
    show cBr L x ++ cBs _ (r ++ [br]) = (cBr L x ++ cBs _ r) ++ _
    rw [ih, List.append_assoc]
    congr 2
    show cBr _ br = cBr (L + ((cBr L x ++ cBs _ r).length : Int)) br
    rw [List.length_append, Int.natCast_add, Int.add_assoc]
