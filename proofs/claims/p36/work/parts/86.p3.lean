/-! comesOut. Printed from wip/am/chk/hand/co.in. -/
def stop (st w : Int) : Prop := w = 6 ∨ st ≠ 0 ∧ (w = 8 ∨ w = 9)
/-- what comesOut does: j codes more, as many signs less -/
def coR (st : Int) (σ τ : am_S) : Prop := ∃ j : Nat, pW τ = pW σ - (j : Int) ∧ 0 ≤ pW τ ∧ pC τ = pC σ + (j : Int) ∧ (∀ i : Nat, pC σ ≤ (i : Int) → (i : Int) < pC τ → 2 ≤ cd τ i ∧ cd τ i ≤ 5) ∧ (∀ i : Nat, ((i : Int) < pC σ ∨ pC τ ≤ (i : Int)) → cd τ i = cd σ i ∧ cI τ i = cI σ i) ∧ (∀ i : Nat, pW τ ≤ (i : Int) → (i : Int) < pW σ → ¬ stop st (sw σ i)) ∧ (∀ o i, o ≠ 74 → o ≠ 75 → ¬ (o = 51 ∧ (i = 37 ∨ i = 41)) → τ.1 o i = σ.1 o i) ∧ τ.2 = σ.2
theorem coR_r {st : Int} {σ : am_S} (h : sb_ok BB SH σ) : coR st σ σ := ⟨0, by omega, (pW_b h).1, by omega, fun i h1 h2 => by omega, fun i _ => ⟨rfl, rfl⟩, fun i h1 h2 => by omega, fun _ _ _ _ _ => rfl, rfl⟩
theorem coR_sw {st : Int} {σ τ : am_S} (h : coR st σ τ) (i : Nat) : sw τ i = sw σ i := by
  obtain ⟨j, _, _, _, _, _, _, h7, _⟩ := h
  unfold sw
  rw [h7 _ _ (by decide) (by decide) (by rintro ⟨q, _⟩; exact absurd q (by decide))]
def wtS (σ : am_S) : am_S := am_pi σ 51 41 (Int32.ofInt (pW σ - 1))
theorem wtS_ok {σ : am_S} (h : sb_ok BB SH σ) (hw : 0 < pW σ) : sb_ok BB SH (wtS σ) := by
  have hb := pW_b h
  exact (sI_fld (M := [(51, 41, 41 + 1)]) (σ0 := σ) (k := 41) (x := Int32.ofInt (pW σ - 1)) (ci := 12) ⟨h, sb_fr_r _ _⟩ rfl (by rw [ii_t (by omega) (by omega)]; exact ⟨by show (0 : Int) ≤ _; omega, by show _ ≤ (64 : Int); omega⟩) ⟨_, List.mem_cons_self, rfl, by decide, by decide⟩).1
theorem wtS_C (σ : am_S) : pC (wtS σ) = pC σ := by
  unfold pC wtS
  rw [pi_n _ _ _ _ (by decide)]
theorem coR_step {st : Int} {σ τ : am_S} {k : Int} (h : coR st σ τ) (hσ : sb_ok BB SH σ) (hτ : sb_ok BB SH τ) (hw : 0 < pW τ) (hc : pC σ + pW σ ≤ 840) (hk : 2 ≤ k ∧ k ≤ 5) (hs : ¬ stop st (sw τ (pW τ - 1).toNat)) : coR st σ (emS (wtS τ) k 0) ∧ sb_ok BB SH (emS (wtS τ) k 0) ∧ pW (emS (wtS τ) k 0) = pW τ - 1 := by
  have hs' : ¬ stop st (sw σ (pW τ - 1).toNat) := by rw [← coR_sw h]; exact hs
  obtain ⟨j, h1, h2, h3, h4, h5, h6, h7, h8⟩ := h
  have cb := pC_b hτ
  have cb0 := pC_b hσ
  have wb := pW_b hτ
  have hC := wtS_C τ
  have hok := wtS_ok hτ hw
  have hlt : pC (wtS τ) ≤ 839 := by omega
  have eC : pC (emS (wtS τ) k 0) = pC τ + 1 := by rw [emS_C ⟨by omega, hlt⟩, hC]
  have eW : pW (emS (wtS τ) k 0) = pW τ - 1 := by
    show ((emS (wtS τ) k 0).1 51 41).toInt = _
    rw [emS_o (by decide) (by decide) (by decide)]
    unfold wtS
    rw [pi_s, ii_t (by omega) (by omega)]
  have ecd : ∀ i, cd (wtS τ) i = cd τ i := fun i => by unfold cd wtS; rw [pi_n _ _ _ _ (fun z => absurd z.1 (by decide))]
  have ecI : ∀ i, cI (wtS τ) i = cI τ i := fun i => by unfold cI wtS; rw [pi_n _ _ _ _ (fun z => absurd z.1 (by decide))]
  refine ⟨⟨j + 1, by omega, by omega, by omega, fun i g1 g2 => ?_, fun i g1 => ?_, fun i g1 g2 => ?_, fun o i n1 n2 n3 => ?_, ?_⟩, emS_ok hok ⟨by omega, by omega⟩ hlt, eW⟩
  · rw [emS_c ⟨by omega, by omega⟩, ecd, hC]
    by_cases q : i = (pC τ).toNat
    · rw [if_pos q]; exact hk
    · rw [if_neg q]; exact h4 i g1 (by omega)
  · rw [emS_c ⟨by omega, by omega⟩, emS_i ⟨by omega, by omega⟩, ecd, ecI, hC, if_neg (by omega), if_neg (by omega)]
    exact h5 i (by omega)
  · by_cases q : (i : Int) = pW τ - 1
    · have e : i = (pW τ - 1).toNat := by omega
      rw [e]; exact hs'
    · exact h6 i (by omega) g2
  · rw [emS_o n1 n2 (fun z => n3 ⟨z.1, Or.inl z.2⟩)]
    unfold wtS
    rw [pi_n _ _ _ _ (fun z => n3 ⟨z.1, Or.inr z.2⟩)]
    exact h7 o i n1 n2 n3
  · exact h8
def sX12_comesOut : am_Sp := fun as n σ post => n = 92 ∧ sb_ok BB SH σ ∧ pC σ + pW σ ≤ 840 ∧ ∃ s : Int, (0 ≤ s ∧ s ≤ 1) ∧ as = [.ref 51, .int (Int32.ofInt s)] ∧ ∀ τ, sb_ok BB SH τ → coR s σ τ → (pW τ = 0 ∨ 0 < pW τ ∧ stop s (sw τ (pW τ - 1).toNat)) → post none τ
def xX12_comesOut : am_X := (SH, KF, none, FT_X12, PT_X12, CT_X12, KT_X12, LT_X12, NT_X12, [(278, 0, 3, 12, 0, 0, sX12_emit)])
theorem xX12_comesOut_SH : am_SH xX12_comesOut = SH := rfl
theorem xX12_comesOut_KF : am_KF xX12_comesOut = KF := rfl
theorem xX12_comesOut_rt : am_rt xX12_comesOut = none := rfl
theorem xX12_comesOut_FT : am_FT xX12_comesOut = FT_X12 := rfl
theorem xX12_comesOut_PT : am_PT xX12_comesOut = PT_X12 := rfl
theorem xX12_comesOut_CT : am_CT xX12_comesOut = CT_X12 := rfl
theorem xX12_comesOut_KT : am_KT xX12_comesOut = KT_X12 := rfl
theorem xX12_comesOut_LT : am_LT xX12_comesOut = LT_X12 := rfl
theorem xX12_comesOut_NT : am_NT xX12_comesOut = NT_X12 := rfl
theorem xX12_comesOut_c278 : am_find (am_ML xX12_comesOut) 278 = some (0, 3, 12, 0, 0, sX12_emit) := rfl
theorem xX12_comesOut_n278 : am_find NT_X12 278 = none := rfl
theorem xX12_comesOut_t4 (k : Nat → Prop) : am_tg 4 (87) k = k 91 := am_tg_eq (by decide)
theorem xX12_comesOut_t22 (k : Nat → Prop) : am_tg 22 (19) k = k 41 := am_tg_eq (by decide)
theorem xX12_comesOut_t26 (k : Nat → Prop) : am_tg 26 (16) k = k 42 := am_tg_eq (by decide)
theorem xX12_comesOut_t32 (k : Nat → Prop) : am_tg 32 (9) k = k 41 := am_tg_eq (by decide)
theorem xX12_comesOut_t38 (k : Nat → Prop) : am_tg 38 (4) k = k 42 := am_tg_eq (by decide)
theorem xX12_comesOut_t56 (k : Nat → Prop) : am_tg 56 (7) k = k 63 := am_tg_eq (by decide)
theorem xX12_comesOut_t60 (k : Nat → Prop) : am_tg 60 (24) k = k 84 := am_tg_eq (by decide)
theorem xX12_comesOut_t66 (k : Nat → Prop) : am_tg 66 (7) k = k 73 := am_tg_eq (by decide)
theorem xX12_comesOut_t70 (k : Nat → Prop) : am_tg 70 (14) k = k 84 := am_tg_eq (by decide)
theorem xX12_comesOut_t76 (k : Nat → Prop) : am_tg 76 (7) k = k 83 := am_tg_eq (by decide)
theorem xX12_comesOut_t80 (k : Nat → Prop) : am_tg 80 (4) k = k 84 := am_tg_eq (by decide)
theorem xX12_comesOut_t88 (k : Nat → Prop) : am_tg 88 (-88) k = k 0 := am_tg_eq (by decide)

set_option maxRecDepth 100000 in
theorem co_loop {σ0 : am_S} {post : Option Value → am_S → Prop} {AA : Nat → List (Option Value) → List Value → Nat → am_S → Prop} (hA : ∀ cuts f pc ls stk n τ, am_vc cX12_comesOut xX12_comesOut (92 + 0) post AA cuts f pc ls stk n τ → AA pc ls stk n τ) (h0 : sb_ok BB SH σ0) (hc0 : pC σ0 + pW σ0 ≤ 840) {s : Int} (hs : 0 ≤ s ∧ s ≤ 1) (hpost : ∀ τ, sb_ok BB SH τ → coR s σ0 τ → (pW τ = 0 ∨ 0 < pW τ ∧ stop s (sw τ (pW τ - 1).toNat)) → post none τ) : ∀ (m : Nat) (σ : am_S), (pW σ).toNat = m → sb_ok BB SH σ → coR s σ0 σ → AA 0 [some (.ref 51), some (.int (Int32.ofInt s)), none] [] 92 σ := by
  intro m
  induction m using Nat.strongRecOn with
  | ind m ih =>
  intro σ hm hB hR
  have w1 := pW_b hB
  obtain ⟨wv, ewv⟩ : ∃ wv, wv = pW σ := ⟨_, rfl⟩
  have e1 : σ.1 51 41 = Int32.ofInt wv := by rw [ewv]; exact ii_of _
  have w2 := w1
  rw [← ewv] at w2
  obtain ⟨sv, esv⟩ : ∃ sv, sv = sw σ (wv - 1).toNat := ⟨_, rfl⟩
  have e2 : σ.1 76 (wv - 1).toNat = Int32.ofInt sv := by rw [esv]; exact ii_of _
  have s1 := ii_lo (σ.1 76 (wv - 1).toNat)
  have s2 := ii_hi (σ.1 76 (wv - 1).toNat)
  have s1 : -2147483648 ≤ sv := by rw [esv]; exact s1
  have s2 : sv < 2147483648 := by rw [esv]; exact s2
  have go : ∀ k : Int, 0 < wv → (2 ≤ k ∧ k ≤ 5) → ¬ stop s sv → AA 0 [some (.ref 51), some (.int (Int32.ofInt s)), none] [] 92 (emS (wtS σ) k 0) := by
    intro k hw hk hst
    have q := coR_step (k := k) hR h0 hB (by omega) hc0 hk (by rw [← ewv, ← esv]; exact hst)
    exact ih _ (by rw [q.2.2]; omega) _ rfl q.2.1 q.1
  have hlt : 0 < wv → pC (wtS σ) ≤ 839 := by
    intro hw
    rw [wtS_C]
    obtain ⟨j, h1, h2, h3, _⟩ := hR
    omega
  have ewt : am_pi σ 51 41 (Int32.ofInt (wv - 1)) = wtS σ := by unfold wtS; rw [ewv]
  refine hA [(42, 3)] 40 _ _ _ _ _ ?_
  try simp only [dX12_comesOut_0, dX12_comesOut_1, FT_X12_275, dX12_comesOut_4, xX12_comesOut_t4, dX12_comesOut_7, dX12_comesOut_8, FT_X12_92, dX12_comesOut_11, dX12_comesOut_12, dX12_comesOut_15, dX12_comesOut_16, dX12_comesOut_17, dX12_comesOut_18, dX12_comesOut_19, dX12_comesOut_20, dX12_comesOut_22, xX12_comesOut_t22, dX12_comesOut_25, dX12_comesOut_26, xX12_comesOut_t26, dX12_comesOut_29, dX12_comesOut_30, dX12_comesOut_32, xX12_comesOut_t32, dX12_comesOut_35, dX12_comesOut_36, dX12_comesOut_38, xX12_comesOut_t38, dX12_comesOut_41, dX12_comesOut_42, dX12_comesOut_43, dX12_comesOut_44, dX12_comesOut_47, dX12_comesOut_48, dX12_comesOut_49, PT_X12_275, dX12_comesOut_52, dX12_comesOut_53, dX12_comesOut_54, dX12_comesOut_56, xX12_comesOut_t56, dX12_comesOut_59, dX12_comesOut_60, xX12_comesOut_t60, dX12_comesOut_63, dX12_comesOut_64, dX12_comesOut_66, xX12_comesOut_t66, dX12_comesOut_69, dX12_comesOut_70, xX12_comesOut_t70, dX12_comesOut_73, dX12_comesOut_74, dX12_comesOut_76, xX12_comesOut_t76, dX12_comesOut_79, dX12_comesOut_80, xX12_comesOut_t80, dX12_comesOut_83, dX12_comesOut_84, dX12_comesOut_85, xX12_comesOut_c278, xX12_comesOut_n278, dX12_comesOut_88, xX12_comesOut_t88, dX12_comesOut_91, xX12_comesOut_SH, xX12_comesOut_KF, xX12_comesOut_rt, xX12_comesOut_FT, xX12_comesOut_PT, xX12_comesOut_CT, xX12_comesOut_KT, xX12_comesOut_LT, xX12_comesOut_NT, o_aload_n, o_bipush, o_dup, o_getfield, o_goto, o_iaload, o_iconst, o_ifCond_eq, o_ifCond_le, o_if_icmp_eq, o_if_icmp_ne, o_iload_n, o_invokevirtual, o_istore_n, o_isub, o_putfield, o_return_, SH_51, KF_51_41, KF_51_40, SH_76, am_ty, am_vc, am_opt, am_cl, am_find, am_ldi, am_ldl, am_lda, am_v, am_1, am_1l, am_1a, am_2, am_2l, am_ix, am_ri, am_arr, am_pf, am_rc, am_mask, am_lg, am_av, am_nat, fv_0, fv_1, fv_2, fv_3, fw_0, fw_1, List.getElem?_cons_zero, List.getElem?_cons_succ, List.set_cons_zero, List.set_cons_succ, List.length_cons, List.length_nil, List.take_succ_cons, List.take_zero, List.drop_succ_cons, List.drop_zero, List.reverse_cons, List.reverse_nil, List.nil_append, List.cons_append, List.append_nil, List.map_cons, List.map_nil, List.sum_cons, List.sum_nil, Value.category, Option.toList_some, Option.toList_none, Nat.reduceAdd, Nat.reduceLT, Nat.reduceLeDiff, Nat.reduceEqDiff, Nat.reduceSub, Nat.add_zero, Nat.le_refl, Nat.zero_le, Int.reduceNeg, Int.reduceLE, Int.reduceLT, true_and, and_true, and_self, if_true, if_false, ite_true, ite_false, eq_self_iff_true, reduceIte, reduceCtorEq, not_false_eq_true, not_true_eq_false, or_true, true_or, or_false, false_or, Nat.lt_irrefl, Nat.zero_lt_succ, e1]
  have fin : (pW σ = 0 ∨ 0 < pW σ ∧ stop s (sw σ (pW σ - 1).toNat)) → post none σ := hpost σ hB hR
  have at42 : 0 < wv → ¬ stop s sv → AA 42 [some (.ref 51), some (.int (Int32.ofInt s)), some (.int (Int32.ofInt sv))] [] 92 σ := by
    intro hw hst
    refine hA [(0, 2)] 40 _ _ _ _ _ ?_
    try simp only [dX12_comesOut_0, dX12_comesOut_1, FT_X12_275, dX12_comesOut_4, xX12_comesOut_t4, dX12_comesOut_7, dX12_comesOut_8, FT_X12_92, dX12_comesOut_11, dX12_comesOut_12, dX12_comesOut_15, dX12_comesOut_16, dX12_comesOut_17, dX12_comesOut_18, dX12_comesOut_19, dX12_comesOut_20, dX12_comesOut_22, xX12_comesOut_t22, dX12_comesOut_25, dX12_comesOut_26, xX12_comesOut_t26, dX12_comesOut_29, dX12_comesOut_30, dX12_comesOut_32, xX12_comesOut_t32, dX12_comesOut_35, dX12_comesOut_36, dX12_comesOut_38, xX12_comesOut_t38, dX12_comesOut_41, dX12_comesOut_42, dX12_comesOut_43, dX12_comesOut_44, dX12_comesOut_47, dX12_comesOut_48, dX12_comesOut_49, PT_X12_275, dX12_comesOut_52, dX12_comesOut_53, dX12_comesOut_54, dX12_comesOut_56, xX12_comesOut_t56, dX12_comesOut_59, dX12_comesOut_60, xX12_comesOut_t60, dX12_comesOut_63, dX12_comesOut_64, dX12_comesOut_66, xX12_comesOut_t66, dX12_comesOut_69, dX12_comesOut_70, xX12_comesOut_t70, dX12_comesOut_73, dX12_comesOut_74, dX12_comesOut_76, xX12_comesOut_t76, dX12_comesOut_79, dX12_comesOut_80, xX12_comesOut_t80, dX12_comesOut_83, dX12_comesOut_84, dX12_comesOut_85, xX12_comesOut_c278, xX12_comesOut_n278, dX12_comesOut_88, xX12_comesOut_t88, dX12_comesOut_91, xX12_comesOut_SH, xX12_comesOut_KF, xX12_comesOut_rt, xX12_comesOut_FT, xX12_comesOut_PT, xX12_comesOut_CT, xX12_comesOut_KT, xX12_comesOut_LT, xX12_comesOut_NT, o_aload_n, o_bipush, o_dup, o_getfield, o_goto, o_iaload, o_iconst, o_ifCond_eq, o_ifCond_le, o_if_icmp_eq, o_if_icmp_ne, o_iload_n, o_invokevirtual, o_istore_n, o_isub, o_putfield, o_return_, SH_51, KF_51_41, KF_51_40, SH_76, am_ty, am_vc, am_opt, am_cl, am_find, am_ldi, am_ldl, am_lda, am_v, am_1, am_1l, am_1a, am_2, am_2l, am_ix, am_ri, am_arr, am_pf, am_rc, am_mask, am_lg, am_av, am_nat, fv_0, fv_1, fv_2, fv_3, fw_0, fw_1, List.getElem?_cons_zero, List.getElem?_cons_succ, List.set_cons_zero, List.set_cons_succ, List.length_cons, List.length_nil, List.take_succ_cons, List.take_zero, List.drop_succ_cons, List.drop_zero, List.reverse_cons, List.reverse_nil, List.nil_append, List.cons_append, List.append_nil, List.map_cons, List.map_nil, List.sum_cons, List.sum_nil, Value.category, Option.toList_some, Option.toList_none, Nat.reduceAdd, Nat.reduceLT, Nat.reduceLeDiff, Nat.reduceEqDiff, Nat.reduceSub, Nat.add_zero, Nat.le_refl, Nat.zero_le, Int.reduceNeg, Int.reduceLE, Int.reduceLT, true_and, and_true, and_self, if_true, if_false, ite_true, ite_false, eq_self_iff_true, reduceIte, reduceCtorEq, not_false_eq_true, not_true_eq_false, or_true, true_or, or_false, false_or, Nat.lt_irrefl, Nat.zero_lt_succ, e1]
    try simp (disch := omega) only [ii_0, ii_1, ii_t, ii_add, ii_sub, ii_mul, ii_lt, ii_le, ii_eq, ij_in, ii_c, Int.toNat_natCast, Int.toNat_zero, Int.reduceToNat, Int.reduceEq, Int.reduceNe, Int.reduceLE, Int.reduceLT, Int.reduceAdd, Int.reduceSub, Int.reduceMul, Int.reduceNeg, Nat.reduceLT, Nat.reduceAdd, Nat.reduceMul, not_false_eq_true, not_true_eq_false, true_and, and_true, and_self, false_and, and_false, true_implies, false_implies, implies_true, forall_const, if_true, if_false, ite_true, ite_false, reduceIte, eq_self_iff_true, Int.natCast_nonneg, Int.zero_add, Int.add_zero, pi_s, pi_n, e1]
    rw [ewt]
    have em : ∀ k : Int, (2 ≤ k ∧ k ≤ 5) → sX12_emit [.ref 51, .int (Int32.ofInt k), .int (Int32.ofInt 0)] 92 (wtS σ) (fun v τ => AA 0 [some (.ref 51), some (.int (Int32.ofInt s)), none] v.toList 92 τ) := fun k hk => ⟨rfl, wtS_ok hB (by omega), hlt hw, k, 0, ⟨by omega, by omega⟩, ⟨by decide, by decide⟩, rfl, go k hw hk hst⟩
    refine ⟨fun _ => ⟨fun _ => ⟨fun _ => em 5 ⟨by decide, by decide⟩, fun _ => em 4 ⟨by decide, by decide⟩⟩, fun _ => em 3 ⟨by decide, by decide⟩⟩, fun _ => em 2 ⟨by decide, by decide⟩⟩
  by_cases hw : 0 < wv
  · try simp (disch := omega) only [ii_0, ii_1, ii_t, ii_add, ii_sub, ii_mul, ii_lt, ii_le, ii_eq, ij_in, ii_c, Int.toNat_natCast, Int.toNat_zero, Int.reduceToNat, Int.reduceEq, Int.reduceNe, Int.reduceLE, Int.reduceLT, Int.reduceAdd, Int.reduceSub, Int.reduceMul, Int.reduceNeg, Nat.reduceLT, Nat.reduceAdd, Nat.reduceMul, not_false_eq_true, not_true_eq_false, true_and, and_true, and_self, false_and, and_false, true_implies, false_implies, implies_true, forall_const, if_true, if_false, ite_true, ite_false, reduceIte, eq_self_iff_true, Int.natCast_nonneg, Int.zero_add, Int.add_zero, pi_s, pi_n, e1, e2]
    have sto : stop s sv → post none σ := fun q => fin (Or.inr ⟨by omega, by rw [← ewv, ← esv]; exact q⟩)
    exact ⟨fun q => absurd hw (by omega), fun _ => ⟨⟨by omega, by omega⟩, fun q => sto (Or.inl q), fun q6 => ⟨fun z => at42 hw (by unfold stop; omega), fun z => ⟨fun q => sto (Or.inr ⟨z, Or.inl q⟩), fun q8 => ⟨fun q9 => at42 hw (by unfold stop; omega), fun q => sto (Or.inr ⟨z, Or.inr q⟩)⟩⟩⟩⟩⟩
  · try simp (disch := omega) only [ii_0, ii_1, ii_t, ii_add, ii_sub, ii_mul, ii_lt, ii_le, ii_eq, ij_in, ii_c, Int.toNat_natCast, Int.toNat_zero, Int.reduceToNat, Int.reduceEq, Int.reduceNe, Int.reduceLE, Int.reduceLT, Int.reduceAdd, Int.reduceSub, Int.reduceMul, Int.reduceNeg, Nat.reduceLT, Nat.reduceAdd, Nat.reduceMul, not_false_eq_true, not_true_eq_false, true_and, and_true, and_self, false_and, and_false, true_implies, false_implies, implies_true, forall_const, if_true, if_false, ite_true, ite_false, reduceIte, eq_self_iff_true, Int.natCast_nonneg, Int.zero_add, Int.add_zero, pi_s, pi_n, e1]
    exact ⟨fun _ => fin (Or.inl (by omega)), fun q => absurd q (by omega)⟩
theorem ptX12_comesOut : am_B cX12_comesOut xX12_comesOut 3 0 sX12_comesOut := by
  intro n0 as σ post AA hA h
  obtain ⟨rfl, hB, hc, s, hs, rfl, h⟩ := h
  refine ⟨by simp [am_sl, Value.category], ?_⟩
  show AA 0 [some (.ref 51), some (.int (Int32.ofInt s)), none] [] 92 σ
  exact co_loop hA hB hc hs h _ σ rfl hB (coR_r hB)
theorem mX12_comesOut (l : Launch) : am_M l TB NB vwCl SH KF yX12_comesOut cX12_comesOut 3 none 3 0 0 sX12_comesOut := by
  refine am_M.of xX12_comesOut (by decide +kernel) TB_good GF rfl rfl rfl (by decide) ⟨FT_X12_ok, PT_X12_ok _, CT_X12_ok, KT_X12_ok, LT_X12_ok, NT_X12_ok, ?_⟩ ptX12_comesOut
  exact List.forall_mem_cons.mpr ⟨⟨yX12_emit, cX12_emit, 3, none, 2, 2, mX12_emit l, by decide, by decide, tb_at 1594 (by decide +kernel) (by decide +kernel), tb_at 120 (by decide +kernel) (by decide +kernel), ⟨by decide +kernel, by decide +kernel, by decide +kernel⟩, rfl, tb_at 1591 (by decide +kernel) (by decide +kernel), tb_at 1593 (by decide +kernel) (by decide +kernel), ⟨(RX12, TX12, 63), rfl, tb_at 57 (by decide +kernel) (by decide +kernel)⟩⟩, fun _ h => absurd h List.not_mem_nil⟩

