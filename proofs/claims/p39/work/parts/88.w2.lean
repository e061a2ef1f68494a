/-! THE REFERENCE'S EXPRESSIONS: its signs and codes as lists; unit and comesOut exactly. Printed from wip/am/chk/hand/r2.in. -/
/-- the lower n signs that wait, the upper first -/
def WLn (σ : am_S) : Nat → List Int
  | 0 => []
  | n + 1 => sw σ n :: WLn σ n
def WL (σ : am_S) : List Int := WLn σ (pW σ).toNat
/-- n codes from c on -/
def CLn (σ : am_S) (c : Nat) : Nat → List (Int × Int)
  | 0 => []
  | n + 1 => CLn σ c n ++ [(cd σ (c + n), cI σ (c + n))]
def CL (σ : am_S) (c : Nat) : List (Int × Int) := CLn σ c (pC σ - (c : Int)).toNat
theorem WLn_of {σ τ : am_S} : ∀ {n : Nat}, (∀ i, i < n → sw τ i = sw σ i) → WLn τ n = WLn σ n
  | 0, _ => rfl
  | n + 1, h => by simp only [WLn]; rw [h n (Nat.lt_succ_self n), WLn_of (fun i hi => h i (Nat.lt_succ_of_lt hi))]
theorem CLn_of {σ τ : am_S} {c : Nat} : ∀ {n : Nat}, (∀ i, c ≤ i → i < c + n → cd τ i = cd σ i ∧ cI τ i = cI σ i) → CLn τ c n = CLn σ c n
  | 0, _ => rfl
  | n + 1, h => by
    have a := h (c + n) (by omega) (by omega)
    simp only [CLn]
    rw [a.1, a.2, CLn_of (fun i x y => h i x (by omega))]
theorem CLn_len {σ : am_S} {c : Nat} : ∀ {n : Nat}, (CLn σ c n).length = n
  | 0 => rfl
  | n + 1 => by simp only [CLn, List.length_append, CLn_len, List.length_cons, List.length_nil]
theorem WL_TK {σ τ : am_S} (h : TK σ τ) : WL τ = WL σ := by unfold WL; rw [TK_W h]; exact WLn_of (fun i _ => TK_s h i)
theorem CL_TK {σ τ : am_S} {c : Nat} (h : TK σ τ) : CL τ c = CL σ c := by unfold CL; rw [TK_C h]; exact CLn_of (fun i _ _ => ⟨TK_c h i, TK_I h i⟩)
theorem WL_em {σ : am_S} {k v : Int} : WL (emS σ k v) = WL σ := by unfold WL; rw [emS_W]; exact WLn_of (fun i _ => emS_s i)
theorem CL_em {σ : am_S} {k v : Int} {c : Nat} (hk : 0 ≤ k ∧ k ≤ 5) (hv : -2147483648 ≤ v ∧ v < 2147483648) (hc : (c : Int) ≤ pC σ ∧ pC σ ≤ 839) : CL (emS σ k v) c = CL σ c ++ [(k, v)] := by
  unfold CL
  rw [emS_C ⟨by omega, hc.2⟩, show (pC σ + 1 - (c : Int)).toNat = (pC σ - (c : Int)).toNat + 1 by omega]
  simp only [CLn]
  rw [CLn_of (σ := σ) (fun i x y => by rw [emS_c hk, emS_i hv, if_neg (by omega), if_neg (by omega)]; exact ⟨rfl, rfl⟩), emS_c hk, emS_i hv, if_pos (by omega), if_pos (by omega)]
theorem WL_pop {σ : am_S} (hw : 0 < pW σ) : WL σ = sw σ (pW σ - 1).toNat :: WLn σ (pW σ - 1).toNat := by
  unfold WL
  rw [show (pW σ).toNat = (pW σ - 1).toNat + 1 by omega]
  rfl
/-- a sign comes out -/
theorem syF_1 {s : Bool} {σ : am_S} {c : Nat} (hB : sb_ok BB SH σ) (hw : 0 < pW σ) (hst : ¬ (sw σ (pW σ - 1).toNat = 6 ∨ (s = true ∧ (sw σ (pW σ - 1).toNat = 8 ∨ sw σ (pW σ - 1).toNat = 9)))) (hc : (c : Int) ≤ pC σ ∧ pC σ ≤ 839) : syF s (WL σ) (CL σ c) = syF s (WL (emS (wtS σ) (syO (sw σ (pW σ - 1).toNat)) 0)) (CL (emS (wtS σ) (syO (sw σ (pW σ - 1).toNat)) 0) c) := by
  have eo : 0 ≤ syO (sw σ (pW σ - 1).toNat) ∧ syO (sw σ (pW σ - 1).toNat) ≤ 5 := by
    unfold syO
    repeat' split
    all_goals decide
  have wb := pW_b hB
  have eC := wtS_C σ
  have eW : pW (wtS σ) = pW σ - 1 := by
    show ((am_pi σ 51 41 (Int32.ofInt (pW σ - 1))).1 51 41).toInt = _
    rw [pi_s, ii_t (by omega) (by omega)]
  have ecd : ∀ i, cd (wtS σ) i = cd σ i := fun i => by unfold cd wtS; rw [pi_n _ _ _ _ (fun z => absurd z.1 (by decide))]
  have ecI : ∀ i, cI (wtS σ) i = cI σ i := fun i => by unfold cI wtS; rw [pi_n _ _ _ _ (fun z => absurd z.1 (by decide))]
  have esw : ∀ i, sw (wtS σ) i = sw σ i := fun i => by unfold sw wtS; rw [pi_n _ _ _ _ (fun z => absurd z.1 (by decide))]
  have e1 : CL (wtS σ) c = CL σ c := by unfold CL; rw [eC]; exact CLn_of (fun i _ _ => ⟨ecd i, ecI i⟩)
  have e2 : WL (wtS σ) = WLn σ (pW σ - 1).toNat := by unfold WL; rw [eW]; exact WLn_of (fun i _ => esw i)
  rw [WL_em, CL_em eo ⟨by decide, by decide⟩ (by rw [eC]; exact hc), e1, e2, WL_pop hw]
  simp only [syF]
  rw [if_neg hst]
/-- unit -/
def unS (σ : am_S) : am_S := if pF σ = 0 ∧ kdT σ = 2 then goS (emS σ 0 (vlT σ)) else if pF σ = 0 ∧ 30 ≤ kdT σ ∧ kdT σ ≤ 38 then goS (emS σ 1 (kdT σ - 30)) else failS 1 σ
def xUnit (_ : List Value) (σ : am_S) (_ : Option Value) (τ : am_S) : Prop := τ = unS σ
def sX12_unitE : am_Sp := stW sX12_unit xUnit
def xX12_unitE : am_X := (SH, KF, none, FT_X12, PT_X12, CT_X12, KT_X12, LT_X12, NT_X12, [(206, 0, 2, 12, 0, 0, sX12_failE), (209, 0, 2, 12, 0, 0, sX12_is), (212, 0, 1, 12, 0, 0, sX12_goesOnE), (278, 0, 3, 12, 0, 0, sX12_emit)])
theorem xX12_unitE_SH : am_SH xX12_unitE = SH := rfl
theorem xX12_unitE_KF : am_KF xX12_unitE = KF := rfl
theorem xX12_unitE_rt : am_rt xX12_unitE = none := rfl
theorem xX12_unitE_FT : am_FT xX12_unitE = FT_X12 := rfl
theorem xX12_unitE_PT : am_PT xX12_unitE = PT_X12 := rfl
theorem xX12_unitE_CT : am_CT xX12_unitE = CT_X12 := rfl
theorem xX12_unitE_KT : am_KT xX12_unitE = KT_X12 := rfl
theorem xX12_unitE_LT : am_LT xX12_unitE = LT_X12 := rfl
theorem xX12_unitE_NT : am_NT xX12_unitE = NT_X12 := rfl
theorem xX12_unitE_c206 : am_find (am_ML xX12_unitE) 206 = some (0, 2, 12, 0, 0, sX12_failE) := rfl
theorem xX12_unitE_n206 : am_find NT_X12 206 = none := rfl
theorem xX12_unitE_c209 : am_find (am_ML xX12_unitE) 209 = some (0, 2, 12, 0, 0, sX12_is) := rfl
theorem xX12_unitE_n209 : am_find NT_X12 209 = none := rfl
theorem xX12_unitE_c212 : am_find (am_ML xX12_unitE) 212 = some (0, 1, 12, 0, 0, sX12_goesOnE) := rfl
theorem xX12_unitE_n212 : am_find NT_X12 212 = none := rfl
theorem xX12_unitE_c278 : am_find (am_ML xX12_unitE) 278 = some (0, 3, 12, 0, 0, sX12_emit) := rfl
theorem xX12_unitE_n278 : am_find NT_X12 278 = none := rfl
theorem xX12_unitE_t5 (k : Nat → Prop) : am_tg 5 (24) k = k 29 := am_tg_eq (by decide)
theorem xX12_unitE_t26 (k : Nat → Prop) : am_tg 26 (67) k = k 93 := am_tg_eq (by decide)
theorem xX12_unitE_t33 (k : Nat → Prop) : am_tg 33 (55) k = k 88 := am_tg_eq (by decide)
theorem xX12_unitE_t47 (k : Nat → Prop) : am_tg 47 (41) k = k 88 := am_tg_eq (by decide)
theorem xX12_unitE_t61 (k : Nat → Prop) : am_tg 61 (27) k = k 88 := am_tg_eq (by decide)
theorem xX12_unitE_t85 (k : Nat → Prop) : am_tg 85 (8) k = k 93 := am_tg_eq (by decide)

set_option maxRecDepth 100000 in
theorem ptX12_unitE : am_B cX12_unit xX12_unitE 1 0 sX12_unitE := by
  intro n0 as σ post AA hA h
  obtain ⟨rfl, hB, hc, rfl, h⟩ := h
  have t1 := pT_b hB
  obtain ⟨tv, etv⟩ : ∃ tv, tv = pT σ := ⟨_, rfl⟩
  have e1 : σ.1 51 11 = Int32.ofInt tv := by rw [etv]; exact ii_of _
  rw [← etv] at t1
  obtain ⟨fv, efv⟩ : ∃ fv, fv = pF σ := ⟨_, rfl⟩
  have e2 : σ.1 51 13 = Int32.ofInt fv := by rw [efv]; exact ii_of _
  have f1 := pF_b hB
  rw [← efv] at f1
  obtain ⟨kv, ekv⟩ : ∃ kv, kv = kdT σ := ⟨_, rfl⟩
  have e3 : σ.1 54 tv.toNat = Int32.ofInt kv := by rw [ekv, etv]; exact ii_of _
  obtain ⟨vv, evv⟩ : ∃ vv, vv = vlT σ := ⟨_, rfl⟩
  have e4 : σ.1 56 tv.toNat = Int32.ofInt vv := by rw [evv, etv]; exact ii_of _
  have k1 : -2147483648 ≤ kv := by rw [ekv]; exact ii_lo _
  have k2 : kv < 2147483648 := by rw [ekv]; exact ii_hi _
  have v1 : -2147483648 ≤ vv := by rw [evv]; exact ii_lo _
  have v2 : vv < 2147483648 := by rw [evv]; exact ii_hi _
  have xF : ¬ (fv = 0 ∧ kv = 2) → ¬ (fv = 0 ∧ 30 ≤ kv ∧ kv ≤ 38) → unS σ = failS 1 σ := fun q1 q2 => by
    unfold unS
    rw [← efv, ← ekv, if_neg q1, if_neg q2]
  have atF : ¬ (fv = 0 ∧ kv = 2) → ¬ (fv = 0 ∧ 30 ≤ kv ∧ kv ≤ 38) → AA 88 [some (.ref 51)] [] 92 σ := by
    intro q1 q2
    refine hA [] 3 _ _ _ _ _ ?_
    try simp only [dX12_unit_0, dX12_unit_1, dX12_unit_2, xX12_unitE_c209, xX12_unitE_n209, dX12_unit_5, xX12_unitE_t5, dX12_unit_8, dX12_unit_9, dX12_unit_10, dX12_unit_11, FT_X12_27, dX12_unit_14, dX12_unit_15, FT_X12_194, dX12_unit_18, dX12_unit_19, xX12_unitE_c278, xX12_unitE_n278, dX12_unit_22, dX12_unit_23, xX12_unitE_c212, xX12_unitE_n212, dX12_unit_26, xX12_unitE_t26, dX12_unit_29, dX12_unit_30, FT_X12_191, dX12_unit_33, xX12_unitE_t33, dX12_unit_36, dX12_unit_37, FT_X12_20, dX12_unit_40, dX12_unit_41, dX12_unit_44, dX12_unit_45, dX12_unit_47, xX12_unitE_t47, dX12_unit_50, dX12_unit_51, dX12_unit_54, dX12_unit_55, dX12_unit_58, dX12_unit_59, dX12_unit_61, xX12_unitE_t61, dX12_unit_64, dX12_unit_65, dX12_unit_66, dX12_unit_67, dX12_unit_70, dX12_unit_71, dX12_unit_74, dX12_unit_75, dX12_unit_77, dX12_unit_78, dX12_unit_81, dX12_unit_82, dX12_unit_85, xX12_unitE_t85, dX12_unit_88, dX12_unit_89, dX12_unit_90, xX12_unitE_c206, xX12_unitE_n206, dX12_unit_93, xX12_unitE_SH, xX12_unitE_KF, xX12_unitE_rt, xX12_unitE_FT, xX12_unitE_PT, xX12_unitE_CT, xX12_unitE_KT, xX12_unitE_LT, xX12_unitE_NT, o_aload_n, o_bipush, o_getfield, o_goto, o_iaload, o_iconst, o_ifCond_eq, o_ifCond_ne, o_if_icmp_gt, o_if_icmp_lt, o_invokevirtual, o_isub, o_return_, SH_51, KF_51_11, KF_51_13, KF_51_5, SH_54, KF_51_7, SH_56, am_ty, am_vc, am_opt, am_cl, am_find, am_ldi, am_ldl, am_lda, am_v, am_1, am_1l, am_1a, am_2, am_2l, am_ix, am_ri, am_arr, am_pf, am_rc, am_mask, am_lg, am_av, am_nat, fv_0, fv_1, fv_2, fv_3, fw_0, fw_1, List.getElem?_cons_zero, List.getElem?_cons_succ, List.set_cons_zero, List.set_cons_succ, List.length_cons, List.length_nil, List.take_succ_cons, List.take_zero, List.drop_succ_cons, List.drop_zero, List.reverse_cons, List.reverse_nil, List.nil_append, List.cons_append, List.append_nil, List.map_cons, List.map_nil, List.sum_cons, List.sum_nil, Value.category, Option.toList_some, Option.toList_none, Nat.reduceAdd, Nat.reduceLT, Nat.reduceLeDiff, Nat.reduceEqDiff, Nat.reduceSub, Nat.add_zero, Nat.le_refl, Nat.zero_le, Int.reduceNeg, Int.reduceLE, Int.reduceLT, true_and, and_true, and_self, if_true, if_false, ite_true, ite_false, eq_self_iff_true, reduceIte, reduceCtorEq, not_false_eq_true, not_true_eq_false, or_true, true_or, or_false, false_or, Nat.lt_irrefl, Nat.zero_lt_succ]
    refine ⟨rfl, hB, ⟨rfl, ⟨_, rfl, by decide, by decide⟩, trivial⟩, fun v τ hTK hq hx => ?_⟩
    obtain ⟨rfl, hq⟩ := hq
    try simp only [dX12_unit_0, dX12_unit_1, dX12_unit_2, xX12_unitE_c209, xX12_unitE_n209, dX12_unit_5, xX12_unitE_t5, dX12_unit_8, dX12_unit_9, dX12_unit_10, dX12_unit_11, FT_X12_27, dX12_unit_14, dX12_unit_15, FT_X12_194, dX12_unit_18, dX12_unit_19, xX12_unitE_c278, xX12_unitE_n278, dX12_unit_22, dX12_unit_23, xX12_unitE_c212, xX12_unitE_n212, dX12_unit_26, xX12_unitE_t26, dX12_unit_29, dX12_unit_30, FT_X12_191, dX12_unit_33, xX12_unitE_t33, dX12_unit_36, dX12_unit_37, FT_X12_20, dX12_unit_40, dX12_unit_41, dX12_unit_44, dX12_unit_45, dX12_unit_47, xX12_unitE_t47, dX12_unit_50, dX12_unit_51, dX12_unit_54, dX12_unit_55, dX12_unit_58, dX12_unit_59, dX12_unit_61, xX12_unitE_t61, dX12_unit_64, dX12_unit_65, dX12_unit_66, dX12_unit_67, dX12_unit_70, dX12_unit_71, dX12_unit_74, dX12_unit_75, dX12_unit_77, dX12_unit_78, dX12_unit_81, dX12_unit_82, dX12_unit_85, xX12_unitE_t85, dX12_unit_88, dX12_unit_89, dX12_unit_90, xX12_unitE_c206, xX12_unitE_n206, dX12_unit_93, xX12_unitE_SH, xX12_unitE_KF, xX12_unitE_rt, xX12_unitE_FT, xX12_unitE_PT, xX12_unitE_CT, xX12_unitE_KT, xX12_unitE_LT, xX12_unitE_NT, o_aload_n, o_bipush, o_getfield, o_goto, o_iaload, o_iconst, o_ifCond_eq, o_ifCond_ne, o_if_icmp_gt, o_if_icmp_lt, o_invokevirtual, o_isub, o_return_, SH_51, KF_51_11, KF_51_13, KF_51_5, SH_54, KF_51_7, SH_56, am_ty, am_vc, am_opt, am_cl, am_find, am_ldi, am_ldl, am_lda, am_v, am_1, am_1l, am_1a, am_2, am_2l, am_ix, am_ri, am_arr, am_pf, am_rc, am_mask, am_lg, am_av, am_nat, fv_0, fv_1, fv_2, fv_3, fw_0, fw_1, List.getElem?_cons_zero, List.getElem?_cons_succ, List.set_cons_zero, List.set_cons_succ, List.length_cons, List.length_nil, List.take_succ_cons, List.take_zero, List.drop_succ_cons, List.drop_zero, List.reverse_cons, List.reverse_nil, List.nil_append, List.cons_append, List.append_nil, List.map_cons, List.map_nil, List.sum_cons, List.sum_nil, Value.category, Option.toList_some, Option.toList_none, Nat.reduceAdd, Nat.reduceLT, Nat.reduceLeDiff, Nat.reduceEqDiff, Nat.reduceSub, Nat.add_zero, Nat.le_refl, Nat.zero_le, Int.reduceNeg, Int.reduceLE, Int.reduceLT, true_and, and_true, and_self, if_true, if_false, ite_true, ite_false, eq_self_iff_true, reduceIte, reduceCtorEq, not_false_eq_true, not_true_eq_false, or_true, true_or, or_false, false_or, Nat.lt_irrefl, Nat.zero_lt_succ]
    refine hA [] 2 _ _ _ _ _ ?_
    try simp only [dX12_unit_0, dX12_unit_1, dX12_unit_2, xX12_unitE_c209, xX12_unitE_n209, dX12_unit_5, xX12_unitE_t5, dX12_unit_8, dX12_unit_9, dX12_unit_10, dX12_unit_11, FT_X12_27, dX12_unit_14, dX12_unit_15, FT_X12_194, dX12_unit_18, dX12_unit_19, xX12_unitE_c278, xX12_unitE_n278, dX12_unit_22, dX12_unit_23, xX12_unitE_c212, xX12_unitE_n212, dX12_unit_26, xX12_unitE_t26, dX12_unit_29, dX12_unit_30, FT_X12_191, dX12_unit_33, xX12_unitE_t33, dX12_unit_36, dX12_unit_37, FT_X12_20, dX12_unit_40, dX12_unit_41, dX12_unit_44, dX12_unit_45, dX12_unit_47, xX12_unitE_t47, dX12_unit_50, dX12_unit_51, dX12_unit_54, dX12_unit_55, dX12_unit_58, dX12_unit_59, dX12_unit_61, xX12_unitE_t61, dX12_unit_64, dX12_unit_65, dX12_unit_66, dX12_unit_67, dX12_unit_70, dX12_unit_71, dX12_unit_74, dX12_unit_75, dX12_unit_77, dX12_unit_78, dX12_unit_81, dX12_unit_82, dX12_unit_85, xX12_unitE_t85, dX12_unit_88, dX12_unit_89, dX12_unit_90, xX12_unitE_c206, xX12_unitE_n206, dX12_unit_93, xX12_unitE_SH, xX12_unitE_KF, xX12_unitE_rt, xX12_unitE_FT, xX12_unitE_PT, xX12_unitE_CT, xX12_unitE_KT, xX12_unitE_LT, xX12_unitE_NT, o_aload_n, o_bipush, o_getfield, o_goto, o_iaload, o_iconst, o_ifCond_eq, o_ifCond_ne, o_if_icmp_gt, o_if_icmp_lt, o_invokevirtual, o_isub, o_return_, SH_51, KF_51_11, KF_51_13, KF_51_5, SH_54, KF_51_7, SH_56, am_ty, am_vc, am_opt, am_cl, am_find, am_ldi, am_ldl, am_lda, am_v, am_1, am_1l, am_1a, am_2, am_2l, am_ix, am_ri, am_arr, am_pf, am_rc, am_mask, am_lg, am_av, am_nat, fv_0, fv_1, fv_2, fv_3, fw_0, fw_1, List.getElem?_cons_zero, List.getElem?_cons_succ, List.set_cons_zero, List.set_cons_succ, List.length_cons, List.length_nil, List.take_succ_cons, List.take_zero, List.drop_succ_cons, List.drop_zero, List.reverse_cons, List.reverse_nil, List.nil_append, List.cons_append, List.append_nil, List.map_cons, List.map_nil, List.sum_cons, List.sum_nil, Value.category, Option.toList_some, Option.toList_none, Nat.reduceAdd, Nat.reduceLT, Nat.reduceLeDiff, Nat.reduceEqDiff, Nat.reduceSub, Nat.add_zero, Nat.le_refl, Nat.zero_le, Int.reduceNeg, Int.reduceLE, Int.reduceLT, true_and, and_true, and_self, if_true, if_false, ite_true, ite_false, eq_self_iff_true, reduceIte, reduceCtorEq, not_false_eq_true, not_true_eq_false, or_true, true_or, or_false, false_or, Nat.lt_irrefl, Nat.zero_lt_succ]
    exact h τ (Or.inl ⟨hTK, hq⟩) ((hx 1 ⟨by decide, by decide⟩ rfl).trans (xF q1 q2).symm)
  refine ⟨by simp [am_sl, Value.category], ?_⟩
  show AA 0 [some (.ref 51)] [] 92 σ
  refine hA [] 3 _ _ _ _ _ ?_
  try simp only [dX12_unit_0, dX12_unit_1, dX12_unit_2, xX12_unitE_c209, xX12_unitE_n209, dX12_unit_5, xX12_unitE_t5, dX12_unit_8, dX12_unit_9, dX12_unit_10, dX12_unit_11, FT_X12_27, dX12_unit_14, dX12_unit_15, FT_X12_194, dX12_unit_18, dX12_unit_19, xX12_unitE_c278, xX12_unitE_n278, dX12_unit_22, dX12_unit_23, xX12_unitE_c212, xX12_unitE_n212, dX12_unit_26, xX12_unitE_t26, dX12_unit_29, dX12_unit_30, FT_X12_191, dX12_unit_33, xX12_unitE_t33, dX12_unit_36, dX12_unit_37, FT_X12_20, dX12_unit_40, dX12_unit_41, dX12_unit_44, dX12_unit_45, dX12_unit_47, xX12_unitE_t47, dX12_unit_50, dX12_unit_51, dX12_unit_54, dX12_unit_55, dX12_unit_58, dX12_unit_59, dX12_unit_61, xX12_unitE_t61, dX12_unit_64, dX12_unit_65, dX12_unit_66, dX12_unit_67, dX12_unit_70, dX12_unit_71, dX12_unit_74, dX12_unit_75, dX12_unit_77, dX12_unit_78, dX12_unit_81, dX12_unit_82, dX12_unit_85, xX12_unitE_t85, dX12_unit_88, dX12_unit_89, dX12_unit_90, xX12_unitE_c206, xX12_unitE_n206, dX12_unit_93, xX12_unitE_SH, xX12_unitE_KF, xX12_unitE_rt, xX12_unitE_FT, xX12_unitE_PT, xX12_unitE_CT, xX12_unitE_KT, xX12_unitE_LT, xX12_unitE_NT, o_aload_n, o_bipush, o_getfield, o_goto, o_iaload, o_iconst, o_ifCond_eq, o_ifCond_ne, o_if_icmp_gt, o_if_icmp_lt, o_invokevirtual, o_isub, o_return_, SH_51, KF_51_11, KF_51_13, KF_51_5, SH_54, KF_51_7, SH_56, am_ty, am_vc, am_opt, am_cl, am_find, am_ldi, am_ldl, am_lda, am_v, am_1, am_1l, am_1a, am_2, am_2l, am_ix, am_ri, am_arr, am_pf, am_rc, am_mask, am_lg, am_av, am_nat, fv_0, fv_1, fv_2, fv_3, fw_0, fw_1, List.getElem?_cons_zero, List.getElem?_cons_succ, List.set_cons_zero, List.set_cons_succ, List.length_cons, List.length_nil, List.take_succ_cons, List.take_zero, List.drop_succ_cons, List.drop_zero, List.reverse_cons, List.reverse_nil, List.nil_append, List.cons_append, List.append_nil, List.map_cons, List.map_nil, List.sum_cons, List.sum_nil, Value.category, Option.toList_some, Option.toList_none, Nat.reduceAdd, Nat.reduceLT, Nat.reduceLeDiff, Nat.reduceEqDiff, Nat.reduceSub, Nat.add_zero, Nat.le_refl, Nat.zero_le, Int.reduceNeg, Int.reduceLE, Int.reduceLT, true_and, and_true, and_self, if_true, if_false, ite_true, ite_false, eq_self_iff_true, reduceIte, reduceCtorEq, not_false_eq_true, not_true_eq_false, or_true, true_or, or_false, false_or, Nat.lt_irrefl, Nat.zero_lt_succ]
  refine ⟨rfl, hB, 2, ⟨by decide, by decide⟩, rfl, fun z hz => ?_⟩
  try simp only [dX12_unit_0, dX12_unit_1, dX12_unit_2, xX12_unitE_c209, xX12_unitE_n209, dX12_unit_5, xX12_unitE_t5, dX12_unit_8, dX12_unit_9, dX12_unit_10, dX12_unit_11, FT_X12_27, dX12_unit_14, dX12_unit_15, FT_X12_194, dX12_unit_18, dX12_unit_19, xX12_unitE_c278, xX12_unitE_n278, dX12_unit_22, dX12_unit_23, xX12_unitE_c212, xX12_unitE_n212, dX12_unit_26, xX12_unitE_t26, dX12_unit_29, dX12_unit_30, FT_X12_191, dX12_unit_33, xX12_unitE_t33, dX12_unit_36, dX12_unit_37, FT_X12_20, dX12_unit_40, dX12_unit_41, dX12_unit_44, dX12_unit_45, dX12_unit_47, xX12_unitE_t47, dX12_unit_50, dX12_unit_51, dX12_unit_54, dX12_unit_55, dX12_unit_58, dX12_unit_59, dX12_unit_61, xX12_unitE_t61, dX12_unit_64, dX12_unit_65, dX12_unit_66, dX12_unit_67, dX12_unit_70, dX12_unit_71, dX12_unit_74, dX12_unit_75, dX12_unit_77, dX12_unit_78, dX12_unit_81, dX12_unit_82, dX12_unit_85, xX12_unitE_t85, dX12_unit_88, dX12_unit_89, dX12_unit_90, xX12_unitE_c206, xX12_unitE_n206, dX12_unit_93, xX12_unitE_SH, xX12_unitE_KF, xX12_unitE_rt, xX12_unitE_FT, xX12_unitE_PT, xX12_unitE_CT, xX12_unitE_KT, xX12_unitE_LT, xX12_unitE_NT, o_aload_n, o_bipush, o_getfield, o_goto, o_iaload, o_iconst, o_ifCond_eq, o_ifCond_ne, o_if_icmp_gt, o_if_icmp_lt, o_invokevirtual, o_isub, o_return_, SH_51, KF_51_11, KF_51_13, KF_51_5, SH_54, KF_51_7, SH_56, am_ty, am_vc, am_opt, am_cl, am_find, am_ldi, am_ldl, am_lda, am_v, am_1, am_1l, am_1a, am_2, am_2l, am_ix, am_ri, am_arr, am_pf, am_rc, am_mask, am_lg, am_av, am_nat, fv_0, fv_1, fv_2, fv_3, fw_0, fw_1, List.getElem?_cons_zero, List.getElem?_cons_succ, List.set_cons_zero, List.set_cons_succ, List.length_cons, List.length_nil, List.take_succ_cons, List.take_zero, List.drop_succ_cons, List.drop_zero, List.reverse_cons, List.reverse_nil, List.nil_append, List.cons_append, List.append_nil, List.map_cons, List.map_nil, List.sum_cons, List.sum_nil, Value.category, Option.toList_some, Option.toList_none, Nat.reduceAdd, Nat.reduceLT, Nat.reduceLeDiff, Nat.reduceEqDiff, Nat.reduceSub, Nat.add_zero, Nat.le_refl, Nat.zero_le, Int.reduceNeg, Int.reduceLE, Int.reduceLT, true_and, and_true, and_self, if_true, if_false, ite_true, ite_false, eq_self_iff_true, reduceIte, reduceCtorEq, not_false_eq_true, not_true_eq_false, or_true, true_or, or_false, false_or, Nat.lt_irrefl, Nat.zero_lt_succ]
  rcases hz with ⟨rfl, hz1, hz2⟩ | ⟨rfl, hz⟩
  · have hz2 : kv = 2 := by rw [ekv]; exact hz2
    refine hA [] 10 _ _ _ _ _ ?_
    try simp only [dX12_unit_0, dX12_unit_1, dX12_unit_2, xX12_unitE_c209, xX12_unitE_n209, dX12_unit_5, xX12_unitE_t5, dX12_unit_8, dX12_unit_9, dX12_unit_10, dX12_unit_11, FT_X12_27, dX12_unit_14, dX12_unit_15, FT_X12_194, dX12_unit_18, dX12_unit_19, xX12_unitE_c278, xX12_unitE_n278, dX12_unit_22, dX12_unit_23, xX12_unitE_c212, xX12_unitE_n212, dX12_unit_26, xX12_unitE_t26, dX12_unit_29, dX12_unit_30, FT_X12_191, dX12_unit_33, xX12_unitE_t33, dX12_unit_36, dX12_unit_37, FT_X12_20, dX12_unit_40, dX12_unit_41, dX12_unit_44, dX12_unit_45, dX12_unit_47, xX12_unitE_t47, dX12_unit_50, dX12_unit_51, dX12_unit_54, dX12_unit_55, dX12_unit_58, dX12_unit_59, dX12_unit_61, xX12_unitE_t61, dX12_unit_64, dX12_unit_65, dX12_unit_66, dX12_unit_67, dX12_unit_70, dX12_unit_71, dX12_unit_74, dX12_unit_75, dX12_unit_77, dX12_unit_78, dX12_unit_81, dX12_unit_82, dX12_unit_85, xX12_unitE_t85, dX12_unit_88, dX12_unit_89, dX12_unit_90, xX12_unitE_c206, xX12_unitE_n206, dX12_unit_93, xX12_unitE_SH, xX12_unitE_KF, xX12_unitE_rt, xX12_unitE_FT, xX12_unitE_PT, xX12_unitE_CT, xX12_unitE_KT, xX12_unitE_LT, xX12_unitE_NT, o_aload_n, o_bipush, o_getfield, o_goto, o_iaload, o_iconst, o_ifCond_eq, o_ifCond_ne, o_if_icmp_gt, o_if_icmp_lt, o_invokevirtual, o_isub, o_return_, SH_51, KF_51_11, KF_51_13, KF_51_5, SH_54, KF_51_7, SH_56, am_ty, am_vc, am_opt, am_cl, am_find, am_ldi, am_ldl, am_lda, am_v, am_1, am_1l, am_1a, am_2, am_2l, am_ix, am_ri, am_arr, am_pf, am_rc, am_mask, am_lg, am_av, am_nat, fv_0, fv_1, fv_2, fv_3, fw_0, fw_1, List.getElem?_cons_zero, List.getElem?_cons_succ, List.set_cons_zero, List.set_cons_succ, List.length_cons, List.length_nil, List.take_succ_cons, List.take_zero, List.drop_succ_cons, List.drop_zero, List.reverse_cons, List.reverse_nil, List.nil_append, List.cons_append, List.append_nil, List.map_cons, List.map_nil, List.sum_cons, List.sum_nil, Value.category, Option.toList_some, Option.toList_none, Nat.reduceAdd, Nat.reduceLT, Nat.reduceLeDiff, Nat.reduceEqDiff, Nat.reduceSub, Nat.add_zero, Nat.le_refl, Nat.zero_le, Int.reduceNeg, Int.reduceLE, Int.reduceLT, true_and, and_true, and_self, if_true, if_false, ite_true, ite_false, eq_self_iff_true, reduceIte, reduceCtorEq, not_false_eq_true, not_true_eq_false, or_true, true_or, or_false, false_or, Nat.lt_irrefl, Nat.zero_lt_succ, e1]
    try simp (disch := omega) only [ii_0, ii_1, ii_t, ii_add, ii_sub, ii_mul, ii_lt, ii_le, ii_eq, ij_in, ii_c, Int.toNat_natCast, Int.toNat_zero, Int.reduceToNat, Int.reduceEq, Int.reduceNe, Int.reduceLE, Int.reduceLT, Int.reduceAdd, Int.reduceSub, Int.reduceMul, Int.reduceNeg, Nat.reduceLT, Nat.reduceAdd, Nat.reduceMul, not_false_eq_true, not_true_eq_false, true_and, and_true, and_self, false_and, and_false, true_implies, false_implies, implies_true, forall_const, if_true, if_false, ite_true, ite_false, reduceIte, eq_self_iff_true, Int.natCast_nonneg, Int.zero_add, Int.add_zero, pi_s, pi_n, e1, e4]
    refine ⟨⟨by omega, by omega⟩, rfl, hB, hc, 0, vv, ⟨by omega, by omega⟩, ⟨v1, v2⟩, rfl, ?_⟩
    try simp only [dX12_unit_0, dX12_unit_1, dX12_unit_2, xX12_unitE_c209, xX12_unitE_n209, dX12_unit_5, xX12_unitE_t5, dX12_unit_8, dX12_unit_9, dX12_unit_10, dX12_unit_11, FT_X12_27, dX12_unit_14, dX12_unit_15, FT_X12_194, dX12_unit_18, dX12_unit_19, xX12_unitE_c278, xX12_unitE_n278, dX12_unit_22, dX12_unit_23, xX12_unitE_c212, xX12_unitE_n212, dX12_unit_26, xX12_unitE_t26, dX12_unit_29, dX12_unit_30, FT_X12_191, dX12_unit_33, xX12_unitE_t33, dX12_unit_36, dX12_unit_37, FT_X12_20, dX12_unit_40, dX12_unit_41, dX12_unit_44, dX12_unit_45, dX12_unit_47, xX12_unitE_t47, dX12_unit_50, dX12_unit_51, dX12_unit_54, dX12_unit_55, dX12_unit_58, dX12_unit_59, dX12_unit_61, xX12_unitE_t61, dX12_unit_64, dX12_unit_65, dX12_unit_66, dX12_unit_67, dX12_unit_70, dX12_unit_71, dX12_unit_74, dX12_unit_75, dX12_unit_77, dX12_unit_78, dX12_unit_81, dX12_unit_82, dX12_unit_85, xX12_unitE_t85, dX12_unit_88, dX12_unit_89, dX12_unit_90, xX12_unitE_c206, xX12_unitE_n206, dX12_unit_93, xX12_unitE_SH, xX12_unitE_KF, xX12_unitE_rt, xX12_unitE_FT, xX12_unitE_PT, xX12_unitE_CT, xX12_unitE_KT, xX12_unitE_LT, xX12_unitE_NT, o_aload_n, o_bipush, o_getfield, o_goto, o_iaload, o_iconst, o_ifCond_eq, o_ifCond_ne, o_if_icmp_gt, o_if_icmp_lt, o_invokevirtual, o_isub, o_return_, SH_51, KF_51_11, KF_51_13, KF_51_5, SH_54, KF_51_7, SH_56, am_ty, am_vc, am_opt, am_cl, am_find, am_ldi, am_ldl, am_lda, am_v, am_1, am_1l, am_1a, am_2, am_2l, am_ix, am_ri, am_arr, am_pf, am_rc, am_mask, am_lg, am_av, am_nat, fv_0, fv_1, fv_2, fv_3, fw_0, fw_1, List.getElem?_cons_zero, List.getElem?_cons_succ, List.set_cons_zero, List.set_cons_succ, List.length_cons, List.length_nil, List.take_succ_cons, List.take_zero, List.drop_succ_cons, List.drop_zero, List.reverse_cons, List.reverse_nil, List.nil_append, List.cons_append, List.append_nil, List.map_cons, List.map_nil, List.sum_cons, List.sum_nil, Value.category, Option.toList_some, Option.toList_none, Nat.reduceAdd, Nat.reduceLT, Nat.reduceLeDiff, Nat.reduceEqDiff, Nat.reduceSub, Nat.add_zero, Nat.le_refl, Nat.zero_le, Int.reduceNeg, Int.reduceLE, Int.reduceLT, true_and, and_true, and_self, if_true, if_false, ite_true, ite_false, eq_self_iff_true, reduceIte, reduceCtorEq, not_false_eq_true, not_true_eq_false, or_true, true_or, or_false, false_or, Nat.lt_irrefl, Nat.zero_lt_succ]
    refine hA [] 3 _ _ _ _ _ ?_
    try simp only [dX12_unit_0, dX12_unit_1, dX12_unit_2, xX12_unitE_c209, xX12_unitE_n209, dX12_unit_5, xX12_unitE_t5, dX12_unit_8, dX12_unit_9, dX12_unit_10, dX12_unit_11, FT_X12_27, dX12_unit_14, dX12_unit_15, FT_X12_194, dX12_unit_18, dX12_unit_19, xX12_unitE_c278, xX12_unitE_n278, dX12_unit_22, dX12_unit_23, xX12_unitE_c212, xX12_unitE_n212, dX12_unit_26, xX12_unitE_t26, dX12_unit_29, dX12_unit_30, FT_X12_191, dX12_unit_33, xX12_unitE_t33, dX12_unit_36, dX12_unit_37, FT_X12_20, dX12_unit_40, dX12_unit_41, dX12_unit_44, dX12_unit_45, dX12_unit_47, xX12_unitE_t47, dX12_unit_50, dX12_unit_51, dX12_unit_54, dX12_unit_55, dX12_unit_58, dX12_unit_59, dX12_unit_61, xX12_unitE_t61, dX12_unit_64, dX12_unit_65, dX12_unit_66, dX12_unit_67, dX12_unit_70, dX12_unit_71, dX12_unit_74, dX12_unit_75, dX12_unit_77, dX12_unit_78, dX12_unit_81, dX12_unit_82, dX12_unit_85, xX12_unitE_t85, dX12_unit_88, dX12_unit_89, dX12_unit_90, xX12_unitE_c206, xX12_unitE_n206, dX12_unit_93, xX12_unitE_SH, xX12_unitE_KF, xX12_unitE_rt, xX12_unitE_FT, xX12_unitE_PT, xX12_unitE_CT, xX12_unitE_KT, xX12_unitE_LT, xX12_unitE_NT, o_aload_n, o_bipush, o_getfield, o_goto, o_iaload, o_iconst, o_ifCond_eq, o_ifCond_ne, o_if_icmp_gt, o_if_icmp_lt, o_invokevirtual, o_isub, o_return_, SH_51, KF_51_11, KF_51_13, KF_51_5, SH_54, KF_51_7, SH_56, am_ty, am_vc, am_opt, am_cl, am_find, am_ldi, am_ldl, am_lda, am_v, am_1, am_1l, am_1a, am_2, am_2l, am_ix, am_ri, am_arr, am_pf, am_rc, am_mask, am_lg, am_av, am_nat, fv_0, fv_1, fv_2, fv_3, fw_0, fw_1, List.getElem?_cons_zero, List.getElem?_cons_succ, List.set_cons_zero, List.set_cons_succ, List.length_cons, List.length_nil, List.take_succ_cons, List.take_zero, List.drop_succ_cons, List.drop_zero, List.reverse_cons, List.reverse_nil, List.nil_append, List.cons_append, List.append_nil, List.map_cons, List.map_nil, List.sum_cons, List.sum_nil, Value.category, Option.toList_some, Option.toList_none, Nat.reduceAdd, Nat.reduceLT, Nat.reduceLeDiff, Nat.reduceEqDiff, Nat.reduceSub, Nat.add_zero, Nat.le_refl, Nat.zero_le, Int.reduceNeg, Int.reduceLE, Int.reduceLT, true_and, and_true, and_self, if_true, if_false, ite_true, ite_false, eq_self_iff_true, reduceIte, reduceCtorEq, not_false_eq_true, not_true_eq_false, or_true, true_or, or_false, false_or, Nat.lt_irrefl, Nat.zero_lt_succ]
    refine ⟨rfl, emS_ok hB ⟨by omega, by omega⟩ hc, ⟨rfl, trivial⟩, fun v τ hTK hq hx => ?_⟩
    obtain ⟨rfl, hq⟩ := hq
    try simp only [dX12_unit_0, dX12_unit_1, dX12_unit_2, xX12_unitE_c209, xX12_unitE_n209, dX12_unit_5, xX12_unitE_t5, dX12_unit_8, dX12_unit_9, dX12_unit_10, dX12_unit_11, FT_X12_27, dX12_unit_14, dX12_unit_15, FT_X12_194, dX12_unit_18, dX12_unit_19, xX12_unitE_c278, xX12_unitE_n278, dX12_unit_22, dX12_unit_23, xX12_unitE_c212, xX12_unitE_n212, dX12_unit_26, xX12_unitE_t26, dX12_unit_29, dX12_unit_30, FT_X12_191, dX12_unit_33, xX12_unitE_t33, dX12_unit_36, dX12_unit_37, FT_X12_20, dX12_unit_40, dX12_unit_41, dX12_unit_44, dX12_unit_45, dX12_unit_47, xX12_unitE_t47, dX12_unit_50, dX12_unit_51, dX12_unit_54, dX12_unit_55, dX12_unit_58, dX12_unit_59, dX12_unit_61, xX12_unitE_t61, dX12_unit_64, dX12_unit_65, dX12_unit_66, dX12_unit_67, dX12_unit_70, dX12_unit_71, dX12_unit_74, dX12_unit_75, dX12_unit_77, dX12_unit_78, dX12_unit_81, dX12_unit_82, dX12_unit_85, xX12_unitE_t85, dX12_unit_88, dX12_unit_89, dX12_unit_90, xX12_unitE_c206, xX12_unitE_n206, dX12_unit_93, xX12_unitE_SH, xX12_unitE_KF, xX12_unitE_rt, xX12_unitE_FT, xX12_unitE_PT, xX12_unitE_CT, xX12_unitE_KT, xX12_unitE_LT, xX12_unitE_NT, o_aload_n, o_bipush, o_getfield, o_goto, o_iaload, o_iconst, o_ifCond_eq, o_ifCond_ne, o_if_icmp_gt, o_if_icmp_lt, o_invokevirtual, o_isub, o_return_, SH_51, KF_51_11, KF_51_13, KF_51_5, SH_54, KF_51_7, SH_56, am_ty, am_vc, am_opt, am_cl, am_find, am_ldi, am_ldl, am_lda, am_v, am_1, am_1l, am_1a, am_2, am_2l, am_ix, am_ri, am_arr, am_pf, am_rc, am_mask, am_lg, am_av, am_nat, fv_0, fv_1, fv_2, fv_3, fw_0, fw_1, List.getElem?_cons_zero, List.getElem?_cons_succ, List.set_cons_zero, List.set_cons_succ, List.length_cons, List.length_nil, List.take_succ_cons, List.take_zero, List.drop_succ_cons, List.drop_zero, List.reverse_cons, List.reverse_nil, List.nil_append, List.cons_append, List.append_nil, List.map_cons, List.map_nil, List.sum_cons, List.sum_nil, Value.category, Option.toList_some, Option.toList_none, Nat.reduceAdd, Nat.reduceLT, Nat.reduceLeDiff, Nat.reduceEqDiff, Nat.reduceSub, Nat.add_zero, Nat.le_refl, Nat.zero_le, Int.reduceNeg, Int.reduceLE, Int.reduceLT, true_and, and_true, and_self, if_true, if_false, ite_true, ite_false, eq_self_iff_true, reduceIte, reduceCtorEq, not_false_eq_true, not_true_eq_false, or_true, true_or, or_false, false_or, Nat.lt_irrefl, Nat.zero_lt_succ]
    exact h τ (Or.inr ⟨0, vv, hz1, Or.inl rfl, ⟨v1, v2⟩, hTK, hq⟩) (by
      have hx : τ = goS (emS σ 0 vv) := hx
      rw [hx]
      show _ = unS σ
      unfold unS
      rw [← ekv, if_pos ⟨hz1, hz2⟩, evv])
  · have hn2 : ¬ (fv = 0 ∧ kv = 2) := fun q => hz ⟨by omega, by rw [← q.2, ekv]; rfl⟩
    refine hA [(88, 1), (64, 1)] 30 _ _ _ _ _ ?_
    try simp only [dX12_unit_0, dX12_unit_1, dX12_unit_2, xX12_unitE_c209, xX12_unitE_n209, dX12_unit_5, xX12_unitE_t5, dX12_unit_8, dX12_unit_9, dX12_unit_10, dX12_unit_11, FT_X12_27, dX12_unit_14, dX12_unit_15, FT_X12_194, dX12_unit_18, dX12_unit_19, xX12_unitE_c278, xX12_unitE_n278, dX12_unit_22, dX12_unit_23, xX12_unitE_c212, xX12_unitE_n212, dX12_unit_26, xX12_unitE_t26, dX12_unit_29, dX12_unit_30, FT_X12_191, dX12_unit_33, xX12_unitE_t33, dX12_unit_36, dX12_unit_37, FT_X12_20, dX12_unit_40, dX12_unit_41, dX12_unit_44, dX12_unit_45, dX12_unit_47, xX12_unitE_t47, dX12_unit_50, dX12_unit_51, dX12_unit_54, dX12_unit_55, dX12_unit_58, dX12_unit_59, dX12_unit_61, xX12_unitE_t61, dX12_unit_64, dX12_unit_65, dX12_unit_66, dX12_unit_67, dX12_unit_70, dX12_unit_71, dX12_unit_74, dX12_unit_75, dX12_unit_77, dX12_unit_78, dX12_unit_81, dX12_unit_82, dX12_unit_85, xX12_unitE_t85, dX12_unit_88, dX12_unit_89, dX12_unit_90, xX12_unitE_c206, xX12_unitE_n206, dX12_unit_93, xX12_unitE_SH, xX12_unitE_KF, xX12_unitE_rt, xX12_unitE_FT, xX12_unitE_PT, xX12_unitE_CT, xX12_unitE_KT, xX12_unitE_LT, xX12_unitE_NT, o_aload_n, o_bipush, o_getfield, o_goto, o_iaload, o_iconst, o_ifCond_eq, o_ifCond_ne, o_if_icmp_gt, o_if_icmp_lt, o_invokevirtual, o_isub, o_return_, SH_51, KF_51_11, KF_51_13, KF_51_5, SH_54, KF_51_7, SH_56, am_ty, am_vc, am_opt, am_cl, am_find, am_ldi, am_ldl, am_lda, am_v, am_1, am_1l, am_1a, am_2, am_2l, am_ix, am_ri, am_arr, am_pf, am_rc, am_mask, am_lg, am_av, am_nat, fv_0, fv_1, fv_2, fv_3, fw_0, fw_1, List.getElem?_cons_zero, List.getElem?_cons_succ, List.set_cons_zero, List.set_cons_succ, List.length_cons, List.length_nil, List.take_succ_cons, List.take_zero, List.drop_succ_cons, List.drop_zero, List.reverse_cons, List.reverse_nil, List.nil_append, List.cons_append, List.append_nil, List.map_cons, List.map_nil, List.sum_cons, List.sum_nil, Value.category, Option.toList_some, Option.toList_none, Nat.reduceAdd, Nat.reduceLT, Nat.reduceLeDiff, Nat.reduceEqDiff, Nat.reduceSub, Nat.add_zero, Nat.le_refl, Nat.zero_le, Int.reduceNeg, Int.reduceLE, Int.reduceLT, true_and, and_true, and_self, if_true, if_false, ite_true, ite_false, eq_self_iff_true, reduceIte, reduceCtorEq, not_false_eq_true, not_true_eq_false, or_true, true_or, or_false, false_or, Nat.lt_irrefl, Nat.zero_lt_succ, e1, e2, e3]
    try simp (disch := omega) only [ii_0, ii_1, ii_t, ii_add, ii_sub, ii_mul, ii_lt, ii_le, ii_eq, ij_in, ii_c, Int.toNat_natCast, Int.toNat_zero, Int.reduceToNat, Int.reduceEq, Int.reduceNe, Int.reduceLE, Int.reduceLT, Int.reduceAdd, Int.reduceSub, Int.reduceMul, Int.reduceNeg, Nat.reduceLT, Nat.reduceAdd, Nat.reduceMul, not_false_eq_true, not_true_eq_false, true_and, and_true, and_self, false_and, and_false, true_implies, false_implies, implies_true, forall_const, if_true, if_false, ite_true, ite_false, reduceIte, eq_self_iff_true, Int.natCast_nonneg, Int.zero_add, Int.add_zero, pi_s, pi_n, e1, e2, e3]
    refine ⟨fun q => atF hn2 (by omega), fun hf => ⟨⟨by omega, by omega⟩, fun q => atF hn2 (by omega), fun h30 => ⟨⟨by omega, by omega⟩, fun q => atF hn2 (by omega), fun h38 => ?_⟩⟩⟩
    refine hA [] 12 _ _ _ _ _ ?_
    try simp only [dX12_unit_0, dX12_unit_1, dX12_unit_2, xX12_unitE_c209, xX12_unitE_n209, dX12_unit_5, xX12_unitE_t5, dX12_unit_8, dX12_unit_9, dX12_unit_10, dX12_unit_11, FT_X12_27, dX12_unit_14, dX12_unit_15, FT_X12_194, dX12_unit_18, dX12_unit_19, xX12_unitE_c278, xX12_unitE_n278, dX12_unit_22, dX12_unit_23, xX12_unitE_c212, xX12_unitE_n212, dX12_unit_26, xX12_unitE_t26, dX12_unit_29, dX12_unit_30, FT_X12_191, dX12_unit_33, xX12_unitE_t33, dX12_unit_36, dX12_unit_37, FT_X12_20, dX12_unit_40, dX12_unit_41, dX12_unit_44, dX12_unit_45, dX12_unit_47, xX12_unitE_t47, dX12_unit_50, dX12_unit_51, dX12_unit_54, dX12_unit_55, dX12_unit_58, dX12_unit_59, dX12_unit_61, xX12_unitE_t61, dX12_unit_64, dX12_unit_65, dX12_unit_66, dX12_unit_67, dX12_unit_70, dX12_unit_71, dX12_unit_74, dX12_unit_75, dX12_unit_77, dX12_unit_78, dX12_unit_81, dX12_unit_82, dX12_unit_85, xX12_unitE_t85, dX12_unit_88, dX12_unit_89, dX12_unit_90, xX12_unitE_c206, xX12_unitE_n206, dX12_unit_93, xX12_unitE_SH, xX12_unitE_KF, xX12_unitE_rt, xX12_unitE_FT, xX12_unitE_PT, xX12_unitE_CT, xX12_unitE_KT, xX12_unitE_LT, xX12_unitE_NT, o_aload_n, o_bipush, o_getfield, o_goto, o_iaload, o_iconst, o_ifCond_eq, o_ifCond_ne, o_if_icmp_gt, o_if_icmp_lt, o_invokevirtual, o_isub, o_return_, SH_51, KF_51_11, KF_51_13, KF_51_5, SH_54, KF_51_7, SH_56, am_ty, am_vc, am_opt, am_cl, am_find, am_ldi, am_ldl, am_lda, am_v, am_1, am_1l, am_1a, am_2, am_2l, am_ix, am_ri, am_arr, am_pf, am_rc, am_mask, am_lg, am_av, am_nat, fv_0, fv_1, fv_2, fv_3, fw_0, fw_1, List.getElem?_cons_zero, List.getElem?_cons_succ, List.set_cons_zero, List.set_cons_succ, List.length_cons, List.length_nil, List.take_succ_cons, List.take_zero, List.drop_succ_cons, List.drop_zero, List.reverse_cons, List.reverse_nil, List.nil_append, List.cons_append, List.append_nil, List.map_cons, List.map_nil, List.sum_cons, List.sum_nil, Value.category, Option.toList_some, Option.toList_none, Nat.reduceAdd, Nat.reduceLT, Nat.reduceLeDiff, Nat.reduceEqDiff, Nat.reduceSub, Nat.add_zero, Nat.le_refl, Nat.zero_le, Int.reduceNeg, Int.reduceLE, Int.reduceLT, true_and, and_true, and_self, if_true, if_false, ite_true, ite_false, eq_self_iff_true, reduceIte, reduceCtorEq, not_false_eq_true, not_true_eq_false, or_true, true_or, or_false, false_or, Nat.lt_irrefl, Nat.zero_lt_succ, e1, e3]
    try simp (disch := omega) only [ii_0, ii_1, ii_t, ii_add, ii_sub, ii_mul, ii_lt, ii_le, ii_eq, ij_in, ii_c, Int.toNat_natCast, Int.toNat_zero, Int.reduceToNat, Int.reduceEq, Int.reduceNe, Int.reduceLE, Int.reduceLT, Int.reduceAdd, Int.reduceSub, Int.reduceMul, Int.reduceNeg, Nat.reduceLT, Nat.reduceAdd, Nat.reduceMul, not_false_eq_true, not_true_eq_false, true_and, and_true, and_self, false_and, and_false, true_implies, false_implies, implies_true, forall_const, if_true, if_false, ite_true, ite_false, reduceIte, eq_self_iff_true, Int.natCast_nonneg, Int.zero_add, Int.add_zero, pi_s, pi_n, e1, e3]
    refine ⟨⟨by omega, by omega⟩, rfl, hB, hc, 1, kv - 30, ⟨by omega, by omega⟩, ⟨by omega, by omega⟩, rfl, ?_⟩
    try simp only [dX12_unit_0, dX12_unit_1, dX12_unit_2, xX12_unitE_c209, xX12_unitE_n209, dX12_unit_5, xX12_unitE_t5, dX12_unit_8, dX12_unit_9, dX12_unit_10, dX12_unit_11, FT_X12_27, dX12_unit_14, dX12_unit_15, FT_X12_194, dX12_unit_18, dX12_unit_19, xX12_unitE_c278, xX12_unitE_n278, dX12_unit_22, dX12_unit_23, xX12_unitE_c212, xX12_unitE_n212, dX12_unit_26, xX12_unitE_t26, dX12_unit_29, dX12_unit_30, FT_X12_191, dX12_unit_33, xX12_unitE_t33, dX12_unit_36, dX12_unit_37, FT_X12_20, dX12_unit_40, dX12_unit_41, dX12_unit_44, dX12_unit_45, dX12_unit_47, xX12_unitE_t47, dX12_unit_50, dX12_unit_51, dX12_unit_54, dX12_unit_55, dX12_unit_58, dX12_unit_59, dX12_unit_61, xX12_unitE_t61, dX12_unit_64, dX12_unit_65, dX12_unit_66, dX12_unit_67, dX12_unit_70, dX12_unit_71, dX12_unit_74, dX12_unit_75, dX12_unit_77, dX12_unit_78, dX12_unit_81, dX12_unit_82, dX12_unit_85, xX12_unitE_t85, dX12_unit_88, dX12_unit_89, dX12_unit_90, xX12_unitE_c206, xX12_unitE_n206, dX12_unit_93, xX12_unitE_SH, xX12_unitE_KF, xX12_unitE_rt, xX12_unitE_FT, xX12_unitE_PT, xX12_unitE_CT, xX12_unitE_KT, xX12_unitE_LT, xX12_unitE_NT, o_aload_n, o_bipush, o_getfield, o_goto, o_iaload, o_iconst, o_ifCond_eq, o_ifCond_ne, o_if_icmp_gt, o_if_icmp_lt, o_invokevirtual, o_isub, o_return_, SH_51, KF_51_11, KF_51_13, KF_51_5, SH_54, KF_51_7, SH_56, am_ty, am_vc, am_opt, am_cl, am_find, am_ldi, am_ldl, am_lda, am_v, am_1, am_1l, am_1a, am_2, am_2l, am_ix, am_ri, am_arr, am_pf, am_rc, am_mask, am_lg, am_av, am_nat, fv_0, fv_1, fv_2, fv_3, fw_0, fw_1, List.getElem?_cons_zero, List.getElem?_cons_succ, List.set_cons_zero, List.set_cons_succ, List.length_cons, List.length_nil, List.take_succ_cons, List.take_zero, List.drop_succ_cons, List.drop_zero, List.reverse_cons, List.reverse_nil, List.nil_append, List.cons_append, List.append_nil, List.map_cons, List.map_nil, List.sum_cons, List.sum_nil, Value.category, Option.toList_some, Option.toList_none, Nat.reduceAdd, Nat.reduceLT, Nat.reduceLeDiff, Nat.reduceEqDiff, Nat.reduceSub, Nat.add_zero, Nat.le_refl, Nat.zero_le, Int.reduceNeg, Int.reduceLE, Int.reduceLT, true_and, and_true, and_self, if_true, if_false, ite_true, ite_false, eq_self_iff_true, reduceIte, reduceCtorEq, not_false_eq_true, not_true_eq_false, or_true, true_or, or_false, false_or, Nat.lt_irrefl, Nat.zero_lt_succ]
    refine ⟨rfl, emS_ok hB ⟨by omega, by omega⟩ hc, ⟨rfl, trivial⟩, fun v τ hTK hq hx => ?_⟩
    obtain ⟨rfl, hq⟩ := hq
    try simp only [dX12_unit_0, dX12_unit_1, dX12_unit_2, xX12_unitE_c209, xX12_unitE_n209, dX12_unit_5, xX12_unitE_t5, dX12_unit_8, dX12_unit_9, dX12_unit_10, dX12_unit_11, FT_X12_27, dX12_unit_14, dX12_unit_15, FT_X12_194, dX12_unit_18, dX12_unit_19, xX12_unitE_c278, xX12_unitE_n278, dX12_unit_22, dX12_unit_23, xX12_unitE_c212, xX12_unitE_n212, dX12_unit_26, xX12_unitE_t26, dX12_unit_29, dX12_unit_30, FT_X12_191, dX12_unit_33, xX12_unitE_t33, dX12_unit_36, dX12_unit_37, FT_X12_20, dX12_unit_40, dX12_unit_41, dX12_unit_44, dX12_unit_45, dX12_unit_47, xX12_unitE_t47, dX12_unit_50, dX12_unit_51, dX12_unit_54, dX12_unit_55, dX12_unit_58, dX12_unit_59, dX12_unit_61, xX12_unitE_t61, dX12_unit_64, dX12_unit_65, dX12_unit_66, dX12_unit_67, dX12_unit_70, dX12_unit_71, dX12_unit_74, dX12_unit_75, dX12_unit_77, dX12_unit_78, dX12_unit_81, dX12_unit_82, dX12_unit_85, xX12_unitE_t85, dX12_unit_88, dX12_unit_89, dX12_unit_90, xX12_unitE_c206, xX12_unitE_n206, dX12_unit_93, xX12_unitE_SH, xX12_unitE_KF, xX12_unitE_rt, xX12_unitE_FT, xX12_unitE_PT, xX12_unitE_CT, xX12_unitE_KT, xX12_unitE_LT, xX12_unitE_NT, o_aload_n, o_bipush, o_getfield, o_goto, o_iaload, o_iconst, o_ifCond_eq, o_ifCond_ne, o_if_icmp_gt, o_if_icmp_lt, o_invokevirtual, o_isub, o_return_, SH_51, KF_51_11, KF_51_13, KF_51_5, SH_54, KF_51_7, SH_56, am_ty, am_vc, am_opt, am_cl, am_find, am_ldi, am_ldl, am_lda, am_v, am_1, am_1l, am_1a, am_2, am_2l, am_ix, am_ri, am_arr, am_pf, am_rc, am_mask, am_lg, am_av, am_nat, fv_0, fv_1, fv_2, fv_3, fw_0, fw_1, List.getElem?_cons_zero, List.getElem?_cons_succ, List.set_cons_zero, List.set_cons_succ, List.length_cons, List.length_nil, List.take_succ_cons, List.take_zero, List.drop_succ_cons, List.drop_zero, List.reverse_cons, List.reverse_nil, List.nil_append, List.cons_append, List.append_nil, List.map_cons, List.map_nil, List.sum_cons, List.sum_nil, Value.category, Option.toList_some, Option.toList_none, Nat.reduceAdd, Nat.reduceLT, Nat.reduceLeDiff, Nat.reduceEqDiff, Nat.reduceSub, Nat.add_zero, Nat.le_refl, Nat.zero_le, Int.reduceNeg, Int.reduceLE, Int.reduceLT, true_and, and_true, and_self, if_true, if_false, ite_true, ite_false, eq_self_iff_true, reduceIte, reduceCtorEq, not_false_eq_true, not_true_eq_false, or_true, true_or, or_false, false_or, Nat.lt_irrefl, Nat.zero_lt_succ]
    refine hA [] 3 _ _ _ _ _ ?_
    try simp only [dX12_unit_0, dX12_unit_1, dX12_unit_2, xX12_unitE_c209, xX12_unitE_n209, dX12_unit_5, xX12_unitE_t5, dX12_unit_8, dX12_unit_9, dX12_unit_10, dX12_unit_11, FT_X12_27, dX12_unit_14, dX12_unit_15, FT_X12_194, dX12_unit_18, dX12_unit_19, xX12_unitE_c278, xX12_unitE_n278, dX12_unit_22, dX12_unit_23, xX12_unitE_c212, xX12_unitE_n212, dX12_unit_26, xX12_unitE_t26, dX12_unit_29, dX12_unit_30, FT_X12_191, dX12_unit_33, xX12_unitE_t33, dX12_unit_36, dX12_unit_37, FT_X12_20, dX12_unit_40, dX12_unit_41, dX12_unit_44, dX12_unit_45, dX12_unit_47, xX12_unitE_t47, dX12_unit_50, dX12_unit_51, dX12_unit_54, dX12_unit_55, dX12_unit_58, dX12_unit_59, dX12_unit_61, xX12_unitE_t61, dX12_unit_64, dX12_unit_65, dX12_unit_66, dX12_unit_67, dX12_unit_70, dX12_unit_71, dX12_unit_74, dX12_unit_75, dX12_unit_77, dX12_unit_78, dX12_unit_81, dX12_unit_82, dX12_unit_85, xX12_unitE_t85, dX12_unit_88, dX12_unit_89, dX12_unit_90, xX12_unitE_c206, xX12_unitE_n206, dX12_unit_93, xX12_unitE_SH, xX12_unitE_KF, xX12_unitE_rt, xX12_unitE_FT, xX12_unitE_PT, xX12_unitE_CT, xX12_unitE_KT, xX12_unitE_LT, xX12_unitE_NT, o_aload_n, o_bipush, o_getfield, o_goto, o_iaload, o_iconst, o_ifCond_eq, o_ifCond_ne, o_if_icmp_gt, o_if_icmp_lt, o_invokevirtual, o_isub, o_return_, SH_51, KF_51_11, KF_51_13, KF_51_5, SH_54, KF_51_7, SH_56, am_ty, am_vc, am_opt, am_cl, am_find, am_ldi, am_ldl, am_lda, am_v, am_1, am_1l, am_1a, am_2, am_2l, am_ix, am_ri, am_arr, am_pf, am_rc, am_mask, am_lg, am_av, am_nat, fv_0, fv_1, fv_2, fv_3, fw_0, fw_1, List.getElem?_cons_zero, List.getElem?_cons_succ, List.set_cons_zero, List.set_cons_succ, List.length_cons, List.length_nil, List.take_succ_cons, List.take_zero, List.drop_succ_cons, List.drop_zero, List.reverse_cons, List.reverse_nil, List.nil_append, List.cons_append, List.append_nil, List.map_cons, List.map_nil, List.sum_cons, List.sum_nil, Value.category, Option.toList_some, Option.toList_none, Nat.reduceAdd, Nat.reduceLT, Nat.reduceLeDiff, Nat.reduceEqDiff, Nat.reduceSub, Nat.add_zero, Nat.le_refl, Nat.zero_le, Int.reduceNeg, Int.reduceLE, Int.reduceLT, true_and, and_true, and_self, if_true, if_false, ite_true, ite_false, eq_self_iff_true, reduceIte, reduceCtorEq, not_false_eq_true, not_true_eq_false, or_true, true_or, or_false, false_or, Nat.lt_irrefl, Nat.zero_lt_succ]
    exact h τ (Or.inr ⟨1, kv - 30, by omega, Or.inr ⟨rfl, by omega, by omega⟩, ⟨by omega, by omega⟩, hTK, hq⟩) (by
      have hx : τ = goS (emS σ 1 (kv - 30)) := hx
      rw [hx]
      show _ = unS σ
      unfold unS
      rw [← efv, ← ekv, if_neg hn2, if_pos ⟨by omega, by omega, by omega⟩])
theorem mX12_unitE (l : Launch) : am_M l TB NB vwCl SH KF yX12_unit cX12_unit 1 none 4 0 0 sX12_unitE := by
  refine am_M.of xX12_unitE (by decide +kernel) TB_good GF rfl rfl rfl (by decide) ⟨FT_X12_ok, PT_X12_ok _, CT_X12_ok, KT_X12_ok, LT_X12_ok, NT_X12_ok, ?_⟩ ptX12_unitE
  exact List.forall_mem_cons.mpr ⟨⟨yX12_fail, cX12_fail, 2, none, 2, 1, mX12_failE l, by decide, by decide, tk_1558, tk_120, ⟨by decide +kernel, by decide +kernel, by decide +kernel⟩, rfl, tk_1555, tk_1557, ⟨(RX12, TX12, 63), rfl, tb_at 48 (by decide +kernel) (by decide +kernel)⟩⟩, List.forall_mem_cons.mpr ⟨⟨yX12_is, cX12_is, 2, (some .boolean), 2, 1, mX12_is l, by decide, by decide, tk_1546, tk_120, ⟨by decide +kernel, by decide +kernel, by decide +kernel⟩, rfl, tk_1543, tk_1545, ⟨(RX12, TX12, 63), rfl, tb_at 45 (by decide +kernel) (by decide +kernel)⟩⟩, List.forall_mem_cons.mpr ⟨⟨yX12_goesOn, cX12_goesOn, 1, none, 3, 0, mX12_goesOnE l, by decide, by decide, tk_1554, tk_120, ⟨by decide +kernel, by decide +kernel, by decide +kernel⟩, rfl, tk_1551, tk_1553, ⟨(RX12, TX12, 63), rfl, tb_at 47 (by decide +kernel) (by decide +kernel)⟩⟩, List.forall_mem_cons.mpr ⟨⟨yX12_emit, cX12_emit, 3, none, 2, 2, mX12_emit l, by decide, by decide, tk_1594, tk_120, ⟨by decide +kernel, by decide +kernel, by decide +kernel⟩, rfl, tk_1591, tk_1593, ⟨(RX12, TX12, 63), rfl, tb_at 57 (by decide +kernel) (by decide +kernel)⟩⟩, fun _ h => absurd h List.not_mem_nil⟩⟩⟩⟩

def xCome (as : List Value) (σ : am_S) (_ : Option Value) (τ : am_S) : Prop := ∀ s : Int, (s = 0 ∨ s = 1) → as = [.ref 51, .int (Int32.ofInt s)] → ∀ c : Nat, (c : Int) ≤ pC σ → syF (decide (s = 1)) (WL σ) (CL σ c) = (WL τ, CL τ c)
def sX12_comesOutE : am_Sp := stW sX12_comesOut xCome
def xX12_comesOutE : am_X := (SH, KF, none, FT_X12, PT_X12, CT_X12, KT_X12, LT_X12, NT_X12, [(278, 0, 3, 12, 0, 0, sX12_emit)])
theorem xX12_comesOutE_SH : am_SH xX12_comesOutE = SH := rfl
theorem xX12_comesOutE_KF : am_KF xX12_comesOutE = KF := rfl
theorem xX12_comesOutE_rt : am_rt xX12_comesOutE = none := rfl
theorem xX12_comesOutE_FT : am_FT xX12_comesOutE = FT_X12 := rfl
theorem xX12_comesOutE_PT : am_PT xX12_comesOutE = PT_X12 := rfl
theorem xX12_comesOutE_CT : am_CT xX12_comesOutE = CT_X12 := rfl
theorem xX12_comesOutE_KT : am_KT xX12_comesOutE = KT_X12 := rfl
theorem xX12_comesOutE_LT : am_LT xX12_comesOutE = LT_X12 := rfl
theorem xX12_comesOutE_NT : am_NT xX12_comesOutE = NT_X12 := rfl
theorem xX12_comesOutE_c278 : am_find (am_ML xX12_comesOutE) 278 = some (0, 3, 12, 0, 0, sX12_emit) := rfl
theorem xX12_comesOutE_n278 : am_find NT_X12 278 = none := rfl
theorem xX12_comesOutE_t4 (k : Nat → Prop) : am_tg 4 (87) k = k 91 := am_tg_eq (by decide)
theorem xX12_comesOutE_t22 (k : Nat → Prop) : am_tg 22 (19) k = k 41 := am_tg_eq (by decide)
theorem xX12_comesOutE_t26 (k : Nat → Prop) : am_tg 26 (16) k = k 42 := am_tg_eq (by decide)
theorem xX12_comesOutE_t32 (k : Nat → Prop) : am_tg 32 (9) k = k 41 := am_tg_eq (by decide)
theorem xX12_comesOutE_t38 (k : Nat → Prop) : am_tg 38 (4) k = k 42 := am_tg_eq (by decide)
theorem xX12_comesOutE_t56 (k : Nat → Prop) : am_tg 56 (7) k = k 63 := am_tg_eq (by decide)
theorem xX12_comesOutE_t60 (k : Nat → Prop) : am_tg 60 (24) k = k 84 := am_tg_eq (by decide)
theorem xX12_comesOutE_t66 (k : Nat → Prop) : am_tg 66 (7) k = k 73 := am_tg_eq (by decide)
theorem xX12_comesOutE_t70 (k : Nat → Prop) : am_tg 70 (14) k = k 84 := am_tg_eq (by decide)
theorem xX12_comesOutE_t76 (k : Nat → Prop) : am_tg 76 (7) k = k 83 := am_tg_eq (by decide)
theorem xX12_comesOutE_t80 (k : Nat → Prop) : am_tg 80 (4) k = k 84 := am_tg_eq (by decide)
theorem xX12_comesOutE_t88 (k : Nat → Prop) : am_tg 88 (-88) k = k 0 := am_tg_eq (by decide)

set_option maxRecDepth 100000 in
theorem coE_loop {σ0 : am_S} {post : Option Value → am_S → Prop} {AA : Nat → List (Option Value) → List Value → Nat → am_S → Prop} (hA : ∀ cuts f pc ls stk n τ, am_vc cX12_comesOut xX12_comesOutE (92 + 0) post AA cuts f pc ls stk n τ → AA pc ls stk n τ) (h0 : sb_ok BB SH σ0) (hc0 : pC σ0 + pW σ0 ≤ 840) {s : Int} (hs : 0 ≤ s ∧ s ≤ 1) (hpost : ∀ τ, sb_ok BB SH τ → coR s σ0 τ → (pW τ = 0 ∨ 0 < pW τ ∧ stop s (sw τ (pW τ - 1).toNat)) → (∀ c : Nat, (c : Int) ≤ pC σ0 → syF (decide (s = 1)) (WL σ0) (CL σ0 c) = (WL τ, CL τ c)) → post none τ) : ∀ (m : Nat) (σ : am_S), (pW σ).toNat = m → sb_ok BB SH σ → coR s σ0 σ → (∀ c : Nat, (c : Int) ≤ pC σ0 → syF (decide (s = 1)) (WL σ0) (CL σ0 c) = syF (decide (s = 1)) (WL σ) (CL σ c)) → AA 0 [some (.ref 51), some (.int (Int32.ofInt s)), none] [] 92 σ := by
  intro m
  induction m using Nat.strongRecOn with
  | ind m ih =>
  intro σ hm hB hR hX
  have w1 := pW_b hB
  obtain ⟨wv, ewv⟩ : ∃ wv, wv = pW σ := ⟨_, rfl⟩
  have e1 : σ.1 51 41 = Int32.ofInt wv := by rw [ewv]; exact ii_of _
  have w2 := w1
  rw [← ewv] at w2
  obtain ⟨sv, esv⟩ : ∃ sv, sv = sw σ (wv - 1).toNat := ⟨_, rfl⟩
  have e2 : σ.1 76 (wv - 1).toNat = Int32.ofInt sv := by rw [esv]; exact ii_of _
  have s1 := ii_lo (σ.1 76 (wv - 1).toNat)
  have s2 := ii_hi (σ.1 76 (wv - 1).toNat)
  have s1 : -2147483648 ≤ sv := by rw [esv]; exact s1
  have s2 : sv < 2147483648 := by rw [esv]; exact s2
  have sst : stop s sv ↔ (sv = 6 ∨ (decide (s = 1) = true ∧ (sv = 8 ∨ sv = 9))) := by
    unfold stop
    rw [decide_eq_true_eq]
    omega
  have go : ∀ k : Int, 0 < wv → (2 ≤ k ∧ k ≤ 5) → k = syO sv → ¬ stop s sv → AA 0 [some (.ref 51), some (.int (Int32.ofInt s)), none] [] 92 (emS (wtS σ) k 0) := by
    intro k hw hk hk2 hst
    have q := coR_step (k := k) hR h0 hB (by omega) hc0 hk (by rw [← ewv, ← esv]; exact hst)
    refine ih _ (by rw [q.2.2]; omega) _ rfl q.2.1 q.1 (fun c hc => ?_)
    obtain ⟨j, h1, h2, h3, _⟩ := hR
    rw [hX c hc, syF_1 hB (by omega) (by rw [← ewv, ← esv]; exact fun z => hst (sst.mpr z)) ⟨by omega, by omega⟩, ← ewv, ← esv, ← hk2]
  have hlt : 0 < wv → pC (wtS σ) ≤ 839 := by
    intro hw
    rw [wtS_C]
    obtain ⟨j, h1, h2, h3, _⟩ := hR
    omega
  have ewt : am_pi σ 51 41 (Int32.ofInt (wv - 1)) = wtS σ := by unfold wtS; rw [ewv]
  refine hA [(42, 3)] 40 _ _ _ _ _ ?_
  try simp only [dX12_comesOut_0, dX12_comesOut_1, FT_X12_275, dX12_comesOut_4, xX12_comesOutE_t4, dX12_comesOut_7, dX12_comesOut_8, FT_X12_92, dX12_comesOut_11, dX12_comesOut_12, dX12_comesOut_15, dX12_comesOut_16, dX12_comesOut_17, dX12_comesOut_18, dX12_comesOut_19, dX12_comesOut_20, dX12_comesOut_22, xX12_comesOutE_t22, dX12_comesOut_25, dX12_comesOut_26, xX12_comesOutE_t26, dX12_comesOut_29, dX12_comesOut_30, dX12_comesOut_32, xX12_comesOutE_t32, dX12_comesOut_35, dX12_comesOut_36, dX12_comesOut_38, xX12_comesOutE_t38, dX12_comesOut_41, dX12_comesOut_42, dX12_comesOut_43, dX12_comesOut_44, dX12_comesOut_47, dX12_comesOut_48, dX12_comesOut_49, PT_X12_275, dX12_comesOut_52, dX12_comesOut_53, dX12_comesOut_54, dX12_comesOut_56, xX12_comesOutE_t56, dX12_comesOut_59, dX12_comesOut_60, xX12_comesOutE_t60, dX12_comesOut_63, dX12_comesOut_64, dX12_comesOut_66, xX12_comesOutE_t66, dX12_comesOut_69, dX12_comesOut_70, xX12_comesOutE_t70, dX12_comesOut_73, dX12_comesOut_74, dX12_comesOut_76, xX12_comesOutE_t76, dX12_comesOut_79, dX12_comesOut_80, xX12_comesOutE_t80, dX12_comesOut_83, dX12_comesOut_84, dX12_comesOut_85, xX12_comesOutE_c278, xX12_comesOutE_n278, dX12_comesOut_88, xX12_comesOutE_t88, dX12_comesOut_91, xX12_comesOutE_SH, xX12_comesOutE_KF, xX12_comesOutE_rt, xX12_comesOutE_FT, xX12_comesOutE_PT, xX12_comesOutE_CT, xX12_comesOutE_KT, xX12_comesOutE_LT, xX12_comesOutE_NT, o_aload_n, o_bipush, o_dup, o_getfield, o_goto, o_iaload, o_iconst, o_ifCond_eq, o_ifCond_le, o_if_icmp_eq, o_if_icmp_ne, o_iload_n, o_invokevirtual, o_istore_n, o_isub, o_putfield, o_return_, SH_51, KF_51_40, SH_76, KF_51_41, am_ty, am_vc, am_opt, am_cl, am_find, am_ldi, am_ldl, am_lda, am_v, am_1, am_1l, am_1a, am_2, am_2l, am_ix, am_ri, am_arr, am_pf, am_rc, am_mask, am_lg, am_av, am_nat, fv_0, fv_1, fv_2, fv_3, fw_0, fw_1, List.getElem?_cons_zero, List.getElem?_cons_succ, List.set_cons_zero, List.set_cons_succ, List.length_cons, List.length_nil, List.take_succ_cons, List.take_zero, List.drop_succ_cons, List.drop_zero, List.reverse_cons, List.reverse_nil, List.nil_append, List.cons_append, List.append_nil, List.map_cons, List.map_nil, List.sum_cons, List.sum_nil, Value.category, Option.toList_some, Option.toList_none, Nat.reduceAdd, Nat.reduceLT, Nat.reduceLeDiff, Nat.reduceEqDiff, Nat.reduceSub, Nat.add_zero, Nat.le_refl, Nat.zero_le, Int.reduceNeg, Int.reduceLE, Int.reduceLT, true_and, and_true, and_self, if_true, if_false, ite_true, ite_false, eq_self_iff_true, reduceIte, reduceCtorEq, not_false_eq_true, not_true_eq_false, or_true, true_or, or_false, false_or, Nat.lt_irrefl, Nat.zero_lt_succ, e1]
  have fin : (pW σ = 0 ∨ 0 < pW σ ∧ stop s (sw σ (pW σ - 1).toNat)) → post none σ := fun q => hpost σ hB hR q (fun c hc => by
    rw [hX c hc]
    rcases q with q | ⟨q1, q2⟩
    · unfold WL
      rw [q]
      rfl
    · rw [WL_pop q1]
      simp only [syF]
      rw [if_pos (by rw [← ewv, ← esv] at q2 ⊢; exact sst.mp q2)])
  have at42 : 0 < wv → ¬ stop s sv → AA 42 [some (.ref 51), some (.int (Int32.ofInt s)), some (.int (Int32.ofInt sv))] [] 92 σ := by
    intro hw hst
    refine hA [(0, 2)] 40 _ _ _ _ _ ?_
    try simp only [dX12_comesOut_0, dX12_comesOut_1, FT_X12_275, dX12_comesOut_4, xX12_comesOutE_t4, dX12_comesOut_7, dX12_comesOut_8, FT_X12_92, dX12_comesOut_11, dX12_comesOut_12, dX12_comesOut_15, dX12_comesOut_16, dX12_comesOut_17, dX12_comesOut_18, dX12_comesOut_19, dX12_comesOut_20, dX12_comesOut_22, xX12_comesOutE_t22, dX12_comesOut_25, dX12_comesOut_26, xX12_comesOutE_t26, dX12_comesOut_29, dX12_comesOut_30, dX12_comesOut_32, xX12_comesOutE_t32, dX12_comesOut_35, dX12_comesOut_36, dX12_comesOut_38, xX12_comesOutE_t38, dX12_comesOut_41, dX12_comesOut_42, dX12_comesOut_43, dX12_comesOut_44, dX12_comesOut_47, dX12_comesOut_48, dX12_comesOut_49, PT_X12_275, dX12_comesOut_52, dX12_comesOut_53, dX12_comesOut_54, dX12_comesOut_56, xX12_comesOutE_t56, dX12_comesOut_59, dX12_comesOut_60, xX12_comesOutE_t60, dX12_comesOut_63, dX12_comesOut_64, dX12_comesOut_66, xX12_comesOutE_t66, dX12_comesOut_69, dX12_comesOut_70, xX12_comesOutE_t70, dX12_comesOut_73, dX12_comesOut_74, dX12_comesOut_76, xX12_comesOutE_t76, dX12_comesOut_79, dX12_comesOut_80, xX12_comesOutE_t80, dX12_comesOut_83, dX12_comesOut_84, dX12_comesOut_85, xX12_comesOutE_c278, xX12_comesOutE_n278, dX12_comesOut_88, xX12_comesOutE_t88, dX12_comesOut_91, xX12_comesOutE_SH, xX12_comesOutE_KF, xX12_comesOutE_rt, xX12_comesOutE_FT, xX12_comesOutE_PT, xX12_comesOutE_CT, xX12_comesOutE_KT, xX12_comesOutE_LT, xX12_comesOutE_NT, o_aload_n, o_bipush, o_dup, o_getfield, o_goto, o_iaload, o_iconst, o_ifCond_eq, o_ifCond_le, o_if_icmp_eq, o_if_icmp_ne, o_iload_n, o_invokevirtual, o_istore_n, o_isub, o_putfield, o_return_, SH_51, KF_51_40, SH_76, KF_51_41, am_ty, am_vc, am_opt, am_cl, am_find, am_ldi, am_ldl, am_lda, am_v, am_1, am_1l, am_1a, am_2, am_2l, am_ix, am_ri, am_arr, am_pf, am_rc, am_mask, am_lg, am_av, am_nat, fv_0, fv_1, fv_2, fv_3, fw_0, fw_1, List.getElem?_cons_zero, List.getElem?_cons_succ, List.set_cons_zero, List.set_cons_succ, List.length_cons, List.length_nil, List.take_succ_cons, List.take_zero, List.drop_succ_cons, List.drop_zero, List.reverse_cons, List.reverse_nil, List.nil_append, List.cons_append, List.append_nil, List.map_cons, List.map_nil, List.sum_cons, List.sum_nil, Value.category, Option.toList_some, Option.toList_none, Nat.reduceAdd, Nat.reduceLT, Nat.reduceLeDiff, Nat.reduceEqDiff, Nat.reduceSub, Nat.add_zero, Nat.le_refl, Nat.zero_le, Int.reduceNeg, Int.reduceLE, Int.reduceLT, true_and, and_true, and_self, if_true, if_false, ite_true, ite_false, eq_self_iff_true, reduceIte, reduceCtorEq, not_false_eq_true, not_true_eq_false, or_true, true_or, or_false, false_or, Nat.lt_irrefl, Nat.zero_lt_succ, e1]
    try simp (disch := omega) only [ii_0, ii_1, ii_t, ii_add, ii_sub, ii_mul, ii_lt, ii_le, ii_eq, ij_in, ii_c, Int.toNat_natCast, Int.toNat_zero, Int.reduceToNat, Int.reduceEq, Int.reduceNe, Int.reduceLE, Int.reduceLT, Int.reduceAdd, Int.reduceSub, Int.reduceMul, Int.reduceNeg, Nat.reduceLT, Nat.reduceAdd, Nat.reduceMul, not_false_eq_true, not_true_eq_false, true_and, and_true, and_self, false_and, and_false, true_implies, false_implies, implies_true, forall_const, if_true, if_false, ite_true, ite_false, reduceIte, eq_self_iff_true, Int.natCast_nonneg, Int.zero_add, Int.add_zero, pi_s, pi_n, e1]
    rw [ewt]
    have em : ∀ k : Int, (2 ≤ k ∧ k ≤ 5) → k = syO sv → sX12_emit [.ref 51, .int (Int32.ofInt k), .int (Int32.ofInt 0)] 92 (wtS σ) (fun v τ => AA 0 [some (.ref 51), some (.int (Int32.ofInt s)), none] v.toList 92 τ) := fun k hk hk2 => ⟨rfl, wtS_ok hB (by omega), hlt hw, k, 0, ⟨by omega, by omega⟩, ⟨by decide, by decide⟩, rfl, go k hw hk hk2 hst⟩
    refine ⟨fun n8 => ⟨fun n9 => ⟨fun n10 => em 5 ⟨by decide, by decide⟩ (by unfold syO; rw [if_neg n8, if_neg n9, if_neg n10]), fun y => em 4 ⟨by decide, by decide⟩ (by rw [y]; rfl)⟩, fun y => em 3 ⟨by decide, by decide⟩ (by rw [y]; rfl)⟩, fun y => em 2 ⟨by decide, by decide⟩ (by rw [y]; rfl)⟩
  by_cases hw : 0 < wv
  · try simp (disch := omega) only [ii_0, ii_1, ii_t, ii_add, ii_sub, ii_mul, ii_lt, ii_le, ii_eq, ij_in, ii_c, Int.toNat_natCast, Int.toNat_zero, Int.reduceToNat, Int.reduceEq, Int.reduceNe, Int.reduceLE, Int.reduceLT, Int.reduceAdd, Int.reduceSub, Int.reduceMul, Int.reduceNeg, Nat.reduceLT, Nat.reduceAdd, Nat.reduceMul, not_false_eq_true, not_true_eq_false, true_and, and_true, and_self, false_and, and_false, true_implies, false_implies, implies_true, forall_const, if_true, if_false, ite_true, ite_false, reduceIte, eq_self_iff_true, Int.natCast_nonneg, Int.zero_add, Int.add_zero, pi_s, pi_n, e1, e2]
    have sto : stop s sv → post none σ := fun q => fin (Or.inr ⟨by omega, by rw [← ewv, ← esv]; exact q⟩)
    exact ⟨fun q => absurd hw (by omega), fun _ => ⟨⟨by omega, by omega⟩, fun q => sto (Or.inl q), fun q6 => ⟨fun z => at42 hw (by unfold stop; omega), fun z => ⟨fun q => sto (Or.inr ⟨z, Or.inl q⟩), fun q8 => ⟨fun q9 => at42 hw (by unfold stop; omega), fun q => sto (Or.inr ⟨z, Or.inr q⟩)⟩⟩⟩⟩⟩
  · try simp (disch := omega) only [ii_0, ii_1, ii_t, ii_add, ii_sub, ii_mul, ii_lt, ii_le, ii_eq, ij_in, ii_c, Int.toNat_natCast, Int.toNat_zero, Int.reduceToNat, Int.reduceEq, Int.reduceNe, Int.reduceLE, Int.reduceLT, Int.reduceAdd, Int.reduceSub, Int.reduceMul, Int.reduceNeg, Nat.reduceLT, Nat.reduceAdd, Nat.reduceMul, not_false_eq_true, not_true_eq_false, true_and, and_true, and_self, false_and, and_false, true_implies, false_implies, implies_true, forall_const, if_true, if_false, ite_true, ite_false, reduceIte, eq_self_iff_true, Int.natCast_nonneg, Int.zero_add, Int.add_zero, pi_s, pi_n, e1]
    exact ⟨fun _ => fin (Or.inl (by omega)), fun q => absurd q (by omega)⟩
theorem ptX12_comesOutE : am_B cX12_comesOut xX12_comesOutE 3 0 sX12_comesOutE := by
  intro n0 as σ post AA hA h
  obtain ⟨rfl, hB, hc, s, hs, rfl, h⟩ := h
  refine ⟨by simp [am_sl, Value.category], ?_⟩
  show AA 0 [some (.ref 51), some (.int (Int32.ofInt s)), none] [] 92 σ
  refine coE_loop hA hB hc hs (fun τ h1 h2 h3 h4 => h τ h1 h2 h3 (fun s' hs' e => ?_)) _ σ rfl hB (coR_r hB) (fun _ _ => rfl)
  have e9 : Int32.ofInt s = Int32.ofInt s' := by simpa using e
  have e8 : s = s' := by
    have := congrArg Int32.toInt e9
    rw [ii_t (by omega) (by omega), ii_t (by omega) (by omega)] at this
    exact this
  rw [← e8]
  exact h4
theorem mX12_comesOutE (l : Launch) : am_M l TB NB vwCl SH KF yX12_comesOut cX12_comesOut 3 none 3 0 0 sX12_comesOutE := by
  refine am_M.of xX12_comesOutE (by decide +kernel) TB_good GF rfl rfl rfl (by decide) ⟨FT_X12_ok, PT_X12_ok _, CT_X12_ok, KT_X12_ok, LT_X12_ok, NT_X12_ok, ?_⟩ ptX12_comesOutE
  exact List.forall_mem_cons.mpr ⟨⟨yX12_emit, cX12_emit, 3, none, 2, 2, mX12_emit l, by decide, by decide, tk_1594, tk_120, ⟨by decide +kernel, by decide +kernel, by decide +kernel⟩, rfl, tk_1591, tk_1593, ⟨(RX12, TX12, 63), rfl, tb_at 57 (by decide +kernel) (by decide +kernel)⟩⟩, fun _ h => absurd h List.not_mem_nil⟩

/-! THE REFERENCE'S EXPRESSIONS go the machine's way. Printed from wip/am/chk/hand/r3.in. -/
abbrev sy0 (t : Nat) : SY := (0, t, [], 0, [])
def xF (b : Nat → Int) (Z t0 : Nat) (σ : am_S) : Prop := ∃ t' m : Nat, t' ≤ 400 ∧ (m = 4 ∧ pF σ = 1 ∨ m = 5 ∧ pF σ = 2) ∧ pFp σ = tP b Z t' ∧ syR (tK b Z) (tV b Z) (sy0 t0) (m, t', [], 0, [])
def xO (b : Nat → Int) (Z t0 : Nat) (c : Nat) (σ : am_S) (m : Nat) : Prop := ∃ t, rOK b Z σ t ∧ syR (tK b Z) (tV b Z) (sy0 t0) (m, t, WL σ, (pO σ).toNat, CL σ c)
/-- what is held for wrong stays -/
def wX (σ τ : am_S) : Prop := τ.1 51 15 = σ.1 51 15 ∧ τ.1 51 16 = σ.1 51 16
theorem wX_t {σ τ υ : am_S} (h : wX σ τ) (g : wX τ υ) : wX σ υ := ⟨g.1.trans h.1, g.2.trans h.2⟩
theorem wX_f {σ : am_S} {k : Int} : wX σ (failS k σ) := by
  unfold failS
  split
  · exact ⟨by rw [pi_n _ _ _ _ (by decide), pi_n _ _ _ _ (by decide)], by rw [pi_n _ _ _ _ (by decide), pi_n _ _ _ _ (by decide)]⟩
  · exact ⟨rfl, rfl⟩
theorem wX_g {σ : am_S} : wX σ (goS σ) := by
  unfold goS
  split
  · exact wX_f
  · exact ⟨pi_n _ _ _ _ (by decide), pi_n _ _ _ _ (by decide)⟩
theorem wX_m {σ : am_S} {k : Int} : wX σ (muS k σ) := by
  unfold muS
  split
  · exact wX_g
  · exact wX_f
theorem wX_e {σ : am_S} {k v : Int} : wX σ (emS σ k v) := ⟨emS_o (by decide) (by decide) (fun z => absurd z.2 (by decide)), emS_o (by decide) (by decide) (fun z => absurd z.2 (by decide))⟩
theorem wX_u {σ : am_S} : wX σ (unS σ) := by
  unfold unS
  split
  · exact wX_t wX_e wX_g
  · split
    · exact wX_t wX_e wX_g
    · exact wX_f
/-- while an expression is read: the machine has come as far -/
def XA (σ0 σ : am_S) (m : Nat) : Prop := wX σ0 σ ∧ ∀ (b : Nat → Int) (Z t0 : Nat), rST b Z σ0 (.inl t0) → wVR b Z σ ∧ (xO b Z t0 (pC σ0).toNat σ m ∨ xF b Z t0 σ)
/-- behind an expression -/
def XE (σ τ : am_S) : Prop := wX σ τ ∧ ∀ (b : Nat → Int) (Z t0 : Nat), rST b Z σ (.inl t0) → wVR b Z τ ∧ ((∃ t, rOK b Z τ t ∧ syE (tK b Z) (tV b Z) t0 = (2, t, [], 0, CL τ (pC σ).toNat)) ∨ (∃ t' m : Nat, t' ≤ 400 ∧ (m = 4 ∧ pF τ = 1 ∨ m = 5 ∧ pF τ = 2) ∧ pFp τ = tP b Z t' ∧ syE (tK b Z) (tV b Z) t0 = (m, t', [], 0, [])))
/-- what tokens rest on is as it was -/
def tks (σ τ : am_S) : Prop := (∀ o i, 54 ≤ o → o ≤ 56 → τ.1 o i = σ.1 o i) ∧ (∀ i, τ.2 57 i = σ.2 57 i) ∧ wX σ τ
theorem tks_r (σ : am_S) : tks σ σ := ⟨fun _ _ _ _ => rfl, fun _ => rfl, rfl, rfl⟩
theorem tks_t {σ τ υ : am_S} (h : tks σ τ) (g : tks τ υ) : tks σ υ := ⟨fun o i a c => (g.1 o i a c).trans (h.1 o i a c), fun i => (g.2.1 i).trans (h.2.1 i), wX_t h.2.2 g.2.2⟩
theorem tks_TK {σ τ : am_S} (g : TK σ τ) (w : wX σ τ) : tks σ τ := ⟨fun o i a c => TK_o g (fun z => by omega), fun i => TK_2 g (by decide), w⟩
theorem tks_ex {σ τ : am_S} (g : exF σ τ) (w : wX σ τ) : tks σ τ := ⟨fun o i a c => g.f1 o i (by omega) (by omega) (by omega) (fun z => by omega), fun i => g.f2 _ i (by decide), w⟩
theorem wVR_tks {b : Nat → Int} {Z : Nat} {σ τ : am_S} (h : wVR b Z σ) (g : tks σ τ) : wVR b Z τ := wVR_fr h g.1 g.2.1
/-- a fault stays as it was told -/
theorem XA_flt {σ0 σ τ : am_S} {m m' : Nat} (h : XA σ0 σ m) (hz : pF σ ≠ 0) (hk : tks σ τ) (hF : pF τ = pF σ) (hP : pFp τ = pFp σ) : XA σ0 τ m' := by
  refine ⟨wX_t h.1 hk.2.2, fun b Z t0 h0 => ?_⟩
  obtain ⟨v, h1⟩ := h.2 b Z t0 h0
  refine ⟨wVR_tks v hk, Or.inr ?_⟩
  rcases h1 with ⟨t, h1, _⟩ | ⟨t', k, h1, h2, h3, h4⟩
  · exact absurd h1.2.2 hz
  · exact ⟨t', k, h1, by rw [hF]; exact h2, by rw [hP]; exact h3, h4⟩
theorem XA_go {σ0 σ τ : am_S} {m m' : Nat} (h : XA σ0 σ m) (hz : pF σ = 0) (hw : wX σ τ) (hO : ∀ (b : Nat → Int) (Z t0 t : Nat), wVR b Z σ → rOK b Z σ t → syR (tK b Z) (tV b Z) (sy0 t0) (m, t, WL σ, (pO σ).toNat, CL σ (pC σ0).toNat) → wVR b Z τ ∧ (xO b Z t0 (pC σ0).toNat τ m' ∨ xF b Z t0 τ)) : XA σ0 τ m' := by
  refine ⟨wX_t h.1 hw, fun b Z t0 h0 => ?_⟩
  obtain ⟨v, h1⟩ := h.2 b Z t0 h0
  rcases h1 with ⟨t, h1, h2⟩ | ⟨t', k, h1, h2, h3, h4⟩
  · exact hO b Z t0 t v h1 h2
  · exfalso
    rcases h2 with ⟨_, q⟩ | ⟨_, q⟩ <;> omega
theorem XE_flt {σ0 σ : am_S} {m : Nat} (h : XA σ0 σ m) (hz : pF σ ≠ 0) : XE σ0 σ := by
  refine ⟨h.1, fun b Z t0 h0 => ?_⟩
  obtain ⟨v, h1⟩ := h.2 b Z t0 h0
  refine ⟨v, Or.inr ?_⟩
  rcases h1 with ⟨t, h1, _⟩ | ⟨t', k, h1, h2, h3, h4⟩
  · exact absurd h1.2.2 hz
  · exact ⟨t', k, h1, h2, h3, syE_of h4 (by show 2 ≤ k; omega) h0.2.1.1⟩
theorem kd_of {b : Nat → Int} {Z t : Nat} {σ : am_S} (v : wVR b Z σ) (h : rOK b Z σ t) : kdT σ = tK b Z t := by
  obtain ⟨⟨t1, t2⟩, e1, e2⟩ := h
  obtain ⟨c1, _⟩ := v.2 t t1 t2
  have kb := tkd_b (b := b) (Z := Z) (i := ps b Z t)
  unfold kdT
  rw [e1, show ((t : Int)).toNat = t by omega, c1]
  exact ii_t (by show -2147483648 ≤ tkd b Z (ps b Z t); omega) (by show tkd b Z (ps b Z t) < 2147483648; omega)
theorem vl_of {b : Nat → Int} {Z t : Nat} {σ : am_S} (v : wVR b Z σ) (h : rOK b Z σ t) (hk : tK b Z t = 2) : vlT σ = tV b Z t := by
  obtain ⟨⟨t1, t2⟩, e1, e2⟩ := h
  obtain ⟨_, _, c3, _⟩ := v.2 t t1 t2
  have vb := tV_b hk
  unfold vlT
  rw [e1, show ((t : Int)).toNat = t by omega, c3 hk]
  exact ii_t (by omega) (by omega)
theorem pl_of {b : Nat → Int} {Z t : Nat} {σ : am_S} (v : wVR b Z σ) (h : rOK b Z σ t) : (σ.1 55 (pT σ).toNat).toInt = tP b Z t := by
  obtain ⟨⟨t1, t2⟩, e1, e2⟩ := h
  obtain ⟨_, c2, _⟩ := v.2 t t1 t2
  have pb := tP_b (b := b) (j := t) v.1
  rw [e1, show ((t : Int)).toNat = t by omega, c2]
  exact ii_t (by omega) (by omega)
theorem failS_F {σ : am_S} {k : Int} (hz : pF σ = 0) (hk : 1 ≤ k ∧ k ≤ 9) : pF (failS k σ) = k ∧ pFp (failS k σ) = (σ.1 55 (pT σ).toNat).toInt := by
  unfold failS
  rw [if_pos hz]
  refine ⟨?_, ?_⟩
  · unfold pF; rw [pi_n _ _ _ _ (by decide), pi_s, ii_t (by omega) (by omega)]
  · unfold pFp; rw [pi_s]
theorem failS_z {σ : am_S} {k : Int} (hz : pF σ ≠ 0) : failS k σ = σ := by
  unfold failS
  rw [if_neg hz]
theorem goS_z {σ : am_S} (hz : pF σ ≠ 0) : pF (goS σ) = pF σ ∧ pFp (goS σ) = pFp σ := by
  unfold goS
  split
  · rw [failS_z hz]; exact ⟨rfl, rfl⟩
  · refine ⟨?_, ?_⟩
    · unfold pF; rw [pi_n _ _ _ _ (by decide)]
    · unfold pFp; rw [pi_n _ _ _ _ (by decide)]
/-- goesOn from token t -/
theorem goS_t {b : Nat → Int} {Z t : Nat} {σ : am_S} (hB : sb_ok BB SH σ) (v : wVR b Z σ) (h : rOK b Z σ t) (hk : tK b Z t ≠ 0) : wVR b Z (goS σ) ∧ ((t = 400 ∧ pF (goS σ) = 2 ∧ pFp (goS σ) = tP b Z t) ∨ (t < 400 ∧ rOK b Z (goS σ) (t + 1))) := by
  have ok := goS_ok hB
  have pl := pl_of v h
  obtain ⟨⟨t1, t2⟩, e1, e2⟩ := h
  refine ⟨wVR_TK v ok.1, ?_⟩
  by_cases q : t = 400
  · refine Or.inl ⟨q, ?_⟩
    have e : goS σ = failS 2 σ := by unfold goS; rw [if_pos (by omega)]
    have f := failS_F (k := 2) e2 ⟨by decide, by decide⟩
    rw [e]
    exact ⟨f.1, f.2.trans pl⟩
  · refine Or.inr ⟨by omega, ⟨by omega, fun i hi => ?_⟩, ?_, ?_⟩
    · by_cases z : i = t
      · rw [z]; exact hk
      · exact t2 i (by omega)
    · rcases ok.2 with ⟨a, _⟩ | ⟨a, _⟩
      · rw [a, e1]; rfl
      · exfalso
        unfold goS at a
        rw [if_neg (by omega)] at a
        unfold pT at a e1
        rw [pi_s, ii_t (by omega) (by omega)] at a
        omega
    · unfold goS
      rw [if_neg (by omega)]
      unfold pF
      rw [pi_n _ _ _ _ (by decide)]
      exact e2
theorem xF_of {b : Nat → Int} {Z t0 t m : Nat} {σ : am_S} {q : SY} {k : Int} (hR : syR (tK b Z) (tV b Z) (sy0 t0) q) (hs : syS (tK b Z) (tV b Z) q = (m, t, [], 0, [])) (ht : t ≤ 400) (hm : m = 4 ∧ k = 1 ∨ m = 5 ∧ k = 2) (h1 : pF σ = k) (h2 : pFp σ = tP b Z t) : xF b Z t0 σ := ⟨t, m, ht, by rw [h1]; exact hm, h2, syR_t hR (syR_s hs)⟩
theorem psS_l {σ : am_S} {k : Int} (hB : sb_ok BB SH σ) (hw : pW σ ≤ 63) (hk : -2147483648 ≤ k ∧ k < 2147483648) : WL (psS σ k) = k :: WL σ ∧ (∀ c, CL (psS σ k) c = CL σ c) ∧ pO (psS σ k) = pO σ ∧ pF (psS σ k) = pF σ ∧ pFp (psS σ k) = pFp σ ∧ pT (psS σ k) = pT σ ∧ tks σ (psS σ k) := by
  have wb := pW_b hB
  have ef : ∀ i, i ≠ 41 → (psS σ k).1 51 i = σ.1 51 i := fun i q => by unfold psS; rw [pi_n _ _ _ _ (fun z => q z.2), pi_n _ _ _ _ (fun z => absurd z.1 (by decide))]
  have eW : pW (psS σ k) = pW σ + 1 := by
    show ((am_pi (am_pi σ 76 (pW σ).toNat (Int32.ofInt k)) 51 41 (Int32.ofInt (pW σ + 1))).1 51 41).toInt = _
    rw [pi_s, ii_t (by omega) (by omega)]
  have esw : ∀ i, sw (psS σ k) i = if i = (pW σ).toNat then k else sw σ i := fun i => by
    unfold sw psS
    rw [pi_n _ _ _ _ (fun z => absurd z.1 (by decide))]
    by_cases q : i = (pW σ).toNat
    · rw [if_pos q, q, pi_s, ii_t hk.1 hk.2]
    · rw [if_neg q, pi_n _ _ _ _ (fun z => q z.2)]
  have ea : ∀ o i, o ≠ 51 → o ≠ 76 → (psS σ k).1 o i = σ.1 o i := fun o i q1 q2 => by unfold psS; rw [pi_n _ _ _ _ (fun z => q1 z.1), pi_n _ _ _ _ (fun z => q2 z.1)]
  refine ⟨?_, fun c => ?_, ?_, ?_, ?_, ?_, fun o i a c => ea o i (by omega) (by omega), fun _ => rfl, ef _ (by decide), ef _ (by decide)⟩
  · unfold WL
    rw [eW, show (pW σ + 1).toNat = (pW σ).toNat + 1 by omega]
    simp only [WLn]
    rw [esw, if_pos rfl, WLn_of (σ := σ) (fun i hi => by rw [esw, if_neg (by omega)])]
  · have eC : pC (psS σ k) = pC σ := by unfold pC; rw [ef _ (by decide)]
    unfold CL
    rw [eC]
    exact CLn_of (fun i _ _ => ⟨by unfold cd; rw [ea _ _ (by decide) (by decide)], by unfold cI; rw [ea _ _ (by decide) (by decide)]⟩)
  · unfold pO; rw [ef _ (by decide)]
  · unfold pF; rw [ef _ (by decide)]
  · unfold pFp; rw [ef _ (by decide)]
  · unfold pT; rw [ef _ (by decide)]
/-- open is counted -/
theorem opS_l {σ : am_S} {x : Int} (hx : 0 ≤ x ∧ x ≤ 7) : WL (am_pi σ 51 12 (Int32.ofInt x)) = WL σ ∧ (∀ c, CL (am_pi σ 51 12 (Int32.ofInt x)) c = CL σ c) ∧ pO (am_pi σ 51 12 (Int32.ofInt x)) = x ∧ pF (am_pi σ 51 12 (Int32.ofInt x)) = pF σ ∧ pFp (am_pi σ 51 12 (Int32.ofInt x)) = pFp σ ∧ pT (am_pi σ 51 12 (Int32.ofInt x)) = pT σ ∧ tks σ (am_pi σ 51 12 (Int32.ofInt x)) := by
  have ef : ∀ i, i ≠ 12 → (am_pi σ 51 12 (Int32.ofInt x)).1 51 i = σ.1 51 i := fun i q => pi_n _ _ _ _ (fun z => q z.2)
  have ea : ∀ o i, o ≠ 51 → (am_pi σ 51 12 (Int32.ofInt x)).1 o i = σ.1 o i := fun o i q => pi_n _ _ _ _ (fun z => q z.1)
  refine ⟨?_, fun c => ?_, ?_, ?_, ?_, ?_, fun o i a c => ea o i (by omega), fun _ => rfl, ef _ (by decide), ef _ (by decide)⟩
  · have eW : pW (am_pi σ 51 12 (Int32.ofInt x)) = pW σ := by unfold pW; rw [ef _ (by decide)]
    unfold WL
    rw [eW]
    exact WLn_of (fun i _ => by unfold sw; rw [ea _ _ (by decide)])
  · have eC : pC (am_pi σ 51 12 (Int32.ofInt x)) = pC σ := by unfold pC; rw [ef _ (by decide)]
    unfold CL
    rw [eC]
    exact CLn_of (fun i _ _ => ⟨by unfold cd; rw [ea _ _ (by decide)], by unfold cI; rw [ea _ _ (by decide)]⟩)
  · unfold pO; rw [pi_s, ii_t (by omega) (by omega)]
  · unfold pF; rw [ef _ (by decide)]
  · unfold pFp; rw [ef _ (by decide)]
  · unfold pT; rw [ef _ (by decide)]
theorem rOK_of {b : Nat → Int} {Z t : Nat} {σ τ : am_S} (h : rOK b Z σ t) (h1 : pT τ = pT σ) (h2 : pF τ = pF σ) : rOK b Z τ t := ⟨h.1, h1.trans h.2.1, h2.trans h.2.2⟩
/-- a bracket opens -/
theorem XA_open {σ0 σ υ : am_S} {d : Nat} (h : XA σ0 σ 0) (hz : pF σ = 0) (hk : kdT σ = 6) (hO : pO σ = (d : Int)) (hd : d ≤ 5) (hB : sb_ok BB SH (am_pi σ 51 12 (Int32.ofInt ((d + 1 : Nat) : Int)))) (eυ : υ = goS (am_pi σ 51 12 (Int32.ofInt ((d + 1 : Nat) : Int)))) (hw : pW υ ≤ 63) : XA σ0 (psS υ 6) 0 := by
  obtain ⟨o1, o2, o3, o4, o5, o6, o7⟩ := opS_l (σ := σ) (x := ((d + 1 : Nat) : Int)) ⟨by omega, by omega⟩
  obtain ⟨u, eu⟩ : ∃ u, u = am_pi σ 51 12 (Int32.ofInt ((d + 1 : Nat) : Int)) := ⟨_, rfl⟩
  rw [← eu] at o1 o2 o3 o4 o5 o6 o7 hB eυ
  have gk := goS_ok hB
  rw [← eυ] at gk
  obtain ⟨p1, p2, p3, p4, p5, p6, p7⟩ := psS_l (k := 6) gk.1.1.1 hw ⟨by decide, by decide⟩
  refine XA_go h hz (wX_t o7.2.2 (wX_t (by rw [eυ]; exact wX_g) p7.2.2)) (fun b Z t0 t v r hR => ?_)
  have ek := kd_of v r
  rw [hk] at ek
  have tb := r.1.1
  obtain ⟨v2, g⟩ := goS_t hB (wVR_tks v o7) (rOK_of r o6 o4) (by rw [← ek]; decide)
  rw [← eυ] at v2 g
  refine ⟨wVR_tks v2 p7, ?_⟩
  rcases g with ⟨g1, g2, g3⟩ | ⟨g1, g2⟩
  · refine Or.inr (xF_of hR (m := 5) (k := 2) ?_ tb (Or.inr ⟨rfl, rfl⟩) (p4.trans g2) (p5.trans g3))
    simp only [syS]
    rw [if_pos ek.symm, if_pos (Or.inr g1)]
  · refine Or.inl ⟨t + 1, rOK_of g2 p6 p4, syR_t hR (syR_s ?_)⟩
    simp only [syS]
    rw [if_pos ek.symm, if_neg (by rw [hO]; omega), p1, p2, p3, TK_O gk.1, o3, WL_TK gk.1, CL_TK gk.1, o1, o2, hO]
    have e1 : ((d : Int)).toNat = d := by omega
    have e2 : (((d + 1 : Nat) : Int)).toNat = d + 1 := by omega
    rw [e1, e2]
/-- six brackets are open -/
theorem XA_full {σ0 σ : am_S} {m : Nat} (h : XA σ0 σ 0) (hz : pF σ = 0) (hk : kdT σ = 6) (hO : pO σ = 6) (hB : sb_ok BB SH σ) : XA σ0 (failS 2 σ) m := by
  have ok := failS_ok hB (k := 2) ⟨by decide, by decide⟩
  have f := failS_F (k := 2) hz ⟨by decide, by decide⟩
  refine XA_go h hz wX_f (fun b Z t0 t v r hR => ⟨wVR_TK v ok.1, Or.inr (xF_of hR (m := 5) (k := 2) ?_ r.1.1 (Or.inr ⟨rfl, rfl⟩) f.1 (f.2.trans (pl_of v r)))⟩)
  have ek := kd_of v r
  simp only [syS]
  rw [if_pos (by omega), if_pos (Or.inl (by rw [hO]; rfl))]
/-- a unit -/
theorem XA_unit {σ0 σ : am_S} (h : XA σ0 σ 0) (hk : ¬ (pF σ = 0 ∧ kdT σ = 6)) (hB : sb_ok BB SH σ) (hc : pC σ ≤ 839) (hc0 : 0 ≤ pC σ0 ∧ pC σ0 ≤ pC σ) : XA σ0 (unS σ) 1 := by
  by_cases hz : pF σ = 0
  · refine XA_go h hz wX_u (fun b Z t0 t v r hR => ?_)
    have ek := kd_of v r
    have kb := tkd_b (b := b) (Z := Z) (i := ps b Z t)
    have kb : 0 ≤ tK b Z t ∧ tK b Z t ≤ 38 := ⟨kb.1, kb.2.1⟩
    have tb := r.1.1
    have em : ∀ k x : Int, (k = 0 ∨ k = 1) → (-2147483648 ≤ x ∧ x < 2147483648) → (t < 400 → syS (tK b Z) (tV b Z) (0, t, WL σ, (pO σ).toNat, CL σ (pC σ0).toNat) = (1, t + 1, WL σ, (pO σ).toNat, CL σ (pC σ0).toNat ++ [(k, x)])) → (t = 400 → syS (tK b Z) (tV b Z) (0, t, WL σ, (pO σ).toNat, CL σ (pC σ0).toNat) = (5, t, [], 0, [])) → tK b Z t ≠ 0 → wVR b Z (goS (emS σ k x)) ∧ (xO b Z t0 (pC σ0).toNat (goS (emS σ k x)) 1 ∨ xF b Z t0 (goS (emS σ k x))) := by
      intro k x hk01 hx s1 s2 n0
      have hBe := emS_ok (v := x) hB (k := k) ⟨by omega, by omega⟩ hc
      have ve : wVR b Z (emS σ k x) := wVR_fr v (fun o i a c => emS_o (by omega) (by omega) (fun z => by omega)) (fun _ => rfl)
      have re : rOK b Z (emS σ k x) t := rOK_of r emS_T emS_F
      have gk := goS_ok hBe
      obtain ⟨v2, g⟩ := goS_t hBe ve re n0
      refine ⟨v2, ?_⟩
      rcases g with ⟨g1, g2, g3⟩ | ⟨g1, g2⟩
      · exact Or.inr (xF_of hR (m := 5) (k := 2) (s2 g1) tb (Or.inr ⟨rfl, rfl⟩) g2 g3)
      · refine Or.inl ⟨t + 1, g2, syR_t hR (syR_s ?_)⟩
        rw [s1 g1, WL_TK gk.1, CL_TK gk.1, TK_O gk.1, WL_em, CL_em ⟨by omega, by omega⟩ hx ⟨by omega, hc⟩, emS_O]
    unfold unS
    rw [ek]
    by_cases k2 : tK b Z t = 2
    · rw [if_pos ⟨hz, k2⟩, vl_of v r k2]
      have vb := tV_b k2
      refine em 0 (tV b Z t) (Or.inl rfl) ⟨by omega, by omega⟩ (fun q => ?_) (fun q => ?_) (by omega)
      · simp only [syS]
        rw [if_neg (by omega), if_pos k2, if_neg (by omega)]
      · simp only [syS]
        rw [if_neg (by omega), if_pos k2, if_pos q]
    · rw [if_neg (fun z => k2 z.2)]
      by_cases k3 : 30 ≤ tK b Z t ∧ tK b Z t ≤ 38
      · rw [if_pos ⟨hz, k3⟩]
        refine em 1 (tK b Z t - 30) (Or.inr rfl) ⟨by omega, by omega⟩ (fun q => ?_) (fun q => ?_) (by omega)
        · simp only [syS]
          rw [if_neg (by omega), if_neg k2, if_pos k3, if_neg (by omega)]
        · simp only [syS]
          rw [if_neg (by omega), if_neg k2, if_pos k3, if_pos q]
      · rw [if_neg (fun z => k3 z.2)]
        have ok := failS_ok hB (k := 1) ⟨by decide, by decide⟩
        have f := failS_F (k := 1) hz ⟨by decide, by decide⟩
        refine ⟨wVR_TK v ok.1, Or.inr (xF_of hR (m := 4) (k := 1) ?_ tb (Or.inl ⟨rfl, rfl⟩) f.1 (f.2.trans (pl_of v r)))⟩
        simp only [syS]
        rw [if_neg (fun z => hk ⟨hz, ek.trans z⟩), if_neg k2, if_neg k3]
  · unfold unS
    rw [if_neg (fun z => hz z.1), if_neg (fun z => hz z.1), failS_z hz]
    exact XA_flt h hz (tks_r σ) rfl rfl
theorem coR_l {st : Int} {σ τ : am_S} (h : coR st σ τ) : pO τ = pO σ ∧ pF τ = pF σ ∧ pFp τ = pFp σ ∧ pT τ = pT σ ∧ tks σ τ ∧ (∀ i, τ.1 54 i = σ.1 54 i) := by
  obtain ⟨j, h1, h2, h3, h4, h5, h6, h7, h8⟩ := h
  refine ⟨?_, ?_, ?_, ?_, ⟨fun o i a c => h7 _ _ (by omega) (by omega) (fun z => by omega), fun i => by rw [h8], h7 _ _ (by decide) (by decide) (by decide), h7 _ _ (by decide) (by decide) (by decide)⟩, fun i => h7 _ _ (by decide) (by decide) (fun z => absurd z.1 (by decide))⟩
  · unfold pO; rw [h7 _ _ (by decide) (by decide) (by decide)]
  · unfold pF; rw [h7 _ _ (by decide) (by decide) (by decide)]
  · unfold pFp; rw [h7 _ _ (by decide) (by decide) (by decide)]
  · unfold pT; rw [h7 _ _ (by decide) (by decide) (by decide)]
theorem wtS_l {σ : am_S} (hB : sb_ok BB SH σ) (hw : 0 < pW σ) : WL (wtS σ) = (WL σ).tail ∧ (∀ c, CL (wtS σ) c = CL σ c) ∧ pO (wtS σ) = pO σ ∧ pF (wtS σ) = pF σ ∧ pFp (wtS σ) = pFp σ ∧ pT (wtS σ) = pT σ ∧ tks σ (wtS σ) := by
  have wb := pW_b hB
  have ef : ∀ i, i ≠ 41 → (wtS σ).1 51 i = σ.1 51 i := fun i q => pi_n _ _ _ _ (fun z => q z.2)
  have ea : ∀ o i, o ≠ 51 → (wtS σ).1 o i = σ.1 o i := fun o i q => pi_n _ _ _ _ (fun z => q z.1)
  have eW : pW (wtS σ) = pW σ - 1 := by
    show ((am_pi σ 51 41 (Int32.ofInt (pW σ - 1))).1 51 41).toInt = _
    rw [pi_s, ii_t (by omega) (by omega)]
  refine ⟨?_, fun c => ?_, ?_, ?_, ?_, ?_, fun o i a c => ea o i (by omega), fun _ => rfl, ef _ (by decide), ef _ (by decide)⟩
  · rw [WL_pop hw]
    unfold WL
    rw [eW]
    exact WLn_of (fun i _ => by unfold sw; rw [ea _ _ (by decide)])
  · unfold CL
    rw [wtS_C]
    exact CLn_of (fun i _ _ => ⟨by unfold cd; rw [ea _ _ (by decide)], by unfold cI; rw [ea _ _ (by decide)]⟩)
  · unfold pO; rw [ef _ (by decide)]
  · unfold pF; rw [ef _ (by decide)]
  · unfold pFp; rw [ef _ (by decide)]
  · unfold pT; rw [ef _ (by decide)]
/-- a bracket closes -/
theorem XA_close {σ0 σ τ υ : am_S} {d : Nat} (h : XA σ0 σ 1) (hz : pF σ = 0) (hk : kdT σ = 7) (hO : pO σ = (d : Int)) (hd : 0 < d ∧ d ≤ 7) (hco : coR 0 σ τ) (hX : ∀ c : Nat, (c : Int) ≤ pC σ → syF false (WL σ) (CL σ c) = (WL τ, CL τ c)) (hBt : sb_ok BB SH τ) (hw : 0 < pW τ) (hc : 0 ≤ pC σ0 ∧ pC σ0 ≤ pC σ) (hB : sb_ok BB SH (am_pi (wtS τ) 51 12 (Int32.ofInt ((d - 1 : Nat) : Int)))) (eυ : υ = goS (am_pi (wtS τ) 51 12 (Int32.ofInt ((d - 1 : Nat) : Int)))) : XA σ0 υ 1 := by
  obtain ⟨c1, c2, c3, c4, c5, _⟩ := coR_l hco
  obtain ⟨w1, w2, w3, w4, w5, w6, w7⟩ := wtS_l hBt hw
  obtain ⟨o1, o2, o3, o4, o5, o6, o7⟩ := opS_l (σ := wtS τ) (x := ((d - 1 : Nat) : Int)) ⟨by omega, by omega⟩
  obtain ⟨u, eu⟩ : ∃ u, u = am_pi (wtS τ) 51 12 (Int32.ofInt ((d - 1 : Nat) : Int)) := ⟨_, rfl⟩
  rw [← eu] at o1 o2 o3 o4 o5 o6 o7 hB eυ
  have gk := goS_ok hB
  rw [← eυ] at gk
  have hX := hX (pC σ0).toNat (by omega)
  refine XA_go h hz (wX_t c5.2.2 (wX_t w7.2.2 (wX_t o7.2.2 (by rw [eυ]; exact wX_g)))) (fun b Z t0 t v r hR => ?_)
  have ek := kd_of v r
  rw [hk] at ek
  have tb := r.1.1
  have vu : wVR b Z u := wVR_tks (wVR_tks (wVR_tks v c5) w7) o7
  obtain ⟨v2, g⟩ := goS_t hB vu (rOK_of r (o6.trans (w6.trans c4)) (o4.trans (w4.trans c2))) (by rw [← ek]; decide)
  rw [← eυ] at v2 g
  refine ⟨v2, ?_⟩
  have d0 : 0 < (pO σ).toNat := by rw [hO]; omega
  rcases g with ⟨g1, g2, g3⟩ | ⟨g1, g2⟩
  · refine Or.inr (xF_of hR (m := 5) (k := 2) ?_ tb (Or.inr ⟨rfl, rfl⟩) g2 g3)
    simp only [syS]
    rw [if_pos ⟨ek.symm, d0⟩, if_pos g1]
  · refine Or.inl ⟨t + 1, g2, syR_t hR (syR_s ?_)⟩
    simp only [syS]
    rw [if_pos ⟨ek.symm, d0⟩, if_neg (by omega), hX, WL_TK gk.1, CL_TK gk.1, TK_O gk.1, o1, o2, o3, w1, w2, hO]
    have e1 : ((d : Int)).toNat - 1 = ((d - 1 : Nat) : Int).toNat := by omega
    rw [e1]
/-- a sign -/
theorem XA_op {σ0 σ τ υ : am_S} {s : Int} (h : XA σ0 σ 1) (hz : pF σ = 0) (hk : kdT σ = 8 ∨ kdT σ = 9 ∨ kdT σ = 10 ∨ kdT σ = 15) (hs : s = 1 ↔ (kdT σ = 10 ∨ kdT σ = 15)) (hco : coR s σ τ) (hX : ∀ c : Nat, (c : Int) ≤ pC σ → syF (decide (s = 1)) (WL σ) (CL σ c) = (WL τ, CL τ c)) (hBt : sb_ok BB SH τ) (hw : pW τ ≤ 63) (hc : 0 ≤ pC σ0 ∧ pC σ0 ≤ pC σ) (hB : sb_ok BB SH (psS τ (kdT σ))) (eυ : υ = goS (psS τ (kdT σ))) : XA σ0 υ 0 := by
  obtain ⟨c1, c2, c3, c4, c5, _⟩ := coR_l hco
  obtain ⟨p1, p2, p3, p4, p5, p6, p7⟩ := psS_l (k := kdT σ) hBt hw ⟨by omega, by omega⟩
  obtain ⟨u, eu⟩ : ∃ u, u = psS τ (kdT σ) := ⟨_, rfl⟩
  rw [← eu] at p1 p2 p3 p4 p5 p6 p7 hB eυ
  have gk := goS_ok hB
  rw [← eυ] at gk
  have hX := hX (pC σ0).toNat (by omega)
  refine XA_go h hz (wX_t c5.2.2 (wX_t p7.2.2 (by rw [eυ]; exact wX_g))) (fun b Z t0 t v r hR => ?_)
  have ek := kd_of v r
  have tb := r.1.1
  have es : decide (s = 1) = decide (tK b Z t = 10 ∨ tK b Z t = 15) := by
    rw [← ek]
    exact decide_eq_decide.mpr hs
  rw [es] at hX
  obtain ⟨v2, g⟩ := goS_t hB (wVR_tks (wVR_tks v c5) p7) (rOK_of r (p6.trans c4) (p4.trans c2)) (by rw [← ek]; omega)
  rw [← eυ] at v2 g
  refine ⟨v2, ?_⟩
  rcases g with ⟨g1, g2, g3⟩ | ⟨g1, g2⟩
  · refine Or.inr (xF_of hR (m := 5) (k := 2) ?_ tb (Or.inr ⟨rfl, rfl⟩) g2 g3)
    simp only [syS]
    rw [if_neg (by omega), if_pos (by omega), if_pos g1]
  · refine Or.inl ⟨t + 1, g2, syR_t hR (syR_s ?_)⟩
    simp only [syS]
    rw [if_neg (by omega), if_pos (by omega), if_neg (by omega), hX, WL_TK gk.1, CL_TK gk.1, TK_O gk.1, p1, p2, p3, c1, ek]
/-- something else, and brackets are open -/
theorem XA_left {σ0 σ : am_S} {m : Nat} (h : XA σ0 σ 1) (hn : pF σ = 0 → kdT σ ≠ 7 ∧ ¬ (kdT σ = 8 ∨ kdT σ = 9 ∨ kdT σ = 10 ∨ kdT σ = 15)) (hO : pF σ = 0 → 0 < pO σ) (hB : sb_ok BB SH σ) : XA σ0 (failS 1 σ) m := by
  by_cases hz : pF σ = 0
  · have ok := failS_ok hB (k := 1) ⟨by decide, by decide⟩
    have f := failS_F (k := 1) hz ⟨by decide, by decide⟩
    obtain ⟨n1, n2⟩ := hn hz
    have d0 := hO hz
    refine XA_go h hz wX_f (fun b Z t0 t v r hR => ⟨wVR_TK v ok.1, Or.inr (xF_of hR (m := 4) (k := 1) ?_ r.1.1 (Or.inl ⟨rfl, rfl⟩) f.1 (f.2.trans (pl_of v r)))⟩)
    have ek := kd_of v r
    rw [ek] at n1 n2
    simp only [syS]
    rw [if_neg (fun z => n1 z.1), if_neg n2, if_pos (by omega)]
  · rw [failS_z hz]
    exact XA_flt h hz (tks_r σ) rfl rfl
/-- the end -/
theorem XE_end {σ0 σ τ : am_S} (h : XA σ0 σ 1) (hn : pF σ = 0 → ¬ (kdT σ = 7 ∧ 0 < pO σ) ∧ ¬ (kdT σ = 8 ∨ kdT σ = 9 ∨ kdT σ = 10 ∨ kdT σ = 15)) (hO : pF σ = 0 → pO σ = 0) (hco : coR 0 σ τ) (hX : ∀ c : Nat, (c : Int) ≤ pC σ → syF false (WL σ) (CL σ c) = (WL τ, CL τ c)) (hc : 0 ≤ pC σ0 ∧ pC σ0 ≤ pC σ) : XE σ0 τ := by
  obtain ⟨c1, c2, c3, c4, c5, _⟩ := coR_l hco
  by_cases hz : pF σ = 0
  · have hX := hX (pC σ0).toNat (by omega)
    obtain ⟨n1, n2⟩ := hn hz
    have d0 := hO hz
    refine ⟨wX_t h.1 c5.2.2, fun b Z t0 h0 => ?_⟩
    obtain ⟨v, h1⟩ := h.2 b Z t0 h0
    refine ⟨wVR_tks v c5, Or.inl ?_⟩
    rcases h1 with ⟨t, r, hR⟩ | ⟨t', k, h1, h2, h3, h4⟩
    · have ek := kd_of v r
      rw [ek] at n1 n2
      refine ⟨t, rOK_of r c4 c2, syE_of (syR_t hR (syR_s ?_)) (Nat.le_refl _) h0.2.1.1⟩
      simp only [syS]
      rw [if_neg (fun z => n1 ⟨z.1, by omega⟩), if_neg n2, if_neg (by omega), hX]
    · exfalso
      rcases h2 with ⟨_, q⟩ | ⟨_, q⟩ <;> omega
  · exact XE_flt (XA_flt (m' := 1) h hz c5 c2 c3) (by rw [c2]; exact hz)
/-- the start -/
theorem XA_start {σ τ : am_S} (hk : tks σ τ) (h1 : pT τ = pT σ) (h2 : pF τ = pF σ) (hW : pW τ = 0) (hO : pO τ = 0) (hC : pC τ = pC σ) (hc : 0 ≤ pC σ) : XA σ τ 0 := by
  refine ⟨hk.2.2, fun b Z t0 h0 => ?_⟩
  obtain ⟨v, r⟩ := h0
  refine ⟨wVR_tks v hk, Or.inl ⟨t0, rOK_of r h1 h2, ?_⟩⟩
  have e1 : WL τ = [] := by unfold WL; rw [hW]; rfl
  have e2 : CL τ (pC σ).toNat = [] := by
    unfold CL
    rw [hC, show (pC σ - ((pC σ).toNat : Int)).toNat = 0 by omega]
    rfl
  rw [e1, e2, hO]
  exact syR_r _
