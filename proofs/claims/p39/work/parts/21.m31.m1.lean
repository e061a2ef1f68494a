theorem nb_0 : vp_nar .boolean (Int32.ofInt 0) = Int32.ofInt 0 := rfl
theorem nb_1 : vp_nar .boolean (Int32.ofInt 1) = Int32.ofInt 1 := rfl
theorem am_Sext {σ τ : am_S} (h : ∀ o k, σ.1 o k = τ.1 o k) (h2 : σ.2 = τ.2) : σ = τ := Prod.ext (funext fun o => funext fun k => h o k) h2
theorem ij_in {a : Int} {n : Nat} (h : -2147483648 ≤ a) (h2 : a < 2147483648) : vp_in (Int32.ofInt a) n = (0 ≤ a ∧ a.toNat < n) := by
  rw [ii_in h h2]
  apply propext
  constructor
  · intro q; omega
  · intro q; omega
theorem nb_if {p : Prop} [Decidable p] : vp_nar .boolean (Int32.ofInt (if p then 1 else 0)) = Int32.ofInt (if p then 1 else 0) := by split <;> rfl
theorem am_pe {post : Option Value → am_S → Prop} {σ : am_S} {a b : Int} (h : post (some (.int (Int32.ofInt a))) σ) (e : b = a) : post (some (.int (Int32.ofInt b))) σ := e ▸ h
/-- a loop that counts up to N -/
theorem am_up {P : Nat → Prop} (N : Nat) (h : ∀ k, k ≤ N → (k < N → P (k + 1)) → P k) : ∀ k, k ≤ N → P k := by
  have key : ∀ (d k : Nat), k + d = N → P k := by
    intro d
    induction d with
    | zero => intro k hk; exact h k (by omega) (fun q => absurd hk (by omega))
    | succ d ih => intro k hk; exact h k (by omega) (fun _ => ih (k + 1) (by omega))
  intro k hk
  exact key (N - k) k (by omega)
theorem ik_s (k : Nat) : Int32.ofInt (k : Int) + Int32.ofInt 1 = Int32.ofInt ((k + 1 : Nat) : Int) := by rw [ii_add]; rfl
theorem ik_c {k : Nat} (h : k < 2147483648) : (Int32.ofInt (k : Int)).toNatClampNeg = k := by rw [ii_c (by omega) (by omega)]; exact Int.toNat_natCast k
theorem ik_in {k n : Nat} (h : k < 2147483648) : vp_in (Int32.ofInt (k : Int)) n = (k < n) := by
  rw [ij_in (by omega) (by omega), Int.toNat_natCast]
  apply propext
  constructor
  · intro q; exact q.2
  · intro q; exact ⟨by omega, q⟩
-- in(v, least, most)
def sX12_in : am_Sp := fun as _ σ post => ∃ v a b : Int, (-2147483648 ≤ v ∧ v < 2147483648) ∧ (-2147483648 ≤ a ∧ a < 2147483648) ∧ (-2147483648 ≤ b ∧ b < 2147483648) ∧ as = [.int (Int32.ofInt v), .int (Int32.ofInt a), .int (Int32.ofInt b)] ∧ post (some (.int (Int32.ofInt (if a ≤ v ∧ v ≤ b then 1 else 0)))) σ
def xX12_in : am_X := (SH, KF, (some .boolean), FT_X12, PT_X12, CT_X12, KT_X12, LT_X12, NT_X12, [])
theorem xX12_in_SH : am_SH xX12_in = SH := rfl
theorem xX12_in_KF : am_KF xX12_in = KF := rfl
theorem xX12_in_rt : am_rt xX12_in = (some .boolean) := rfl
theorem xX12_in_FT : am_FT xX12_in = FT_X12 := rfl
theorem xX12_in_PT : am_PT xX12_in = PT_X12 := rfl
theorem xX12_in_CT : am_CT xX12_in = CT_X12 := rfl
theorem xX12_in_KT : am_KT xX12_in = KT_X12 := rfl
theorem xX12_in_LT : am_LT xX12_in = LT_X12 := rfl
theorem xX12_in_NT : am_NT xX12_in = NT_X12 := rfl
theorem xX12_in_t2 (k : Nat → Prop) : am_tg 2 (12) k = k 14 := am_tg_eq (by decide)
theorem xX12_in_t7 (k : Nat → Prop) : am_tg 7 (7) k = k 14 := am_tg_eq (by decide)
theorem xX12_in_t11 (k : Nat → Prop) : am_tg 11 (4) k = k 15 := am_tg_eq (by decide)

theorem pX12_in : am_B cX12_in xX12_in 3 0 sX12_in := by
  intro n0 as σ post AA hA h
  obtain ⟨v, a, b, hv, ha, hb, rfl, h⟩ := h
  refine ⟨by simp [am_sl, Value.category], ?_⟩
  show AA 0 [some (.int (Int32.ofInt v)), some (.int (Int32.ofInt a)), some (.int (Int32.ofInt b))] [] n0 σ
  refine hA [] 40 _ _ _ _ _ ?_
  simp (disch := omega) only [dX12_in_0, dX12_in_1, dX12_in_2, xX12_in_t2, dX12_in_5, dX12_in_6, dX12_in_7, xX12_in_t7, dX12_in_10, dX12_in_11, xX12_in_t11, dX12_in_14, dX12_in_15, xX12_in_SH, xX12_in_KF, xX12_in_rt, xX12_in_FT, xX12_in_PT, xX12_in_CT, xX12_in_KT, xX12_in_LT, xX12_in_NT, o_goto, o_iconst, o_if_icmp_gt, o_if_icmp_lt, o_iload_n, o_ireturn, am_ty, am_vc, am_opt, am_cl, am_find, am_ldi, am_ldl, am_lda, am_v, am_1, am_1l, am_1a, am_2, am_2l, am_ix, am_ri, am_arr, am_pf, am_rc, am_mask, am_lg, am_av, am_nat, fv_0, fv_1, fv_2, fv_3, fw_0, fw_1, List.getElem?_cons_zero, List.getElem?_cons_succ, List.set_cons_zero, List.set_cons_succ, List.length_cons, List.length_nil, List.take_succ_cons, List.take_zero, List.drop_succ_cons, List.drop_zero, List.reverse_cons, List.reverse_nil, List.nil_append, List.cons_append, List.append_nil, List.map_cons, List.map_nil, List.sum_cons, List.sum_nil, Value.category, Option.toList_some, Option.toList_none, Nat.reduceAdd, Nat.reduceLT, Nat.reduceLeDiff, Nat.reduceEqDiff, Nat.reduceSub, Nat.add_zero, Nat.le_refl, Nat.zero_le, Int.reduceNeg, Int.reduceLE, Int.reduceLT, true_and, and_true, and_self, if_true, if_false, ite_true, ite_false, eq_self_iff_true, reduceIte, reduceCtorEq, not_false_eq_true, not_true_eq_false, or_true, true_or, or_false, false_or, Nat.lt_irrefl, Nat.zero_lt_succ, nb_0, nb_1, ii_lt, ii_le]
  refine ⟨fun h1 => ?_, fun h1 => ⟨fun h2 => ?_, fun h2 => ?_⟩⟩
  · rw [if_neg (by omega)] at h; exact h
  · rw [if_neg (by omega)] at h; exact h
  · rw [if_pos (by omega)] at h; exact h
theorem mX12_in (l : Launch) : am_M l TB NB vwCl SH KF yX12_in cX12_in 3 (some .boolean) 2 0 0 sX12_in := by
  refine am_M.of xX12_in (by decide +kernel) TB_good GF rfl rfl rfl (by decide) ⟨FT_X12_ok, PT_X12_ok _, CT_X12_ok, KT_X12_ok, LT_X12_ok, NT_X12_ok, ?_⟩ pX12_in
  exact fun _ h => absurd h List.not_mem_nil


-- within, off, mixed
def sX12_within : am_Sp := fun as _ σ post => ∃ v a b : Int, (-2147483648 ≤ v ∧ v < 2147483648) ∧ (-2147483648 ≤ a ∧ a < 2147483648) ∧ (-2147483648 ≤ b ∧ b < 2147483648) ∧ as = [.int (Int32.ofInt v), .int (Int32.ofInt a), .int (Int32.ofInt b)] ∧ post (some (.int (Int32.ofInt (if v < a then a else if b < v then b else v)))) σ
def xX12_within : am_X := (SH, KF, (some .int), FT_X12, PT_X12, CT_X12, KT_X12, LT_X12, NT_X12, [])
theorem xX12_within_SH : am_SH xX12_within = SH := rfl
theorem xX12_within_KF : am_KF xX12_within = KF := rfl
theorem xX12_within_rt : am_rt xX12_within = (some .int) := rfl
theorem xX12_within_FT : am_FT xX12_within = FT_X12 := rfl
theorem xX12_within_PT : am_PT xX12_within = PT_X12 := rfl
theorem xX12_within_CT : am_CT xX12_within = CT_X12 := rfl
theorem xX12_within_KT : am_KT xX12_within = KT_X12 := rfl
theorem xX12_within_LT : am_LT xX12_within = LT_X12 := rfl
theorem xX12_within_NT : am_NT xX12_within = NT_X12 := rfl
theorem xX12_within_t2 (k : Nat → Prop) : am_tg 2 (7) k = k 9 := am_tg_eq (by decide)
theorem xX12_within_t6 (k : Nat → Prop) : am_tg 6 (13) k = k 19 := am_tg_eq (by decide)
theorem xX12_within_t11 (k : Nat → Prop) : am_tg 11 (7) k = k 18 := am_tg_eq (by decide)
theorem xX12_within_t15 (k : Nat → Prop) : am_tg 15 (4) k = k 19 := am_tg_eq (by decide)

theorem pX12_within : am_B cX12_within xX12_within 3 0 sX12_within := by
  intro n0 as σ post AA hA h
  obtain ⟨v, a, b, hv, ha, hb, rfl, h⟩ := h
  refine ⟨by simp [am_sl, Value.category], ?_⟩
  show AA 0 [some (.int (Int32.ofInt v)), some (.int (Int32.ofInt a)), some (.int (Int32.ofInt b))] [] n0 σ
  refine hA [] 40 _ _ _ _ _ ?_
  simp (disch := omega) only [dX12_within_0, dX12_within_1, dX12_within_2, xX12_within_t2, dX12_within_5, dX12_within_6, xX12_within_t6, dX12_within_9, dX12_within_10, dX12_within_11, xX12_within_t11, dX12_within_14, dX12_within_15, xX12_within_t15, dX12_within_18, dX12_within_19, xX12_within_SH, xX12_within_KF, xX12_within_rt, xX12_within_FT, xX12_within_PT, xX12_within_CT, xX12_within_KT, xX12_within_LT, xX12_within_NT, o_goto, o_if_icmp_ge, o_if_icmp_le, o_iload_n, o_ireturn, am_ty, am_vc, am_opt, am_cl, am_find, am_ldi, am_ldl, am_lda, am_v, am_1, am_1l, am_1a, am_2, am_2l, am_ix, am_ri, am_arr, am_pf, am_rc, am_mask, am_lg, am_av, am_nat, fv_0, fv_1, fv_2, fv_3, fw_0, fw_1, List.getElem?_cons_zero, List.getElem?_cons_succ, List.set_cons_zero, List.set_cons_succ, List.length_cons, List.length_nil, List.take_succ_cons, List.take_zero, List.drop_succ_cons, List.drop_zero, List.reverse_cons, List.reverse_nil, List.nil_append, List.cons_append, List.append_nil, List.map_cons, List.map_nil, List.sum_cons, List.sum_nil, Value.category, Option.toList_some, Option.toList_none, Nat.reduceAdd, Nat.reduceLT, Nat.reduceLeDiff, Nat.reduceEqDiff, Nat.reduceSub, Nat.add_zero, Nat.le_refl, Nat.zero_le, Int.reduceNeg, Int.reduceLE, Int.reduceLT, true_and, and_true, and_self, if_true, if_false, ite_true, ite_false, eq_self_iff_true, reduceIte, reduceCtorEq, not_false_eq_true, not_true_eq_false, or_true, true_or, or_false, false_or, Nat.lt_irrefl, Nat.zero_lt_succ, nb_0, nb_1, ii_lt, ii_le]
  repeat' (first | refine And.intro ?_ ?_ | intro _)
  all_goals (refine am_pe h ?_; (repeat' split) <;> omega)
theorem mX12_within (l : Launch) : am_M l TB NB vwCl SH KF yX12_within cX12_within 3 (some .int) 2 0 0 sX12_within := by
  refine am_M.of xX12_within (by decide +kernel) TB_good GF rfl rfl rfl (by decide) ⟨FT_X12_ok, PT_X12_ok _, CT_X12_ok, KT_X12_ok, LT_X12_ok, NT_X12_ok, ?_⟩ pX12_within
  exact fun _ h => absurd h List.not_mem_nil

def mixv (h v : Int32) : Int32 := ((h ^^^ v) * (1103515245 : Int32) + Int32.ofInt 12345) ^^^ (((h ^^^ v) * (1103515245 : Int32) + Int32.ofInt 12345).toUInt32 >>> ((Int32.ofInt 15).toUInt32 &&& Int32.toUInt32 31)).toInt32
def sX12_mixed : am_Sp := fun as _ σ post => ∃ a b : Int32, as = [.int a, .int b] ∧ post (some (.int (mixv a b))) σ
def xX12_mixed : am_X := (SH, KF, (some .int), FT_X12, PT_X12, CT_X12, KT_X12, LT_X12, NT_X12, [])
theorem xX12_mixed_SH : am_SH xX12_mixed = SH := rfl
theorem xX12_mixed_KF : am_KF xX12_mixed = KF := rfl
theorem xX12_mixed_rt : am_rt xX12_mixed = (some .int) := rfl
theorem xX12_mixed_FT : am_FT xX12_mixed = FT_X12 := rfl
theorem xX12_mixed_PT : am_PT xX12_mixed = PT_X12 := rfl
theorem xX12_mixed_CT : am_CT xX12_mixed = CT_X12 := rfl
theorem xX12_mixed_KT : am_KT xX12_mixed = KT_X12 := rfl
theorem xX12_mixed_LT : am_LT xX12_mixed = LT_X12 := rfl
theorem xX12_mixed_NT : am_NT xX12_mixed = NT_X12 := rfl

theorem pX12_mixed : am_B cX12_mixed xX12_mixed 3 0 sX12_mixed := by
  intro n0 as σ post AA hA h
  obtain ⟨a, b, rfl, h⟩ := h
  refine ⟨by simp [am_sl, Value.category], ?_⟩
  show AA 0 [some (.int a), some (.int b), none] [] n0 σ
  refine hA [] 40 _ _ _ _ _ ?_
  simp (disch := omega) only [dX12_mixed_0, dX12_mixed_1, dX12_mixed_2, dX12_mixed_3, KT_X12, dX12_mixed_6, dX12_mixed_7, dX12_mixed_10, dX12_mixed_11, dX12_mixed_12, dX12_mixed_13, dX12_mixed_14, dX12_mixed_16, dX12_mixed_17, dX12_mixed_18, xX12_mixed_SH, xX12_mixed_KF, xX12_mixed_rt, xX12_mixed_FT, xX12_mixed_PT, xX12_mixed_CT, xX12_mixed_KT, xX12_mixed_LT, xX12_mixed_NT, o_bipush, o_iadd, o_iload_n, o_imul, o_ireturn, o_istore_n, o_iushr, o_ixor, o_ldc_w, o_sipush, am_ty, am_vc, am_opt, am_cl, am_find, am_ldi, am_ldl, am_lda, am_v, am_1, am_1l, am_1a, am_2, am_2l, am_ix, am_ri, am_arr, am_pf, am_rc, am_mask, am_lg, am_av, am_nat, fv_0, fv_1, fv_2, fv_3, fw_0, fw_1, List.getElem?_cons_zero, List.getElem?_cons_succ, List.set_cons_zero, List.set_cons_succ, List.length_cons, List.length_nil, List.take_succ_cons, List.take_zero, List.drop_succ_cons, List.drop_zero, List.reverse_cons, List.reverse_nil, List.nil_append, List.cons_append, List.append_nil, List.map_cons, List.map_nil, List.sum_cons, List.sum_nil, Value.category, Option.toList_some, Option.toList_none, Nat.reduceAdd, Nat.reduceLT, Nat.reduceLeDiff, Nat.reduceEqDiff, Nat.reduceSub, Nat.add_zero, Nat.le_refl, Nat.zero_le, Int.reduceNeg, Int.reduceLE, Int.reduceLT, true_and, and_true, and_self, if_true, if_false, ite_true, ite_false, eq_self_iff_true, reduceIte, reduceCtorEq, not_false_eq_true, not_true_eq_false, or_true, true_or, or_false, false_or, Nat.lt_irrefl, Nat.zero_lt_succ]
  exact h
theorem mX12_mixed (l : Launch) : am_M l TB NB vwCl SH KF yX12_mixed cX12_mixed 3 (some .int) 2 0 0 sX12_mixed := by
  refine am_M.of xX12_mixed (by decide +kernel) TB_good GF rfl rfl rfl (by decide) ⟨FT_X12_ok, PT_X12_ok _, CT_X12_ok, KT_X12_ok, LT_X12_ok, NT_X12_ok, ?_⟩ pX12_mixed
  exact fun _ h => absurd h List.not_mem_nil

-- the facts of a state that are asked for most
-- isWhole(c)
-- nobody is there: onRung, widthsOf, widthsOn
theorem am_never {l : Launch} {KF : am_Kf} {y : MethodName} {cc : ByteArray} {maxL : Nat} {ret : Option FieldType} {d mc ms : Nat} : am_M l TB NB vwCl SH KF y cc maxL ret d mc ms (fun _ _ _ _ => False) := fun _ _ _ _ _ _ _ h => h.elim
-- keepsRow()
-- records()
-- pours(w)
-- isWater, isLong, isWidth
def sX12_isWater : am_Sp := fun as _ σ post => ∃ v : Int, (-2147483648 ≤ v ∧ v < 2147483648) ∧ as = [.int (Int32.ofInt v)] ∧ post (some (.int (Int32.ofInt (if 0 ≤ v ∧ v ≤ 99 then 1 else 0)))) σ
def xX12_isWater : am_X := (SH, KF, (some .boolean), FT_X12, PT_X12, CT_X12, KT_X12, LT_X12, NT_X12, [(292, 1, 3, 12, 0, 0, sX12_in)])
theorem xX12_isWater_SH : am_SH xX12_isWater = SH := rfl
theorem xX12_isWater_KF : am_KF xX12_isWater = KF := rfl
theorem xX12_isWater_rt : am_rt xX12_isWater = (some .boolean) := rfl
theorem xX12_isWater_FT : am_FT xX12_isWater = FT_X12 := rfl
theorem xX12_isWater_PT : am_PT xX12_isWater = PT_X12 := rfl
theorem xX12_isWater_CT : am_CT xX12_isWater = CT_X12 := rfl
theorem xX12_isWater_KT : am_KT xX12_isWater = KT_X12 := rfl
theorem xX12_isWater_LT : am_LT xX12_isWater = LT_X12 := rfl
theorem xX12_isWater_NT : am_NT xX12_isWater = NT_X12 := rfl
theorem xX12_isWater_c292 : am_find (am_ML xX12_isWater) 292 = some (1, 3, 12, 0, 0, sX12_in) := rfl
theorem xX12_isWater_n292 : am_find NT_X12 292 = none := rfl

set_option maxRecDepth 100000 in
theorem pX12_isWater : am_B cX12_isWater xX12_isWater 1 0 sX12_isWater := by
  intro n0 as σ post AA hA h
  obtain ⟨v, hv, rfl, h⟩ := h
  refine ⟨by simp [am_sl, Value.category], ?_⟩
  show AA 0 [some (.int (Int32.ofInt v))] [] n0 σ
  refine hA [] 20 _ _ _ _ _ ?_
  try simp only [dX12_isWater_0, dX12_isWater_1, dX12_isWater_2, dX12_isWater_4, xX12_isWater_c292, xX12_isWater_n292, dX12_isWater_7, xX12_isWater_SH, xX12_isWater_KF, xX12_isWater_rt, xX12_isWater_FT, xX12_isWater_PT, xX12_isWater_CT, xX12_isWater_KT, xX12_isWater_LT, xX12_isWater_NT, o_bipush, o_iconst, o_iload_n, o_invokestatic, o_ireturn, am_ty, am_vc, am_opt, am_cl, am_find, am_ldi, am_ldl, am_lda, am_v, am_1, am_1l, am_1a, am_2, am_2l, am_ix, am_ri, am_arr, am_pf, am_rc, am_mask, am_lg, am_av, am_nat, fv_0, fv_1, fv_2, fv_3, fw_0, fw_1, List.getElem?_cons_zero, List.getElem?_cons_succ, List.set_cons_zero, List.set_cons_succ, List.length_cons, List.length_nil, List.take_succ_cons, List.take_zero, List.drop_succ_cons, List.drop_zero, List.reverse_cons, List.reverse_nil, List.nil_append, List.cons_append, List.append_nil, List.map_cons, List.map_nil, List.sum_cons, List.sum_nil, Value.category, Option.toList_some, Option.toList_none, Nat.reduceAdd, Nat.reduceLT, Nat.reduceLeDiff, Nat.reduceEqDiff, Nat.reduceSub, Nat.add_zero, Nat.le_refl, Nat.zero_le, Int.reduceNeg, Int.reduceLE, Int.reduceLT, true_and, and_true, and_self, if_true, if_false, ite_true, ite_false, eq_self_iff_true, reduceIte, reduceCtorEq, not_false_eq_true, not_true_eq_false, or_true, true_or, or_false, false_or, Nat.lt_irrefl, Nat.zero_lt_succ]
  refine ⟨v, 0, 99, hv, by omega, by omega, rfl, ?_⟩
  try simp only [dX12_isWater_0, dX12_isWater_1, dX12_isWater_2, dX12_isWater_4, xX12_isWater_c292, xX12_isWater_n292, dX12_isWater_7, xX12_isWater_SH, xX12_isWater_KF, xX12_isWater_rt, xX12_isWater_FT, xX12_isWater_PT, xX12_isWater_CT, xX12_isWater_KT, xX12_isWater_LT, xX12_isWater_NT, o_bipush, o_iconst, o_iload_n, o_invokestatic, o_ireturn, am_ty, am_vc, am_opt, am_cl, am_find, am_ldi, am_ldl, am_lda, am_v, am_1, am_1l, am_1a, am_2, am_2l, am_ix, am_ri, am_arr, am_pf, am_rc, am_mask, am_lg, am_av, am_nat, fv_0, fv_1, fv_2, fv_3, fw_0, fw_1, List.getElem?_cons_zero, List.getElem?_cons_succ, List.set_cons_zero, List.set_cons_succ, List.length_cons, List.length_nil, List.take_succ_cons, List.take_zero, List.drop_succ_cons, List.drop_zero, List.reverse_cons, List.reverse_nil, List.nil_append, List.cons_append, List.append_nil, List.map_cons, List.map_nil, List.sum_cons, List.sum_nil, Value.category, Option.toList_some, Option.toList_none, Nat.reduceAdd, Nat.reduceLT, Nat.reduceLeDiff, Nat.reduceEqDiff, Nat.reduceSub, Nat.add_zero, Nat.le_refl, Nat.zero_le, Int.reduceNeg, Int.reduceLE, Int.reduceLT, true_and, and_true, and_self, if_true, if_false, ite_true, ite_false, eq_self_iff_true, reduceIte, reduceCtorEq, not_false_eq_true, not_true_eq_false, or_true, true_or, or_false, false_or, Nat.lt_irrefl, Nat.zero_lt_succ]
  exact ⟨nb_if, h⟩
theorem mX12_isWater (l : Launch) : am_M l TB NB vwCl SH KF yX12_isWater cX12_isWater 1 (some .boolean) 3 0 0 sX12_isWater := by
  refine am_M.of xX12_isWater (by decide +kernel) TB_good GF rfl rfl rfl (by decide) ⟨FT_X12_ok, PT_X12_ok _, CT_X12_ok, KT_X12_ok, LT_X12_ok, NT_X12_ok, ?_⟩ pX12_isWater
  exact List.forall_mem_cons.mpr ⟨⟨yX12_in, cX12_in, 3, (some .boolean), 2, 3, mX12_in l, by decide, by decide, tk_1621, tk_120, ⟨by decide +kernel, by decide +kernel, by decide +kernel⟩, rfl, tk_1619, tk_1620⟩, fun _ h => absurd h List.not_mem_nil⟩

def sX12_isLong : am_Sp := fun as _ σ post => ∃ v : Int, (-2147483648 ≤ v ∧ v < 2147483648) ∧ as = [.int (Int32.ofInt v)] ∧ post (some (.int (Int32.ofInt (if 0 ≤ v ∧ v ≤ 60 then 1 else 0)))) σ
def xX12_isLong : am_X := (SH, KF, (some .boolean), FT_X12, PT_X12, CT_X12, KT_X12, LT_X12, NT_X12, [(292, 1, 3, 12, 0, 0, sX12_in)])
theorem xX12_isLong_SH : am_SH xX12_isLong = SH := rfl
theorem xX12_isLong_KF : am_KF xX12_isLong = KF := rfl
theorem xX12_isLong_rt : am_rt xX12_isLong = (some .boolean) := rfl
theorem xX12_isLong_FT : am_FT xX12_isLong = FT_X12 := rfl
theorem xX12_isLong_PT : am_PT xX12_isLong = PT_X12 := rfl
theorem xX12_isLong_CT : am_CT xX12_isLong = CT_X12 := rfl
theorem xX12_isLong_KT : am_KT xX12_isLong = KT_X12 := rfl
theorem xX12_isLong_LT : am_LT xX12_isLong = LT_X12 := rfl
theorem xX12_isLong_NT : am_NT xX12_isLong = NT_X12 := rfl
theorem xX12_isLong_c292 : am_find (am_ML xX12_isLong) 292 = some (1, 3, 12, 0, 0, sX12_in) := rfl
theorem xX12_isLong_n292 : am_find NT_X12 292 = none := rfl

set_option maxRecDepth 100000 in
theorem pX12_isLong : am_B cX12_isLong xX12_isLong 1 0 sX12_isLong := by
  intro n0 as σ post AA hA h
  obtain ⟨v, hv, rfl, h⟩ := h
  refine ⟨by simp [am_sl, Value.category], ?_⟩
  show AA 0 [some (.int (Int32.ofInt v))] [] n0 σ
  refine hA [] 20 _ _ _ _ _ ?_
  try simp only [dX12_isLong_0, dX12_isLong_1, dX12_isLong_2, dX12_isLong_4, xX12_isLong_c292, xX12_isLong_n292, dX12_isLong_7, xX12_isLong_SH, xX12_isLong_KF, xX12_isLong_rt, xX12_isLong_FT, xX12_isLong_PT, xX12_isLong_CT, xX12_isLong_KT, xX12_isLong_LT, xX12_isLong_NT, o_bipush, o_iconst, o_iload_n, o_invokestatic, o_ireturn, am_ty, am_vc, am_opt, am_cl, am_find, am_ldi, am_ldl, am_lda, am_v, am_1, am_1l, am_1a, am_2, am_2l, am_ix, am_ri, am_arr, am_pf, am_rc, am_mask, am_lg, am_av, am_nat, fv_0, fv_1, fv_2, fv_3, fw_0, fw_1, List.getElem?_cons_zero, List.getElem?_cons_succ, List.set_cons_zero, List.set_cons_succ, List.length_cons, List.length_nil, List.take_succ_cons, List.take_zero, List.drop_succ_cons, List.drop_zero, List.reverse_cons, List.reverse_nil, List.nil_append, List.cons_append, List.append_nil, List.map_cons, List.map_nil, List.sum_cons, List.sum_nil, Value.category, Option.toList_some, Option.toList_none, Nat.reduceAdd, Nat.reduceLT, Nat.reduceLeDiff, Nat.reduceEqDiff, Nat.reduceSub, Nat.add_zero, Nat.le_refl, Nat.zero_le, Int.reduceNeg, Int.reduceLE, Int.reduceLT, true_and, and_true, and_self, if_true, if_false, ite_true, ite_false, eq_self_iff_true, reduceIte, reduceCtorEq, not_false_eq_true, not_true_eq_false, or_true, true_or, or_false, false_or, Nat.lt_irrefl, Nat.zero_lt_succ]
  refine ⟨v, 0, 60, hv, by omega, by omega, rfl, ?_⟩
  try simp only [dX12_isLong_0, dX12_isLong_1, dX12_isLong_2, dX12_isLong_4, xX12_isLong_c292, xX12_isLong_n292, dX12_isLong_7, xX12_isLong_SH, xX12_isLong_KF, xX12_isLong_rt, xX12_isLong_FT, xX12_isLong_PT, xX12_isLong_CT, xX12_isLong_KT, xX12_isLong_LT, xX12_isLong_NT, o_bipush, o_iconst, o_iload_n, o_invokestatic, o_ireturn, am_ty, am_vc, am_opt, am_cl, am_find, am_ldi, am_ldl, am_lda, am_v, am_1, am_1l, am_1a, am_2, am_2l, am_ix, am_ri, am_arr, am_pf, am_rc, am_mask, am_lg, am_av, am_nat, fv_0, fv_1, fv_2, fv_3, fw_0, fw_1, List.getElem?_cons_zero, List.getElem?_cons_succ, List.set_cons_zero, List.set_cons_succ, List.length_cons, List.length_nil, List.take_succ_cons, List.take_zero, List.drop_succ_cons, List.drop_zero, List.reverse_cons, List.reverse_nil, List.nil_append, List.cons_append, List.append_nil, List.map_cons, List.map_nil, List.sum_cons, List.sum_nil, Value.category, Option.toList_some, Option.toList_none, Nat.reduceAdd, Nat.reduceLT, Nat.reduceLeDiff, Nat.reduceEqDiff, Nat.reduceSub, Nat.add_zero, Nat.le_refl, Nat.zero_le, Int.reduceNeg, Int.reduceLE, Int.reduceLT, true_and, and_true, and_self, if_true, if_false, ite_true, ite_false, eq_self_iff_true, reduceIte, reduceCtorEq, not_false_eq_true, not_true_eq_false, or_true, true_or, or_false, false_or, Nat.lt_irrefl, Nat.zero_lt_succ]
  exact ⟨nb_if, h⟩
theorem mX12_isLong (l : Launch) : am_M l TB NB vwCl SH KF yX12_isLong cX12_isLong 1 (some .boolean) 3 0 0 sX12_isLong := by
  refine am_M.of xX12_isLong (by decide +kernel) TB_good GF rfl rfl rfl (by decide) ⟨FT_X12_ok, PT_X12_ok _, CT_X12_ok, KT_X12_ok, LT_X12_ok, NT_X12_ok, ?_⟩ pX12_isLong
  exact List.forall_mem_cons.mpr ⟨⟨yX12_in, cX12_in, 3, (some .boolean), 2, 3, mX12_in l, by decide, by decide, tk_1621, tk_120, ⟨by decide +kernel, by decide +kernel, by decide +kernel⟩, rfl, tk_1619, tk_1620⟩, fun _ h => absurd h List.not_mem_nil⟩
theorem dX12_init_0 : decode cX12_init 0 = .ok (.aload_n 0, 1) := dk_ok (by decide +kernel)
theorem dX12_init_1 : decode cX12_init 1 = .ok (.invokespecial 7, 3) := dk_ok (by decide +kernel)
theorem dX12_init_4 : decode cX12_init 4 = .ok (.aload_n 0, 1) := dk_ok (by decide +kernel)
theorem dX12_init_5 : decode cX12_init 5 = .ok (.sipush 2000, 3) := dk_ok (by decide +kernel)
theorem dX12_init_8 : decode cX12_init 8 = .ok (.newarray .byte, 2) := dk_ok (by decide +kernel)
theorem dX12_init_10 : decode cX12_init 10 = .ok (.putfield 13, 3) := dk_ok (by decide +kernel)
theorem dX12_init_13 : decode cX12_init 13 = .ok (.aload_n 0, 1) := dk_ok (by decide +kernel)
theorem dX12_init_14 : decode cX12_init 14 = .ok (.sipush 2000, 3) := dk_ok (by decide +kernel)
theorem dX12_init_17 : decode cX12_init 17 = .ok (.newarray .byte, 2) := dk_ok (by decide +kernel)
theorem dX12_init_19 : decode cX12_init 19 = .ok (.putfield 17, 3) := dk_ok (by decide +kernel)
theorem dX12_init_22 : decode cX12_init 22 = .ok (.aload_n 0, 1) := dk_ok (by decide +kernel)
theorem dX12_init_23 : decode cX12_init 23 = .ok (.sipush 403, 3) := dk_ok (by decide +kernel)
theorem dX12_init_26 : decode cX12_init 26 = .ok (.newarray .int, 2) := dk_ok (by decide +kernel)
theorem dX12_init_28 : decode cX12_init 28 = .ok (.putfield 20, 3) := dk_ok (by decide +kernel)
theorem dX12_init_31 : decode cX12_init 31 = .ok (.aload_n 0, 1) := dk_ok (by decide +kernel)
theorem dX12_init_32 : decode cX12_init 32 = .ok (.sipush 403, 3) := dk_ok (by decide +kernel)
theorem dX12_init_35 : decode cX12_init 35 = .ok (.newarray .int, 2) := dk_ok (by decide +kernel)
theorem dX12_init_37 : decode cX12_init 37 = .ok (.putfield 24, 3) := dk_ok (by decide +kernel)
theorem dX12_init_40 : decode cX12_init 40 = .ok (.aload_n 0, 1) := dk_ok (by decide +kernel)
theorem dX12_init_41 : decode cX12_init 41 = .ok (.sipush 403, 3) := dk_ok (by decide +kernel)
theorem dX12_init_44 : decode cX12_init 44 = .ok (.newarray .int, 2) := dk_ok (by decide +kernel)
theorem dX12_init_46 : decode cX12_init 46 = .ok (.putfield 27, 3) := dk_ok (by decide +kernel)
theorem dX12_init_49 : decode cX12_init 49 = .ok (.aload_n 0, 1) := dk_ok (by decide +kernel)
theorem dX12_init_50 : decode cX12_init 50 = .ok (.sipush 403, 3) := dk_ok (by decide +kernel)
theorem dX12_init_53 : decode cX12_init 53 = .ok (.newarray .long, 2) := dk_ok (by decide +kernel)
theorem dX12_init_55 : decode cX12_init 55 = .ok (.putfield 30, 3) := dk_ok (by decide +kernel)
theorem dX12_init_58 : decode cX12_init 58 = .ok (.aload_n 0, 1) := dk_ok (by decide +kernel)
theorem dX12_init_59 : decode cX12_init 59 = .ok (.bipush 19, 2) := dk_ok (by decide +kernel)
theorem dX12_init_61 : decode cX12_init 61 = .ok (.newarray .long, 2) := dk_ok (by decide +kernel)
theorem dX12_init_63 : decode cX12_init 63 = .ok (.putfield 34, 3) := dk_ok (by decide +kernel)
theorem dX12_init_66 : decode cX12_init 66 = .ok (.aload_n 0, 1) := dk_ok (by decide +kernel)
theorem dX12_init_67 : decode cX12_init 67 = .ok (.iconst (-1), 1) := dk_ok (by decide +kernel)
theorem dX12_init_68 : decode cX12_init 68 = .ok (.putfield 37, 3) := dk_ok (by decide +kernel)
theorem dX12_init_71 : decode cX12_init 71 = .ok (.aload_n 0, 1) := dk_ok (by decide +kernel)
theorem dX12_init_72 : decode cX12_init 72 = .ok (.iconst 5, 1) := dk_ok (by decide +kernel)
theorem dX12_init_73 : decode cX12_init 73 = .ok (.newarray .long, 2) := dk_ok (by decide +kernel)
theorem dX12_init_75 : decode cX12_init 75 = .ok (.putfield 40, 3) := dk_ok (by decide +kernel)
theorem dX12_init_78 : decode cX12_init 78 = .ok (.aload_n 0, 1) := dk_ok (by decide +kernel)
theorem dX12_init_79 : decode cX12_init 79 = .ok (.iconst 2, 1) := dk_ok (by decide +kernel)
theorem dX12_init_80 : decode cX12_init 80 = .ok (.newarray .int, 2) := dk_ok (by decide +kernel)
theorem dX12_init_82 : decode cX12_init 82 = .ok (.putfield 43, 3) := dk_ok (by decide +kernel)
theorem dX12_init_85 : decode cX12_init 85 = .ok (.aload_n 0, 1) := dk_ok (by decide +kernel)
theorem dX12_init_86 : decode cX12_init 86 = .ok (.iconst 2, 1) := dk_ok (by decide +kernel)
theorem dX12_init_87 : decode cX12_init 87 = .ok (.newarray .int, 2) := dk_ok (by decide +kernel)
theorem dX12_init_89 : decode cX12_init 89 = .ok (.putfield 46, 3) := dk_ok (by decide +kernel)
theorem dX12_init_92 : decode cX12_init 92 = .ok (.aload_n 0, 1) := dk_ok (by decide +kernel)
theorem dX12_init_93 : decode cX12_init 93 = .ok (.bipush 10, 2) := dk_ok (by decide +kernel)
theorem dX12_init_95 : decode cX12_init 95 = .ok (.newarray .int, 2) := dk_ok (by decide +kernel)
theorem dX12_init_97 : decode cX12_init 97 = .ok (.putfield 49, 3) := dk_ok (by decide +kernel)
theorem dX12_init_100 : decode cX12_init 100 = .ok (.aload_n 0, 1) := dk_ok (by decide +kernel)
theorem dX12_init_101 : decode cX12_init 101 = .ok (.bipush 10, 2) := dk_ok (by decide +kernel)
theorem dX12_init_103 : decode cX12_init 103 = .ok (.newarray .int, 2) := dk_ok (by decide +kernel)
theorem dX12_init_105 : decode cX12_init 105 = .ok (.putfield 52, 3) := dk_ok (by decide +kernel)
theorem dX12_init_108 : decode cX12_init 108 = .ok (.aload_n 0, 1) := dk_ok (by decide +kernel)
theorem dX12_init_109 : decode cX12_init 109 = .ok (.bipush 10, 2) := dk_ok (by decide +kernel)
theorem dX12_init_111 : decode cX12_init 111 = .ok (.newarray .int, 2) := dk_ok (by decide +kernel)
theorem dX12_init_113 : decode cX12_init 113 = .ok (.putfield 55, 3) := dk_ok (by decide +kernel)
theorem dX12_init_116 : decode cX12_init 116 = .ok (.aload_n 0, 1) := dk_ok (by decide +kernel)
theorem dX12_init_117 : decode cX12_init 117 = .ok (.bipush 10, 2) := dk_ok (by decide +kernel)
theorem dX12_init_119 : decode cX12_init 119 = .ok (.newarray .int, 2) := dk_ok (by decide +kernel)
theorem dX12_init_121 : decode cX12_init 121 = .ok (.putfield 58, 3) := dk_ok (by decide +kernel)
theorem dX12_init_124 : decode cX12_init 124 = .ok (.aload_n 0, 1) := dk_ok (by decide +kernel)
theorem dX12_init_125 : decode cX12_init 125 = .ok (.iconst 2, 1) := dk_ok (by decide +kernel)
theorem dX12_init_126 : decode cX12_init 126 = .ok (.newarray .int, 2) := dk_ok (by decide +kernel)
theorem dX12_init_128 : decode cX12_init 128 = .ok (.putfield 61, 3) := dk_ok (by decide +kernel)
theorem dX12_init_131 : decode cX12_init 131 = .ok (.aload_n 0, 1) := dk_ok (by decide +kernel)
theorem dX12_init_132 : decode cX12_init 132 = .ok (.bipush 8, 2) := dk_ok (by decide +kernel)
theorem dX12_init_134 : decode cX12_init 134 = .ok (.newarray .int, 2) := dk_ok (by decide +kernel)
theorem dX12_init_136 : decode cX12_init 136 = .ok (.putfield 64, 3) := dk_ok (by decide +kernel)
theorem dX12_init_139 : decode cX12_init 139 = .ok (.aload_n 0, 1) := dk_ok (by decide +kernel)
theorem dX12_init_140 : decode cX12_init 140 = .ok (.bipush 8, 2) := dk_ok (by decide +kernel)
theorem dX12_init_142 : decode cX12_init 142 = .ok (.newarray .int, 2) := dk_ok (by decide +kernel)
theorem dX12_init_144 : decode cX12_init 144 = .ok (.putfield 67, 3) := dk_ok (by decide +kernel)
theorem dX12_init_147 : decode cX12_init 147 = .ok (.aload_n 0, 1) := dk_ok (by decide +kernel)
theorem dX12_init_148 : decode cX12_init 148 = .ok (.sipush 260, 3) := dk_ok (by decide +kernel)
theorem dX12_init_151 : decode cX12_init 151 = .ok (.newarray .boolean, 2) := dk_ok (by decide +kernel)
theorem dX12_init_153 : decode cX12_init 153 = .ok (.putfield 70, 3) := dk_ok (by decide +kernel)
theorem dX12_init_156 : decode cX12_init 156 = .ok (.aload_n 0, 1) := dk_ok (by decide +kernel)
theorem dX12_init_157 : decode cX12_init 157 = .ok (.sipush 260, 3) := dk_ok (by decide +kernel)
theorem dX12_init_160 : decode cX12_init 160 = .ok (.newarray .int, 2) := dk_ok (by decide +kernel)
theorem dX12_init_162 : decode cX12_init 162 = .ok (.putfield 74, 3) := dk_ok (by decide +kernel)
theorem dX12_init_165 : decode cX12_init 165 = .ok (.aload_n 0, 1) := dk_ok (by decide +kernel)
theorem dX12_init_166 : decode cX12_init 166 = .ok (.sipush 260, 3) := dk_ok (by decide +kernel)
theorem dX12_init_169 : decode cX12_init 169 = .ok (.newarray .int, 2) := dk_ok (by decide +kernel)
theorem dX12_init_171 : decode cX12_init 171 = .ok (.putfield 77, 3) := dk_ok (by decide +kernel)
theorem dX12_init_174 : decode cX12_init 174 = .ok (.aload_n 0, 1) := dk_ok (by decide +kernel)
theorem dX12_init_175 : decode cX12_init 175 = .ok (.sipush 260, 3) := dk_ok (by decide +kernel)
theorem dX12_init_178 : decode cX12_init 178 = .ok (.newarray .int, 2) := dk_ok (by decide +kernel)
theorem dX12_init_180 : decode cX12_init 180 = .ok (.putfield 80, 3) := dk_ok (by decide +kernel)
theorem dX12_init_183 : decode cX12_init 183 = .ok (.aload_n 0, 1) := dk_ok (by decide +kernel)
theorem dX12_init_184 : decode cX12_init 184 = .ok (.sipush 260, 3) := dk_ok (by decide +kernel)
theorem dX12_init_187 : decode cX12_init 187 = .ok (.newarray .int, 2) := dk_ok (by decide +kernel)
theorem dX12_init_189 : decode cX12_init 189 = .ok (.putfield 83, 3) := dk_ok (by decide +kernel)
theorem dX12_init_192 : decode cX12_init 192 = .ok (.aload_n 0, 1) := dk_ok (by decide +kernel)
theorem dX12_init_193 : decode cX12_init 193 = .ok (.sipush 840, 3) := dk_ok (by decide +kernel)
theorem dX12_init_196 : decode cX12_init 196 = .ok (.newarray .int, 2) := dk_ok (by decide +kernel)
theorem dX12_init_198 : decode cX12_init 198 = .ok (.putfield 86, 3) := dk_ok (by decide +kernel)
theorem dX12_init_201 : decode cX12_init 201 = .ok (.aload_n 0, 1) := dk_ok (by decide +kernel)
theorem dX12_init_202 : decode cX12_init 202 = .ok (.sipush 840, 3) := dk_ok (by decide +kernel)
theorem dX12_init_205 : decode cX12_init 205 = .ok (.newarray .int, 2) := dk_ok (by decide +kernel)
theorem dX12_init_207 : decode cX12_init 207 = .ok (.putfield 89, 3) := dk_ok (by decide +kernel)
theorem dX12_init_210 : decode cX12_init 210 = .ok (.aload_n 0, 1) := dk_ok (by decide +kernel)
theorem dX12_init_211 : decode cX12_init 211 = .ok (.bipush 64, 2) := dk_ok (by decide +kernel)
theorem dX12_init_213 : decode cX12_init 213 = .ok (.newarray .int, 2) := dk_ok (by decide +kernel)
theorem dX12_init_215 : decode cX12_init 215 = .ok (.putfield 92, 3) := dk_ok (by decide +kernel)
theorem dX12_init_218 : decode cX12_init 218 = .ok (.aload_n 0, 1) := dk_ok (by decide +kernel)
theorem dX12_init_219 : decode cX12_init 219 = .ok (.bipush 9, 2) := dk_ok (by decide +kernel)
theorem dX12_init_221 : decode cX12_init 221 = .ok (.newarray .int, 2) := dk_ok (by decide +kernel)
theorem dX12_init_223 : decode cX12_init 223 = .ok (.putfield 95, 3) := dk_ok (by decide +kernel)
theorem dX12_init_226 : decode cX12_init 226 = .ok (.aload_n 0, 1) := dk_ok (by decide +kernel)
theorem dX12_init_227 : decode cX12_init 227 = .ok (.sipush 400, 3) := dk_ok (by decide +kernel)
theorem dX12_init_230 : decode cX12_init 230 = .ok (.newarray .int, 2) := dk_ok (by decide +kernel)
theorem dX12_init_232 : decode cX12_init 232 = .ok (.putfield 98, 3) := dk_ok (by decide +kernel)
theorem dX12_init_235 : decode cX12_init 235 = .ok (.aload_n 0, 1) := dk_ok (by decide +kernel)
theorem dX12_init_236 : decode cX12_init 236 = .ok (.bipush 51, 2) := dk_ok (by decide +kernel)
theorem dX12_init_238 : decode cX12_init 238 = .ok (.newarray .int, 2) := dk_ok (by decide +kernel)
theorem dX12_init_240 : decode cX12_init 240 = .ok (.putfield 101, 3) := dk_ok (by decide +kernel)
theorem dX12_init_243 : decode cX12_init 243 = .ok (.aload_n 0, 1) := dk_ok (by decide +kernel)
theorem dX12_init_244 : decode cX12_init 244 = .ok (.bipush 51, 2) := dk_ok (by decide +kernel)
theorem dX12_init_246 : decode cX12_init 246 = .ok (.newarray .int, 2) := dk_ok (by decide +kernel)
theorem dX12_init_248 : decode cX12_init 248 = .ok (.putfield 104, 3) := dk_ok (by decide +kernel)
theorem dX12_init_251 : decode cX12_init 251 = .ok (.aload_n 0, 1) := dk_ok (by decide +kernel)
theorem dX12_init_252 : decode cX12_init 252 = .ok (.sipush 2040, 3) := dk_ok (by decide +kernel)
theorem dX12_init_255 : decode cX12_init 255 = .ok (.newarray .int, 2) := dk_ok (by decide +kernel)
theorem dX12_init_257 : decode cX12_init 257 = .ok (.putfield 107, 3) := dk_ok (by decide +kernel)
theorem dX12_init_260 : decode cX12_init 260 = .ok (.aload_n 0, 1) := dk_ok (by decide +kernel)
theorem dX12_init_261 : decode cX12_init 261 = .ok (.iconst 5, 1) := dk_ok (by decide +kernel)
theorem dX12_init_262 : decode cX12_init 262 = .ok (.newarray .int, 2) := dk_ok (by decide +kernel)
theorem dX12_init_264 : decode cX12_init 264 = .ok (.putfield 110, 3) := dk_ok (by decide +kernel)
theorem dX12_init_267 : decode cX12_init 267 = .ok (.aload_n 0, 1) := dk_ok (by decide +kernel)
theorem dX12_init_268 : decode cX12_init 268 = .ok (.sipush 144, 3) := dk_ok (by decide +kernel)
theorem dX12_init_271 : decode cX12_init 271 = .ok (.newarray .boolean, 2) := dk_ok (by decide +kernel)
theorem dX12_init_273 : decode cX12_init 273 = .ok (.putfield 113, 3) := dk_ok (by decide +kernel)
theorem dX12_init_276 : decode cX12_init 276 = .ok (.aload_n 0, 1) := dk_ok (by decide +kernel)
theorem dX12_init_277 : decode cX12_init 277 = .ok (.sipush 144, 3) := dk_ok (by decide +kernel)
theorem dX12_init_280 : decode cX12_init 280 = .ok (.newarray .boolean, 2) := dk_ok (by decide +kernel)
theorem dX12_init_282 : decode cX12_init 282 = .ok (.putfield 116, 3) := dk_ok (by decide +kernel)
theorem dX12_init_285 : decode cX12_init 285 = .ok (.aload_n 0, 1) := dk_ok (by decide +kernel)
theorem dX12_init_286 : decode cX12_init 286 = .ok (.iconst 5, 1) := dk_ok (by decide +kernel)
theorem dX12_init_287 : decode cX12_init 287 = .ok (.newarray .int, 2) := dk_ok (by decide +kernel)
theorem dX12_init_289 : decode cX12_init 289 = .ok (.putfield 119, 3) := dk_ok (by decide +kernel)
theorem dX12_init_292 : decode cX12_init 292 = .ok (.aload_n 0, 1) := dk_ok (by decide +kernel)
theorem dX12_init_293 : decode cX12_init 293 = .ok (.iconst 5, 1) := dk_ok (by decide +kernel)
theorem dX12_init_294 : decode cX12_init 294 = .ok (.newarray .int, 2) := dk_ok (by decide +kernel)
theorem dX12_init_296 : decode cX12_init 296 = .ok (.putfield 122, 3) := dk_ok (by decide +kernel)
theorem dX12_init_299 : decode cX12_init 299 = .ok (.aload_n 0, 1) := dk_ok (by decide +kernel)
theorem dX12_init_300 : decode cX12_init 300 = .ok (.bipush 32, 2) := dk_ok (by decide +kernel)
theorem dX12_init_302 : decode cX12_init 302 = .ok (.newarray .int, 2) := dk_ok (by decide +kernel)
theorem dX12_init_304 : decode cX12_init 304 = .ok (.putfield 125, 3) := dk_ok (by decide +kernel)
theorem dX12_init_307 : decode cX12_init 307 = .ok (.aload_n 0, 1) := dk_ok (by decide +kernel)
theorem dX12_init_308 : decode cX12_init 308 = .ok (.bipush 20, 2) := dk_ok (by decide +kernel)
theorem dX12_init_310 : decode cX12_init 310 = .ok (.newarray .int, 2) := dk_ok (by decide +kernel)
theorem dX12_init_312 : decode cX12_init 312 = .ok (.putfield 128, 3) := dk_ok (by decide +kernel)
theorem dX12_init_315 : decode cX12_init 315 = .ok (.aload_n 0, 1) := dk_ok (by decide +kernel)
theorem dX12_init_316 : decode cX12_init 316 = .ok (.bipush 20, 2) := dk_ok (by decide +kernel)
theorem dX12_init_318 : decode cX12_init 318 = .ok (.newarray .boolean, 2) := dk_ok (by decide +kernel)
theorem dX12_init_320 : decode cX12_init 320 = .ok (.putfield 131, 3) := dk_ok (by decide +kernel)
theorem dX12_init_323 : decode cX12_init 323 = .ok (.aload_n 0, 1) := dk_ok (by decide +kernel)
theorem dX12_init_324 : decode cX12_init 324 = .ok (.iconst 3, 1) := dk_ok (by decide +kernel)
theorem dX12_init_325 : decode cX12_init 325 = .ok (.newarray .boolean, 2) := dk_ok (by decide +kernel)
theorem dX12_init_327 : decode cX12_init 327 = .ok (.putfield 134, 3) := dk_ok (by decide +kernel)
theorem dX12_init_330 : decode cX12_init 330 = .ok (.aload_n 0, 1) := dk_ok (by decide +kernel)
theorem dX12_init_331 : decode cX12_init 331 = .ok (.sipush 153, 3) := dk_ok (by decide +kernel)
theorem dX12_init_334 : decode cX12_init 334 = .ok (.newarray .int, 2) := dk_ok (by decide +kernel)
theorem dX12_init_336 : decode cX12_init 336 = .ok (.putfield 137, 3) := dk_ok (by decide +kernel)
theorem dX12_init_339 : decode cX12_init 339 = .ok (.aload_n 0, 1) := dk_ok (by decide +kernel)
theorem dX12_init_340 : decode cX12_init 340 = .ok (.iconst 0, 1) := dk_ok (by decide +kernel)
theorem dX12_init_341 : decode cX12_init 341 = .ok (.invokevirtual 140, 3) := dk_ok (by decide +kernel)
theorem dX12_init_344 : decode cX12_init 344 = .ok (.aload_n 0, 1) := dk_ok (by decide +kernel)
theorem dX12_init_345 : decode cX12_init 345 = .ok (.iconst 1, 1) := dk_ok (by decide +kernel)
theorem dX12_init_346 : decode cX12_init 346 = .ok (.invokevirtual 140, 3) := dk_ok (by decide +kernel)
theorem dX12_init_349 : decode cX12_init 349 = .ok (.aload_n 0, 1) := dk_ok (by decide +kernel)
theorem dX12_init_350 : decode cX12_init 350 = .ok (.getfield 34, 3) := dk_ok (by decide +kernel)
theorem dX12_init_353 : decode cX12_init 353 = .ok (.iconst 0, 1) := dk_ok (by decide +kernel)
theorem dX12_init_354 : decode cX12_init 354 = .ok (.bipush 115, 2) := dk_ok (by decide +kernel)
theorem dX12_init_356 : decode cX12_init 356 = .ok (.bipush 104, 2) := dk_ok (by decide +kernel)
theorem dX12_init_358 : decode cX12_init 358 = .ok (.bipush 97, 2) := dk_ok (by decide +kernel)
theorem dX12_init_360 : decode cX12_init 360 = .ok (.bipush 102, 2) := dk_ok (by decide +kernel)
theorem dX12_init_362 : decode cX12_init 362 = .ok (.bipush 116, 2) := dk_ok (by decide +kernel)
theorem dX12_init_364 : decode cX12_init 364 = .ok (.iconst 0, 1) := dk_ok (by decide +kernel)
theorem dX12_init_365 : decode cX12_init 365 = .ok (.iconst 0, 1) := dk_ok (by decide +kernel)
theorem dX12_init_366 : decode cX12_init 366 = .ok (.invokestatic 144, 3) := dk_ok (by decide +kernel)
theorem dX12_init_369 : decode cX12_init 369 = .ok (.lastore, 1) := dk_ok (by decide +kernel)
theorem dX12_init_370 : decode cX12_init 370 = .ok (.aload_n 0, 1) := dk_ok (by decide +kernel)
theorem dX12_init_371 : decode cX12_init 371 = .ok (.getfield 34, 3) := dk_ok (by decide +kernel)
theorem dX12_init_374 : decode cX12_init 374 = .ok (.iconst 1, 1) := dk_ok (by decide +kernel)
theorem dX12_init_375 : decode cX12_init 375 = .ok (.bipush 112, 2) := dk_ok (by decide +kernel)
theorem dX12_init_377 : decode cX12_init 377 = .ok (.bipush 101, 2) := dk_ok (by decide +kernel)
theorem dX12_init_379 : decode cX12_init 379 = .ok (.bipush 114, 2) := dk_ok (by decide +kernel)
theorem dX12_init_381 : decode cX12_init 381 = .ok (.bipush 115, 2) := dk_ok (by decide +kernel)
theorem dX12_init_383 : decode cX12_init 383 = .ok (.bipush 111, 2) := dk_ok (by decide +kernel)
theorem dX12_init_385 : decode cX12_init 385 = .ok (.bipush 110, 2) := dk_ok (by decide +kernel)
theorem dX12_init_387 : decode cX12_init 387 = .ok (.iconst 0, 1) := dk_ok (by decide +kernel)
theorem dX12_init_388 : decode cX12_init 388 = .ok (.invokestatic 144, 3) := dk_ok (by decide +kernel)
theorem dX12_init_391 : decode cX12_init 391 = .ok (.lastore, 1) := dk_ok (by decide +kernel)
theorem dX12_init_392 : decode cX12_init 392 = .ok (.aload_n 0, 1) := dk_ok (by decide +kernel)
theorem dX12_init_393 : decode cX12_init 393 = .ok (.getfield 34, 3) := dk_ok (by decide +kernel)
theorem dX12_init_396 : decode cX12_init 396 = .ok (.iconst 2, 1) := dk_ok (by decide +kernel)
theorem dX12_init_397 : decode cX12_init 397 = .ok (.bipush 114, 2) := dk_ok (by decide +kernel)
theorem dX12_init_399 : decode cX12_init 399 = .ok (.bipush 111, 2) := dk_ok (by decide +kernel)
theorem dX12_init_401 : decode cX12_init 401 = .ok (.bipush 111, 2) := dk_ok (by decide +kernel)
theorem dX12_init_403 : decode cX12_init 403 = .ok (.bipush 109, 2) := dk_ok (by decide +kernel)
theorem dX12_init_405 : decode cX12_init 405 = .ok (.iconst 0, 1) := dk_ok (by decide +kernel)
theorem dX12_init_406 : decode cX12_init 406 = .ok (.iconst 0, 1) := dk_ok (by decide +kernel)
theorem dX12_init_407 : decode cX12_init 407 = .ok (.iconst 0, 1) := dk_ok (by decide +kernel)
theorem dX12_init_408 : decode cX12_init 408 = .ok (.invokestatic 144, 3) := dk_ok (by decide +kernel)
theorem dX12_init_411 : decode cX12_init 411 = .ok (.lastore, 1) := dk_ok (by decide +kernel)
theorem dX12_init_412 : decode cX12_init 412 = .ok (.aload_n 0, 1) := dk_ok (by decide +kernel)
theorem dX12_init_413 : decode cX12_init 413 = .ok (.getfield 34, 3) := dk_ok (by decide +kernel)
theorem dX12_init_416 : decode cX12_init 416 = .ok (.iconst 3, 1) := dk_ok (by decide +kernel)
theorem dX12_init_417 : decode cX12_init 417 = .ok (.bipush 113, 2) := dk_ok (by decide +kernel)
theorem dX12_init_419 : decode cX12_init 419 = .ok (.bipush 117, 2) := dk_ok (by decide +kernel)
theorem dX12_init_421 : decode cX12_init 421 = .ok (.bipush 97, 2) := dk_ok (by decide +kernel)
theorem dX12_init_423 : decode cX12_init 423 = .ok (.bipush 114, 2) := dk_ok (by decide +kernel)
theorem dX12_init_425 : decode cX12_init 425 = .ok (.bipush 114, 2) := dk_ok (by decide +kernel)
theorem dX12_init_427 : decode cX12_init 427 = .ok (.bipush 101, 2) := dk_ok (by decide +kernel)
theorem dX12_init_429 : decode cX12_init 429 = .ok (.bipush 108, 2) := dk_ok (by decide +kernel)
theorem dX12_init_431 : decode cX12_init 431 = .ok (.invokestatic 144, 3) := dk_ok (by decide +kernel)
theorem dX12_init_434 : decode cX12_init 434 = .ok (.lastore, 1) := dk_ok (by decide +kernel)
theorem dX12_init_435 : decode cX12_init 435 = .ok (.aload_n 0, 1) := dk_ok (by decide +kernel)
theorem dX12_init_436 : decode cX12_init 436 = .ok (.getfield 34, 3) := dk_ok (by decide +kernel)
theorem dX12_init_439 : decode cX12_init 439 = .ok (.iconst 4, 1) := dk_ok (by decide +kernel)
theorem dX12_init_440 : decode cX12_init 440 = .ok (.bipush 99, 2) := dk_ok (by decide +kernel)
theorem dX12_init_442 : decode cX12_init 442 = .ok (.bipush 117, 2) := dk_ok (by decide +kernel)
theorem dX12_init_444 : decode cX12_init 444 = .ok (.bipush 112, 2) := dk_ok (by decide +kernel)
theorem dX12_init_446 : decode cX12_init 446 = .ok (.iconst 0, 1) := dk_ok (by decide +kernel)
theorem dX12_init_447 : decode cX12_init 447 = .ok (.iconst 0, 1) := dk_ok (by decide +kernel)
theorem dX12_init_448 : decode cX12_init 448 = .ok (.iconst 0, 1) := dk_ok (by decide +kernel)
theorem dX12_init_449 : decode cX12_init 449 = .ok (.iconst 0, 1) := dk_ok (by decide +kernel)
theorem dX12_init_450 : decode cX12_init 450 = .ok (.invokestatic 144, 3) := dk_ok (by decide +kernel)
theorem dX12_init_453 : decode cX12_init 453 = .ok (.lastore, 1) := dk_ok (by decide +kernel)
theorem dX12_init_454 : decode cX12_init 454 = .ok (.aload_n 0, 1) := dk_ok (by decide +kernel)
theorem dX12_init_455 : decode cX12_init 455 = .ok (.getfield 34, 3) := dk_ok (by decide +kernel)
theorem dX12_init_458 : decode cX12_init 458 = .ok (.iconst 5, 1) := dk_ok (by decide +kernel)
theorem dX12_init_459 : decode cX12_init 459 = .ok (.bipush 98, 2) := dk_ok (by decide +kernel)
theorem dX12_init_461 : decode cX12_init 461 = .ok (.bipush 114, 2) := dk_ok (by decide +kernel)
theorem dX12_init_463 : decode cX12_init 463 = .ok (.bipush 101, 2) := dk_ok (by decide +kernel)
theorem dX12_init_465 : decode cX12_init 465 = .ok (.bipush 97, 2) := dk_ok (by decide +kernel)
theorem dX12_init_467 : decode cX12_init 467 = .ok (.bipush 107, 2) := dk_ok (by decide +kernel)
theorem dX12_init_469 : decode cX12_init 469 = .ok (.bipush 115, 2) := dk_ok (by decide +kernel)
theorem dX12_init_471 : decode cX12_init 471 = .ok (.iconst 0, 1) := dk_ok (by decide +kernel)
theorem dX12_init_472 : decode cX12_init 472 = .ok (.invokestatic 144, 3) := dk_ok (by decide +kernel)
theorem dX12_init_475 : decode cX12_init 475 = .ok (.lastore, 1) := dk_ok (by decide +kernel)
theorem dX12_init_476 : decode cX12_init 476 = .ok (.aload_n 0, 1) := dk_ok (by decide +kernel)
theorem dX12_init_477 : decode cX12_init 477 = .ok (.getfield 34, 3) := dk_ok (by decide +kernel)
theorem dX12_init_480 : decode cX12_init 480 = .ok (.bipush 6, 2) := dk_ok (by decide +kernel)
theorem dX12_init_482 : decode cX12_init 482 = .ok (.bipush 115, 2) := dk_ok (by decide +kernel)
theorem dX12_init_484 : decode cX12_init 484 = .ok (.bipush 101, 2) := dk_ok (by decide +kernel)
theorem dX12_init_486 : decode cX12_init 486 = .ok (.bipush 101, 2) := dk_ok (by decide +kernel)
theorem dX12_init_488 : decode cX12_init 488 = .ok (.bipush 100, 2) := dk_ok (by decide +kernel)
theorem dX12_init_490 : decode cX12_init 490 = .ok (.iconst 0, 1) := dk_ok (by decide +kernel)
theorem dX12_init_491 : decode cX12_init 491 = .ok (.iconst 0, 1) := dk_ok (by decide +kernel)
theorem dX12_init_492 : decode cX12_init 492 = .ok (.iconst 0, 1) := dk_ok (by decide +kernel)
theorem dX12_init_493 : decode cX12_init 493 = .ok (.invokestatic 144, 3) := dk_ok (by decide +kernel)
theorem dX12_init_496 : decode cX12_init 496 = .ok (.lastore, 1) := dk_ok (by decide +kernel)
theorem dX12_init_497 : decode cX12_init 497 = .ok (.aload_n 0, 1) := dk_ok (by decide +kernel)
theorem dX12_init_498 : decode cX12_init 498 = .ok (.getfield 34, 3) := dk_ok (by decide +kernel)
theorem dX12_init_501 : decode cX12_init 501 = .ok (.bipush 7, 2) := dk_ok (by decide +kernel)
theorem dX12_init_503 : decode cX12_init 503 = .ok (.bipush 105, 2) := dk_ok (by decide +kernel)
theorem dX12_init_505 : decode cX12_init 505 = .ok (.bipush 102, 2) := dk_ok (by decide +kernel)
theorem dX12_init_507 : decode cX12_init 507 = .ok (.iconst 0, 1) := dk_ok (by decide +kernel)
theorem dX12_init_508 : decode cX12_init 508 = .ok (.iconst 0, 1) := dk_ok (by decide +kernel)
theorem dX12_init_509 : decode cX12_init 509 = .ok (.iconst 0, 1) := dk_ok (by decide +kernel)
theorem dX12_init_510 : decode cX12_init 510 = .ok (.iconst 0, 1) := dk_ok (by decide +kernel)
theorem dX12_init_511 : decode cX12_init 511 = .ok (.iconst 0, 1) := dk_ok (by decide +kernel)
theorem dX12_init_512 : decode cX12_init 512 = .ok (.invokestatic 144, 3) := dk_ok (by decide +kernel)
theorem dX12_init_515 : decode cX12_init 515 = .ok (.lastore, 1) := dk_ok (by decide +kernel)
theorem dX12_init_516 : decode cX12_init 516 = .ok (.aload_n 0, 1) := dk_ok (by decide +kernel)
theorem dX12_init_517 : decode cX12_init 517 = .ok (.getfield 34, 3) := dk_ok (by decide +kernel)
theorem dX12_init_520 : decode cX12_init 520 = .ok (.bipush 8, 2) := dk_ok (by decide +kernel)
theorem dX12_init_522 : decode cX12_init 522 = .ok (.bipush 116, 2) := dk_ok (by decide +kernel)
theorem dX12_init_524 : decode cX12_init 524 = .ok (.bipush 104, 2) := dk_ok (by decide +kernel)
theorem dX12_init_526 : decode cX12_init 526 = .ok (.bipush 101, 2) := dk_ok (by decide +kernel)
theorem dX12_init_528 : decode cX12_init 528 = .ok (.bipush 110, 2) := dk_ok (by decide +kernel)
theorem dX12_init_530 : decode cX12_init 530 = .ok (.iconst 0, 1) := dk_ok (by decide +kernel)
theorem dX12_init_531 : decode cX12_init 531 = .ok (.iconst 0, 1) := dk_ok (by decide +kernel)
theorem dX12_init_532 : decode cX12_init 532 = .ok (.iconst 0, 1) := dk_ok (by decide +kernel)
theorem dX12_init_533 : decode cX12_init 533 = .ok (.invokestatic 144, 3) := dk_ok (by decide +kernel)
theorem dX12_init_536 : decode cX12_init 536 = .ok (.lastore, 1) := dk_ok (by decide +kernel)
theorem dX12_init_537 : decode cX12_init 537 = .ok (.aload_n 0, 1) := dk_ok (by decide +kernel)
theorem dX12_init_538 : decode cX12_init 538 = .ok (.getfield 34, 3) := dk_ok (by decide +kernel)
theorem dX12_init_541 : decode cX12_init 541 = .ok (.bipush 9, 2) := dk_ok (by decide +kernel)
theorem dX12_init_543 : decode cX12_init 543 = .ok (.bipush 101, 2) := dk_ok (by decide +kernel)
theorem dX12_init_545 : decode cX12_init 545 = .ok (.bipush 108, 2) := dk_ok (by decide +kernel)
theorem dX12_init_547 : decode cX12_init 547 = .ok (.bipush 115, 2) := dk_ok (by decide +kernel)
theorem dX12_init_549 : decode cX12_init 549 = .ok (.bipush 101, 2) := dk_ok (by decide +kernel)
theorem dX12_init_551 : decode cX12_init 551 = .ok (.iconst 0, 1) := dk_ok (by decide +kernel)
theorem dX12_init_552 : decode cX12_init 552 = .ok (.iconst 0, 1) := dk_ok (by decide +kernel)
theorem dX12_init_553 : decode cX12_init 553 = .ok (.iconst 0, 1) := dk_ok (by decide +kernel)
theorem dX12_init_554 : decode cX12_init 554 = .ok (.invokestatic 144, 3) := dk_ok (by decide +kernel)
theorem dX12_init_557 : decode cX12_init 557 = .ok (.lastore, 1) := dk_ok (by decide +kernel)
theorem dX12_init_558 : decode cX12_init 558 = .ok (.aload_n 0, 1) := dk_ok (by decide +kernel)
theorem dX12_init_559 : decode cX12_init 559 = .ok (.getfield 34, 3) := dk_ok (by decide +kernel)
theorem dX12_init_562 : decode cX12_init 562 = .ok (.bipush 10, 2) := dk_ok (by decide +kernel)
theorem dX12_init_564 : decode cX12_init 564 = .ok (.bipush 114, 2) := dk_ok (by decide +kernel)
theorem dX12_init_566 : decode cX12_init 566 = .ok (.bipush 117, 2) := dk_ok (by decide +kernel)
theorem dX12_init_568 : decode cX12_init 568 = .ok (.bipush 110, 2) := dk_ok (by decide +kernel)
theorem dX12_init_570 : decode cX12_init 570 = .ok (.bipush 103, 2) := dk_ok (by decide +kernel)
theorem dX12_init_572 : decode cX12_init 572 = .ok (.iconst 0, 1) := dk_ok (by decide +kernel)
theorem dX12_init_573 : decode cX12_init 573 = .ok (.iconst 0, 1) := dk_ok (by decide +kernel)
theorem dX12_init_574 : decode cX12_init 574 = .ok (.iconst 0, 1) := dk_ok (by decide +kernel)
theorem dX12_init_575 : decode cX12_init 575 = .ok (.invokestatic 144, 3) := dk_ok (by decide +kernel)
theorem dX12_init_578 : decode cX12_init 578 = .ok (.lastore, 1) := dk_ok (by decide +kernel)
theorem dX12_init_579 : decode cX12_init 579 = .ok (.aload_n 0, 1) := dk_ok (by decide +kernel)
theorem dX12_init_580 : decode cX12_init 580 = .ok (.getfield 34, 3) := dk_ok (by decide +kernel)
theorem dX12_init_583 : decode cX12_init 583 = .ok (.bipush 11, 2) := dk_ok (by decide +kernel)
theorem dX12_init_585 : decode cX12_init 585 = .ok (.bipush 100, 2) := dk_ok (by decide +kernel)
theorem dX12_init_587 : decode cX12_init 587 = .ok (.bipush 101, 2) := dk_ok (by decide +kernel)
theorem dX12_init_589 : decode cX12_init 589 = .ok (.bipush 101, 2) := dk_ok (by decide +kernel)
theorem dX12_init_591 : decode cX12_init 591 = .ok (.bipush 112, 2) := dk_ok (by decide +kernel)
theorem dX12_init_593 : decode cX12_init 593 = .ok (.iconst 0, 1) := dk_ok (by decide +kernel)
theorem dX12_init_594 : decode cX12_init 594 = .ok (.iconst 0, 1) := dk_ok (by decide +kernel)
theorem dX12_init_595 : decode cX12_init 595 = .ok (.iconst 0, 1) := dk_ok (by decide +kernel)
theorem dX12_init_596 : decode cX12_init 596 = .ok (.invokestatic 144, 3) := dk_ok (by decide +kernel)
theorem dX12_init_599 : decode cX12_init 599 = .ok (.lastore, 1) := dk_ok (by decide +kernel)
theorem dX12_init_600 : decode cX12_init 600 = .ok (.aload_n 0, 1) := dk_ok (by decide +kernel)
theorem dX12_init_601 : decode cX12_init 601 = .ok (.getfield 34, 3) := dk_ok (by decide +kernel)
theorem dX12_init_604 : decode cX12_init 604 = .ok (.bipush 12, 2) := dk_ok (by decide +kernel)
theorem dX12_init_606 : decode cX12_init 606 = .ok (.bipush 109, 2) := dk_ok (by decide +kernel)
theorem dX12_init_608 : decode cX12_init 608 = .ok (.bipush 105, 2) := dk_ok (by decide +kernel)
theorem dX12_init_610 : decode cX12_init 610 = .ok (.bipush 110, 2) := dk_ok (by decide +kernel)
theorem dX12_init_612 : decode cX12_init 612 = .ok (.bipush 117, 2) := dk_ok (by decide +kernel)
theorem dX12_init_614 : decode cX12_init 614 = .ok (.bipush 116, 2) := dk_ok (by decide +kernel)
theorem dX12_init_616 : decode cX12_init 616 = .ok (.bipush 101, 2) := dk_ok (by decide +kernel)
theorem dX12_init_618 : decode cX12_init 618 = .ok (.iconst 0, 1) := dk_ok (by decide +kernel)
theorem dX12_init_619 : decode cX12_init 619 = .ok (.invokestatic 144, 3) := dk_ok (by decide +kernel)
theorem dX12_init_622 : decode cX12_init 622 = .ok (.lastore, 1) := dk_ok (by decide +kernel)
theorem dX12_init_623 : decode cX12_init 623 = .ok (.aload_n 0, 1) := dk_ok (by decide +kernel)
theorem dX12_init_624 : decode cX12_init 624 = .ok (.getfield 34, 3) := dk_ok (by decide +kernel)
theorem dX12_init_627 : decode cX12_init 627 = .ok (.bipush 13, 2) := dk_ok (by decide +kernel)
theorem dX12_init_629 : decode cX12_init 629 = .ok (.bipush 119, 2) := dk_ok (by decide +kernel)
theorem dX12_init_631 : decode cX12_init 631 = .ok (.bipush 105, 2) := dk_ok (by decide +kernel)
theorem dX12_init_633 : decode cX12_init 633 = .ok (.bipush 100, 2) := dk_ok (by decide +kernel)
theorem dX12_init_635 : decode cX12_init 635 = .ok (.bipush 116, 2) := dk_ok (by decide +kernel)
theorem dX12_init_637 : decode cX12_init 637 = .ok (.bipush 104, 2) := dk_ok (by decide +kernel)
theorem dX12_init_639 : decode cX12_init 639 = .ok (.iconst 0, 1) := dk_ok (by decide +kernel)
theorem dX12_init_640 : decode cX12_init 640 = .ok (.iconst 0, 1) := dk_ok (by decide +kernel)
theorem dX12_init_641 : decode cX12_init 641 = .ok (.invokestatic 144, 3) := dk_ok (by decide +kernel)
theorem dX12_init_644 : decode cX12_init 644 = .ok (.lastore, 1) := dk_ok (by decide +kernel)
theorem dX12_init_645 : decode cX12_init 645 = .ok (.aload_n 0, 1) := dk_ok (by decide +kernel)
theorem dX12_init_646 : decode cX12_init 646 = .ok (.getfield 34, 3) := dk_ok (by decide +kernel)
theorem dX12_init_649 : decode cX12_init 649 = .ok (.bipush 14, 2) := dk_ok (by decide +kernel)
theorem dX12_init_651 : decode cX12_init 651 = .ok (.bipush 116, 2) := dk_ok (by decide +kernel)
theorem dX12_init_653 : decode cX12_init 653 = .ok (.bipush 101, 2) := dk_ok (by decide +kernel)
theorem dX12_init_655 : decode cX12_init 655 = .ok (.bipush 109, 2) := dk_ok (by decide +kernel)
theorem dX12_init_657 : decode cX12_init 657 = .ok (.bipush 112, 2) := dk_ok (by decide +kernel)
theorem dX12_init_659 : decode cX12_init 659 = .ok (.bipush 101, 2) := dk_ok (by decide +kernel)
theorem dX12_init_661 : decode cX12_init 661 = .ok (.bipush 114, 2) := dk_ok (by decide +kernel)
theorem dX12_init_663 : decode cX12_init 663 = .ok (.iconst 0, 1) := dk_ok (by decide +kernel)
theorem dX12_init_664 : decode cX12_init 664 = .ok (.invokestatic 144, 3) := dk_ok (by decide +kernel)
theorem dX12_init_667 : decode cX12_init 667 = .ok (.lastore, 1) := dk_ok (by decide +kernel)
theorem dX12_init_668 : decode cX12_init 668 = .ok (.aload_n 0, 1) := dk_ok (by decide +kernel)
theorem dX12_init_669 : decode cX12_init 669 = .ok (.getfield 34, 3) := dk_ok (by decide +kernel)
theorem dX12_init_672 : decode cX12_init 672 = .ok (.bipush 15, 2) := dk_ok (by decide +kernel)
theorem dX12_init_674 : decode cX12_init 674 = .ok (.bipush 116, 2) := dk_ok (by decide +kernel)
theorem dX12_init_676 : decode cX12_init 676 = .ok (.bipush 104, 2) := dk_ok (by decide +kernel)
theorem dX12_init_678 : decode cX12_init 678 = .ok (.bipush 105, 2) := dk_ok (by decide +kernel)
theorem dX12_init_680 : decode cX12_init 680 = .ok (.bipush 114, 2) := dk_ok (by decide +kernel)
theorem dX12_init_682 : decode cX12_init 682 = .ok (.bipush 115, 2) := dk_ok (by decide +kernel)
theorem dX12_init_684 : decode cX12_init 684 = .ok (.bipush 116, 2) := dk_ok (by decide +kernel)
theorem dX12_init_686 : decode cX12_init 686 = .ok (.iconst 0, 1) := dk_ok (by decide +kernel)
theorem dX12_init_687 : decode cX12_init 687 = .ok (.invokestatic 144, 3) := dk_ok (by decide +kernel)
theorem dX12_init_690 : decode cX12_init 690 = .ok (.lastore, 1) := dk_ok (by decide +kernel)
theorem dX12_init_691 : decode cX12_init 691 = .ok (.aload_n 0, 1) := dk_ok (by decide +kernel)
theorem dX12_init_692 : decode cX12_init 692 = .ok (.getfield 34, 3) := dk_ok (by decide +kernel)
theorem dX12_init_695 : decode cX12_init 695 = .ok (.bipush 16, 2) := dk_ok (by decide +kernel)
theorem dX12_init_697 : decode cX12_init 697 = .ok (.bipush 119, 2) := dk_ok (by decide +kernel)
theorem dX12_init_699 : decode cX12_init 699 = .ok (.bipush 97, 2) := dk_ok (by decide +kernel)
theorem dX12_init_701 : decode cX12_init 701 = .ok (.bipush 105, 2) := dk_ok (by decide +kernel)
theorem dX12_init_703 : decode cX12_init 703 = .ok (.bipush 116, 2) := dk_ok (by decide +kernel)
theorem dX12_init_705 : decode cX12_init 705 = .ok (.bipush 101, 2) := dk_ok (by decide +kernel)
theorem dX12_init_707 : decode cX12_init 707 = .ok (.bipush 100, 2) := dk_ok (by decide +kernel)
theorem dX12_init_709 : decode cX12_init 709 = .ok (.iconst 0, 1) := dk_ok (by decide +kernel)
theorem dX12_init_710 : decode cX12_init 710 = .ok (.invokestatic 144, 3) := dk_ok (by decide +kernel)
theorem dX12_init_713 : decode cX12_init 713 = .ok (.lastore, 1) := dk_ok (by decide +kernel)
theorem dX12_init_714 : decode cX12_init 714 = .ok (.aload_n 0, 1) := dk_ok (by decide +kernel)
theorem dX12_init_715 : decode cX12_init 715 = .ok (.getfield 34, 3) := dk_ok (by decide +kernel)
theorem dX12_init_718 : decode cX12_init 718 = .ok (.bipush 17, 2) := dk_ok (by decide +kernel)
theorem dX12_init_720 : decode cX12_init 720 = .ok (.bipush 104, 2) := dk_ok (by decide +kernel)
theorem dX12_init_722 : decode cX12_init 722 = .ok (.bipush 101, 2) := dk_ok (by decide +kernel)
theorem dX12_init_724 : decode cX12_init 724 = .ok (.bipush 114, 2) := dk_ok (by decide +kernel)
theorem dX12_init_726 : decode cX12_init 726 = .ok (.bipush 101, 2) := dk_ok (by decide +kernel)
theorem dX12_init_728 : decode cX12_init 728 = .ok (.iconst 0, 1) := dk_ok (by decide +kernel)
theorem dX12_init_729 : decode cX12_init 729 = .ok (.iconst 0, 1) := dk_ok (by decide +kernel)
theorem dX12_init_730 : decode cX12_init 730 = .ok (.iconst 0, 1) := dk_ok (by decide +kernel)
theorem dX12_init_731 : decode cX12_init 731 = .ok (.invokestatic 144, 3) := dk_ok (by decide +kernel)
theorem dX12_init_734 : decode cX12_init 734 = .ok (.lastore, 1) := dk_ok (by decide +kernel)
theorem dX12_init_735 : decode cX12_init 735 = .ok (.aload_n 0, 1) := dk_ok (by decide +kernel)
theorem dX12_init_736 : decode cX12_init 736 = .ok (.getfield 34, 3) := dk_ok (by decide +kernel)
theorem dX12_init_739 : decode cX12_init 739 = .ok (.bipush 18, 2) := dk_ok (by decide +kernel)
theorem dX12_init_741 : decode cX12_init 741 = .ok (.bipush 119, 2) := dk_ok (by decide +kernel)
theorem dX12_init_743 : decode cX12_init 743 = .ok (.bipush 97, 2) := dk_ok (by decide +kernel)
theorem dX12_init_745 : decode cX12_init 745 = .ok (.bipush 116, 2) := dk_ok (by decide +kernel)
theorem dX12_init_747 : decode cX12_init 747 = .ok (.bipush 101, 2) := dk_ok (by decide +kernel)
theorem dX12_init_749 : decode cX12_init 749 = .ok (.bipush 114, 2) := dk_ok (by decide +kernel)
theorem dX12_init_751 : decode cX12_init 751 = .ok (.iconst 0, 1) := dk_ok (by decide +kernel)
theorem dX12_init_752 : decode cX12_init 752 = .ok (.iconst 0, 1) := dk_ok (by decide +kernel)
theorem dX12_init_753 : decode cX12_init 753 = .ok (.invokestatic 144, 3) := dk_ok (by decide +kernel)
theorem dX12_init_756 : decode cX12_init 756 = .ok (.lastore, 1) := dk_ok (by decide +kernel)
theorem dX12_init_757 : decode cX12_init 757 = .ok (.aload_n 0, 1) := dk_ok (by decide +kernel)
theorem dX12_init_758 : decode cX12_init 758 = .ok (.invokevirtual 148, 3) := dk_ok (by decide +kernel)
theorem dX12_init_761 : decode cX12_init 761 = .ok (.aload_n 0, 1) := dk_ok (by decide +kernel)
theorem dX12_init_762 : decode cX12_init 762 = .ok (.invokevirtual 151, 3) := dk_ok (by decide +kernel)
theorem dX12_init_765 : decode cX12_init 765 = .ok (.return_, 1) := dk_ok (by decide +kernel)

