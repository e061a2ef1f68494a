theorem nb_0 : vp_nar .boolean (Int32.ofInt 0) = Int32.ofInt 0 := rfl
theorem nb_1 : vp_nar .boolean (Int32.ofInt 1) = Int32.ofInt 1 := rfl
theorem am_Sext {σ τ : am_S} (h : ∀ o k, σ.1 o k = τ.1 o k) (h2 : σ.2 = τ.2) : σ = τ := Prod.ext (funext fun o => funext fun k => h o k) h2
theorem ij_in {a : Int} {n : Nat} (h : -2147483648 ≤ a) (h2 : a < 2147483648) : vp_in (Int32.ofInt a) n = (0 ≤ a ∧ a.toNat < n) := by
  rw [ii_in h h2]
  apply propext
  constructor
  · intro q; omega
  · intro q; omega
theorem nb_if {p : Prop} [Decidable p] : vp_nar .boolean (Int32.ofInt (if p then 1 else 0)) = Int32.ofInt (if p then 1 else 0) := by split <;> rfl
theorem am_pe {post : Option Value → am_S → Prop} {σ : am_S} {a b : Int} (h : post (some (.int (Int32.ofInt a))) σ) (e : b = a) : post (some (.int (Int32.ofInt b))) σ := e ▸ h
/-- a loop that counts up to N -/
theorem am_up {P : Nat → Prop} (N : Nat) (h : ∀ k, k ≤ N → (k < N → P (k + 1)) → P k) : ∀ k, k ≤ N → P k := by
  have key : ∀ (d k : Nat), k + d = N → P k := by
    intro d
    induction d with
    | zero => intro k hk; exact h k (by omega) (fun q => absurd hk (by omega))
    | succ d ih => intro k hk; exact h k (by omega) (fun _ => ih (k + 1) (by omega))
  intro k hk
  exact key (N - k) k (by omega)
theorem ik_s (k : Nat) : Int32.ofInt (k : Int) + Int32.ofInt 1 = Int32.ofInt ((k + 1 : Nat) : Int) := by rw [ii_add]; rfl
theorem ik_c {k : Nat} (h : k < 2147483648) : (Int32.ofInt (k : Int)).toNatClampNeg = k := by rw [ii_c (by omega) (by omega)]; exact Int.toNat_natCast k
theorem ik_in {k n : Nat} (h : k < 2147483648) : vp_in (Int32.ofInt (k : Int)) n = (k < n) := by
  rw [ij_in (by omega) (by omega), Int.toNat_natCast]
  apply propext
  constructor
  · intro q; exact q.2
  · intro q; exact ⟨by omega, q⟩
-- in(v, least, most)
def sX12_in : am_Sp := fun as _ σ post => ∃ v a b : Int, (-2147483648 ≤ v ∧ v < 2147483648) ∧ (-2147483648 ≤ a ∧ a < 2147483648) ∧ (-2147483648 ≤ b ∧ b < 2147483648) ∧ as = [.int (Int32.ofInt v), .int (Int32.ofInt a), .int (Int32.ofInt b)] ∧ post (some (.int (Int32.ofInt (if a ≤ v ∧ v ≤ b then 1 else 0)))) σ
def xX12_in : am_X := (SH, KF, (some .boolean), FT_X12, PT_X12, CT_X12, KT_X12, LT_X12, NT_X12, [])
theorem xX12_in_SH : am_SH xX12_in = SH := rfl
theorem xX12_in_KF : am_KF xX12_in = KF := rfl
theorem xX12_in_rt : am_rt xX12_in = (some .boolean) := rfl
theorem xX12_in_FT : am_FT xX12_in = FT_X12 := rfl
theorem xX12_in_PT : am_PT xX12_in = PT_X12 := rfl
theorem xX12_in_CT : am_CT xX12_in = CT_X12 := rfl
theorem xX12_in_KT : am_KT xX12_in = KT_X12 := rfl
theorem xX12_in_LT : am_LT xX12_in = LT_X12 := rfl
theorem xX12_in_NT : am_NT xX12_in = NT_X12 := rfl
theorem xX12_in_t2 (k : Nat → Prop) : am_tg 2 (12) k = k 14 := am_tg_eq (by decide)
theorem xX12_in_t7 (k : Nat → Prop) : am_tg 7 (7) k = k 14 := am_tg_eq (by decide)
theorem xX12_in_t11 (k : Nat → Prop) : am_tg 11 (4) k = k 15 := am_tg_eq (by decide)

theorem pX12_in : am_B cX12_in xX12_in 3 0 sX12_in := by
  intro n0 as σ post AA hA h
  obtain ⟨v, a, b, hv, ha, hb, rfl, h⟩ := h
  refine ⟨by simp [am_sl, Value.category], ?_⟩
  show AA 0 [some (.int (Int32.ofInt v)), some (.int (Int32.ofInt a)), some (.int (Int32.ofInt b))] [] n0 σ
  refine hA [] 40 _ _ _ _ _ ?_
  simp (disch := omega) only [dX12_in_0, dX12_in_1, dX12_in_2, xX12_in_t2, dX12_in_5, dX12_in_6, dX12_in_7, xX12_in_t7, dX12_in_10, dX12_in_11, xX12_in_t11, dX12_in_14, dX12_in_15, xX12_in_SH, xX12_in_KF, xX12_in_rt, xX12_in_FT, xX12_in_PT, xX12_in_CT, xX12_in_KT, xX12_in_LT, xX12_in_NT, o_goto, o_iconst, o_if_icmp_gt, o_if_icmp_lt, o_iload_n, o_ireturn, am_ty, am_vc, am_opt, am_cl, am_find, am_ldi, am_ldl, am_lda, am_v, am_1, am_1l, am_1a, am_2, am_2l, am_ix, am_ri, am_arr, am_pf, am_rc, am_mask, am_lg, am_av, am_nat, fv_0, fv_1, fv_2, fv_3, fw_0, fw_1, List.getElem?_cons_zero, List.getElem?_cons_succ, List.set_cons_zero, List.set_cons_succ, List.length_cons, List.length_nil, List.take_succ_cons, List.take_zero, List.drop_succ_cons, List.drop_zero, List.reverse_cons, List.reverse_nil, List.nil_append, List.cons_append, List.append_nil, List.map_cons, List.map_nil, List.sum_cons, List.sum_nil, Value.category, Option.toList_some, Option.toList_none, Nat.reduceAdd, Nat.reduceLT, Nat.reduceLeDiff, Nat.reduceEqDiff, Nat.reduceSub, Nat.add_zero, Nat.le_refl, Nat.zero_le, Int.reduceNeg, Int.reduceLE, Int.reduceLT, true_and, and_true, and_self, if_true, if_false, ite_true, ite_false, eq_self_iff_true, reduceIte, reduceCtorEq, not_false_eq_true, not_true_eq_false, or_true, true_or, or_false, false_or, Nat.lt_irrefl, Nat.zero_lt_succ, nb_0, nb_1, ii_lt, ii_le]
  refine ⟨fun h1 => ?_, fun h1 => ⟨fun h2 => ?_, fun h2 => ?_⟩⟩
  · rw [if_neg (by omega)] at h; exact h
  · rw [if_neg (by omega)] at h; exact h
  · rw [if_pos (by omega)] at h; exact h
theorem mX12_in (l : Launch) : am_M l TB NB vwCl SH KF yX12_in cX12_in 3 (some .boolean) 2 0 0 sX12_in := by
  refine am_M.of xX12_in (by decide +kernel) TB_good GF rfl rfl rfl (by decide) ⟨FT_X12_ok, PT_X12_ok _, CT_X12_ok, KT_X12_ok, LT_X12_ok, NT_X12_ok, ?_⟩ pX12_in
  exact fun _ h => absurd h List.not_mem_nil


-- within, off, mixed
def sX12_within : am_Sp := fun as _ σ post => ∃ v a b : Int, (-2147483648 ≤ v ∧ v < 2147483648) ∧ (-2147483648 ≤ a ∧ a < 2147483648) ∧ (-2147483648 ≤ b ∧ b < 2147483648) ∧ as = [.int (Int32.ofInt v), .int (Int32.ofInt a), .int (Int32.ofInt b)] ∧ post (some (.int (Int32.ofInt (if v < a then a else if b < v then b else v)))) σ
def xX12_within : am_X := (SH, KF, (some .int), FT_X12, PT_X12, CT_X12, KT_X12, LT_X12, NT_X12, [])
theorem xX12_within_SH : am_SH xX12_within = SH := rfl
theorem xX12_within_KF : am_KF xX12_within = KF := rfl
theorem xX12_within_rt : am_rt xX12_within = (some .int) := rfl
theorem xX12_within_FT : am_FT xX12_within = FT_X12 := rfl
theorem xX12_within_PT : am_PT xX12_within = PT_X12 := rfl
theorem xX12_within_CT : am_CT xX12_within = CT_X12 := rfl
theorem xX12_within_KT : am_KT xX12_within = KT_X12 := rfl
theorem xX12_within_LT : am_LT xX12_within = LT_X12 := rfl
theorem xX12_within_NT : am_NT xX12_within = NT_X12 := rfl
theorem xX12_within_t2 (k : Nat → Prop) : am_tg 2 (7) k = k 9 := am_tg_eq (by decide)
theorem xX12_within_t6 (k : Nat → Prop) : am_tg 6 (13) k = k 19 := am_tg_eq (by decide)
theorem xX12_within_t11 (k : Nat → Prop) : am_tg 11 (7) k = k 18 := am_tg_eq (by decide)
theorem xX12_within_t15 (k : Nat → Prop) : am_tg 15 (4) k = k 19 := am_tg_eq (by decide)

theorem pX12_within : am_B cX12_within xX12_within 3 0 sX12_within := by
  intro n0 as σ post AA hA h
  obtain ⟨v, a, b, hv, ha, hb, rfl, h⟩ := h
  refine ⟨by simp [am_sl, Value.category], ?_⟩
  show AA 0 [some (.int (Int32.ofInt v)), some (.int (Int32.ofInt a)), some (.int (Int32.ofInt b))] [] n0 σ
  refine hA [] 40 _ _ _ _ _ ?_
  simp (disch := omega) only [dX12_within_0, dX12_within_1, dX12_within_2, xX12_within_t2, dX12_within_5, dX12_within_6, xX12_within_t6, dX12_within_9, dX12_within_10, dX12_within_11, xX12_within_t11, dX12_within_14, dX12_within_15, xX12_within_t15, dX12_within_18, dX12_within_19, xX12_within_SH, xX12_within_KF, xX12_within_rt, xX12_within_FT, xX12_within_PT, xX12_within_CT, xX12_within_KT, xX12_within_LT, xX12_within_NT, o_goto, o_if_icmp_ge, o_if_icmp_le, o_iload_n, o_ireturn, am_ty, am_vc, am_opt, am_cl, am_find, am_ldi, am_ldl, am_lda, am_v, am_1, am_1l, am_1a, am_2, am_2l, am_ix, am_ri, am_arr, am_pf, am_rc, am_mask, am_lg, am_av, am_nat, fv_0, fv_1, fv_2, fv_3, fw_0, fw_1, List.getElem?_cons_zero, List.getElem?_cons_succ, List.set_cons_zero, List.set_cons_succ, List.length_cons, List.length_nil, List.take_succ_cons, List.take_zero, List.drop_succ_cons, List.drop_zero, List.reverse_cons, List.reverse_nil, List.nil_append, List.cons_append, List.append_nil, List.map_cons, List.map_nil, List.sum_cons, List.sum_nil, Value.category, Option.toList_some, Option.toList_none, Nat.reduceAdd, Nat.reduceLT, Nat.reduceLeDiff, Nat.reduceEqDiff, Nat.reduceSub, Nat.add_zero, Nat.le_refl, Nat.zero_le, Int.reduceNeg, Int.reduceLE, Int.reduceLT, true_and, and_true, and_self, if_true, if_false, ite_true, ite_false, eq_self_iff_true, reduceIte, reduceCtorEq, not_false_eq_true, not_true_eq_false, or_true, true_or, or_false, false_or, Nat.lt_irrefl, Nat.zero_lt_succ, nb_0, nb_1, ii_lt, ii_le]
  repeat' (first | refine And.intro ?_ ?_ | intro _)
  all_goals (refine am_pe h ?_; (repeat' split) <;> omega)
theorem mX12_within (l : Launch) : am_M l TB NB vwCl SH KF yX12_within cX12_within 3 (some .int) 2 0 0 sX12_within := by
  refine am_M.of xX12_within (by decide +kernel) TB_good GF rfl rfl rfl (by decide) ⟨FT_X12_ok, PT_X12_ok _, CT_X12_ok, KT_X12_ok, LT_X12_ok, NT_X12_ok, ?_⟩ pX12_within
  exact fun _ h => absurd h List.not_mem_nil

def sX12_off : am_Sp := fun as _ σ post => ∃ a b : Int, (-1073741824 ≤ a ∧ a < 1073741824) ∧ (-1073741824 ≤ b ∧ b < 1073741824) ∧ as = [.int (Int32.ofInt a), .int (Int32.ofInt b)] ∧ post (some (.int (Int32.ofInt (if a < b then b - a else a - b)))) σ
def xX12_off : am_X := (SH, KF, (some .int), FT_X12, PT_X12, CT_X12, KT_X12, LT_X12, NT_X12, [])
theorem xX12_off_SH : am_SH xX12_off = SH := rfl
theorem xX12_off_KF : am_KF xX12_off = KF := rfl
theorem xX12_off_rt : am_rt xX12_off = (some .int) := rfl
theorem xX12_off_FT : am_FT xX12_off = FT_X12 := rfl
theorem xX12_off_PT : am_PT xX12_off = PT_X12 := rfl
theorem xX12_off_CT : am_CT xX12_off = CT_X12 := rfl
theorem xX12_off_KT : am_KT xX12_off = KT_X12 := rfl
theorem xX12_off_LT : am_LT xX12_off = LT_X12 := rfl
theorem xX12_off_NT : am_NT xX12_off = NT_X12 := rfl
theorem xX12_off_t2 (k : Nat → Prop) : am_tg 2 (9) k = k 11 := am_tg_eq (by decide)
theorem xX12_off_t8 (k : Nat → Prop) : am_tg 8 (6) k = k 14 := am_tg_eq (by decide)

theorem pX12_off : am_B cX12_off xX12_off 2 0 sX12_off := by
  intro n0 as σ post AA hA h
  obtain ⟨a, b, ha, hb, rfl, h⟩ := h
  refine ⟨by simp [am_sl, Value.category], ?_⟩
  show AA 0 [some (.int (Int32.ofInt a)), some (.int (Int32.ofInt b))] [] n0 σ
  refine hA [] 40 _ _ _ _ _ ?_
  simp (disch := omega) only [dX12_off_0, dX12_off_1, dX12_off_2, xX12_off_t2, dX12_off_5, dX12_off_6, dX12_off_7, dX12_off_8, xX12_off_t8, dX12_off_11, dX12_off_12, dX12_off_13, dX12_off_14, xX12_off_SH, xX12_off_KF, xX12_off_rt, xX12_off_FT, xX12_off_PT, xX12_off_CT, xX12_off_KT, xX12_off_LT, xX12_off_NT, o_goto, o_if_icmp_ge, o_iload_n, o_ireturn, o_isub, am_ty, am_vc, am_opt, am_cl, am_find, am_ldi, am_ldl, am_lda, am_v, am_1, am_1l, am_1a, am_2, am_2l, am_ix, am_ri, am_arr, am_pf, am_rc, am_mask, am_lg, am_av, am_nat, fv_0, fv_1, fv_2, fv_3, fw_0, fw_1, List.getElem?_cons_zero, List.getElem?_cons_succ, List.set_cons_zero, List.set_cons_succ, List.length_cons, List.length_nil, List.take_succ_cons, List.take_zero, List.drop_succ_cons, List.drop_zero, List.reverse_cons, List.reverse_nil, List.nil_append, List.cons_append, List.append_nil, List.map_cons, List.map_nil, List.sum_cons, List.sum_nil, Value.category, Option.toList_some, Option.toList_none, Nat.reduceAdd, Nat.reduceLT, Nat.reduceLeDiff, Nat.reduceEqDiff, Nat.reduceSub, Nat.add_zero, Nat.le_refl, Nat.zero_le, Int.reduceNeg, Int.reduceLE, Int.reduceLT, true_and, and_true, and_self, if_true, if_false, ite_true, ite_false, eq_self_iff_true, reduceIte, reduceCtorEq, not_false_eq_true, not_true_eq_false, or_true, true_or, or_false, false_or, Nat.lt_irrefl, Nat.zero_lt_succ, ii_lt, ii_le, ii_sub]
  repeat' (first | refine And.intro ?_ ?_ | intro _)
  all_goals (refine am_pe h ?_; (repeat' split) <;> omega)
theorem mX12_off (l : Launch) : am_M l TB NB vwCl SH KF yX12_off cX12_off 2 (some .int) 2 0 0 sX12_off := by
  refine am_M.of xX12_off (by decide +kernel) TB_good GF rfl rfl rfl (by decide) ⟨FT_X12_ok, PT_X12_ok _, CT_X12_ok, KT_X12_ok, LT_X12_ok, NT_X12_ok, ?_⟩ pX12_off
  exact fun _ h => absurd h List.not_mem_nil

def mixv (h v : Int32) : Int32 := ((h ^^^ v) * (1103515245 : Int32) + Int32.ofInt 12345) ^^^ (((h ^^^ v) * (1103515245 : Int32) + Int32.ofInt 12345).toUInt32 >>> ((Int32.ofInt 15).toUInt32 &&& Int32.toUInt32 31)).toInt32
def sX12_mixed : am_Sp := fun as _ σ post => ∃ a b : Int32, as = [.int a, .int b] ∧ post (some (.int (mixv a b))) σ
def xX12_mixed : am_X := (SH, KF, (some .int), FT_X12, PT_X12, CT_X12, KT_X12, LT_X12, NT_X12, [])
theorem xX12_mixed_SH : am_SH xX12_mixed = SH := rfl
theorem xX12_mixed_KF : am_KF xX12_mixed = KF := rfl
theorem xX12_mixed_rt : am_rt xX12_mixed = (some .int) := rfl
theorem xX12_mixed_FT : am_FT xX12_mixed = FT_X12 := rfl
theorem xX12_mixed_PT : am_PT xX12_mixed = PT_X12 := rfl
theorem xX12_mixed_CT : am_CT xX12_mixed = CT_X12 := rfl
theorem xX12_mixed_KT : am_KT xX12_mixed = KT_X12 := rfl
theorem xX12_mixed_LT : am_LT xX12_mixed = LT_X12 := rfl
theorem xX12_mixed_NT : am_NT xX12_mixed = NT_X12 := rfl

theorem pX12_mixed : am_B cX12_mixed xX12_mixed 3 0 sX12_mixed := by
  intro n0 as σ post AA hA h
  obtain ⟨a, b, rfl, h⟩ := h
  refine ⟨by simp [am_sl, Value.category], ?_⟩
  show AA 0 [some (.int a), some (.int b), none] [] n0 σ
  refine hA [] 40 _ _ _ _ _ ?_
  simp (disch := omega) only [dX12_mixed_0, dX12_mixed_1, dX12_mixed_2, dX12_mixed_3, KT_X12, dX12_mixed_6, dX12_mixed_7, dX12_mixed_10, dX12_mixed_11, dX12_mixed_12, dX12_mixed_13, dX12_mixed_14, dX12_mixed_16, dX12_mixed_17, dX12_mixed_18, xX12_mixed_SH, xX12_mixed_KF, xX12_mixed_rt, xX12_mixed_FT, xX12_mixed_PT, xX12_mixed_CT, xX12_mixed_KT, xX12_mixed_LT, xX12_mixed_NT, o_bipush, o_iadd, o_iload_n, o_imul, o_ireturn, o_istore_n, o_iushr, o_ixor, o_ldc_w, o_sipush, am_ty, am_vc, am_opt, am_cl, am_find, am_ldi, am_ldl, am_lda, am_v, am_1, am_1l, am_1a, am_2, am_2l, am_ix, am_ri, am_arr, am_pf, am_rc, am_mask, am_lg, am_av, am_nat, fv_0, fv_1, fv_2, fv_3, fw_0, fw_1, List.getElem?_cons_zero, List.getElem?_cons_succ, List.set_cons_zero, List.set_cons_succ, List.length_cons, List.length_nil, List.take_succ_cons, List.take_zero, List.drop_succ_cons, List.drop_zero, List.reverse_cons, List.reverse_nil, List.nil_append, List.cons_append, List.append_nil, List.map_cons, List.map_nil, List.sum_cons, List.sum_nil, Value.category, Option.toList_some, Option.toList_none, Nat.reduceAdd, Nat.reduceLT, Nat.reduceLeDiff, Nat.reduceEqDiff, Nat.reduceSub, Nat.add_zero, Nat.le_refl, Nat.zero_le, Int.reduceNeg, Int.reduceLE, Int.reduceLT, true_and, and_true, and_self, if_true, if_false, ite_true, ite_false, eq_self_iff_true, reduceIte, reduceCtorEq, not_false_eq_true, not_true_eq_false, or_true, true_or, or_false, false_or, Nat.lt_irrefl, Nat.zero_lt_succ]
  exact h
theorem mX12_mixed (l : Launch) : am_M l TB NB vwCl SH KF yX12_mixed cX12_mixed 3 (some .int) 2 0 0 sX12_mixed := by
  refine am_M.of xX12_mixed (by decide +kernel) TB_good GF rfl rfl rfl (by decide) ⟨FT_X12_ok, PT_X12_ok _, CT_X12_ok, KT_X12_ok, LT_X12_ok, NT_X12_ok, ?_⟩ pX12_mixed
  exact fun _ h => absurd h List.not_mem_nil

