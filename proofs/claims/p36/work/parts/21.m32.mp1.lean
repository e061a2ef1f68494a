/-! THE REFERENCE NEWLY MADE, AND ONE CALL ON IT (for p1): what is as it was at first. mn: the minute of the working row. -/
def n0w (k : Nat) : Int := if k < 5 then -1 else if k < 10 then -2 else 0
def FMd (o k : Nat) : Bool := match o with
  | 51 => k == 2 || k == 17 || k == 18 || k == 49 || k == 58
  | 60 => true
  | 61 => true
  | 66 => true
  | 67 => true
  | 68 => true
  | 79 => true
  | 80 => true
  | 90 => true
  | _ => false
def FM (mn : Int) (σ : am_S) : Prop :=
  (σ.1 51 2 = Int32.ofInt 0 ∧ σ.1 51 17 = Int32.ofInt (-1) ∧ σ.1 51 18 = Int32.ofInt 0 ∧ σ.1 51 49 = Int32.ofInt 0 ∧ σ.1 51 58 = Int32.ofInt 0) ∧
  (σ.1 60 0 = Int32.ofInt 8 ∧ σ.1 61 0 = Int32.ofInt 0 ∧ σ.1 66 0 = Int32.ofInt 0) ∧
  (∀ k, k < 4 → σ.1 67 k = Int32.ofInt 0 ∧ σ.1 68 k = Int32.ofInt 0) ∧
  (∀ k, k < 51 → σ.1 79 k = Int32.ofInt (n0w k)) ∧
  (∀ k, k < 51 → σ.1 80 k = Int32.ofInt (if k = 49 then mn else n0w k)) ∧
  (∀ k, k < 3 → σ.1 90 k = Int32.ofInt 0)
theorem FM_of {mn : Int} {σ τ : am_S} (h : ∀ o k, FMd o k = true → τ.1 o k = σ.1 o k) (hF : FM mn σ) : FM mn τ := by
  obtain ⟨⟨a1, a2, a3, a4, a5⟩, ⟨b1, b2, b3⟩, c1, d1, e1, f1⟩ := hF
  refine ⟨⟨?_, ?_, ?_, ?_, ?_⟩, ⟨?_, ?_, ?_⟩, fun k hk => ⟨?_, ?_⟩, fun k hk => ?_, fun k hk => ?_, fun k hk => ?_⟩
  · rw [h _ _ (by rfl)]; exact a1
  · rw [h _ _ (by rfl)]; exact a2
  · rw [h _ _ (by rfl)]; exact a3
  · rw [h _ _ (by rfl)]; exact a4
  · rw [h _ _ (by rfl)]; exact a5
  · rw [h _ _ (by rfl)]; exact b1
  · rw [h _ _ (by rfl)]; exact b2
  · rw [h _ _ (by rfl)]; exact b3
  · rw [h _ _ (by rfl)]; exact (c1 k hk).1
  · rw [h _ _ (by rfl)]; exact (c1 k hk).2
  · rw [h _ _ (by rfl)]; exact d1 k hk
  · rw [h _ _ (by rfl)]; exact e1 k hk
  · rw [h _ _ (by rfl)]; exact f1 k hk
theorem FM_pi {mn : Int} {σ : am_S} {o k : Nat} {x : Int32} (hd : FMd o k = false) (hF : FM mn σ) : FM mn (am_pi σ o k x) := by
  refine FM_of (fun o' k' h => pi_n _ _ _ _ ?_) hF
  rintro ⟨rfl, rfl⟩
  rw [hd] at h
  cases h
theorem FM_live {mn : Int} {σ : am_S} (h : FM mn σ) : σ.1 51 18 = Int32.ofInt 0 := h.1.2.2.1
theorem FM_shaft {mn : Int} {σ : am_S} (h : FM mn σ) : σ.1 60 0 = Int32.ofInt 8 := h.2.1.1
theorem FM_people {mn : Int} {σ : am_S} (h : FM mn σ) : σ.1 61 0 = Int32.ofInt 0 := h.2.1.2.1
theorem FM_seed {mn : Int} {σ : am_S} (h : FM mn σ) : σ.1 66 0 = Int32.ofInt 0 := h.2.1.2.2
theorem FM_row {mn : Int} {σ : am_S} (h : FM mn σ) (k : Nat) (hk : k < 51) : σ.1 80 k = Int32.ofInt (if k = 49 then mn else n0w k) := h.2.2.2.2.1 k hk
theorem FM_now {mn : Int} {σ : am_S} (h : FM mn σ) (k : Nat) (hk : k < 51) : σ.1 79 k = Int32.ofInt (n0w k) := h.2.2.2.1 k hk
theorem FM_z {mn : Int} {σ : am_S} (h : FM mn σ) (k : Nat) (hk : k < 51) (h2 : 10 ≤ k) (h3 : ¬ k = 49) : σ.1 80 k = Int32.ofInt 0 := by
  rw [FM_row h k hk, if_neg h3]
  unfold n0w
  rw [if_neg (by omega), if_neg (by omega)]
theorem FM_min {mn : Int} {σ : am_S} (h : FM mn σ) : σ.1 80 49 = Int32.ofInt mn := by
  rw [FM_row h 49 (by decide), if_pos rfl]
-- isRung(c), isPerson(a)
def sX12_isRung : am_Sp := fun as n σ post => ∃ (c mn : Int), (-2147483648 ≤ c ∧ c < 2147483648) ∧ n = 92 ∧ as = [.ref 51, .int (Int32.ofInt c)] ∧ FM mn σ ∧ post (some (.int (Int32.ofInt (if 0 ≤ c ∧ c ≤ 7 then 1 else 0)))) σ
def xX12_isRung : am_X := (SH, KF, (some .boolean), FT_X12, PT_X12, CT_X12, KT_X12, LT_X12, NT_X12, [(292, 1, 3, 12, 0, 0, sX12_in)])
theorem xX12_isRung_SH : am_SH xX12_isRung = SH := rfl
theorem xX12_isRung_KF : am_KF xX12_isRung = KF := rfl
theorem xX12_isRung_rt : am_rt xX12_isRung = (some .boolean) := rfl
theorem xX12_isRung_FT : am_FT xX12_isRung = FT_X12 := rfl
theorem xX12_isRung_PT : am_PT xX12_isRung = PT_X12 := rfl
theorem xX12_isRung_CT : am_CT xX12_isRung = CT_X12 := rfl
theorem xX12_isRung_KT : am_KT xX12_isRung = KT_X12 := rfl
theorem xX12_isRung_LT : am_LT xX12_isRung = LT_X12 := rfl
theorem xX12_isRung_NT : am_NT xX12_isRung = NT_X12 := rfl
theorem xX12_isRung_c292 : am_find (am_ML xX12_isRung) 292 = some (1, 3, 12, 0, 0, sX12_in) := rfl
theorem xX12_isRung_n292 : am_find NT_X12 292 = none := rfl

theorem pX12_isRung : am_B cX12_isRung xX12_isRung 2 0 sX12_isRung := by
  intro n0 as σ post AA hA h
  obtain ⟨c, mn, hc, rfl, rfl, hF, h⟩ := h
  refine ⟨by simp [am_sl, Value.category], ?_⟩
  show AA 0 [some (.ref 51), some (.int (Int32.ofInt c))] [] 92 σ
  refine hA [] 40 _ _ _ _ _ ?_
  have e1 := FM_live hF
  have e2 := FM_shaft hF
  simp (disch := omega) only [dX12_isRung_0, dX12_isRung_1, dX12_isRung_2, dX12_isRung_3, FT_X12_43, dX12_isRung_6, dX12_isRung_7, FT_X12_221, dX12_isRung_10, dX12_isRung_11, dX12_isRung_12, dX12_isRung_13, xX12_isRung_c292, xX12_isRung_n292, dX12_isRung_16, xX12_isRung_SH, xX12_isRung_KF, xX12_isRung_rt, xX12_isRung_FT, xX12_isRung_PT, xX12_isRung_CT, xX12_isRung_KT, xX12_isRung_LT, xX12_isRung_NT, o_aload_n, o_getfield, o_iaload, o_iconst, o_iload_n, o_invokestatic, o_ireturn, o_isub, SH_51, KF_51_18, KF_51_22, SH_60, am_ty, am_vc, am_opt, am_cl, am_find, am_ldi, am_ldl, am_lda, am_v, am_1, am_1l, am_1a, am_2, am_2l, am_ix, am_ri, am_arr, am_pf, am_rc, am_mask, am_lg, am_av, am_nat, fv_0, fv_1, fv_2, fv_3, fw_0, fw_1, List.getElem?_cons_zero, List.getElem?_cons_succ, List.set_cons_zero, List.set_cons_succ, List.length_cons, List.length_nil, List.take_succ_cons, List.take_zero, List.drop_succ_cons, List.drop_zero, List.reverse_cons, List.reverse_nil, List.nil_append, List.cons_append, List.append_nil, List.map_cons, List.map_nil, List.sum_cons, List.sum_nil, Value.category, Option.toList_some, Option.toList_none, Nat.reduceAdd, Nat.reduceLT, Nat.reduceLeDiff, Nat.reduceEqDiff, Nat.reduceSub, Nat.add_zero, Nat.le_refl, Nat.zero_le, Int.reduceNeg, Int.reduceLE, Int.reduceLT, true_and, and_true, and_self, if_true, if_false, ite_true, ite_false, eq_self_iff_true, reduceIte, reduceCtorEq, not_false_eq_true, not_true_eq_false, or_true, true_or, or_false, false_or, Nat.lt_irrefl, Nat.zero_lt_succ, nb_0, nb_1, e1, e2, ii_lt, ii_le, ij_in, ii_c, ii_sub, Int.toNat_zero, Int.reduceSub]
  exact ⟨c, 0, 7, hc, by omega, by omega, rfl, rfl, nb_if, h⟩
theorem mX12_isRung (l : Launch) : am_M l TB NB vwCl SH KF yX12_isRung cX12_isRung 2 (some .boolean) 3 0 0 sX12_isRung := by
  refine am_M.of xX12_isRung (by decide +kernel) TB_good GF rfl rfl rfl (by decide) ⟨FT_X12_ok, PT_X12_ok _, CT_X12_ok, KT_X12_ok, LT_X12_ok, NT_X12_ok, ?_⟩ pX12_isRung
  exact List.forall_mem_cons.mpr ⟨⟨yX12_in, cX12_in, 3, (some .boolean), 2, 3, mX12_in l, by decide, by decide, tb_at 1621 (by decide +kernel) (by decide +kernel), tb_at 120 (by decide +kernel) (by decide +kernel), ⟨by decide +kernel, by decide +kernel, by decide +kernel⟩, rfl, tb_at 1619 (by decide +kernel) (by decide +kernel), tb_at 1620 (by decide +kernel) (by decide +kernel)⟩, fun _ h => absurd h List.not_mem_nil⟩

def sX12_isPerson : am_Sp := fun as n σ post => ∃ (c mn : Int), (-2147483648 ≤ c ∧ c < 2147483648) ∧ n = 92 ∧ as = [.ref 51, .int (Int32.ofInt c)] ∧ FM mn σ ∧ post (some (.int (Int32.ofInt 0))) σ
def xX12_isPerson : am_X := (SH, KF, (some .boolean), FT_X12, PT_X12, CT_X12, KT_X12, LT_X12, NT_X12, [(292, 1, 3, 12, 0, 0, sX12_in)])
theorem xX12_isPerson_SH : am_SH xX12_isPerson = SH := rfl
theorem xX12_isPerson_KF : am_KF xX12_isPerson = KF := rfl
theorem xX12_isPerson_rt : am_rt xX12_isPerson = (some .boolean) := rfl
theorem xX12_isPerson_FT : am_FT xX12_isPerson = FT_X12 := rfl
theorem xX12_isPerson_PT : am_PT xX12_isPerson = PT_X12 := rfl
theorem xX12_isPerson_CT : am_CT xX12_isPerson = CT_X12 := rfl
theorem xX12_isPerson_KT : am_KT xX12_isPerson = KT_X12 := rfl
theorem xX12_isPerson_LT : am_LT xX12_isPerson = LT_X12 := rfl
theorem xX12_isPerson_NT : am_NT xX12_isPerson = NT_X12 := rfl
theorem xX12_isPerson_c292 : am_find (am_ML xX12_isPerson) 292 = some (1, 3, 12, 0, 0, sX12_in) := rfl
theorem xX12_isPerson_n292 : am_find NT_X12 292 = none := rfl

theorem pX12_isPerson : am_B cX12_isPerson xX12_isPerson 2 0 sX12_isPerson := by
  intro n0 as σ post AA hA h
  obtain ⟨c, mn, hc, rfl, rfl, hF, h⟩ := h
  refine ⟨by simp [am_sl, Value.category], ?_⟩
  show AA 0 [some (.ref 51), some (.int (Int32.ofInt c))] [] 92 σ
  refine hA [] 40 _ _ _ _ _ ?_
  have e1 := FM_live hF
  have e2 := FM_people hF
  simp (disch := omega) only [dX12_isPerson_0, dX12_isPerson_1, dX12_isPerson_2, dX12_isPerson_3, FT_X12_46, dX12_isPerson_6, dX12_isPerson_7, FT_X12_221, dX12_isPerson_10, dX12_isPerson_11, dX12_isPerson_12, dX12_isPerson_13, xX12_isPerson_c292, xX12_isPerson_n292, dX12_isPerson_16, xX12_isPerson_SH, xX12_isPerson_KF, xX12_isPerson_rt, xX12_isPerson_FT, xX12_isPerson_PT, xX12_isPerson_CT, xX12_isPerson_KT, xX12_isPerson_LT, xX12_isPerson_NT, o_aload_n, o_getfield, o_iaload, o_iconst, o_iload_n, o_invokestatic, o_ireturn, o_isub, SH_51, KF_51_23, SH_61, KF_51_18, am_ty, am_vc, am_opt, am_cl, am_find, am_ldi, am_ldl, am_lda, am_v, am_1, am_1l, am_1a, am_2, am_2l, am_ix, am_ri, am_arr, am_pf, am_rc, am_mask, am_lg, am_av, am_nat, fv_0, fv_1, fv_2, fv_3, fw_0, fw_1, List.getElem?_cons_zero, List.getElem?_cons_succ, List.set_cons_zero, List.set_cons_succ, List.length_cons, List.length_nil, List.take_succ_cons, List.take_zero, List.drop_succ_cons, List.drop_zero, List.reverse_cons, List.reverse_nil, List.nil_append, List.cons_append, List.append_nil, List.map_cons, List.map_nil, List.sum_cons, List.sum_nil, Value.category, Option.toList_some, Option.toList_none, Nat.reduceAdd, Nat.reduceLT, Nat.reduceLeDiff, Nat.reduceEqDiff, Nat.reduceSub, Nat.add_zero, Nat.le_refl, Nat.zero_le, Int.reduceNeg, Int.reduceLE, Int.reduceLT, true_and, and_true, and_self, if_true, if_false, ite_true, ite_false, eq_self_iff_true, reduceIte, reduceCtorEq, not_false_eq_true, not_true_eq_false, or_true, true_or, or_false, false_or, Nat.lt_irrefl, Nat.zero_lt_succ, nb_0, nb_1, e1, e2, ij_in, ii_c, ii_sub, Int.toNat_zero, Int.reduceSub]
  refine ⟨c, 0, -1, hc, by omega, by omega, rfl, ?_⟩
  rw [if_neg (by omega)]
  exact ⟨rfl, rfl, h⟩
theorem mX12_isPerson (l : Launch) : am_M l TB NB vwCl SH KF yX12_isPerson cX12_isPerson 2 (some .boolean) 3 0 0 sX12_isPerson := by
  refine am_M.of xX12_isPerson (by decide +kernel) TB_good GF rfl rfl rfl (by decide) ⟨FT_X12_ok, PT_X12_ok _, CT_X12_ok, KT_X12_ok, LT_X12_ok, NT_X12_ok, ?_⟩ pX12_isPerson
  exact List.forall_mem_cons.mpr ⟨⟨yX12_in, cX12_in, 3, (some .boolean), 2, 3, mX12_in l, by decide, by decide, tb_at 1621 (by decide +kernel) (by decide +kernel), tb_at 120 (by decide +kernel) (by decide +kernel), ⟨by decide +kernel, by decide +kernel, by decide +kernel⟩, rfl, tb_at 1619 (by decide +kernel) (by decide +kernel), tb_at 1620 (by decide +kernel) (by decide +kernel)⟩, fun _ h => absurd h List.not_mem_nil⟩

-- copies(): the working row is what is now
def cpl (σ : am_S) (k : Nat) : am_S := (fun o j => if o = 80 ∧ j < k then σ.1 79 j else σ.1 o j, σ.2)
theorem cpl_0 (σ : am_S) : cpl σ 0 = σ := am_Sext (fun o k => by simp [cpl]) rfl
theorem cpl_s (σ : am_S) (k : Nat) : am_pi (cpl σ k) 80 k (σ.1 79 k) = cpl σ (k + 1) := by
  refine am_Sext (fun o j => ?_) rfl
  by_cases h : o = 80 ∧ j = k
  · obtain ⟨rfl, rfl⟩ := h
    rw [pi_s]; simp [cpl]
  · rw [pi_n _ _ _ _ h]
    simp only [cpl]
    by_cases h2 : o = 80 ∧ j < k
    · rw [if_pos h2, if_pos ⟨h2.1, by omega⟩]
    · rw [if_neg h2, if_neg (fun q => h2 ⟨q.1, by omega⟩)]
theorem cpl_now (σ : am_S) (k j : Nat) : (cpl σ k).1 79 j = σ.1 79 j := by simp [cpl]
theorem cpl_n (σ : am_S) (k o j : Nat) (h : ¬ o = 80) : (cpl σ k).1 o j = σ.1 o j := by simp [cpl, h]
def sX12_copies : am_Sp := fun as n σ post => ∃ (mn : Int), n = 92 ∧ as = [.ref 51] ∧ FM mn σ ∧ ∀ τ, FM 0 τ → post none τ
def xX12_copies : am_X := (SH, KF, none, FT_X12, PT_X12, CT_X12, KT_X12, LT_X12, NT_X12, [])
theorem xX12_copies_SH : am_SH xX12_copies = SH := rfl
theorem xX12_copies_KF : am_KF xX12_copies = KF := rfl
theorem xX12_copies_rt : am_rt xX12_copies = none := rfl
theorem xX12_copies_FT : am_FT xX12_copies = FT_X12 := rfl
theorem xX12_copies_PT : am_PT xX12_copies = PT_X12 := rfl
theorem xX12_copies_CT : am_CT xX12_copies = CT_X12 := rfl
theorem xX12_copies_KT : am_KT xX12_copies = KT_X12 := rfl
theorem xX12_copies_LT : am_LT xX12_copies = LT_X12 := rfl
theorem xX12_copies_NT : am_NT xX12_copies = NT_X12 := rfl
theorem xX12_copies_t5 (k : Nat → Prop) : am_tg 5 (21) k = k 26 := am_tg_eq (by decide)
theorem xX12_copies_t23 (k : Nat → Prop) : am_tg 23 (-21) k = k 2 := am_tg_eq (by decide)

set_option maxRecDepth 100000 in
theorem cp_loop {σ : am_S} {post : Option Value → am_S → Prop} {AA : Nat → List (Option Value) → List Value → Nat → am_S → Prop} (hA : ∀ cuts f pc ls stk n τ, am_vc cX12_copies xX12_copies (92 + 0) post AA cuts f pc ls stk n τ → AA pc ls stk n τ) {mn : Int} (hF : FM mn σ) (h : ∀ τ, FM 0 τ → post none τ) : ∀ k : Nat, k ≤ 51 → AA 2 [some (.ref 51), some (.int (Int32.ofInt (k : Int)))] [] 92 (cpl σ k) := by
  refine am_up 51 fun k hk ih => ?_
  refine hA [(2, 2)] 60 _ _ _ _ _ ?_
  have e1 : (cpl σ k).1 51 18 = Int32.ofInt 0 := by rw [cpl_n _ _ _ _ (by decide)]; exact FM_live hF
  try simp only [dX12_copies_0, dX12_copies_1, dX12_copies_2, dX12_copies_3, dX12_copies_5, xX12_copies_t5, dX12_copies_8, dX12_copies_9, FT_X12_104, dX12_copies_12, dX12_copies_13, dX12_copies_14, FT_X12_101, dX12_copies_17, dX12_copies_18, dX12_copies_19, dX12_copies_20, dX12_copies_23, xX12_copies_t23, dX12_copies_26, dX12_copies_27, dX12_copies_28, FT_X12_61, dX12_copies_31, dX12_copies_32, FT_X12_221, dX12_copies_35, dX12_copies_36, PT_X12_296, dX12_copies_39, dX12_copies_40, dX12_copies_41, PT_X12_299, dX12_copies_44, xX12_copies_SH, xX12_copies_KF, xX12_copies_rt, xX12_copies_FT, xX12_copies_PT, xX12_copies_CT, xX12_copies_KT, xX12_copies_LT, xX12_copies_NT, o_aload_n, o_bipush, o_getfield, o_goto, o_iaload, o_iastore, o_iconst, o_if_icmp_ge, o_iinc, o_iload_n, o_istore_n, o_putfield, o_return_, SH_51, KF_51_28, SH_66, KF_51_18, KF_51_47, KF_51_46, SH_80, KF_51_45, SH_79, KF_51_48, am_ty, am_vc, am_opt, am_cl, am_find, am_ldi, am_ldl, am_lda, am_v, am_1, am_1l, am_1a, am_2, am_2l, am_ix, am_ri, am_arr, am_pf, am_rc, am_mask, am_lg, am_av, am_nat, fv_0, fv_1, fv_2, fv_3, fw_0, fw_1, List.getElem?_cons_zero, List.getElem?_cons_succ, List.set_cons_zero, List.set_cons_succ, List.length_cons, List.length_nil, List.take_succ_cons, List.take_zero, List.drop_succ_cons, List.drop_zero, List.reverse_cons, List.reverse_nil, List.nil_append, List.cons_append, List.append_nil, List.map_cons, List.map_nil, List.sum_cons, List.sum_nil, Value.category, Option.toList_some, Option.toList_none, Nat.reduceAdd, Nat.reduceLT, Nat.reduceLeDiff, Nat.reduceEqDiff, Nat.reduceSub, Nat.add_zero, Nat.le_refl, Nat.zero_le, Int.reduceNeg, Int.reduceLE, Int.reduceLT, true_and, and_true, and_self, if_true, if_false, ite_true, ite_false, eq_self_iff_true, reduceIte, reduceCtorEq, not_false_eq_true, not_true_eq_false, or_true, true_or, or_false, false_or, Nat.lt_irrefl, Nat.zero_lt_succ, cpl_now, e1, nb_0]
  simp (disch := omega) only [ii_le, ik_c, ik_in, ik_s, ij_in, ii_c, Int.toNat_natCast, cpl_s, Int.toNat_zero, Int.reduceLE, Nat.reduceLT, true_and]
  refine ⟨fun h1 => h _ ?_, fun h1 => ⟨by omega, by omega, ih (by omega)⟩⟩
  have hk : k = 51 := by omega
  subst hk
  obtain ⟨a1, b1, c1, d1, e2, f1⟩ := hF
  refine FM_pi (by rfl) (FM_pi (by rfl) ⟨?_, ?_, ?_, ?_, ?_, ?_⟩)
  · simpa [cpl] using a1
  · simpa [cpl] using b1
  · simpa [cpl] using c1
  · intro j hj; rw [cpl_now]; exact d1 j hj
  · intro j hj
    have q1 : (cpl σ 51).1 80 j = σ.1 79 j := by simp [cpl, hj]
    rw [q1, d1 j hj]
    by_cases q : j = 49
    · rw [if_pos q, q]; rfl
    · rw [if_neg q]
  · simpa [cpl] using f1
set_option maxRecDepth 100000 in
theorem pX12_copies : am_B cX12_copies xX12_copies 2 0 sX12_copies := by
  intro n0 as σ post AA hA h
  obtain ⟨mn, rfl, rfl, hF, h⟩ := h
  refine ⟨by simp [am_sl, Value.category], ?_⟩
  show AA 0 [some (.ref 51), none] [] 92 σ
  refine hA [(2, 2)] 20 _ _ _ _ _ ?_
  try simp only [dX12_copies_0, dX12_copies_1, dX12_copies_2, dX12_copies_3, dX12_copies_5, xX12_copies_t5, dX12_copies_8, dX12_copies_9, FT_X12_104, dX12_copies_12, dX12_copies_13, dX12_copies_14, FT_X12_101, dX12_copies_17, dX12_copies_18, dX12_copies_19, dX12_copies_20, dX12_copies_23, xX12_copies_t23, dX12_copies_26, dX12_copies_27, dX12_copies_28, FT_X12_61, dX12_copies_31, dX12_copies_32, FT_X12_221, dX12_copies_35, dX12_copies_36, PT_X12_296, dX12_copies_39, dX12_copies_40, dX12_copies_41, PT_X12_299, dX12_copies_44, xX12_copies_SH, xX12_copies_KF, xX12_copies_rt, xX12_copies_FT, xX12_copies_PT, xX12_copies_CT, xX12_copies_KT, xX12_copies_LT, xX12_copies_NT, o_aload_n, o_bipush, o_getfield, o_goto, o_iaload, o_iastore, o_iconst, o_if_icmp_ge, o_iinc, o_iload_n, o_istore_n, o_putfield, o_return_, SH_51, KF_51_28, SH_66, KF_51_18, KF_51_47, KF_51_46, SH_80, KF_51_45, SH_79, KF_51_48, am_ty, am_vc, am_opt, am_cl, am_find, am_ldi, am_ldl, am_lda, am_v, am_1, am_1l, am_1a, am_2, am_2l, am_ix, am_ri, am_arr, am_pf, am_rc, am_mask, am_lg, am_av, am_nat, fv_0, fv_1, fv_2, fv_3, fw_0, fw_1, List.getElem?_cons_zero, List.getElem?_cons_succ, List.set_cons_zero, List.set_cons_succ, List.length_cons, List.length_nil, List.take_succ_cons, List.take_zero, List.drop_succ_cons, List.drop_zero, List.reverse_cons, List.reverse_nil, List.nil_append, List.cons_append, List.append_nil, List.map_cons, List.map_nil, List.sum_cons, List.sum_nil, Value.category, Option.toList_some, Option.toList_none, Nat.reduceAdd, Nat.reduceLT, Nat.reduceLeDiff, Nat.reduceEqDiff, Nat.reduceSub, Nat.add_zero, Nat.le_refl, Nat.zero_le, Int.reduceNeg, Int.reduceLE, Int.reduceLT, true_and, and_true, and_self, if_true, if_false, ite_true, ite_false, eq_self_iff_true, reduceIte, reduceCtorEq, not_false_eq_true, not_true_eq_false, or_true, true_or, or_false, false_or, Nat.lt_irrefl, Nat.zero_lt_succ]
  have := cp_loop hA hF h 0 (by omega)
  rw [cpl_0] at this
  exact this
theorem mX12_copies (l : Launch) : am_M l TB NB vwCl SH KF yX12_copies cX12_copies 2 none 2 0 0 sX12_copies := by
  refine am_M.of xX12_copies (by decide +kernel) TB_good GF rfl rfl rfl (by decide) ⟨FT_X12_ok, PT_X12_ok _, CT_X12_ok, KT_X12_ok, LT_X12_ok, NT_X12_ok, ?_⟩ pX12_copies
  exact fun _ h => absurd h List.not_mem_nil

