/-! THE TAPE, byte by byte: feed of both. Printed from wip/am/chk/hand/fe.in. -/
/-- the m-th byte of a number -/
def fby (w : Int32) (m : Nat) : Int32 := (w >>> (Int32.ofInt (24 - 8 * (m : Int)) &&& 31)).toInt8.toInt32
theorem fby_n (w : Int32) (m : Nat) : vp_nar .byte (fby w m) = fby w m := nar_b (ti_i2b _)
theorem bv_sh (v : BitVec 32) : (v >>> 24).signExtend 8 = (v.sshiftRight 24).signExtend 8 ∧ (v >>> 16).signExtend 8 = (v.sshiftRight 16).signExtend 8 ∧ (v >>> 8).signExtend 8 = (v.sshiftRight 8).signExtend 8 ∧ (v >>> 0).signExtend 8 = (v.sshiftRight 0).signExtend 8 := by
  refine ⟨?_, ?_, ?_, ?_⟩ <;>
  · apply BitVec.eq_of_getLsbD_eq
    intro i hi
    rw [BitVec.getLsbD_signExtend, BitVec.getLsbD_signExtend, if_pos (by omega), if_pos (by omega), BitVec.getLsbD_ushiftRight, BitVec.getLsbD_sshiftRight, if_pos (by omega)]
    have : ¬ 32 ≤ i := by omega
    simp [this]
theorem fby_c (w : Int32) {m : Nat} (hm : m < 4) : ((w.toUInt32 >>> ((Int32.ofInt (24 - 8 * (m : Int))).toUInt32 &&& Int32.toUInt32 31)).toInt32).toInt8.toInt32 = fby w m := by
  unfold fby
  congr 1
  obtain ⟨h1, h2, h3, h4⟩ := bv_sh w.toBitVec
  have c : m = 0 ∨ m = 1 ∨ m = 2 ∨ m = 3 := by omega
  apply Int8.toBitVec_inj.mp
  rcases c with rfl | rfl | rfl | rfl
  · exact h1
  · exact h2
  · exact h3
  · exact h4
/-- n bytes more -/
def fyR (o ct tp : Nat) (T : Int) (B : Nat → Int32) (n : Nat) (σ τ : am_S) : Prop := (∀ o' i, ¬ (o' = o ∧ i = ct) → ¬ (o' = tp ∧ T.toNat ≤ i) → τ.1 o' i = σ.1 o' i) ∧ τ.1 o ct = Int32.ofInt (T + (n : Int)) ∧ ∀ i, i < n → τ.1 tp (T.toNat + i) = B i
theorem fyR_0 {o ct tp : Nat} {T : Int} {B : Nat → Int32} {σ : am_S} (h : σ.1 o ct = Int32.ofInt T) : fyR o ct tp T B 0 σ σ := ⟨fun _ _ _ _ => rfl, by rw [h]; congr 1; omega, fun i hi => absurd hi (Nat.not_lt_zero _)⟩
theorem fyR_s {o ct tp : Nat} {T : Int} {B : Nat → Int32} {n : Nat} {σ τ : am_S} {v : Int32} {q : Int} (hT : 0 ≤ T) (ho : o ≠ tp) (h : fyR o ct tp T B n σ τ) (hv : v = B n) (hq : q = T + (n : Int) + 1) : fyR o ct tp T B (n + 1) σ (am_pi (am_pi τ tp (T + (n : Int)).toNat v) o ct (Int32.ofInt q)) := by
  obtain ⟨h1, h2, h3⟩ := h
  have e : (T + (n : Int)).toNat = T.toNat + n := by omega
  rw [e]
  refine ⟨fun o' i a c => ?_, ?_, fun i hi => ?_⟩
  · rw [pi_n _ _ _ _ a, pi_n _ _ _ _ (fun z => c ⟨z.1, by omega⟩)]
    exact h1 o' i a c
  · rw [pi_s, hq]
    congr 1
    omega
  · rw [pi_n _ _ _ _ (fun z => ho z.1.symm)]
    by_cases q : i = n
    · subst q
      rw [pi_s, hv]
    · rw [pi_n _ _ _ _ (fun z => q (by omega))]
      exact h3 i (by omega)
theorem fyR_t {o ct tp : Nat} {T T' : Int} {B B' : Nat → Int32} {n m : Nat} {σ τ υ : am_S} (hT : 0 ≤ T) (ho : o ≠ tp) (h : fyR o ct tp T B n σ τ) (g : fyR o ct tp T' B' m τ υ) (hT' : T' = T + (n : Int)) (hB : ∀ i, i < m → B' i = B (n + i)) : fyR o ct tp T B (n + m) σ υ := by
  obtain ⟨h1, h2, h3⟩ := h
  obtain ⟨g1, g2, g3⟩ := g
  subst hT'
  refine ⟨fun o' i a c => ?_, ?_, fun i hi => ?_⟩
  · rw [g1 o' i a (fun z => c ⟨z.1, by omega⟩)]
    exact h1 o' i a c
  · rw [g2]
    congr 1
    omega
  · by_cases q : i < n
    · rw [g1 _ _ (fun z => ho z.1.symm) (fun z => by omega)]
      exact h3 i q
    · have := g3 (i - n) (by omega)
      rw [show (T + (n : Int)).toNat + (i - n) = T.toNat + i by omega] at this
      rw [this, hB (i - n) (by omega)]
      congr 1
      omega
def fcM : sa_M := [(0, 1, 1 + 1), (1, 0, 2000)]
def frM : sa_M := [(51, 2, 2 + 1), (52, 0, 2000)]
def sX11_putFourE : am_Sp := fun as n σ post => n = 92 ∧ sb_ok BB SH σ ∧ ∃ (T : Int) (w : Int32), (0 ≤ T ∧ T ≤ 1996) ∧ σ.1 0 1 = Int32.ofInt T ∧ as = [.ref 0, .int w] ∧ ∀ τ, sI BB SH fcM σ τ → fyR 0 1 1 T (fby w) 4 σ τ → post none τ
def xX11_putFourE : am_X := (SH, KF, none, FT_X11, PT_X11, CT_X11, KT_X11, LT_X11, NT_X11, [])
theorem xX11_putFourE_SH : am_SH xX11_putFourE = SH := rfl
theorem xX11_putFourE_KF : am_KF xX11_putFourE = KF := rfl
theorem xX11_putFourE_rt : am_rt xX11_putFourE = none := rfl
theorem xX11_putFourE_FT : am_FT xX11_putFourE = FT_X11 := rfl
theorem xX11_putFourE_PT : am_PT xX11_putFourE = PT_X11 := rfl
theorem xX11_putFourE_CT : am_CT xX11_putFourE = CT_X11 := rfl
theorem xX11_putFourE_KT : am_KT xX11_putFourE = KT_X11 := rfl
theorem xX11_putFourE_LT : am_LT xX11_putFourE = LT_X11 := rfl
theorem xX11_putFourE_NT : am_NT xX11_putFourE = NT_X11 := rfl
theorem xX11_putFourE_t4 (k : Nat → Prop) : am_tg 4 (51) k = k 55 := am_tg_eq (by decide)
theorem xX11_putFourE_t11 (k : Nat → Prop) : am_tg 11 (38) k = k 49 := am_tg_eq (by decide)
theorem xX11_putFourE_t23 (k : Nat → Prop) : am_tg 23 (26) k = k 49 := am_tg_eq (by decide)
theorem xX11_putFourE_t52 (k : Nat → Prop) : am_tg 52 (-49) k = k 3 := am_tg_eq (by decide)

set_option maxRecDepth 100000 in
theorem pf_3 {post : Option Value → am_S → Prop} {AA : Nat → List (Option Value) → List Value → Nat → am_S → Prop} (hA : ∀ cuts f pc ls stk n τ, am_vc cX11_putFour xX11_putFourE (92 + 0) post AA cuts f pc ls stk n τ → AA pc ls stk n τ) {σ0 : am_S} {T : Int} {w : Int32} (hT : 0 ≤ T ∧ T ≤ 1996) (h : ∀ τ, sI BB SH fcM σ0 τ → fyR 0 1 1 T (fby w) 4 σ0 τ → post none τ) : ∀ m : Nat, m ≤ 4 → ∀ σ, sI BB SH fcM σ0 σ → fyR 0 1 1 T (fby w) m σ0 σ → AA 3 [some (.ref 0), some (.int w), some (.int (Int32.ofInt (24 - 8 * (m : Int))))] [] 92 σ := by
  refine am_up 4 fun m hm ih σ hI hF => ?_
  have e1 : σ.1 0 1 = Int32.ofInt (T + (m : Int)) := hF.2.1
  have at55 : m = 4 → AA 55 [some (.ref 0), some (.int w), none] [] 92 σ := fun q => by
    subst q
    have hP := h σ hI hF
    refine hA [] 2 _ _ _ _ _ ?_
    try simp only [dX11_putFour_0, dX11_putFour_2, dX11_putFour_3, dX11_putFour_4, xX11_putFourE_t4, dX11_putFour_7, dX11_putFour_8, FT_X11_13, dX11_putFour_11, xX11_putFourE_t11, dX11_putFour_14, dX11_putFour_15, dX11_putFour_18, dX11_putFour_19, FT_X11_9, dX11_putFour_22, dX11_putFour_23, xX11_putFourE_t23, dX11_putFour_26, dX11_putFour_27, dX11_putFour_30, dX11_putFour_31, dX11_putFour_34, dX11_putFour_35, dX11_putFour_36, dX11_putFour_37, dX11_putFour_38, dX11_putFour_39, dX11_putFour_40, dX11_putFour_41, dX11_putFour_44, dX11_putFour_45, dX11_putFour_46, PT_X11_13, dX11_putFour_49, dX11_putFour_52, xX11_putFourE_t52, dX11_putFour_55, xX11_putFourE_SH, xX11_putFourE_KF, xX11_putFourE_rt, xX11_putFourE_FT, xX11_putFourE_PT, xX11_putFourE_CT, xX11_putFourE_KT, xX11_putFourE_LT, xX11_putFourE_NT, o_aload_n, o_arraylength, o_bastore, o_bipush, o_dup, o_getfield, o_goto, o_i2b, o_iadd, o_iconst, o_ifCond_lt, o_if_icmp_ge, o_iinc, o_iload_n, o_istore_n, o_iushr, o_putfield, o_return_, SH_0, KF_0_0, SH_1, KF_0_1, am_ty, am_vc, am_opt, am_cl, am_find, am_ldi, am_ldl, am_lda, am_v, am_1, am_1l, am_1a, am_2, am_2l, am_ix, am_ri, am_arr, am_pf, am_rc, am_mask, am_lg, am_av, am_nat, fv_0, fv_1, fv_2, fv_3, fw_0, fw_1, List.getElem?_cons_zero, List.getElem?_cons_succ, List.set_cons_zero, List.set_cons_succ, List.length_cons, List.length_nil, List.take_succ_cons, List.take_zero, List.drop_succ_cons, List.drop_zero, List.reverse_cons, List.reverse_nil, List.nil_append, List.cons_append, List.append_nil, List.map_cons, List.map_nil, List.sum_cons, List.sum_nil, Value.category, Option.toList_some, Option.toList_none, Nat.reduceAdd, Nat.reduceLT, Nat.reduceLeDiff, Nat.reduceEqDiff, Nat.reduceSub, Nat.add_zero, Nat.le_refl, Nat.zero_le, Int.reduceNeg, Int.reduceLE, Int.reduceLT, true_and, and_true, and_self, if_true, if_false, ite_true, ite_false, eq_self_iff_true, reduceIte, reduceCtorEq, not_false_eq_true, not_true_eq_false, or_true, true_or, or_false, false_or, Nat.lt_irrefl, Nat.zero_lt_succ]
    exact hP
  have go : m < 4 → AA 7 [some (.ref 0), some (.int w), some (.int (Int32.ofInt (24 - 8 * (m : Int))))] [] 92 σ := fun q => by
    have hv : vp_nar .byte ((w.toUInt32 >>> ((Int32.ofInt (24 - 8 * (m : Int))).toUInt32 &&& Int32.toUInt32 31)).toInt32).toInt8.toInt32 = fby w m := by rw [fby_c w q]; exact fby_n w m
    have hF1 := fyR_s (v := fby w m) (q := T + (m : Int) + 1) hT.1 (by decide) hF rfl rfl
    have hI1 : sI BB SH fcM σ0 (am_pi (am_pi σ 1 (T + (m : Int)).toNat (fby w m)) 0 1 (Int32.ofInt (T + (m : Int) + 1))) := by
      refine sI_fld (ci := 11) (sI_arr (q := (1, 2000)) hI rfl (by rw [sb_1 (q := (-128, 127)) rfl]; exact ti_i2b _) ⟨(1, 0, 2000), by decide, rfl, Nat.zero_le _, by show (T + (m : Int)).toNat < 2000; omega⟩) rfl ?_ ⟨(0, 1, 1 + 1), by decide, rfl, by decide, by decide⟩
      rw [ii_t (by omega) (by omega)]
      exact ⟨by show (-2147483648 : Int) ≤ _; omega, by show _ ≤ (2147483647 : Int); omega⟩
    have es : (24 : Int) - 8 * (m : Int) + -8 = 24 - 8 * ((m + 1 : Nat) : Int) := by omega
    have k := ih q _ hI1 hF1
    refine hA [(3, 3)] 40 _ _ _ _ _ ?_
    try simp only [dX11_putFour_0, dX11_putFour_2, dX11_putFour_3, dX11_putFour_4, xX11_putFourE_t4, dX11_putFour_7, dX11_putFour_8, FT_X11_13, dX11_putFour_11, xX11_putFourE_t11, dX11_putFour_14, dX11_putFour_15, dX11_putFour_18, dX11_putFour_19, FT_X11_9, dX11_putFour_22, dX11_putFour_23, xX11_putFourE_t23, dX11_putFour_26, dX11_putFour_27, dX11_putFour_30, dX11_putFour_31, dX11_putFour_34, dX11_putFour_35, dX11_putFour_36, dX11_putFour_37, dX11_putFour_38, dX11_putFour_39, dX11_putFour_40, dX11_putFour_41, dX11_putFour_44, dX11_putFour_45, dX11_putFour_46, PT_X11_13, dX11_putFour_49, dX11_putFour_52, xX11_putFourE_t52, dX11_putFour_55, xX11_putFourE_SH, xX11_putFourE_KF, xX11_putFourE_rt, xX11_putFourE_FT, xX11_putFourE_PT, xX11_putFourE_CT, xX11_putFourE_KT, xX11_putFourE_LT, xX11_putFourE_NT, o_aload_n, o_arraylength, o_bastore, o_bipush, o_dup, o_getfield, o_goto, o_i2b, o_iadd, o_iconst, o_ifCond_lt, o_if_icmp_ge, o_iinc, o_iload_n, o_istore_n, o_iushr, o_putfield, o_return_, SH_0, KF_0_0, SH_1, KF_0_1, am_ty, am_vc, am_opt, am_cl, am_find, am_ldi, am_ldl, am_lda, am_v, am_1, am_1l, am_1a, am_2, am_2l, am_ix, am_ri, am_arr, am_pf, am_rc, am_mask, am_lg, am_av, am_nat, fv_0, fv_1, fv_2, fv_3, fw_0, fw_1, List.getElem?_cons_zero, List.getElem?_cons_succ, List.set_cons_zero, List.set_cons_succ, List.length_cons, List.length_nil, List.take_succ_cons, List.take_zero, List.drop_succ_cons, List.drop_zero, List.reverse_cons, List.reverse_nil, List.nil_append, List.cons_append, List.append_nil, List.map_cons, List.map_nil, List.sum_cons, List.sum_nil, Value.category, Option.toList_some, Option.toList_none, Nat.reduceAdd, Nat.reduceLT, Nat.reduceLeDiff, Nat.reduceEqDiff, Nat.reduceSub, Nat.add_zero, Nat.le_refl, Nat.zero_le, Int.reduceNeg, Int.reduceLE, Int.reduceLT, true_and, and_true, and_self, if_true, if_false, ite_true, ite_false, eq_self_iff_true, reduceIte, reduceCtorEq, not_false_eq_true, not_true_eq_false, or_true, true_or, or_false, false_or, Nat.lt_irrefl, Nat.zero_lt_succ, e1, hv]
    try simp (disch := omega) only [ii_0, ii_1, ii_t, ii_add, ii_sub, ii_mul, ii_lt, ii_le, ii_eq, ij_in, ii_c, Int.toNat_natCast, Int.toNat_zero, Int.reduceToNat, Int.reduceEq, Int.reduceNe, Int.reduceLE, Int.reduceLT, Int.reduceAdd, Int.reduceSub, Int.reduceMul, Int.reduceNeg, Nat.reduceLT, Nat.reduceAdd, Nat.reduceMul, not_false_eq_true, not_true_eq_false, true_and, and_true, and_self, false_and, and_false, true_implies, false_implies, implies_true, forall_const, if_true, if_false, ite_true, ite_false, reduceIte, eq_self_iff_true, Int.natCast_nonneg, Int.zero_add, Int.add_zero, pi_s, pi_n, e1, hv, on_2000, es]
    first
    | exact ⟨fun z => absurd z (by omega), fun _ => ⟨fun z => absurd z (by omega), fun _ => ⟨⟨by omega, by omega⟩, k⟩⟩⟩
    | exact ⟨fun z => absurd z (by omega), fun _ => ⟨fun z => absurd z (by omega), fun _ => ⟨by omega, k⟩⟩⟩
    | exact ⟨fun z => absurd z (by omega), fun _ => ⟨fun z => absurd z (by omega), fun _ => k⟩⟩
  refine hA [(55, 2), (7, 3)] 4 _ _ _ _ _ ?_
  try simp only [dX11_putFour_0, dX11_putFour_2, dX11_putFour_3, dX11_putFour_4, xX11_putFourE_t4, dX11_putFour_7, dX11_putFour_8, FT_X11_13, dX11_putFour_11, xX11_putFourE_t11, dX11_putFour_14, dX11_putFour_15, dX11_putFour_18, dX11_putFour_19, FT_X11_9, dX11_putFour_22, dX11_putFour_23, xX11_putFourE_t23, dX11_putFour_26, dX11_putFour_27, dX11_putFour_30, dX11_putFour_31, dX11_putFour_34, dX11_putFour_35, dX11_putFour_36, dX11_putFour_37, dX11_putFour_38, dX11_putFour_39, dX11_putFour_40, dX11_putFour_41, dX11_putFour_44, dX11_putFour_45, dX11_putFour_46, PT_X11_13, dX11_putFour_49, dX11_putFour_52, xX11_putFourE_t52, dX11_putFour_55, xX11_putFourE_SH, xX11_putFourE_KF, xX11_putFourE_rt, xX11_putFourE_FT, xX11_putFourE_PT, xX11_putFourE_CT, xX11_putFourE_KT, xX11_putFourE_LT, xX11_putFourE_NT, o_aload_n, o_arraylength, o_bastore, o_bipush, o_dup, o_getfield, o_goto, o_i2b, o_iadd, o_iconst, o_ifCond_lt, o_if_icmp_ge, o_iinc, o_iload_n, o_istore_n, o_iushr, o_putfield, o_return_, SH_0, KF_0_0, SH_1, KF_0_1, am_ty, am_vc, am_opt, am_cl, am_find, am_ldi, am_ldl, am_lda, am_v, am_1, am_1l, am_1a, am_2, am_2l, am_ix, am_ri, am_arr, am_pf, am_rc, am_mask, am_lg, am_av, am_nat, fv_0, fv_1, fv_2, fv_3, fw_0, fw_1, List.getElem?_cons_zero, List.getElem?_cons_succ, List.set_cons_zero, List.set_cons_succ, List.length_cons, List.length_nil, List.take_succ_cons, List.take_zero, List.drop_succ_cons, List.drop_zero, List.reverse_cons, List.reverse_nil, List.nil_append, List.cons_append, List.append_nil, List.map_cons, List.map_nil, List.sum_cons, List.sum_nil, Value.category, Option.toList_some, Option.toList_none, Nat.reduceAdd, Nat.reduceLT, Nat.reduceLeDiff, Nat.reduceEqDiff, Nat.reduceSub, Nat.add_zero, Nat.le_refl, Nat.zero_le, Int.reduceNeg, Int.reduceLE, Int.reduceLT, true_and, and_true, and_self, if_true, if_false, ite_true, ite_false, eq_self_iff_true, reduceIte, reduceCtorEq, not_false_eq_true, not_true_eq_false, or_true, true_or, or_false, false_or, Nat.lt_irrefl, Nat.zero_lt_succ]
  try simp (disch := omega) only [ii_0, ii_1, ii_t, ii_add, ii_sub, ii_mul, ii_lt, ii_le, ii_eq, ij_in, ii_c, Int.toNat_natCast, Int.toNat_zero, Int.reduceToNat, Int.reduceEq, Int.reduceNe, Int.reduceLE, Int.reduceLT, Int.reduceAdd, Int.reduceSub, Int.reduceMul, Int.reduceNeg, Nat.reduceLT, Nat.reduceAdd, Nat.reduceMul, not_false_eq_true, not_true_eq_false, true_and, and_true, and_self, false_and, and_false, true_implies, false_implies, implies_true, forall_const, if_true, if_false, ite_true, ite_false, reduceIte, eq_self_iff_true, Int.natCast_nonneg, Int.zero_add, Int.add_zero, pi_s, pi_n]
  exact ⟨fun q => at55 (by omega), fun q => go (by omega)⟩
set_option maxRecDepth 100000 in
theorem ptX11_putFourE : am_B cX11_putFour xX11_putFourE 3 0 sX11_putFourE := by
  intro n0 as σ post AA hA h
  obtain ⟨rfl, hB, T, w, hT, e1, rfl, h⟩ := h
  refine ⟨by simp [am_sl, Value.category], ?_⟩
  show AA 0 [some (.ref 0), some (.int w), none] [] 92 σ
  refine hA [(3, 3)] 3 _ _ _ _ _ ?_
  try simp only [dX11_putFour_0, dX11_putFour_2, dX11_putFour_3, dX11_putFour_4, xX11_putFourE_t4, dX11_putFour_7, dX11_putFour_8, FT_X11_13, dX11_putFour_11, xX11_putFourE_t11, dX11_putFour_14, dX11_putFour_15, dX11_putFour_18, dX11_putFour_19, FT_X11_9, dX11_putFour_22, dX11_putFour_23, xX11_putFourE_t23, dX11_putFour_26, dX11_putFour_27, dX11_putFour_30, dX11_putFour_31, dX11_putFour_34, dX11_putFour_35, dX11_putFour_36, dX11_putFour_37, dX11_putFour_38, dX11_putFour_39, dX11_putFour_40, dX11_putFour_41, dX11_putFour_44, dX11_putFour_45, dX11_putFour_46, PT_X11_13, dX11_putFour_49, dX11_putFour_52, xX11_putFourE_t52, dX11_putFour_55, xX11_putFourE_SH, xX11_putFourE_KF, xX11_putFourE_rt, xX11_putFourE_FT, xX11_putFourE_PT, xX11_putFourE_CT, xX11_putFourE_KT, xX11_putFourE_LT, xX11_putFourE_NT, o_aload_n, o_arraylength, o_bastore, o_bipush, o_dup, o_getfield, o_goto, o_i2b, o_iadd, o_iconst, o_ifCond_lt, o_if_icmp_ge, o_iinc, o_iload_n, o_istore_n, o_iushr, o_putfield, o_return_, SH_0, KF_0_0, SH_1, KF_0_1, am_ty, am_vc, am_opt, am_cl, am_find, am_ldi, am_ldl, am_lda, am_v, am_1, am_1l, am_1a, am_2, am_2l, am_ix, am_ri, am_arr, am_pf, am_rc, am_mask, am_lg, am_av, am_nat, fv_0, fv_1, fv_2, fv_3, fw_0, fw_1, List.getElem?_cons_zero, List.getElem?_cons_succ, List.set_cons_zero, List.set_cons_succ, List.length_cons, List.length_nil, List.take_succ_cons, List.take_zero, List.drop_succ_cons, List.drop_zero, List.reverse_cons, List.reverse_nil, List.nil_append, List.cons_append, List.append_nil, List.map_cons, List.map_nil, List.sum_cons, List.sum_nil, Value.category, Option.toList_some, Option.toList_none, Nat.reduceAdd, Nat.reduceLT, Nat.reduceLeDiff, Nat.reduceEqDiff, Nat.reduceSub, Nat.add_zero, Nat.le_refl, Nat.zero_le, Int.reduceNeg, Int.reduceLE, Int.reduceLT, true_and, and_true, and_self, if_true, if_false, ite_true, ite_false, eq_self_iff_true, reduceIte, reduceCtorEq, not_false_eq_true, not_true_eq_false, or_true, true_or, or_false, false_or, Nat.lt_irrefl, Nat.zero_lt_succ]
  exact pf_3 hA hT h 0 (by decide) σ ⟨hB, sb_fr_r _ _⟩ (fyR_0 e1)
theorem mX11_putFourE (l : Launch) : am_M l TB NB vwCl SH KF yX11_putFour cX11_putFour 3 none 2 0 0 sX11_putFourE := by
  refine am_M.of xX11_putFourE (by decide +kernel) TB_good GF rfl rfl rfl (by decide) ⟨FT_X11_ok, PT_X11_ok _, CT_X11_ok, KT_X11_ok, LT_X11_ok, NT_X11_ok, ?_⟩ ptX11_putFourE
  exact fun _ h => absurd h List.not_mem_nil

def sX12_putE : am_Sp := fun as n σ post => n = 92 ∧ sb_ok BB SH σ ∧ ∃ (T : Int) (w : Int32), (0 ≤ T ∧ T ≤ 1996) ∧ σ.1 51 2 = Int32.ofInt T ∧ as = [.ref 51, .int w] ∧ ∀ τ, sI BB SH frM σ τ → fyR 51 2 52 T (fby w) 4 σ τ → post none τ
def xX12_putE : am_X := (SH, KF, none, FT_X12, PT_X12, CT_X12, KT_X12, LT_X12, NT_X12, [])
theorem xX12_putE_SH : am_SH xX12_putE = SH := rfl
theorem xX12_putE_KF : am_KF xX12_putE = KF := rfl
theorem xX12_putE_rt : am_rt xX12_putE = none := rfl
theorem xX12_putE_FT : am_FT xX12_putE = FT_X12 := rfl
theorem xX12_putE_PT : am_PT xX12_putE = PT_X12 := rfl
theorem xX12_putE_CT : am_CT xX12_putE = CT_X12 := rfl
theorem xX12_putE_KT : am_KT xX12_putE = KT_X12 := rfl
theorem xX12_putE_LT : am_LT xX12_putE = LT_X12 := rfl
theorem xX12_putE_NT : am_NT xX12_putE = NT_X12 := rfl
theorem xX12_putE_t4 (k : Nat → Prop) : am_tg 4 (32) k = k 36 := am_tg_eq (by decide)
theorem xX12_putE_t33 (k : Nat → Prop) : am_tg 33 (-30) k = k 3 := am_tg_eq (by decide)

set_option maxRecDepth 100000 in
theorem pr_3 {post : Option Value → am_S → Prop} {AA : Nat → List (Option Value) → List Value → Nat → am_S → Prop} (hA : ∀ cuts f pc ls stk n τ, am_vc cX12_put xX12_putE (92 + 0) post AA cuts f pc ls stk n τ → AA pc ls stk n τ) {σ0 : am_S} {T : Int} {w : Int32} (hT : 0 ≤ T ∧ T ≤ 1996) (h : ∀ τ, sI BB SH frM σ0 τ → fyR 51 2 52 T (fby w) 4 σ0 τ → post none τ) : ∀ m : Nat, m ≤ 4 → ∀ σ, sI BB SH frM σ0 σ → fyR 51 2 52 T (fby w) m σ0 σ → AA 3 [some (.ref 51), some (.int w), some (.int (Int32.ofInt (24 - 8 * (m : Int))))] [] 92 σ := by
  refine am_up 4 fun m hm ih σ hI hF => ?_
  have e1 : σ.1 51 2 = Int32.ofInt (T + (m : Int)) := hF.2.1
  have at36 : m = 4 → AA 36 [some (.ref 51), some (.int w), none] [] 92 σ := fun q => by
    subst q
    have hP := h σ hI hF
    refine hA [] 2 _ _ _ _ _ ?_
    try simp only [dX12_put_0, dX12_put_2, dX12_put_3, dX12_put_4, xX12_putE_t4, dX12_put_7, dX12_put_8, FT_X12_13, dX12_put_11, dX12_put_12, FT_X12_154, dX12_put_15, dX12_put_16, dX12_put_17, dX12_put_18, dX12_put_19, dX12_put_20, dX12_put_21, dX12_put_22, dX12_put_25, dX12_put_26, dX12_put_27, PT_X12_154, dX12_put_30, dX12_put_33, xX12_putE_t33, dX12_put_36, xX12_putE_SH, xX12_putE_KF, xX12_putE_rt, xX12_putE_FT, xX12_putE_PT, xX12_putE_CT, xX12_putE_KT, xX12_putE_LT, xX12_putE_NT, o_aload_n, o_bastore, o_bipush, o_dup, o_getfield, o_goto, o_i2b, o_iadd, o_iconst, o_ifCond_lt, o_iinc, o_iload_n, o_ishr, o_istore_n, o_putfield, o_return_, SH_51, KF_51_1, SH_52, KF_51_2, am_ty, am_vc, am_opt, am_cl, am_find, am_ldi, am_ldl, am_lda, am_v, am_1, am_1l, am_1a, am_2, am_2l, am_ix, am_ri, am_arr, am_pf, am_rc, am_mask, am_lg, am_av, am_nat, fv_0, fv_1, fv_2, fv_3, fw_0, fw_1, List.getElem?_cons_zero, List.getElem?_cons_succ, List.set_cons_zero, List.set_cons_succ, List.length_cons, List.length_nil, List.take_succ_cons, List.take_zero, List.drop_succ_cons, List.drop_zero, List.reverse_cons, List.reverse_nil, List.nil_append, List.cons_append, List.append_nil, List.map_cons, List.map_nil, List.sum_cons, List.sum_nil, Value.category, Option.toList_some, Option.toList_none, Nat.reduceAdd, Nat.reduceLT, Nat.reduceLeDiff, Nat.reduceEqDiff, Nat.reduceSub, Nat.add_zero, Nat.le_refl, Nat.zero_le, Int.reduceNeg, Int.reduceLE, Int.reduceLT, true_and, and_true, and_self, if_true, if_false, ite_true, ite_false, eq_self_iff_true, reduceIte, reduceCtorEq, not_false_eq_true, not_true_eq_false, or_true, true_or, or_false, false_or, Nat.lt_irrefl, Nat.zero_lt_succ]
    exact hP
  have go : m < 4 → AA 7 [some (.ref 51), some (.int w), some (.int (Int32.ofInt (24 - 8 * (m : Int))))] [] 92 σ := fun q => by
    have hv : vp_nar .byte ((w >>> (Int32.ofInt (24 - 8 * (m : Int)) &&& 31)).toInt8.toInt32) = fby w m := fby_n w m
    have hF1 := fyR_s (v := fby w m) (q := T + (m : Int) + 1) hT.1 (by decide) hF rfl rfl
    have hI1 : sI BB SH frM σ0 (am_pi (am_pi σ 52 (T + (m : Int)).toNat (fby w m)) 51 2 (Int32.ofInt (T + (m : Int) + 1))) := by
      refine sI_fld (ci := 12) (sI_arr (q := (1, 2000)) hI rfl (by rw [sb_1 (q := (-128, 127)) rfl]; exact ti_i2b _) ⟨(52, 0, 2000), by decide, rfl, Nat.zero_le _, by show (T + (m : Int)).toNat < 2000; omega⟩) rfl ?_ ⟨(51, 2, 2 + 1), by decide, rfl, by decide, by decide⟩
      rw [ii_t (by omega) (by omega)]
      exact ⟨by show (0 : Int) ≤ _; omega, by show _ ≤ (2000 : Int); omega⟩
    have es : (24 : Int) - 8 * (m : Int) + -8 = 24 - 8 * ((m + 1 : Nat) : Int) := by omega
    have k := ih q _ hI1 hF1
    refine hA [(3, 3)] 40 _ _ _ _ _ ?_
    try simp only [dX12_put_0, dX12_put_2, dX12_put_3, dX12_put_4, xX12_putE_t4, dX12_put_7, dX12_put_8, FT_X12_13, dX12_put_11, dX12_put_12, FT_X12_154, dX12_put_15, dX12_put_16, dX12_put_17, dX12_put_18, dX12_put_19, dX12_put_20, dX12_put_21, dX12_put_22, dX12_put_25, dX12_put_26, dX12_put_27, PT_X12_154, dX12_put_30, dX12_put_33, xX12_putE_t33, dX12_put_36, xX12_putE_SH, xX12_putE_KF, xX12_putE_rt, xX12_putE_FT, xX12_putE_PT, xX12_putE_CT, xX12_putE_KT, xX12_putE_LT, xX12_putE_NT, o_aload_n, o_bastore, o_bipush, o_dup, o_getfield, o_goto, o_i2b, o_iadd, o_iconst, o_ifCond_lt, o_iinc, o_iload_n, o_ishr, o_istore_n, o_putfield, o_return_, SH_51, KF_51_1, SH_52, KF_51_2, am_ty, am_vc, am_opt, am_cl, am_find, am_ldi, am_ldl, am_lda, am_v, am_1, am_1l, am_1a, am_2, am_2l, am_ix, am_ri, am_arr, am_pf, am_rc, am_mask, am_lg, am_av, am_nat, fv_0, fv_1, fv_2, fv_3, fw_0, fw_1, List.getElem?_cons_zero, List.getElem?_cons_succ, List.set_cons_zero, List.set_cons_succ, List.length_cons, List.length_nil, List.take_succ_cons, List.take_zero, List.drop_succ_cons, List.drop_zero, List.reverse_cons, List.reverse_nil, List.nil_append, List.cons_append, List.append_nil, List.map_cons, List.map_nil, List.sum_cons, List.sum_nil, Value.category, Option.toList_some, Option.toList_none, Nat.reduceAdd, Nat.reduceLT, Nat.reduceLeDiff, Nat.reduceEqDiff, Nat.reduceSub, Nat.add_zero, Nat.le_refl, Nat.zero_le, Int.reduceNeg, Int.reduceLE, Int.reduceLT, true_and, and_true, and_self, if_true, if_false, ite_true, ite_false, eq_self_iff_true, reduceIte, reduceCtorEq, not_false_eq_true, not_true_eq_false, or_true, true_or, or_false, false_or, Nat.lt_irrefl, Nat.zero_lt_succ, e1, hv]
    try simp (disch := omega) only [ii_0, ii_1, ii_t, ii_add, ii_sub, ii_mul, ii_lt, ii_le, ii_eq, ij_in, ii_c, Int.toNat_natCast, Int.toNat_zero, Int.reduceToNat, Int.reduceEq, Int.reduceNe, Int.reduceLE, Int.reduceLT, Int.reduceAdd, Int.reduceSub, Int.reduceMul, Int.reduceNeg, Nat.reduceLT, Nat.reduceAdd, Nat.reduceMul, not_false_eq_true, not_true_eq_false, true_and, and_true, and_self, false_and, and_false, true_implies, false_implies, implies_true, forall_const, if_true, if_false, ite_true, ite_false, reduceIte, eq_self_iff_true, Int.natCast_nonneg, Int.zero_add, Int.add_zero, pi_s, pi_n, e1, hv, on_2000, es]
    first
    | exact k
    | exact ⟨⟨by omega, by omega⟩, k⟩
    | exact ⟨by omega, k⟩
  refine hA [(36, 2), (7, 3)] 4 _ _ _ _ _ ?_
  try simp only [dX12_put_0, dX12_put_2, dX12_put_3, dX12_put_4, xX12_putE_t4, dX12_put_7, dX12_put_8, FT_X12_13, dX12_put_11, dX12_put_12, FT_X12_154, dX12_put_15, dX12_put_16, dX12_put_17, dX12_put_18, dX12_put_19, dX12_put_20, dX12_put_21, dX12_put_22, dX12_put_25, dX12_put_26, dX12_put_27, PT_X12_154, dX12_put_30, dX12_put_33, xX12_putE_t33, dX12_put_36, xX12_putE_SH, xX12_putE_KF, xX12_putE_rt, xX12_putE_FT, xX12_putE_PT, xX12_putE_CT, xX12_putE_KT, xX12_putE_LT, xX12_putE_NT, o_aload_n, o_bastore, o_bipush, o_dup, o_getfield, o_goto, o_i2b, o_iadd, o_iconst, o_ifCond_lt, o_iinc, o_iload_n, o_ishr, o_istore_n, o_putfield, o_return_, SH_51, KF_51_1, SH_52, KF_51_2, am_ty, am_vc, am_opt, am_cl, am_find, am_ldi, am_ldl, am_lda, am_v, am_1, am_1l, am_1a, am_2, am_2l, am_ix, am_ri, am_arr, am_pf, am_rc, am_mask, am_lg, am_av, am_nat, fv_0, fv_1, fv_2, fv_3, fw_0, fw_1, List.getElem?_cons_zero, List.getElem?_cons_succ, List.set_cons_zero, List.set_cons_succ, List.length_cons, List.length_nil, List.take_succ_cons, List.take_zero, List.drop_succ_cons, List.drop_zero, List.reverse_cons, List.reverse_nil, List.nil_append, List.cons_append, List.append_nil, List.map_cons, List.map_nil, List.sum_cons, List.sum_nil, Value.category, Option.toList_some, Option.toList_none, Nat.reduceAdd, Nat.reduceLT, Nat.reduceLeDiff, Nat.reduceEqDiff, Nat.reduceSub, Nat.add_zero, Nat.le_refl, Nat.zero_le, Int.reduceNeg, Int.reduceLE, Int.reduceLT, true_and, and_true, and_self, if_true, if_false, ite_true, ite_false, eq_self_iff_true, reduceIte, reduceCtorEq, not_false_eq_true, not_true_eq_false, or_true, true_or, or_false, false_or, Nat.lt_irrefl, Nat.zero_lt_succ]
  try simp (disch := omega) only [ii_0, ii_1, ii_t, ii_add, ii_sub, ii_mul, ii_lt, ii_le, ii_eq, ij_in, ii_c, Int.toNat_natCast, Int.toNat_zero, Int.reduceToNat, Int.reduceEq, Int.reduceNe, Int.reduceLE, Int.reduceLT, Int.reduceAdd, Int.reduceSub, Int.reduceMul, Int.reduceNeg, Nat.reduceLT, Nat.reduceAdd, Nat.reduceMul, not_false_eq_true, not_true_eq_false, true_and, and_true, and_self, false_and, and_false, true_implies, false_implies, implies_true, forall_const, if_true, if_false, ite_true, ite_false, reduceIte, eq_self_iff_true, Int.natCast_nonneg, Int.zero_add, Int.add_zero, pi_s, pi_n]
  exact ⟨fun q => at36 (by omega), fun q => go (by omega)⟩
set_option maxRecDepth 100000 in
theorem ptX12_putE : am_B cX12_put xX12_putE 3 0 sX12_putE := by
  intro n0 as σ post AA hA h
  obtain ⟨rfl, hB, T, w, hT, e1, rfl, h⟩ := h
  refine ⟨by simp [am_sl, Value.category], ?_⟩
  show AA 0 [some (.ref 51), some (.int w), none] [] 92 σ
  refine hA [(3, 3)] 3 _ _ _ _ _ ?_
  try simp only [dX12_put_0, dX12_put_2, dX12_put_3, dX12_put_4, xX12_putE_t4, dX12_put_7, dX12_put_8, FT_X12_13, dX12_put_11, dX12_put_12, FT_X12_154, dX12_put_15, dX12_put_16, dX12_put_17, dX12_put_18, dX12_put_19, dX12_put_20, dX12_put_21, dX12_put_22, dX12_put_25, dX12_put_26, dX12_put_27, PT_X12_154, dX12_put_30, dX12_put_33, xX12_putE_t33, dX12_put_36, xX12_putE_SH, xX12_putE_KF, xX12_putE_rt, xX12_putE_FT, xX12_putE_PT, xX12_putE_CT, xX12_putE_KT, xX12_putE_LT, xX12_putE_NT, o_aload_n, o_bastore, o_bipush, o_dup, o_getfield, o_goto, o_i2b, o_iadd, o_iconst, o_ifCond_lt, o_iinc, o_iload_n, o_ishr, o_istore_n, o_putfield, o_return_, SH_51, KF_51_1, SH_52, KF_51_2, am_ty, am_vc, am_opt, am_cl, am_find, am_ldi, am_ldl, am_lda, am_v, am_1, am_1l, am_1a, am_2, am_2l, am_ix, am_ri, am_arr, am_pf, am_rc, am_mask, am_lg, am_av, am_nat, fv_0, fv_1, fv_2, fv_3, fw_0, fw_1, List.getElem?_cons_zero, List.getElem?_cons_succ, List.set_cons_zero, List.set_cons_succ, List.length_cons, List.length_nil, List.take_succ_cons, List.take_zero, List.drop_succ_cons, List.drop_zero, List.reverse_cons, List.reverse_nil, List.nil_append, List.cons_append, List.append_nil, List.map_cons, List.map_nil, List.sum_cons, List.sum_nil, Value.category, Option.toList_some, Option.toList_none, Nat.reduceAdd, Nat.reduceLT, Nat.reduceLeDiff, Nat.reduceEqDiff, Nat.reduceSub, Nat.add_zero, Nat.le_refl, Nat.zero_le, Int.reduceNeg, Int.reduceLE, Int.reduceLT, true_and, and_true, and_self, if_true, if_false, ite_true, ite_false, eq_self_iff_true, reduceIte, reduceCtorEq, not_false_eq_true, not_true_eq_false, or_true, true_or, or_false, false_or, Nat.lt_irrefl, Nat.zero_lt_succ]
  exact pr_3 hA hT h 0 (by decide) σ ⟨hB, sb_fr_r _ _⟩ (fyR_0 e1)
theorem mX12_putE (l : Launch) : am_M l TB NB vwCl SH KF yX12_put cX12_put 3 none 2 0 0 sX12_putE := by
  refine am_M.of xX12_putE (by decide +kernel) TB_good GF rfl rfl rfl (by decide) ⟨FT_X12_ok, PT_X12_ok _, CT_X12_ok, KT_X12_ok, LT_X12_ok, NT_X12_ok, ?_⟩ ptX12_putE
  exact fun _ h => absurd h List.not_mem_nil

/-- five numbers' bytes -/
def fdB (a b c d e : Int32) (i : Nat) : Int32 := fby ([a, b, c, d, e].getD (i / 4) 0) (i % 4)
theorem fdB_s {a b c d e w : Int32} {j : Nat} (hw : [a, b, c, d, e].getD j 0 = w) : ∀ i, i < 4 → fby w i = fdB a b c d e (4 * j + i) := fun i hi => by
  unfold fdB
  rw [show (4 * j + i) / 4 = j by omega, show (4 * j + i) % 4 = i by omega, hw]
def sX11_feedE : am_Sp := fun as n σ post => n = 92 ∧ sb_ok BB SH σ ∧ ∃ (T : Int) (a b c d e : Int32), (0 ≤ T ∧ T ≤ 2000) ∧ σ.1 0 1 = Int32.ofInt T ∧ as = [.ref 0, .int a, .int b, .int c, .int d, .int e] ∧ (1980 < T → post (some (.int (Int32.ofInt (-1)))) σ) ∧ (T ≤ 1980 → ∀ τ, sI BB SH fcM σ τ → fyR 0 1 1 T (fdB a b c d e) 20 σ τ → post (some (.int (Int32.ofInt (T + 20)))) τ)
def xX11_feedE : am_X := (SH, KF, (some .int), FT_X11, PT_X11, CT_X11, KT_X11, LT_X11, NT_X11, [(97, 0, 2, 11, 0, 0, sX11_putFourE)])
theorem xX11_feedE_SH : am_SH xX11_feedE = SH := rfl
theorem xX11_feedE_KF : am_KF xX11_feedE = KF := rfl
theorem xX11_feedE_rt : am_rt xX11_feedE = (some .int) := rfl
theorem xX11_feedE_FT : am_FT xX11_feedE = FT_X11 := rfl
theorem xX11_feedE_PT : am_PT xX11_feedE = PT_X11 := rfl
theorem xX11_feedE_CT : am_CT xX11_feedE = CT_X11 := rfl
theorem xX11_feedE_KT : am_KT xX11_feedE = KT_X11 := rfl
theorem xX11_feedE_LT : am_LT xX11_feedE = LT_X11 := rfl
theorem xX11_feedE_NT : am_NT xX11_feedE = NT_X11 := rfl
theorem xX11_feedE_c97 : am_find (am_ML xX11_feedE) 97 = some (0, 2, 11, 0, 0, sX11_putFourE) := rfl
theorem xX11_feedE_n97 : am_find NT_X11 97 = none := rfl
theorem xX11_feedE_t7 (k : Nat → Prop) : am_tg 7 (5) k = k 12 := am_tg_eq (by decide)

set_option maxRecDepth 100000 in
theorem ptX11_feedE : am_B cX11_feed xX11_feedE 6 0 sX11_feedE := by
  intro n0 as σ post AA hA h
  obtain ⟨rfl, hB, T, a, b, c, d, e, hT, e1, rfl, hn, h⟩ := h
  refine ⟨by simp [am_sl, Value.category], ?_⟩
  show AA 0 [some (.ref 0), some (.int a), some (.int b), some (.int c), some (.int d), some (.int e)] [] 92 σ
  have at10 : 1980 < T → AA 10 [some (.ref 0), none, none, none, none, none] [] 92 σ := fun q => by
    have hn := hn q
    refine hA [] 3 _ _ _ _ _ ?_
    try simp only [dX11_feed_0, dX11_feed_1, FT_X11_13, dX11_feed_4, dX11_feed_7, xX11_feedE_t7, dX11_feed_10, dX11_feed_11, dX11_feed_12, dX11_feed_13, dX11_feed_14, xX11_feedE_c97, xX11_feedE_n97, dX11_feed_17, dX11_feed_18, dX11_feed_19, dX11_feed_22, dX11_feed_23, dX11_feed_24, dX11_feed_27, dX11_feed_28, dX11_feed_30, dX11_feed_33, dX11_feed_34, dX11_feed_36, dX11_feed_39, dX11_feed_40, dX11_feed_43, xX11_feedE_SH, xX11_feedE_KF, xX11_feedE_rt, xX11_feedE_FT, xX11_feedE_PT, xX11_feedE_CT, xX11_feedE_KT, xX11_feedE_LT, xX11_feedE_NT, o_aload_n, o_getfield, o_iconst, o_if_icmp_le, o_iload, o_iload_n, o_invokevirtual, o_ireturn, o_sipush, SH_0, KF_0_1, am_ty, am_vc, am_opt, am_cl, am_find, am_ldi, am_ldl, am_lda, am_v, am_1, am_1l, am_1a, am_2, am_2l, am_ix, am_ri, am_arr, am_pf, am_rc, am_mask, am_lg, am_av, am_nat, fv_0, fv_1, fv_2, fv_3, fw_0, fw_1, List.getElem?_cons_zero, List.getElem?_cons_succ, List.set_cons_zero, List.set_cons_succ, List.length_cons, List.length_nil, List.take_succ_cons, List.take_zero, List.drop_succ_cons, List.drop_zero, List.reverse_cons, List.reverse_nil, List.nil_append, List.cons_append, List.append_nil, List.map_cons, List.map_nil, List.sum_cons, List.sum_nil, Value.category, Option.toList_some, Option.toList_none, Nat.reduceAdd, Nat.reduceLT, Nat.reduceLeDiff, Nat.reduceEqDiff, Nat.reduceSub, Nat.add_zero, Nat.le_refl, Nat.zero_le, Int.reduceNeg, Int.reduceLE, Int.reduceLT, true_and, and_true, and_self, if_true, if_false, ite_true, ite_false, eq_self_iff_true, reduceIte, reduceCtorEq, not_false_eq_true, not_true_eq_false, or_true, true_or, or_false, false_or, Nat.lt_irrefl, Nat.zero_lt_succ]
    exact hn
  have at12 : T ≤ 1980 → AA 12 [some (.ref 0), some (.int a), some (.int b), some (.int c), some (.int d), some (.int e)] [] 92 σ := fun q => by
    have h := h q
    refine hA [] 20 _ _ _ _ _ ?_
    try simp only [dX11_feed_0, dX11_feed_1, FT_X11_13, dX11_feed_4, dX11_feed_7, xX11_feedE_t7, dX11_feed_10, dX11_feed_11, dX11_feed_12, dX11_feed_13, dX11_feed_14, xX11_feedE_c97, xX11_feedE_n97, dX11_feed_17, dX11_feed_18, dX11_feed_19, dX11_feed_22, dX11_feed_23, dX11_feed_24, dX11_feed_27, dX11_feed_28, dX11_feed_30, dX11_feed_33, dX11_feed_34, dX11_feed_36, dX11_feed_39, dX11_feed_40, dX11_feed_43, xX11_feedE_SH, xX11_feedE_KF, xX11_feedE_rt, xX11_feedE_FT, xX11_feedE_PT, xX11_feedE_CT, xX11_feedE_KT, xX11_feedE_LT, xX11_feedE_NT, o_aload_n, o_getfield, o_iconst, o_if_icmp_le, o_iload, o_iload_n, o_invokevirtual, o_ireturn, o_sipush, SH_0, KF_0_1, am_ty, am_vc, am_opt, am_cl, am_find, am_ldi, am_ldl, am_lda, am_v, am_1, am_1l, am_1a, am_2, am_2l, am_ix, am_ri, am_arr, am_pf, am_rc, am_mask, am_lg, am_av, am_nat, fv_0, fv_1, fv_2, fv_3, fw_0, fw_1, List.getElem?_cons_zero, List.getElem?_cons_succ, List.set_cons_zero, List.set_cons_succ, List.length_cons, List.length_nil, List.take_succ_cons, List.take_zero, List.drop_succ_cons, List.drop_zero, List.reverse_cons, List.reverse_nil, List.nil_append, List.cons_append, List.append_nil, List.map_cons, List.map_nil, List.sum_cons, List.sum_nil, Value.category, Option.toList_some, Option.toList_none, Nat.reduceAdd, Nat.reduceLT, Nat.reduceLeDiff, Nat.reduceEqDiff, Nat.reduceSub, Nat.add_zero, Nat.le_refl, Nat.zero_le, Int.reduceNeg, Int.reduceLE, Int.reduceLT, true_and, and_true, and_self, if_true, if_false, ite_true, ite_false, eq_self_iff_true, reduceIte, reduceCtorEq, not_false_eq_true, not_true_eq_false, or_true, true_or, or_false, false_or, Nat.lt_irrefl, Nat.zero_lt_succ]
    refine ⟨rfl, hB, T, a, ⟨by omega, by omega⟩, e1, rfl, fun τ1 i1 f1 => ?_⟩
    have g1 := fyR_t (B := fdB a b c d e) (n := 0) hT.1 (by decide) (fyR_0 e1) f1 (by omega) (fun i hi => (fdB_s (a := a) (b := b) (c := c) (d := d) (e := e) (w := a) (j := 0) rfl i hi).trans (by congr 1; try omega))
    try simp only [dX11_feed_0, dX11_feed_1, FT_X11_13, dX11_feed_4, dX11_feed_7, xX11_feedE_t7, dX11_feed_10, dX11_feed_11, dX11_feed_12, dX11_feed_13, dX11_feed_14, xX11_feedE_c97, xX11_feedE_n97, dX11_feed_17, dX11_feed_18, dX11_feed_19, dX11_feed_22, dX11_feed_23, dX11_feed_24, dX11_feed_27, dX11_feed_28, dX11_feed_30, dX11_feed_33, dX11_feed_34, dX11_feed_36, dX11_feed_39, dX11_feed_40, dX11_feed_43, xX11_feedE_SH, xX11_feedE_KF, xX11_feedE_rt, xX11_feedE_FT, xX11_feedE_PT, xX11_feedE_CT, xX11_feedE_KT, xX11_feedE_LT, xX11_feedE_NT, o_aload_n, o_getfield, o_iconst, o_if_icmp_le, o_iload, o_iload_n, o_invokevirtual, o_ireturn, o_sipush, SH_0, KF_0_1, am_ty, am_vc, am_opt, am_cl, am_find, am_ldi, am_ldl, am_lda, am_v, am_1, am_1l, am_1a, am_2, am_2l, am_ix, am_ri, am_arr, am_pf, am_rc, am_mask, am_lg, am_av, am_nat, fv_0, fv_1, fv_2, fv_3, fw_0, fw_1, List.getElem?_cons_zero, List.getElem?_cons_succ, List.set_cons_zero, List.set_cons_succ, List.length_cons, List.length_nil, List.take_succ_cons, List.take_zero, List.drop_succ_cons, List.drop_zero, List.reverse_cons, List.reverse_nil, List.nil_append, List.cons_append, List.append_nil, List.map_cons, List.map_nil, List.sum_cons, List.sum_nil, Value.category, Option.toList_some, Option.toList_none, Nat.reduceAdd, Nat.reduceLT, Nat.reduceLeDiff, Nat.reduceEqDiff, Nat.reduceSub, Nat.add_zero, Nat.le_refl, Nat.zero_le, Int.reduceNeg, Int.reduceLE, Int.reduceLT, true_and, and_true, and_self, if_true, if_false, ite_true, ite_false, eq_self_iff_true, reduceIte, reduceCtorEq, not_false_eq_true, not_true_eq_false, or_true, true_or, or_false, false_or, Nat.lt_irrefl, Nat.zero_lt_succ]
    refine ⟨rfl, i1.1, T + 4, b, ⟨by omega, by omega⟩, f1.2.1, rfl, fun τ2 i2 f2 => ?_⟩
    have g2 := fyR_t hT.1 (by decide) g1 f2 (by omega) (fun i hi => (fdB_s (a := a) (b := b) (c := c) (d := d) (e := e) (w := b) (j := 1) rfl i hi).trans (by congr 1; try omega))
    try simp only [dX11_feed_0, dX11_feed_1, FT_X11_13, dX11_feed_4, dX11_feed_7, xX11_feedE_t7, dX11_feed_10, dX11_feed_11, dX11_feed_12, dX11_feed_13, dX11_feed_14, xX11_feedE_c97, xX11_feedE_n97, dX11_feed_17, dX11_feed_18, dX11_feed_19, dX11_feed_22, dX11_feed_23, dX11_feed_24, dX11_feed_27, dX11_feed_28, dX11_feed_30, dX11_feed_33, dX11_feed_34, dX11_feed_36, dX11_feed_39, dX11_feed_40, dX11_feed_43, xX11_feedE_SH, xX11_feedE_KF, xX11_feedE_rt, xX11_feedE_FT, xX11_feedE_PT, xX11_feedE_CT, xX11_feedE_KT, xX11_feedE_LT, xX11_feedE_NT, o_aload_n, o_getfield, o_iconst, o_if_icmp_le, o_iload, o_iload_n, o_invokevirtual, o_ireturn, o_sipush, SH_0, KF_0_1, am_ty, am_vc, am_opt, am_cl, am_find, am_ldi, am_ldl, am_lda, am_v, am_1, am_1l, am_1a, am_2, am_2l, am_ix, am_ri, am_arr, am_pf, am_rc, am_mask, am_lg, am_av, am_nat, fv_0, fv_1, fv_2, fv_3, fw_0, fw_1, List.getElem?_cons_zero, List.getElem?_cons_succ, List.set_cons_zero, List.set_cons_succ, List.length_cons, List.length_nil, List.take_succ_cons, List.take_zero, List.drop_succ_cons, List.drop_zero, List.reverse_cons, List.reverse_nil, List.nil_append, List.cons_append, List.append_nil, List.map_cons, List.map_nil, List.sum_cons, List.sum_nil, Value.category, Option.toList_some, Option.toList_none, Nat.reduceAdd, Nat.reduceLT, Nat.reduceLeDiff, Nat.reduceEqDiff, Nat.reduceSub, Nat.add_zero, Nat.le_refl, Nat.zero_le, Int.reduceNeg, Int.reduceLE, Int.reduceLT, true_and, and_true, and_self, if_true, if_false, ite_true, ite_false, eq_self_iff_true, reduceIte, reduceCtorEq, not_false_eq_true, not_true_eq_false, or_true, true_or, or_false, false_or, Nat.lt_irrefl, Nat.zero_lt_succ]
    refine ⟨rfl, i2.1, T + 4 + 4, c, ⟨by omega, by omega⟩, f2.2.1, rfl, fun τ3 i3 f3 => ?_⟩
    have g3 := fyR_t hT.1 (by decide) g2 f3 (by omega) (fun i hi => (fdB_s (a := a) (b := b) (c := c) (d := d) (e := e) (w := c) (j := 2) rfl i hi).trans (by congr 1; try omega))
    try simp only [dX11_feed_0, dX11_feed_1, FT_X11_13, dX11_feed_4, dX11_feed_7, xX11_feedE_t7, dX11_feed_10, dX11_feed_11, dX11_feed_12, dX11_feed_13, dX11_feed_14, xX11_feedE_c97, xX11_feedE_n97, dX11_feed_17, dX11_feed_18, dX11_feed_19, dX11_feed_22, dX11_feed_23, dX11_feed_24, dX11_feed_27, dX11_feed_28, dX11_feed_30, dX11_feed_33, dX11_feed_34, dX11_feed_36, dX11_feed_39, dX11_feed_40, dX11_feed_43, xX11_feedE_SH, xX11_feedE_KF, xX11_feedE_rt, xX11_feedE_FT, xX11_feedE_PT, xX11_feedE_CT, xX11_feedE_KT, xX11_feedE_LT, xX11_feedE_NT, o_aload_n, o_getfield, o_iconst, o_if_icmp_le, o_iload, o_iload_n, o_invokevirtual, o_ireturn, o_sipush, SH_0, KF_0_1, am_ty, am_vc, am_opt, am_cl, am_find, am_ldi, am_ldl, am_lda, am_v, am_1, am_1l, am_1a, am_2, am_2l, am_ix, am_ri, am_arr, am_pf, am_rc, am_mask, am_lg, am_av, am_nat, fv_0, fv_1, fv_2, fv_3, fw_0, fw_1, List.getElem?_cons_zero, List.getElem?_cons_succ, List.set_cons_zero, List.set_cons_succ, List.length_cons, List.length_nil, List.take_succ_cons, List.take_zero, List.drop_succ_cons, List.drop_zero, List.reverse_cons, List.reverse_nil, List.nil_append, List.cons_append, List.append_nil, List.map_cons, List.map_nil, List.sum_cons, List.sum_nil, Value.category, Option.toList_some, Option.toList_none, Nat.reduceAdd, Nat.reduceLT, Nat.reduceLeDiff, Nat.reduceEqDiff, Nat.reduceSub, Nat.add_zero, Nat.le_refl, Nat.zero_le, Int.reduceNeg, Int.reduceLE, Int.reduceLT, true_and, and_true, and_self, if_true, if_false, ite_true, ite_false, eq_self_iff_true, reduceIte, reduceCtorEq, not_false_eq_true, not_true_eq_false, or_true, true_or, or_false, false_or, Nat.lt_irrefl, Nat.zero_lt_succ]
    refine ⟨rfl, i3.1, T + 4 + 4 + 4, d, ⟨by omega, by omega⟩, f3.2.1, rfl, fun τ4 i4 f4 => ?_⟩
    have g4 := fyR_t hT.1 (by decide) g3 f4 (by omega) (fun i hi => (fdB_s (a := a) (b := b) (c := c) (d := d) (e := e) (w := d) (j := 3) rfl i hi).trans (by congr 1; try omega))
    try simp only [dX11_feed_0, dX11_feed_1, FT_X11_13, dX11_feed_4, dX11_feed_7, xX11_feedE_t7, dX11_feed_10, dX11_feed_11, dX11_feed_12, dX11_feed_13, dX11_feed_14, xX11_feedE_c97, xX11_feedE_n97, dX11_feed_17, dX11_feed_18, dX11_feed_19, dX11_feed_22, dX11_feed_23, dX11_feed_24, dX11_feed_27, dX11_feed_28, dX11_feed_30, dX11_feed_33, dX11_feed_34, dX11_feed_36, dX11_feed_39, dX11_feed_40, dX11_feed_43, xX11_feedE_SH, xX11_feedE_KF, xX11_feedE_rt, xX11_feedE_FT, xX11_feedE_PT, xX11_feedE_CT, xX11_feedE_KT, xX11_feedE_LT, xX11_feedE_NT, o_aload_n, o_getfield, o_iconst, o_if_icmp_le, o_iload, o_iload_n, o_invokevirtual, o_ireturn, o_sipush, SH_0, KF_0_1, am_ty, am_vc, am_opt, am_cl, am_find, am_ldi, am_ldl, am_lda, am_v, am_1, am_1l, am_1a, am_2, am_2l, am_ix, am_ri, am_arr, am_pf, am_rc, am_mask, am_lg, am_av, am_nat, fv_0, fv_1, fv_2, fv_3, fw_0, fw_1, List.getElem?_cons_zero, List.getElem?_cons_succ, List.set_cons_zero, List.set_cons_succ, List.length_cons, List.length_nil, List.take_succ_cons, List.take_zero, List.drop_succ_cons, List.drop_zero, List.reverse_cons, List.reverse_nil, List.nil_append, List.cons_append, List.append_nil, List.map_cons, List.map_nil, List.sum_cons, List.sum_nil, Value.category, Option.toList_some, Option.toList_none, Nat.reduceAdd, Nat.reduceLT, Nat.reduceLeDiff, Nat.reduceEqDiff, Nat.reduceSub, Nat.add_zero, Nat.le_refl, Nat.zero_le, Int.reduceNeg, Int.reduceLE, Int.reduceLT, true_and, and_true, and_self, if_true, if_false, ite_true, ite_false, eq_self_iff_true, reduceIte, reduceCtorEq, not_false_eq_true, not_true_eq_false, or_true, true_or, or_false, false_or, Nat.lt_irrefl, Nat.zero_lt_succ]
    refine ⟨rfl, i4.1, T + 4 + 4 + 4 + 4, e, ⟨by omega, by omega⟩, f4.2.1, rfl, fun τ5 i5 f5 => ?_⟩
    have g5 := fyR_t hT.1 (by decide) g4 f5 (by omega) (fun i hi => (fdB_s (a := a) (b := b) (c := c) (d := d) (e := e) (w := e) (j := 4) rfl i hi).trans (by congr 1; try omega))
    have e5 : τ5.1 0 1 = Int32.ofInt (T + 20) := by rw [g5.2.1]; congr 1
    have hP := h τ5 (sI_t (sI_t (sI_t (sI_t i1 i2) i3) i4) i5) g5
    try simp only [dX11_feed_0, dX11_feed_1, FT_X11_13, dX11_feed_4, dX11_feed_7, xX11_feedE_t7, dX11_feed_10, dX11_feed_11, dX11_feed_12, dX11_feed_13, dX11_feed_14, xX11_feedE_c97, xX11_feedE_n97, dX11_feed_17, dX11_feed_18, dX11_feed_19, dX11_feed_22, dX11_feed_23, dX11_feed_24, dX11_feed_27, dX11_feed_28, dX11_feed_30, dX11_feed_33, dX11_feed_34, dX11_feed_36, dX11_feed_39, dX11_feed_40, dX11_feed_43, xX11_feedE_SH, xX11_feedE_KF, xX11_feedE_rt, xX11_feedE_FT, xX11_feedE_PT, xX11_feedE_CT, xX11_feedE_KT, xX11_feedE_LT, xX11_feedE_NT, o_aload_n, o_getfield, o_iconst, o_if_icmp_le, o_iload, o_iload_n, o_invokevirtual, o_ireturn, o_sipush, SH_0, KF_0_1, am_ty, am_vc, am_opt, am_cl, am_find, am_ldi, am_ldl, am_lda, am_v, am_1, am_1l, am_1a, am_2, am_2l, am_ix, am_ri, am_arr, am_pf, am_rc, am_mask, am_lg, am_av, am_nat, fv_0, fv_1, fv_2, fv_3, fw_0, fw_1, List.getElem?_cons_zero, List.getElem?_cons_succ, List.set_cons_zero, List.set_cons_succ, List.length_cons, List.length_nil, List.take_succ_cons, List.take_zero, List.drop_succ_cons, List.drop_zero, List.reverse_cons, List.reverse_nil, List.nil_append, List.cons_append, List.append_nil, List.map_cons, List.map_nil, List.sum_cons, List.sum_nil, Value.category, Option.toList_some, Option.toList_none, Nat.reduceAdd, Nat.reduceLT, Nat.reduceLeDiff, Nat.reduceEqDiff, Nat.reduceSub, Nat.add_zero, Nat.le_refl, Nat.zero_le, Int.reduceNeg, Int.reduceLE, Int.reduceLT, true_and, and_true, and_self, if_true, if_false, ite_true, ite_false, eq_self_iff_true, reduceIte, reduceCtorEq, not_false_eq_true, not_true_eq_false, or_true, true_or, or_false, false_or, Nat.lt_irrefl, Nat.zero_lt_succ, e5]
    exact hP
  refine hA [(10, 1), (12, 6)] 5 _ _ _ _ _ ?_
  try simp only [dX11_feed_0, dX11_feed_1, FT_X11_13, dX11_feed_4, dX11_feed_7, xX11_feedE_t7, dX11_feed_10, dX11_feed_11, dX11_feed_12, dX11_feed_13, dX11_feed_14, xX11_feedE_c97, xX11_feedE_n97, dX11_feed_17, dX11_feed_18, dX11_feed_19, dX11_feed_22, dX11_feed_23, dX11_feed_24, dX11_feed_27, dX11_feed_28, dX11_feed_30, dX11_feed_33, dX11_feed_34, dX11_feed_36, dX11_feed_39, dX11_feed_40, dX11_feed_43, xX11_feedE_SH, xX11_feedE_KF, xX11_feedE_rt, xX11_feedE_FT, xX11_feedE_PT, xX11_feedE_CT, xX11_feedE_KT, xX11_feedE_LT, xX11_feedE_NT, o_aload_n, o_getfield, o_iconst, o_if_icmp_le, o_iload, o_iload_n, o_invokevirtual, o_ireturn, o_sipush, SH_0, KF_0_1, am_ty, am_vc, am_opt, am_cl, am_find, am_ldi, am_ldl, am_lda, am_v, am_1, am_1l, am_1a, am_2, am_2l, am_ix, am_ri, am_arr, am_pf, am_rc, am_mask, am_lg, am_av, am_nat, fv_0, fv_1, fv_2, fv_3, fw_0, fw_1, List.getElem?_cons_zero, List.getElem?_cons_succ, List.set_cons_zero, List.set_cons_succ, List.length_cons, List.length_nil, List.take_succ_cons, List.take_zero, List.drop_succ_cons, List.drop_zero, List.reverse_cons, List.reverse_nil, List.nil_append, List.cons_append, List.append_nil, List.map_cons, List.map_nil, List.sum_cons, List.sum_nil, Value.category, Option.toList_some, Option.toList_none, Nat.reduceAdd, Nat.reduceLT, Nat.reduceLeDiff, Nat.reduceEqDiff, Nat.reduceSub, Nat.add_zero, Nat.le_refl, Nat.zero_le, Int.reduceNeg, Int.reduceLE, Int.reduceLT, true_and, and_true, and_self, if_true, if_false, ite_true, ite_false, eq_self_iff_true, reduceIte, reduceCtorEq, not_false_eq_true, not_true_eq_false, or_true, true_or, or_false, false_or, Nat.lt_irrefl, Nat.zero_lt_succ, e1]
  try simp (disch := omega) only [ii_0, ii_1, ii_t, ii_add, ii_sub, ii_mul, ii_lt, ii_le, ii_eq, ij_in, ii_c, Int.toNat_natCast, Int.toNat_zero, Int.reduceToNat, Int.reduceEq, Int.reduceNe, Int.reduceLE, Int.reduceLT, Int.reduceAdd, Int.reduceSub, Int.reduceMul, Int.reduceNeg, Nat.reduceLT, Nat.reduceAdd, Nat.reduceMul, not_false_eq_true, not_true_eq_false, true_and, and_true, and_self, false_and, and_false, true_implies, false_implies, implies_true, forall_const, if_true, if_false, ite_true, ite_false, reduceIte, eq_self_iff_true, Int.natCast_nonneg, Int.zero_add, Int.add_zero, pi_s, pi_n, e1]
  first
  | exact ⟨fun q => at12 (by omega), fun q => at10 (by omega)⟩
  | exact ⟨fun q => at10 (by omega), fun q => at12 (by omega)⟩
theorem mX11_feedE (l : Launch) : am_M l TB NB vwCl SH KF yX11_feed cX11_feed 6 (some .int) 3 0 0 sX11_feedE := by
  refine am_M.of xX11_feedE (by decide +kernel) TB_good GF rfl rfl rfl (by decide) ⟨FT_X11_ok, PT_X11_ok _, CT_X11_ok, KT_X11_ok, LT_X11_ok, NT_X11_ok, ?_⟩ ptX11_feedE
  exact List.forall_mem_cons.mpr ⟨⟨yX11_putFour, cX11_putFour, 3, none, 2, 1, mX11_putFourE l, by decide, by decide, tk_524, tk_103, ⟨by decide +kernel, by decide +kernel, by decide +kernel⟩, rfl, tk_521, tk_523, ⟨(RX11, TX11, 14), rfl, tb_at 0 (by decide +kernel) (by decide +kernel)⟩⟩, fun _ h => absurd h List.not_mem_nil⟩

def sX12_feedE : am_Sp := fun as n σ post => n = 92 ∧ sb_ok BB SH σ ∧ ∃ (T : Int) (a b c d e : Int32), (0 ≤ T ∧ T ≤ 2000) ∧ σ.1 51 2 = Int32.ofInt T ∧ as = [.ref 51, .int a, .int b, .int c, .int d, .int e] ∧ (1980 < T → post (some (.int (Int32.ofInt (-1)))) σ) ∧ (T ≤ 1980 → ∀ τ, sI BB SH frM σ τ → fyR 51 2 52 T (fdB a b c d e) 20 σ τ → post (some (.int (Int32.ofInt (T + 20)))) τ)
def xX12_feedE : am_X := (SH, KF, (some .int), FT_X12, PT_X12, CT_X12, KT_X12, LT_X12, NT_X12, [(157, 0, 2, 12, 0, 0, sX12_putE)])
theorem xX12_feedE_SH : am_SH xX12_feedE = SH := rfl
theorem xX12_feedE_KF : am_KF xX12_feedE = KF := rfl
theorem xX12_feedE_rt : am_rt xX12_feedE = (some .int) := rfl
theorem xX12_feedE_FT : am_FT xX12_feedE = FT_X12 := rfl
theorem xX12_feedE_PT : am_PT xX12_feedE = PT_X12 := rfl
theorem xX12_feedE_CT : am_CT xX12_feedE = CT_X12 := rfl
theorem xX12_feedE_KT : am_KT xX12_feedE = KT_X12 := rfl
theorem xX12_feedE_LT : am_LT xX12_feedE = LT_X12 := rfl
theorem xX12_feedE_NT : am_NT xX12_feedE = NT_X12 := rfl
theorem xX12_feedE_c157 : am_find (am_ML xX12_feedE) 157 = some (0, 2, 12, 0, 0, sX12_putE) := rfl
theorem xX12_feedE_n157 : am_find NT_X12 157 = none := rfl
theorem xX12_feedE_t10 (k : Nat → Prop) : am_tg 10 (5) k = k 15 := am_tg_eq (by decide)

set_option maxRecDepth 100000 in
theorem ptX12_feedE : am_B cX12_feed xX12_feedE 6 0 sX12_feedE := by
  intro n0 as σ post AA hA h
  obtain ⟨rfl, hB, T, a, b, c, d, e, hT, e1, rfl, hn, h⟩ := h
  refine ⟨by simp [am_sl, Value.category], ?_⟩
  show AA 0 [some (.ref 51), some (.int a), some (.int b), some (.int c), some (.int d), some (.int e)] [] 92 σ
  have at1 : 1980 < T → AA 13 [some (.ref 51), none, none, none, none, none] [] 92 σ := fun q => by
    have hn := hn q
    refine hA [] 3 _ _ _ _ _ ?_
    try simp only [dX12_feed_0, dX12_feed_1, FT_X12_154, dX12_feed_4, dX12_feed_6, dX12_feed_7, dX12_feed_10, xX12_feedE_t10, dX12_feed_13, dX12_feed_14, dX12_feed_15, dX12_feed_16, dX12_feed_17, xX12_feedE_c157, xX12_feedE_n157, dX12_feed_20, dX12_feed_21, dX12_feed_22, dX12_feed_25, dX12_feed_26, dX12_feed_27, dX12_feed_30, dX12_feed_31, dX12_feed_33, dX12_feed_36, dX12_feed_37, dX12_feed_39, dX12_feed_42, dX12_feed_43, dX12_feed_46, xX12_feedE_SH, xX12_feedE_KF, xX12_feedE_rt, xX12_feedE_FT, xX12_feedE_PT, xX12_feedE_CT, xX12_feedE_KT, xX12_feedE_LT, xX12_feedE_NT, o_aload_n, o_bipush, o_getfield, o_iadd, o_iconst, o_if_icmp_le, o_iload, o_iload_n, o_invokevirtual, o_ireturn, o_sipush, SH_51, KF_51_2, am_ty, am_vc, am_opt, am_cl, am_find, am_ldi, am_ldl, am_lda, am_v, am_1, am_1l, am_1a, am_2, am_2l, am_ix, am_ri, am_arr, am_pf, am_rc, am_mask, am_lg, am_av, am_nat, fv_0, fv_1, fv_2, fv_3, fw_0, fw_1, List.getElem?_cons_zero, List.getElem?_cons_succ, List.set_cons_zero, List.set_cons_succ, List.length_cons, List.length_nil, List.take_succ_cons, List.take_zero, List.drop_succ_cons, List.drop_zero, List.reverse_cons, List.reverse_nil, List.nil_append, List.cons_append, List.append_nil, List.map_cons, List.map_nil, List.sum_cons, List.sum_nil, Value.category, Option.toList_some, Option.toList_none, Nat.reduceAdd, Nat.reduceLT, Nat.reduceLeDiff, Nat.reduceEqDiff, Nat.reduceSub, Nat.add_zero, Nat.le_refl, Nat.zero_le, Int.reduceNeg, Int.reduceLE, Int.reduceLT, true_and, and_true, and_self, if_true, if_false, ite_true, ite_false, eq_self_iff_true, reduceIte, reduceCtorEq, not_false_eq_true, not_true_eq_false, or_true, true_or, or_false, false_or, Nat.lt_irrefl, Nat.zero_lt_succ]
    exact hn
  have at2 : T ≤ 1980 → AA 15 [some (.ref 51), some (.int a), some (.int b), some (.int c), some (.int d), some (.int e)] [] 92 σ := fun q => by
    have h := h q
    refine hA [] 20 _ _ _ _ _ ?_
    try simp only [dX12_feed_0, dX12_feed_1, FT_X12_154, dX12_feed_4, dX12_feed_6, dX12_feed_7, dX12_feed_10, xX12_feedE_t10, dX12_feed_13, dX12_feed_14, dX12_feed_15, dX12_feed_16, dX12_feed_17, xX12_feedE_c157, xX12_feedE_n157, dX12_feed_20, dX12_feed_21, dX12_feed_22, dX12_feed_25, dX12_feed_26, dX12_feed_27, dX12_feed_30, dX12_feed_31, dX12_feed_33, dX12_feed_36, dX12_feed_37, dX12_feed_39, dX12_feed_42, dX12_feed_43, dX12_feed_46, xX12_feedE_SH, xX12_feedE_KF, xX12_feedE_rt, xX12_feedE_FT, xX12_feedE_PT, xX12_feedE_CT, xX12_feedE_KT, xX12_feedE_LT, xX12_feedE_NT, o_aload_n, o_bipush, o_getfield, o_iadd, o_iconst, o_if_icmp_le, o_iload, o_iload_n, o_invokevirtual, o_ireturn, o_sipush, SH_51, KF_51_2, am_ty, am_vc, am_opt, am_cl, am_find, am_ldi, am_ldl, am_lda, am_v, am_1, am_1l, am_1a, am_2, am_2l, am_ix, am_ri, am_arr, am_pf, am_rc, am_mask, am_lg, am_av, am_nat, fv_0, fv_1, fv_2, fv_3, fw_0, fw_1, List.getElem?_cons_zero, List.getElem?_cons_succ, List.set_cons_zero, List.set_cons_succ, List.length_cons, List.length_nil, List.take_succ_cons, List.take_zero, List.drop_succ_cons, List.drop_zero, List.reverse_cons, List.reverse_nil, List.nil_append, List.cons_append, List.append_nil, List.map_cons, List.map_nil, List.sum_cons, List.sum_nil, Value.category, Option.toList_some, Option.toList_none, Nat.reduceAdd, Nat.reduceLT, Nat.reduceLeDiff, Nat.reduceEqDiff, Nat.reduceSub, Nat.add_zero, Nat.le_refl, Nat.zero_le, Int.reduceNeg, Int.reduceLE, Int.reduceLT, true_and, and_true, and_self, if_true, if_false, ite_true, ite_false, eq_self_iff_true, reduceIte, reduceCtorEq, not_false_eq_true, not_true_eq_false, or_true, true_or, or_false, false_or, Nat.lt_irrefl, Nat.zero_lt_succ]
    refine ⟨rfl, hB, T, a, ⟨by omega, by omega⟩, e1, rfl, fun τ1 i1 f1 => ?_⟩
    have g1 := fyR_t (B := fdB a b c d e) (n := 0) hT.1 (by decide) (fyR_0 e1) f1 (by omega) (fun i hi => (fdB_s (a := a) (b := b) (c := c) (d := d) (e := e) (w := a) (j := 0) rfl i hi).trans (by congr 1; try omega))
    try simp only [dX12_feed_0, dX12_feed_1, FT_X12_154, dX12_feed_4, dX12_feed_6, dX12_feed_7, dX12_feed_10, xX12_feedE_t10, dX12_feed_13, dX12_feed_14, dX12_feed_15, dX12_feed_16, dX12_feed_17, xX12_feedE_c157, xX12_feedE_n157, dX12_feed_20, dX12_feed_21, dX12_feed_22, dX12_feed_25, dX12_feed_26, dX12_feed_27, dX12_feed_30, dX12_feed_31, dX12_feed_33, dX12_feed_36, dX12_feed_37, dX12_feed_39, dX12_feed_42, dX12_feed_43, dX12_feed_46, xX12_feedE_SH, xX12_feedE_KF, xX12_feedE_rt, xX12_feedE_FT, xX12_feedE_PT, xX12_feedE_CT, xX12_feedE_KT, xX12_feedE_LT, xX12_feedE_NT, o_aload_n, o_bipush, o_getfield, o_iadd, o_iconst, o_if_icmp_le, o_iload, o_iload_n, o_invokevirtual, o_ireturn, o_sipush, SH_51, KF_51_2, am_ty, am_vc, am_opt, am_cl, am_find, am_ldi, am_ldl, am_lda, am_v, am_1, am_1l, am_1a, am_2, am_2l, am_ix, am_ri, am_arr, am_pf, am_rc, am_mask, am_lg, am_av, am_nat, fv_0, fv_1, fv_2, fv_3, fw_0, fw_1, List.getElem?_cons_zero, List.getElem?_cons_succ, List.set_cons_zero, List.set_cons_succ, List.length_cons, List.length_nil, List.take_succ_cons, List.take_zero, List.drop_succ_cons, List.drop_zero, List.reverse_cons, List.reverse_nil, List.nil_append, List.cons_append, List.append_nil, List.map_cons, List.map_nil, List.sum_cons, List.sum_nil, Value.category, Option.toList_some, Option.toList_none, Nat.reduceAdd, Nat.reduceLT, Nat.reduceLeDiff, Nat.reduceEqDiff, Nat.reduceSub, Nat.add_zero, Nat.le_refl, Nat.zero_le, Int.reduceNeg, Int.reduceLE, Int.reduceLT, true_and, and_true, and_self, if_true, if_false, ite_true, ite_false, eq_self_iff_true, reduceIte, reduceCtorEq, not_false_eq_true, not_true_eq_false, or_true, true_or, or_false, false_or, Nat.lt_irrefl, Nat.zero_lt_succ]
    refine ⟨rfl, i1.1, T + 4, b, ⟨by omega, by omega⟩, f1.2.1, rfl, fun τ2 i2 f2 => ?_⟩
    have g2 := fyR_t hT.1 (by decide) g1 f2 (by omega) (fun i hi => (fdB_s (a := a) (b := b) (c := c) (d := d) (e := e) (w := b) (j := 1) rfl i hi).trans (by congr 1; try omega))
    try simp only [dX12_feed_0, dX12_feed_1, FT_X12_154, dX12_feed_4, dX12_feed_6, dX12_feed_7, dX12_feed_10, xX12_feedE_t10, dX12_feed_13, dX12_feed_14, dX12_feed_15, dX12_feed_16, dX12_feed_17, xX12_feedE_c157, xX12_feedE_n157, dX12_feed_20, dX12_feed_21, dX12_feed_22, dX12_feed_25, dX12_feed_26, dX12_feed_27, dX12_feed_30, dX12_feed_31, dX12_feed_33, dX12_feed_36, dX12_feed_37, dX12_feed_39, dX12_feed_42, dX12_feed_43, dX12_feed_46, xX12_feedE_SH, xX12_feedE_KF, xX12_feedE_rt, xX12_feedE_FT, xX12_feedE_PT, xX12_feedE_CT, xX12_feedE_KT, xX12_feedE_LT, xX12_feedE_NT, o_aload_n, o_bipush, o_getfield, o_iadd, o_iconst, o_if_icmp_le, o_iload, o_iload_n, o_invokevirtual, o_ireturn, o_sipush, SH_51, KF_51_2, am_ty, am_vc, am_opt, am_cl, am_find, am_ldi, am_ldl, am_lda, am_v, am_1, am_1l, am_1a, am_2, am_2l, am_ix, am_ri, am_arr, am_pf, am_rc, am_mask, am_lg, am_av, am_nat, fv_0, fv_1, fv_2, fv_3, fw_0, fw_1, List.getElem?_cons_zero, List.getElem?_cons_succ, List.set_cons_zero, List.set_cons_succ, List.length_cons, List.length_nil, List.take_succ_cons, List.take_zero, List.drop_succ_cons, List.drop_zero, List.reverse_cons, List.reverse_nil, List.nil_append, List.cons_append, List.append_nil, List.map_cons, List.map_nil, List.sum_cons, List.sum_nil, Value.category, Option.toList_some, Option.toList_none, Nat.reduceAdd, Nat.reduceLT, Nat.reduceLeDiff, Nat.reduceEqDiff, Nat.reduceSub, Nat.add_zero, Nat.le_refl, Nat.zero_le, Int.reduceNeg, Int.reduceLE, Int.reduceLT, true_and, and_true, and_self, if_true, if_false, ite_true, ite_false, eq_self_iff_true, reduceIte, reduceCtorEq, not_false_eq_true, not_true_eq_false, or_true, true_or, or_false, false_or, Nat.lt_irrefl, Nat.zero_lt_succ]
    refine ⟨rfl, i2.1, T + 4 + 4, c, ⟨by omega, by omega⟩, f2.2.1, rfl, fun τ3 i3 f3 => ?_⟩
    have g3 := fyR_t hT.1 (by decide) g2 f3 (by omega) (fun i hi => (fdB_s (a := a) (b := b) (c := c) (d := d) (e := e) (w := c) (j := 2) rfl i hi).trans (by congr 1; try omega))
    try simp only [dX12_feed_0, dX12_feed_1, FT_X12_154, dX12_feed_4, dX12_feed_6, dX12_feed_7, dX12_feed_10, xX12_feedE_t10, dX12_feed_13, dX12_feed_14, dX12_feed_15, dX12_feed_16, dX12_feed_17, xX12_feedE_c157, xX12_feedE_n157, dX12_feed_20, dX12_feed_21, dX12_feed_22, dX12_feed_25, dX12_feed_26, dX12_feed_27, dX12_feed_30, dX12_feed_31, dX12_feed_33, dX12_feed_36, dX12_feed_37, dX12_feed_39, dX12_feed_42, dX12_feed_43, dX12_feed_46, xX12_feedE_SH, xX12_feedE_KF, xX12_feedE_rt, xX12_feedE_FT, xX12_feedE_PT, xX12_feedE_CT, xX12_feedE_KT, xX12_feedE_LT, xX12_feedE_NT, o_aload_n, o_bipush, o_getfield, o_iadd, o_iconst, o_if_icmp_le, o_iload, o_iload_n, o_invokevirtual, o_ireturn, o_sipush, SH_51, KF_51_2, am_ty, am_vc, am_opt, am_cl, am_find, am_ldi, am_ldl, am_lda, am_v, am_1, am_1l, am_1a, am_2, am_2l, am_ix, am_ri, am_arr, am_pf, am_rc, am_mask, am_lg, am_av, am_nat, fv_0, fv_1, fv_2, fv_3, fw_0, fw_1, List.getElem?_cons_zero, List.getElem?_cons_succ, List.set_cons_zero, List.set_cons_succ, List.length_cons, List.length_nil, List.take_succ_cons, List.take_zero, List.drop_succ_cons, List.drop_zero, List.reverse_cons, List.reverse_nil, List.nil_append, List.cons_append, List.append_nil, List.map_cons, List.map_nil, List.sum_cons, List.sum_nil, Value.category, Option.toList_some, Option.toList_none, Nat.reduceAdd, Nat.reduceLT, Nat.reduceLeDiff, Nat.reduceEqDiff, Nat.reduceSub, Nat.add_zero, Nat.le_refl, Nat.zero_le, Int.reduceNeg, Int.reduceLE, Int.reduceLT, true_and, and_true, and_self, if_true, if_false, ite_true, ite_false, eq_self_iff_true, reduceIte, reduceCtorEq, not_false_eq_true, not_true_eq_false, or_true, true_or, or_false, false_or, Nat.lt_irrefl, Nat.zero_lt_succ]
    refine ⟨rfl, i3.1, T + 4 + 4 + 4, d, ⟨by omega, by omega⟩, f3.2.1, rfl, fun τ4 i4 f4 => ?_⟩
    have g4 := fyR_t hT.1 (by decide) g3 f4 (by omega) (fun i hi => (fdB_s (a := a) (b := b) (c := c) (d := d) (e := e) (w := d) (j := 3) rfl i hi).trans (by congr 1; try omega))
    try simp only [dX12_feed_0, dX12_feed_1, FT_X12_154, dX12_feed_4, dX12_feed_6, dX12_feed_7, dX12_feed_10, xX12_feedE_t10, dX12_feed_13, dX12_feed_14, dX12_feed_15, dX12_feed_16, dX12_feed_17, xX12_feedE_c157, xX12_feedE_n157, dX12_feed_20, dX12_feed_21, dX12_feed_22, dX12_feed_25, dX12_feed_26, dX12_feed_27, dX12_feed_30, dX12_feed_31, dX12_feed_33, dX12_feed_36, dX12_feed_37, dX12_feed_39, dX12_feed_42, dX12_feed_43, dX12_feed_46, xX12_feedE_SH, xX12_feedE_KF, xX12_feedE_rt, xX12_feedE_FT, xX12_feedE_PT, xX12_feedE_CT, xX12_feedE_KT, xX12_feedE_LT, xX12_feedE_NT, o_aload_n, o_bipush, o_getfield, o_iadd, o_iconst, o_if_icmp_le, o_iload, o_iload_n, o_invokevirtual, o_ireturn, o_sipush, SH_51, KF_51_2, am_ty, am_vc, am_opt, am_cl, am_find, am_ldi, am_ldl, am_lda, am_v, am_1, am_1l, am_1a, am_2, am_2l, am_ix, am_ri, am_arr, am_pf, am_rc, am_mask, am_lg, am_av, am_nat, fv_0, fv_1, fv_2, fv_3, fw_0, fw_1, List.getElem?_cons_zero, List.getElem?_cons_succ, List.set_cons_zero, List.set_cons_succ, List.length_cons, List.length_nil, List.take_succ_cons, List.take_zero, List.drop_succ_cons, List.drop_zero, List.reverse_cons, List.reverse_nil, List.nil_append, List.cons_append, List.append_nil, List.map_cons, List.map_nil, List.sum_cons, List.sum_nil, Value.category, Option.toList_some, Option.toList_none, Nat.reduceAdd, Nat.reduceLT, Nat.reduceLeDiff, Nat.reduceEqDiff, Nat.reduceSub, Nat.add_zero, Nat.le_refl, Nat.zero_le, Int.reduceNeg, Int.reduceLE, Int.reduceLT, true_and, and_true, and_self, if_true, if_false, ite_true, ite_false, eq_self_iff_true, reduceIte, reduceCtorEq, not_false_eq_true, not_true_eq_false, or_true, true_or, or_false, false_or, Nat.lt_irrefl, Nat.zero_lt_succ]
    refine ⟨rfl, i4.1, T + 4 + 4 + 4 + 4, e, ⟨by omega, by omega⟩, f4.2.1, rfl, fun τ5 i5 f5 => ?_⟩
    have g5 := fyR_t hT.1 (by decide) g4 f5 (by omega) (fun i hi => (fdB_s (a := a) (b := b) (c := c) (d := d) (e := e) (w := e) (j := 4) rfl i hi).trans (by congr 1; try omega))
    have e5 : τ5.1 51 2 = Int32.ofInt (T + 20) := by rw [g5.2.1]; congr 1
    have hP := h τ5 (sI_t (sI_t (sI_t (sI_t i1 i2) i3) i4) i5) g5
    try simp only [dX12_feed_0, dX12_feed_1, FT_X12_154, dX12_feed_4, dX12_feed_6, dX12_feed_7, dX12_feed_10, xX12_feedE_t10, dX12_feed_13, dX12_feed_14, dX12_feed_15, dX12_feed_16, dX12_feed_17, xX12_feedE_c157, xX12_feedE_n157, dX12_feed_20, dX12_feed_21, dX12_feed_22, dX12_feed_25, dX12_feed_26, dX12_feed_27, dX12_feed_30, dX12_feed_31, dX12_feed_33, dX12_feed_36, dX12_feed_37, dX12_feed_39, dX12_feed_42, dX12_feed_43, dX12_feed_46, xX12_feedE_SH, xX12_feedE_KF, xX12_feedE_rt, xX12_feedE_FT, xX12_feedE_PT, xX12_feedE_CT, xX12_feedE_KT, xX12_feedE_LT, xX12_feedE_NT, o_aload_n, o_bipush, o_getfield, o_iadd, o_iconst, o_if_icmp_le, o_iload, o_iload_n, o_invokevirtual, o_ireturn, o_sipush, SH_51, KF_51_2, am_ty, am_vc, am_opt, am_cl, am_find, am_ldi, am_ldl, am_lda, am_v, am_1, am_1l, am_1a, am_2, am_2l, am_ix, am_ri, am_arr, am_pf, am_rc, am_mask, am_lg, am_av, am_nat, fv_0, fv_1, fv_2, fv_3, fw_0, fw_1, List.getElem?_cons_zero, List.getElem?_cons_succ, List.set_cons_zero, List.set_cons_succ, List.length_cons, List.length_nil, List.take_succ_cons, List.take_zero, List.drop_succ_cons, List.drop_zero, List.reverse_cons, List.reverse_nil, List.nil_append, List.cons_append, List.append_nil, List.map_cons, List.map_nil, List.sum_cons, List.sum_nil, Value.category, Option.toList_some, Option.toList_none, Nat.reduceAdd, Nat.reduceLT, Nat.reduceLeDiff, Nat.reduceEqDiff, Nat.reduceSub, Nat.add_zero, Nat.le_refl, Nat.zero_le, Int.reduceNeg, Int.reduceLE, Int.reduceLT, true_and, and_true, and_self, if_true, if_false, ite_true, ite_false, eq_self_iff_true, reduceIte, reduceCtorEq, not_false_eq_true, not_true_eq_false, or_true, true_or, or_false, false_or, Nat.lt_irrefl, Nat.zero_lt_succ, e5]
    exact hP
  refine hA [(13, 1), (15, 6)] 7 _ _ _ _ _ ?_
  try simp only [dX12_feed_0, dX12_feed_1, FT_X12_154, dX12_feed_4, dX12_feed_6, dX12_feed_7, dX12_feed_10, xX12_feedE_t10, dX12_feed_13, dX12_feed_14, dX12_feed_15, dX12_feed_16, dX12_feed_17, xX12_feedE_c157, xX12_feedE_n157, dX12_feed_20, dX12_feed_21, dX12_feed_22, dX12_feed_25, dX12_feed_26, dX12_feed_27, dX12_feed_30, dX12_feed_31, dX12_feed_33, dX12_feed_36, dX12_feed_37, dX12_feed_39, dX12_feed_42, dX12_feed_43, dX12_feed_46, xX12_feedE_SH, xX12_feedE_KF, xX12_feedE_rt, xX12_feedE_FT, xX12_feedE_PT, xX12_feedE_CT, xX12_feedE_KT, xX12_feedE_LT, xX12_feedE_NT, o_aload_n, o_bipush, o_getfield, o_iadd, o_iconst, o_if_icmp_le, o_iload, o_iload_n, o_invokevirtual, o_ireturn, o_sipush, SH_51, KF_51_2, am_ty, am_vc, am_opt, am_cl, am_find, am_ldi, am_ldl, am_lda, am_v, am_1, am_1l, am_1a, am_2, am_2l, am_ix, am_ri, am_arr, am_pf, am_rc, am_mask, am_lg, am_av, am_nat, fv_0, fv_1, fv_2, fv_3, fw_0, fw_1, List.getElem?_cons_zero, List.getElem?_cons_succ, List.set_cons_zero, List.set_cons_succ, List.length_cons, List.length_nil, List.take_succ_cons, List.take_zero, List.drop_succ_cons, List.drop_zero, List.reverse_cons, List.reverse_nil, List.nil_append, List.cons_append, List.append_nil, List.map_cons, List.map_nil, List.sum_cons, List.sum_nil, Value.category, Option.toList_some, Option.toList_none, Nat.reduceAdd, Nat.reduceLT, Nat.reduceLeDiff, Nat.reduceEqDiff, Nat.reduceSub, Nat.add_zero, Nat.le_refl, Nat.zero_le, Int.reduceNeg, Int.reduceLE, Int.reduceLT, true_and, and_true, and_self, if_true, if_false, ite_true, ite_false, eq_self_iff_true, reduceIte, reduceCtorEq, not_false_eq_true, not_true_eq_false, or_true, true_or, or_false, false_or, Nat.lt_irrefl, Nat.zero_lt_succ, e1]
  try simp (disch := omega) only [ii_0, ii_1, ii_t, ii_add, ii_sub, ii_mul, ii_lt, ii_le, ii_eq, ij_in, ii_c, Int.toNat_natCast, Int.toNat_zero, Int.reduceToNat, Int.reduceEq, Int.reduceNe, Int.reduceLE, Int.reduceLT, Int.reduceAdd, Int.reduceSub, Int.reduceMul, Int.reduceNeg, Nat.reduceLT, Nat.reduceAdd, Nat.reduceMul, not_false_eq_true, not_true_eq_false, true_and, and_true, and_self, false_and, and_false, true_implies, false_implies, implies_true, forall_const, if_true, if_false, ite_true, ite_false, reduceIte, eq_self_iff_true, Int.natCast_nonneg, Int.zero_add, Int.add_zero, pi_s, pi_n, e1]
  first
  | exact ⟨fun q => at2 (by omega), fun q => at1 (by omega)⟩
  | exact ⟨fun q => at1 (by omega), fun q => at2 (by omega)⟩
theorem mX12_feedE (l : Launch) : am_M l TB NB vwCl SH KF yX12_feed cX12_feed 6 (some .int) 3 0 0 sX12_feedE := by
  refine am_M.of xX12_feedE (by decide +kernel) TB_good GF rfl rfl rfl (by decide) ⟨FT_X12_ok, PT_X12_ok _, CT_X12_ok, KT_X12_ok, LT_X12_ok, NT_X12_ok, ?_⟩ ptX12_feedE
  exact List.forall_mem_cons.mpr ⟨⟨yX12_put, cX12_put, 3, none, 2, 1, mX12_putE l, by decide, by decide, tk_1512, tk_120, ⟨by decide +kernel, by decide +kernel, by decide +kernel⟩, rfl, tk_1509, tk_1511, ⟨(RX12, TX12, 63), rfl, tb_at 40 (by decide +kernel) (by decide +kernel)⟩⟩, fun _ h => absurd h List.not_mem_nil⟩

/-! THE PLACE. Printed from wip/am/chk/hand/pl.in. -/
def sX11_placeE : am_Sp := fun as n σ post => n = 92 ∧ as = [.ref 0] ∧ ∃ x : Int32, x = σ.1 0 2 ∧ post (some (.int x)) σ
def xX11_placeE : am_X := (SH, KF, (some .int), FT_X11, PT_X11, CT_X11, KT_X11, LT_X11, NT_X11, [])
theorem xX11_placeE_SH : am_SH xX11_placeE = SH := rfl
theorem xX11_placeE_KF : am_KF xX11_placeE = KF := rfl
theorem xX11_placeE_rt : am_rt xX11_placeE = (some .int) := rfl
theorem xX11_placeE_FT : am_FT xX11_placeE = FT_X11 := rfl
theorem xX11_placeE_PT : am_PT xX11_placeE = PT_X11 := rfl
theorem xX11_placeE_CT : am_CT xX11_placeE = CT_X11 := rfl
theorem xX11_placeE_KT : am_KT xX11_placeE = KT_X11 := rfl
theorem xX11_placeE_LT : am_LT xX11_placeE = LT_X11 := rfl
theorem xX11_placeE_NT : am_NT xX11_placeE = NT_X11 := rfl

theorem ptX11_placeE : am_B cX11_place xX11_placeE 1 0 sX11_placeE := by
  intro n0 as σ post AA hA h
  obtain ⟨rfl, rfl, x, rfl, h⟩ := h
  refine ⟨by simp [am_sl, Value.category], ?_⟩
  show AA 0 [some (.ref 0)] [] 92 σ
  refine hA [] 4 _ _ _ _ _ ?_
  try simp only [dX11_place_0, dX11_place_1, FT_X11_17, dX11_place_4, xX11_placeE_SH, xX11_placeE_KF, xX11_placeE_rt, xX11_placeE_FT, xX11_placeE_PT, xX11_placeE_CT, xX11_placeE_KT, xX11_placeE_LT, xX11_placeE_NT, o_aload_n, o_getfield, o_ireturn, SH_0, KF_0_2, am_ty, am_vc, am_opt, am_cl, am_find, am_ldi, am_ldl, am_lda, am_v, am_1, am_1l, am_1a, am_2, am_2l, am_ix, am_ri, am_arr, am_pf, am_rc, am_mask, am_lg, am_av, am_nat, fv_0, fv_1, fv_2, fv_3, fw_0, fw_1, List.getElem?_cons_zero, List.getElem?_cons_succ, List.set_cons_zero, List.set_cons_succ, List.length_cons, List.length_nil, List.take_succ_cons, List.take_zero, List.drop_succ_cons, List.drop_zero, List.reverse_cons, List.reverse_nil, List.nil_append, List.cons_append, List.append_nil, List.map_cons, List.map_nil, List.sum_cons, List.sum_nil, Value.category, Option.toList_some, Option.toList_none, Nat.reduceAdd, Nat.reduceLT, Nat.reduceLeDiff, Nat.reduceEqDiff, Nat.reduceSub, Nat.add_zero, Nat.le_refl, Nat.zero_le, Int.reduceNeg, Int.reduceLE, Int.reduceLT, true_and, and_true, and_self, if_true, if_false, ite_true, ite_false, eq_self_iff_true, reduceIte, reduceCtorEq, not_false_eq_true, not_true_eq_false, or_true, true_or, or_false, false_or, Nat.lt_irrefl, Nat.zero_lt_succ]
  exact h
theorem mX11_placeE (l : Launch) : am_M l TB NB vwCl SH KF yX11_place cX11_place 1 (some .int) 2 0 0 sX11_placeE := by
  refine am_M.of xX11_placeE (by decide +kernel) TB_good GF rfl rfl rfl (by decide) ⟨FT_X11_ok, PT_X11_ok _, CT_X11_ok, KT_X11_ok, LT_X11_ok, NT_X11_ok, ?_⟩ ptX11_placeE
  exact fun _ h => absurd h List.not_mem_nil

def sX12_placeE : am_Sp := fun as n σ post => n = 92 ∧ as = [.ref 51] ∧ ∃ x : Int32, x = σ.1 51 17 ∧ post (some (.int x)) σ
def xX12_placeE : am_X := (SH, KF, (some .int), FT_X12, PT_X12, CT_X12, KT_X12, LT_X12, NT_X12, [])
theorem xX12_placeE_SH : am_SH xX12_placeE = SH := rfl
theorem xX12_placeE_KF : am_KF xX12_placeE = KF := rfl
theorem xX12_placeE_rt : am_rt xX12_placeE = (some .int) := rfl
theorem xX12_placeE_FT : am_FT xX12_placeE = FT_X12 := rfl
theorem xX12_placeE_PT : am_PT xX12_placeE = PT_X12 := rfl
theorem xX12_placeE_CT : am_CT xX12_placeE = CT_X12 := rfl
theorem xX12_placeE_KT : am_KT xX12_placeE = KT_X12 := rfl
theorem xX12_placeE_LT : am_LT xX12_placeE = LT_X12 := rfl
theorem xX12_placeE_NT : am_NT xX12_placeE = NT_X12 := rfl

theorem ptX12_placeE : am_B cX12_place xX12_placeE 1 0 sX12_placeE := by
  intro n0 as σ post AA hA h
  obtain ⟨rfl, rfl, x, rfl, h⟩ := h
  refine ⟨by simp [am_sl, Value.category], ?_⟩
  show AA 0 [some (.ref 51)] [] 92 σ
  refine hA [] 4 _ _ _ _ _ ?_
  try simp only [dX12_place_0, dX12_place_1, FT_X12_37, dX12_place_4, xX12_placeE_SH, xX12_placeE_KF, xX12_placeE_rt, xX12_placeE_FT, xX12_placeE_PT, xX12_placeE_CT, xX12_placeE_KT, xX12_placeE_LT, xX12_placeE_NT, o_aload_n, o_getfield, o_ireturn, SH_51, KF_51_17, am_ty, am_vc, am_opt, am_cl, am_find, am_ldi, am_ldl, am_lda, am_v, am_1, am_1l, am_1a, am_2, am_2l, am_ix, am_ri, am_arr, am_pf, am_rc, am_mask, am_lg, am_av, am_nat, fv_0, fv_1, fv_2, fv_3, fw_0, fw_1, List.getElem?_cons_zero, List.getElem?_cons_succ, List.set_cons_zero, List.set_cons_succ, List.length_cons, List.length_nil, List.take_succ_cons, List.take_zero, List.drop_succ_cons, List.drop_zero, List.reverse_cons, List.reverse_nil, List.nil_append, List.cons_append, List.append_nil, List.map_cons, List.map_nil, List.sum_cons, List.sum_nil, Value.category, Option.toList_some, Option.toList_none, Nat.reduceAdd, Nat.reduceLT, Nat.reduceLeDiff, Nat.reduceEqDiff, Nat.reduceSub, Nat.add_zero, Nat.le_refl, Nat.zero_le, Int.reduceNeg, Int.reduceLE, Int.reduceLT, true_and, and_true, and_self, if_true, if_false, ite_true, ite_false, eq_self_iff_true, reduceIte, reduceCtorEq, not_false_eq_true, not_true_eq_false, or_true, true_or, or_false, false_or, Nat.lt_irrefl, Nat.zero_lt_succ]
  exact h
theorem mX12_placeE (l : Launch) : am_M l TB NB vwCl SH KF yX12_place cX12_place 1 (some .int) 2 0 0 sX12_placeE := by
  refine am_M.of xX12_placeE (by decide +kernel) TB_good GF rfl rfl rfl (by decide) ⟨FT_X12_ok, PT_X12_ok _, CT_X12_ok, KT_X12_ok, LT_X12_ok, NT_X12_ok, ?_⟩ ptX12_placeE
  exact fun _ h => absurd h List.not_mem_nil

/-! BITS. Printed from wip/am/chk/hand/j0.in. -/
def bitAt (x : Int32) (i : Nat) : Bool := x.toBitVec.getLsbD i
theorem shU : ∀ i : Fin 32, (UInt32.mod ((Int32.ofInt ((i : Nat) : Int)).toUInt32 &&& Int32.toUInt32 31) 32).toBitVec.toNat = i := by decide
theorem shS : ∀ i : Fin 32, ((Int32.ofInt ((i : Nat) : Int) &&& 31).toBitVec.smod 32).toNat = i := by decide
theorem bt_1 : ∀ j : Nat, (Int32.ofInt 1).toBitVec.getLsbD j = decide (j = 0) := fun j => by
  show (1#32).getLsbD j = _
  rw [BitVec.getLsbD_one]
  simp
theorem bt_if {c : Bool} : ∀ j : Nat, (if c = true then Int32.ofInt 1 else Int32.ofInt 0).toBitVec.getLsbD j = (c && decide (j = 0)) := fun j => by
  cases c
  · show (0#32).getLsbD j = _
    rw [BitVec.getLsbD_zero]
    rfl
  · exact bt_1 j
theorem bt_ext {x y : Int32} (h : ∀ j, j < 32 → bitAt x j = bitAt y j) : x = y := Int32.toBitVec_inj.mp (BitVec.eq_of_getLsbD_eq h)
/-- bit i, shifted down without a sign -/
theorem bt_u (x : Int32) {i : Nat} (hi : i < 32) : (x.toUInt32 >>> ((Int32.ofInt (i : Int)).toUInt32 &&& Int32.toUInt32 31)).toInt32 &&& Int32.ofInt 1 = if bitAt x i = true then Int32.ofInt 1 else Int32.ofInt 0 := by
  apply bt_ext
  intro j hj
  show (BitVec.ushiftRight x.toBitVec (UInt32.mod ((Int32.ofInt (i : Int)).toUInt32 &&& Int32.toUInt32 31) 32).toBitVec.toNat &&& (Int32.ofInt 1).toBitVec).getLsbD j = (if bitAt x i = true then Int32.ofInt 1 else Int32.ofInt 0).toBitVec.getLsbD j
  rw [shU ⟨i, hi⟩, BitVec.getLsbD_and, bt_1, bt_if]
  show ((x.toBitVec >>> i).getLsbD j && _) = _
  rw [BitVec.getLsbD_ushiftRight]
  by_cases q : j = 0
  · subst q
    rfl
  · simp [q]
/-- bit i, shifted down with the sign -/
theorem bt_s (x : Int32) {i : Nat} (hi : i < 32) : (x >>> (Int32.ofInt (i : Int) &&& 31)) &&& Int32.ofInt 1 = if bitAt x i = true then Int32.ofInt 1 else Int32.ofInt 0 := by
  apply bt_ext
  intro j hj
  show (BitVec.sshiftRight x.toBitVec ((Int32.ofInt (i : Int) &&& 31).toBitVec.smod 32).toNat &&& (Int32.ofInt 1).toBitVec).getLsbD j = (if bitAt x i = true then Int32.ofInt 1 else Int32.ofInt 0).toBitVec.getLsbD j
  rw [shS ⟨i, hi⟩, BitVec.getLsbD_and, bt_1, bt_if, BitVec.getLsbD_sshiftRight]
  by_cases q : j = 0
  · subst q
    have : ¬ 32 ≤ 0 := by decide
    rw [if_pos (by omega)]
    unfold bitAt
    simp
  · simp [q]
/-- 1 << i -/
theorem bt_l {i : Nat} (hi : i < 32) (j : Nat) (hj : j < 32) : bitAt (Int32.ofInt 1 <<< (Int32.ofInt (i : Int) &&& 31)) j = decide (j = i) := by
  show (BitVec.shiftLeft (Int32.ofInt 1).toBitVec ((Int32.ofInt (i : Int) &&& 31).toBitVec.smod 32).toNat).getLsbD j = _
  rw [shS ⟨i, hi⟩]
  show ((Int32.ofInt 1).toBitVec <<< i).getLsbD j = _
  rw [BitVec.getLsbD_shiftLeft, bt_1]
  by_cases q : j = i
  · subst q
    simp [hj]
  · by_cases q2 : j < i
    · simp [q, q2]
    · have : ¬ j - i = 0 := by omega
      simp [q, this]
theorem bt_or (x y : Int32) (j : Nat) : bitAt (x ||| y) j = (bitAt x j || bitAt y j) := BitVec.getLsbD_or
theorem bt_and (x y : Int32) (j : Nat) : bitAt (x &&& y) j = (bitAt x j && bitAt y j) := BitVec.getLsbD_and
theorem bt_xor (x y : Int32) (j : Nat) : bitAt (x ^^^ y) j = (bitAt x j ^^ bitAt y j) := BitVec.getLsbD_xor
theorem bt_0 (j : Nat) : bitAt (Int32.ofInt 0) j = false := by
  show (0#32).getLsbD j = _
  exact BitVec.getLsbD_zero
theorem bt_m1 {j : Nat} (hj : j < 32) : bitAt (Int32.ofInt (-1)) j = true := by
  show (BitVec.allOnes 32).getLsbD j = _
  rw [BitVec.getLsbD_allOnes]
  simp [hj]
/-- a set of numbers below n as bits -/
def sb (f : Nat → Bool) : Nat → Int32
  | 0 => Int32.ofInt 0
  | n + 1 => if f n = true then sb f n ||| (Int32.ofInt 1 <<< (Int32.ofInt (n : Int) &&& 31)) else sb f n
theorem bt_sb (f : Nat → Bool) : ∀ (n : Nat), n ≤ 32 → ∀ j, j < 32 → bitAt (sb f n) j = (decide (j < n) && f j)
  | 0, _, j, _ => by
    show bitAt (Int32.ofInt 0) j = _
    rw [bt_0]
    simp
  | n + 1, hn, j, hj => by
    have ih := bt_sb f n (by omega) j hj
    simp only [sb]
    by_cases q : j = n
    · subst q
      by_cases q2 : f j = true
      · rw [if_pos q2, bt_or, ih, bt_l (by omega) j hj]
        simp [q2]
      · rw [if_neg q2, ih]
        simp [q2]
    · have e : decide (j < n + 1) = decide (j < n) := by
        by_cases z : j < n
        · rw [decide_eq_true z, decide_eq_true (by omega)]
        · rw [decide_eq_false z, decide_eq_false (by omega)]
      rw [e]
      split
      · rw [bt_or, ih, bt_l (by omega) j hj]
        simp [q]
      · exact ih
/-! WHAT AN EXPRESSION'S CODES COME TO: how deep they pile, what they are worth. Printed from wip/am/chk/hand/ja.in. -/
/-- how many numbers lie on the pile behind the codes, M at most ever -/
def dpt (M : Nat) : List (Int × Int) → Nat → Option Nat
  | [], n => some n
  | (k, _) :: t, n => if k < 2 then (if n < M then dpt M t (n + 1) else none) else (if 2 ≤ n then dpt M t (n - 1) else none)
theorem dpt_app {M : Nat} : ∀ (a b : List (Int × Int)) (n m : Nat), dpt M a n = some m → dpt M (a ++ b) n = dpt M b m
  | [], b, n, m, h => by
    have h : n = m := by simpa [dpt] using h
    subst h
    rfl
  | (k, v) :: t, b, n, m, h => by
    simp only [dpt] at h
    rw [List.cons_append]
    simp only [dpt]
    by_cases q : k < 2
    · rw [if_pos q] at h ⊢
      by_cases q2 : n < M
      · rw [if_pos q2] at h ⊢
        exact dpt_app t b _ _ h
      · rw [if_neg q2] at h; cases h
    · rw [if_neg q] at h ⊢
      by_cases q2 : 2 ≤ n
      · rw [if_pos q2] at h ⊢
        exact dpt_app t b _ _ h
      · rw [if_neg q2] at h; cases h
/-- the signs that wait (not the open brackets) -/
def nwS : List Int → Nat
  | [] => 0
  | w :: t => if w = 6 then nwS t else nwS t + 1
/-- between two brackets at most a + or - and a * or / above it; s: 2 anything, 1 below a * or /, 0 below a + or - -/
def okW : Nat → List Int → Nat → Prop
  | _, [], d => d = 0
  | s, w :: t, d => if w = 6 then 1 ≤ d ∧ okW 2 t (d - 1) else if w = 8 ∨ w = 9 then 1 ≤ s ∧ okW 0 t d else (w = 10 ∨ w = 15) ∧ s = 2 ∧ okW 1 t d
theorem okW_n : ∀ (W : List Int) (s d : Nat), okW s W d → nwS W ≤ 2 * d + s
  | [], s, d, h => Nat.zero_le _
  | w :: t, s, d, h => by
    simp only [okW] at h
    simp only [nwS]
    by_cases q : w = 6
    · rw [if_pos q] at h ⊢
      have := okW_n t 2 (d - 1) h.2
      omega
    · rw [if_neg q] at h ⊢
      by_cases q2 : w = 8 ∨ w = 9
      · rw [if_pos q2] at h
        have := okW_n t 0 d h.2
        omega
      · rw [if_neg q2] at h
        have := okW_n t 1 d h.2.2
        omega
theorem syO_2 (w : Int) : ¬ syO w < 2 := by
  unfold syO
  repeat' split
  all_goals decide
theorem syF_ok {M : Nat} (fl : Bool) : ∀ (W : List Int) (c : List (Int × Int)) (s d n : Nat), okW s W d → dpt M c 0 = some n → n = nwS W + 1 → okW (if fl then 1 else 0) (syF fl W c).1 d ∧ dpt M (syF fl W c).2 0 = some (nwS (syF fl W c).1 + 1)
  | [], c, s, d, n, h, hc, hn => by
    subst hn
    exact ⟨h, hc⟩
  | w :: t, c, s, d, n, h, hc, hn => by
    simp only [syF]
    by_cases q : w = 6 ∨ (fl = true ∧ (w = 8 ∨ w = 9))
    · rw [if_pos q]
      refine ⟨?_, by rw [hc, hn]⟩
      simp only [okW] at h ⊢
      by_cases q1 : w = 6
      · rw [if_pos q1] at h ⊢; exact h
      · rw [if_neg q1] at h ⊢
        obtain ⟨q2, q3⟩ := q.resolve_left q1
        rw [if_pos q3] at h ⊢
        rw [q2]
        exact ⟨Nat.le_refl _, h.2⟩
    · rw [if_neg q]
      have q1 : w ≠ 6 := fun z => q (Or.inl z)
      have hn' : nwS (w :: t) = nwS t + 1 := by simp only [nwS]; rw [if_neg q1]
      have ht : ∃ s', okW s' t d := by
        simp only [okW] at h
        rw [if_neg q1] at h
        split at h
        · exact ⟨_, h.2⟩
        · exact ⟨_, h.2.2⟩
      obtain ⟨s', ht⟩ := ht
      refine syF_ok fl t _ s' d (nwS t + 1) ht ?_ rfl
      rw [dpt_app c _ 0 n hc]
      simp only [dpt]
      rw [if_neg (syO_2 w), if_pos (by omega)]
      congr 1
      omega
/-- what holds of the machine of small steps -/
def syN (q : SY) : Prop := match q with
  | (0, _, W, d, c) => d ≤ 6 ∧ okW 2 W d ∧ dpt 15 c 0 = some (nwS W)
  | (1, _, W, d, c) => d ≤ 6 ∧ okW 2 W d ∧ dpt 15 c 0 = some (nwS W + 1)
  | (2, _, _, _, c) => dpt 15 c 0 = some 1
  | _ => True
theorem dpt_1 {c : List (Int × Int)} {n : Nat} {k v : Int} (h : dpt 15 c 0 = some n) (hk : k < 2) (hn : n < 15) : dpt 15 (c ++ [(k, v)]) 0 = some (n + 1) := by
  rw [dpt_app c _ 0 n h]
  simp only [dpt]
  rw [if_pos hk, if_pos hn]
theorem syN_s {K V : Nat → Int} {q : SY} (h : syN q) : syN (syS K V q) := by
  obtain ⟨m, t, W, d, c⟩ := q
  match m with
  | 0 =>
    obtain ⟨h1, h2, h3⟩ := h
    have hn := okW_n W 2 d h2
    simp only [syS]
    split
    · split
      · trivial
      · rename_i z
        refine ⟨by omega, ?_, ?_⟩
        · show (if (6 : Int) = 6 then 1 ≤ d + 1 ∧ okW 2 W (d + 1 - 1) else _)
          rw [if_pos rfl]
          exact ⟨by omega, by rw [Nat.add_sub_cancel]; exact h2⟩
        · show dpt 15 c 0 = some (if (6 : Int) = 6 then nwS W else nwS W + 1)
          rw [if_pos rfl]
          exact h3
    · split
      · split
        · trivial
        · exact ⟨h1, h2, dpt_1 h3 (by decide) (by omega)⟩
      · split
        · split
          · trivial
          · exact ⟨h1, h2, dpt_1 h3 (by decide) (by omega)⟩
        · trivial
  | 1 =>
    obtain ⟨h1, h2, h3⟩ := h
    simp only [syS]
    split
    · rename_i z
      split
      · trivial
      · obtain ⟨a1, a2⟩ := syF_ok false W c 2 d _ h2 h3 rfl
        revert a1 a2
        generalize syF false W c = r
        intro a1 a2
        obtain ⟨W', c'⟩ := r
        cases W' with
        | nil =>
          have : d = 0 := a1
          omega
        | cons w u =>
          have a1 : okW 0 (w :: u) d := a1
          simp only [okW] at a1
          have a2 : dpt 15 c' 0 = some (nwS (w :: u) + 1) := a2
          simp only [nwS] at a2
          by_cases q : w = 6
          · rw [if_pos q] at a1 a2
            exact ⟨by omega, a1.2, a2⟩
          · rw [if_neg q] at a1
            split at a1
            · exact absurd a1.1 (by decide)
            · exact absurd a1.2.1 (by decide)
    · split
      · rename_i z0 z
        split
        · trivial
        · obtain ⟨a1, a2⟩ := syF_ok (decide (K t = 10 ∨ K t = 15)) W c 2 d _ h2 h3 rfl
          revert a1 a2
          generalize syF (decide (K t = 10 ∨ K t = 15)) W c = r
          intro a1 a2
          have n6 : ¬ K t = 6 := by omega
          refine ⟨h1, ?_, ?_⟩
          · simp only [okW]
            rw [if_neg n6]
            by_cases q : K t = 8 ∨ K t = 9
            · rw [if_pos q]
              rw [if_neg (by simp; omega)] at a1
              exact ⟨by decide, a1⟩
            · rw [if_neg q]
              have q' : K t = 10 ∨ K t = 15 := by omega
              rw [if_pos (decide_eq_true q')] at a1
              first | exact ⟨q', rfl, a1⟩ | exact ⟨q', trivial, a1⟩
          · show dpt 15 r.2 0 = some (nwS (K t :: r.1))
            simp only [nwS]
            rw [if_neg n6]
            exact a2
      · split
        · trivial
        · rename_i z0 z1 z
          have d0 : d = 0 := by omega
          subst d0
          obtain ⟨a1, a2⟩ := syF_ok false W c 2 0 _ h2 h3 rfl
          revert a1 a2
          generalize syF false W c = r
          intro a1 a2
          obtain ⟨W', c'⟩ := r
          show dpt 15 c' 0 = some 1
          cases W' with
          | nil => exact a2
          | cons w u =>
            have a1 : okW 0 (w :: u) 0 := a1
            simp only [okW] at a1
            by_cases q : w = 6
            · rw [if_pos q] at a1
              exact absurd a1.1 (by decide)
            · rw [if_neg q] at a1
              split at a1
              · exact absurd a1.1 (by decide)
              · exact absurd a1.2.1 (by decide)
  | m + 2 =>
    rw [syS_fin (by show 2 ≤ m + 2; omega)]
    exact h
theorem syN_i {K V : Nat → Int} : ∀ (n : Nat) (q : SY), syN q → syN (syI K V n q)
  | 0, _, h => h
  | n + 1, _, h => syN_i n _ (syN_s h)
/-- an expression's codes pile 15 numbers at most and leave one -/
def wfc (c : List (Int × Int)) : Prop := dpt 15 c 0 = some 1
theorem syN_E (K V : Nat → Int) (t : Nat) (r : SY) (e : r = syE K V t) : syN r := by
  rw [e]
  unfold syE
  generalize 900 = n
  exact syN_i n _ ⟨Nat.zero_le _, rfl, rfl⟩
theorem wfc_r {r : SY} {s : ST} {t' : Nat} (hN : syN r) (h : (if r.1 = 2 then (.inl r.2.1, r.2.2.2.2) else (s, []) : ST × List (Int × Int)).1 = .inl t') (hs : ∀ t, s ≠ .inl t) : wfc (if r.1 = 2 then (.inl r.2.1, r.2.2.2.2) else (s, []) : ST × List (Int × Int)).2 := by
  obtain ⟨m, t1, W, d, c⟩ := r
  by_cases q : m = 2
  · subst q
    exact hN
  · rw [if_neg (show ¬ (m, t1, W, d, c).1 = 2 from q)] at h
    exact absurd h (hs t')
theorem wfc_E {b : Nat → Int} {Z : Nat} {s : ST} {t' : Nat} (h : (spE b Z s).1 = .inl t') : wfc (spE b Z s).2 := by
  cases s with
  | inr q => cases h
  | inl t =>
    rw [spE_l] at h ⊢
    have hN := syN_E (tK b Z) (tV b Z) t
    revert h hN
    generalize syE (tK b Z) (tV b Z) t = r
    intro h hN
    exact wfc_r (hN r rfl) h (fun t e => by cases e)
/-! what they are worth -/
def opv (k : Int) (a b : Int32) : Int32 := if k = 2 then a + b else if k = 3 then a - b else if k = 4 then a * b else a / b
/-- the pile behind the codes, the last first; none: something was divided by nothing -/
def tev (vr : Nat → Int32) : List (Int × Int) → List Int32 → Option (List Int32)
  | [], st => some st
  | (k, v) :: t, st => if k = 0 then tev vr t (Int32.ofInt v :: st) else if k = 1 then tev vr t (vr v.toNat :: st) else match st with
    | b :: a :: r => if k = 5 ∧ b = 0 then none else tev vr t (opv k a b :: r)
    | _ => none
/-- an expression's worth -/
def exV (vr : Nat → Int32) (c : List (Int × Int)) : Option Int32 := (tev vr c []).bind (fun l => l.head?)
/-- a law's worth: its branches, then its last expression -/
def lwB (vr : Nat → Int32) : List BR → List (Int × Int) → Int32
  | [], c => (exV vr c).getD 0
  | (x, y, z) :: t, c => match exV vr x, exV vr y with
    | some u, some v => if u < v then (exV vr z).getD 0 else lwB vr t c
    | _, _ => 0
/-- what law k tells -/
def lwV (d : DR) (k : Nat) (vr : Nat → Int32) : Int32 := match d.2.2.2 k with
  | none => if k = 0 then Int32.ofInt 9 else if k = 2 then vr 5 else Int32.ofInt 0
  | some w => lwB vr w.1 w.2
theorem tev_r {M : Nat} {vr : Nat → Int32} (r : List Int32) : ∀ (c : List (Int × Int)) (st : List Int32) (m : Nat), (∀ p ∈ c, 0 ≤ p.1) → dpt M c st.length = some m → tev vr c (st ++ r) = (tev vr c st).map (fun l => l ++ r)
  | [], st, m, _, _ => rfl
  | (k, v) :: t, st, m, h0, h => by
    have hk0 : 0 ≤ k := h0 _ List.mem_cons_self
    have ht : ∀ p ∈ t, 0 ≤ p.1 := fun p hp => h0 p (List.mem_cons_of_mem _ hp)
    simp only [dpt] at h
    simp only [tev]
    by_cases q : k < 2
    · rw [if_pos q] at h
      by_cases q2 : st.length < M
      · rw [if_pos q2] at h
        by_cases z : k = 0
        · rw [if_pos z, if_pos z]
          exact tev_r r t (Int32.ofInt v :: st) m ht h
        · have z1 : k = 1 := by omega
          rw [if_neg z, if_neg z, if_pos z1, if_pos z1]
          exact tev_r r t (vr v.toNat :: st) m ht h
      · rw [if_neg q2] at h; cases h
    · rw [if_neg q] at h
      by_cases q2 : 2 ≤ st.length
      · rw [if_pos q2] at h
        have z : ¬ k = 0 := by omega
        have z1 : ¬ k = 1 := by omega
        rw [if_neg z, if_neg z, if_neg z1, if_neg z1]
        match st, q2, h with
        | b :: a :: s, _, h =>
          show (if k = 5 ∧ b = 0 then none else tev vr t (opv k a b :: (s ++ r))) = Option.map _ (if k = 5 ∧ b = 0 then none else tev vr t (opv k a b :: s))
          by_cases w : k = 5 ∧ b = 0
          · rw [if_pos w, if_pos w]; rfl
          · rw [if_neg w, if_neg w]
            exact tev_r r t (opv k a b :: s) m ht h
      · rw [if_neg q2] at h; cases h
theorem tev_l {M : Nat} {vr : Nat → Int32} : ∀ (c : List (Int × Int)) (st st' : List Int32) (m : Nat), (∀ p ∈ c, 0 ≤ p.1) → dpt M c st.length = some m → tev vr c st = some st' → st'.length = m
  | [], st, st', m, _, h, e => by
    have h : st.length = m := by simpa [dpt] using h
    have e : st = st' := by simpa [tev] using e
    rw [← e]
    exact h
  | (k, v) :: t, st, st', m, h0, h, e => by
    have hk0 : 0 ≤ k := h0 _ List.mem_cons_self
    have ht : ∀ p ∈ t, 0 ≤ p.1 := fun p hp => h0 p (List.mem_cons_of_mem _ hp)
    simp only [dpt] at h
    simp only [tev] at e
    by_cases q : k < 2
    · rw [if_pos q] at h
      by_cases q2 : st.length < M
      · rw [if_pos q2] at h
        by_cases z : k = 0
        · rw [if_pos z] at e
          exact tev_l t (Int32.ofInt v :: st) st' m ht h e
        · have z1 : k = 1 := by omega
          rw [if_neg z, if_pos z1] at e
          exact tev_l t (vr v.toNat :: st) st' m ht h e
      · rw [if_neg q2] at h; cases h
    · rw [if_neg q] at h
      by_cases q2 : 2 ≤ st.length
      · rw [if_pos q2] at h
        have z : ¬ k = 0 := by omega
        have z1 : ¬ k = 1 := by omega
        rw [if_neg z, if_neg z1] at e
        match st, q2, h, e with
        | b :: a :: s, _, h, e =>
          have e : (if k = 5 ∧ b = 0 then none else tev vr t (opv k a b :: s)) = some st' := e
          by_cases w : k = 5 ∧ b = 0
          · rw [if_pos w] at e; cases e
          · rw [if_neg w] at e
            exact tev_l t (opv k a b :: s) st' m ht h e
      · rw [if_neg q2] at h; cases h
/-- an expression alone on the pile -/
theorem exV_e {vr : Nat → Int32} {c : List (Int × Int)} (hw : wfc c) (h0 : ∀ p ∈ c, 0 ≤ p.1) : (∃ x, tev vr c [] = some [x] ∧ exV vr c = some x) ∨ (tev vr c [] = none ∧ exV vr c = none) := by
  unfold exV
  cases e : tev vr c [] with
  | none => exact Or.inr ⟨rfl, rfl⟩
  | some l =>
    have := tev_l c [] l 1 h0 hw e
    match l, this with
    | [x], _ => exact Or.inl ⟨x, rfl, rfl⟩
theorem dpt_up0 {M : Nat} (i : Nat) : ∀ (c : List (Int × Int)) (n m : Nat), dpt M c n = some m → dpt (M + i) c n = some m
  | [], n, m, h => h
  | (k, v) :: t, n, m, h => by
    simp only [dpt] at h ⊢
    by_cases q : k < 2
    · rw [if_pos q] at h ⊢
      by_cases q2 : n < M
      · rw [if_pos q2] at h
        rw [if_pos (by omega)]
        exact dpt_up0 i t _ _ h
      · rw [if_neg q2] at h; cases h
    · rw [if_neg q] at h ⊢
      by_cases q2 : 2 ≤ n
      · rw [if_pos q2] at h ⊢
        exact dpt_up0 i t _ _ h
      · rw [if_neg q2] at h; cases h
theorem dpt_mono (c : List (Int × Int)) (n m : Nat) (h : dpt 15 c n = some m) : dpt 24 c n = some m := dpt_up0 9 c n m h
