/-! HOW MANY BITS, both. Printed from wip/am/chk/hand/q9b.in (mkq10.py). -/
theorem dX12_bits_0 : decode cX12_bits 0 = .ok (.iconst 0, 1) := dk_ok (by decide +kernel)
theorem dX12_bits_1 : decode cX12_bits 1 = .ok (.istore_n 1, 1) := dk_ok (by decide +kernel)
theorem dX12_bits_2 : decode cX12_bits 2 = .ok (.iconst 0, 1) := dk_ok (by decide +kernel)
theorem dX12_bits_3 : decode cX12_bits 3 = .ok (.istore_n 2, 1) := dk_ok (by decide +kernel)
theorem dX12_bits_4 : decode cX12_bits 4 = .ok (.iload_n 2, 1) := dk_ok (by decide +kernel)
theorem dX12_bits_5 : decode cX12_bits 5 = .ok (.bipush 12, 2) := dk_ok (by decide +kernel)
theorem dX12_bits_7 : decode cX12_bits 7 = .ok (.if_icmp .ge 17, 3) := dk_ok (by decide +kernel)
theorem dX12_bits_10 : decode cX12_bits 10 = .ok (.iload_n 1, 1) := dk_ok (by decide +kernel)
theorem dX12_bits_11 : decode cX12_bits 11 = .ok (.iload_n 0, 1) := dk_ok (by decide +kernel)
theorem dX12_bits_12 : decode cX12_bits 12 = .ok (.iload_n 2, 1) := dk_ok (by decide +kernel)
theorem dX12_bits_13 : decode cX12_bits 13 = .ok (.ishr, 1) := dk_ok (by decide +kernel)
theorem dX12_bits_14 : decode cX12_bits 14 = .ok (.iconst 1, 1) := dk_ok (by decide +kernel)
theorem dX12_bits_15 : decode cX12_bits 15 = .ok (.iand, 1) := dk_ok (by decide +kernel)
theorem dX12_bits_16 : decode cX12_bits 16 = .ok (.iadd, 1) := dk_ok (by decide +kernel)
theorem dX12_bits_17 : decode cX12_bits 17 = .ok (.istore_n 1, 1) := dk_ok (by decide +kernel)
theorem dX12_bits_18 : decode cX12_bits 18 = .ok (.iinc 2 1, 3) := dk_ok (by decide +kernel)
theorem dX12_bits_21 : decode cX12_bits 21 = .ok (.goto (-17), 3) := dk_ok (by decide +kernel)
theorem dX12_bits_24 : decode cX12_bits 24 = .ok (.iload_n 1, 1) := dk_ok (by decide +kernel)
theorem dX12_bits_25 : decode cX12_bits 25 = .ok (.ireturn, 1) := dk_ok (by decide +kernel)
theorem dJ6_bitCount_0f7a4_0 : decode cJ6_bitCount_0f7a4 0 = .ok (.iload_n 0, 1) := dk_ok (by decide +kernel)
theorem dJ6_bitCount_0f7a4_1 : decode cJ6_bitCount_0f7a4 1 = .ok (.iload_n 0, 1) := dk_ok (by decide +kernel)
theorem dJ6_bitCount_0f7a4_2 : decode cJ6_bitCount_0f7a4 2 = .ok (.iconst 1, 1) := dk_ok (by decide +kernel)
theorem dJ6_bitCount_0f7a4_3 : decode cJ6_bitCount_0f7a4 3 = .ok (.iushr, 1) := dk_ok (by decide +kernel)
theorem dJ6_bitCount_0f7a4_4 : decode cJ6_bitCount_0f7a4 4 = .ok (.ldc_w 265, 3) := dk_ok (by decide +kernel)
theorem dJ6_bitCount_0f7a4_7 : decode cJ6_bitCount_0f7a4 7 = .ok (.iand, 1) := dk_ok (by decide +kernel)
theorem dJ6_bitCount_0f7a4_8 : decode cJ6_bitCount_0f7a4 8 = .ok (.isub, 1) := dk_ok (by decide +kernel)
theorem dJ6_bitCount_0f7a4_9 : decode cJ6_bitCount_0f7a4 9 = .ok (.istore_n 0, 1) := dk_ok (by decide +kernel)
theorem dJ6_bitCount_0f7a4_10 : decode cJ6_bitCount_0f7a4 10 = .ok (.iload_n 0, 1) := dk_ok (by decide +kernel)
theorem dJ6_bitCount_0f7a4_11 : decode cJ6_bitCount_0f7a4 11 = .ok (.ldc_w 266, 3) := dk_ok (by decide +kernel)
theorem dJ6_bitCount_0f7a4_14 : decode cJ6_bitCount_0f7a4 14 = .ok (.iand, 1) := dk_ok (by decide +kernel)
theorem dJ6_bitCount_0f7a4_15 : decode cJ6_bitCount_0f7a4 15 = .ok (.iload_n 0, 1) := dk_ok (by decide +kernel)
theorem dJ6_bitCount_0f7a4_16 : decode cJ6_bitCount_0f7a4 16 = .ok (.iconst 2, 1) := dk_ok (by decide +kernel)
theorem dJ6_bitCount_0f7a4_17 : decode cJ6_bitCount_0f7a4 17 = .ok (.iushr, 1) := dk_ok (by decide +kernel)
theorem dJ6_bitCount_0f7a4_18 : decode cJ6_bitCount_0f7a4 18 = .ok (.ldc_w 266, 3) := dk_ok (by decide +kernel)
theorem dJ6_bitCount_0f7a4_21 : decode cJ6_bitCount_0f7a4 21 = .ok (.iand, 1) := dk_ok (by decide +kernel)
theorem dJ6_bitCount_0f7a4_22 : decode cJ6_bitCount_0f7a4 22 = .ok (.iadd, 1) := dk_ok (by decide +kernel)
theorem dJ6_bitCount_0f7a4_23 : decode cJ6_bitCount_0f7a4 23 = .ok (.istore_n 0, 1) := dk_ok (by decide +kernel)
theorem dJ6_bitCount_0f7a4_24 : decode cJ6_bitCount_0f7a4 24 = .ok (.iload_n 0, 1) := dk_ok (by decide +kernel)
theorem dJ6_bitCount_0f7a4_25 : decode cJ6_bitCount_0f7a4 25 = .ok (.iload_n 0, 1) := dk_ok (by decide +kernel)
theorem dJ6_bitCount_0f7a4_26 : decode cJ6_bitCount_0f7a4 26 = .ok (.iconst 4, 1) := dk_ok (by decide +kernel)
theorem dJ6_bitCount_0f7a4_27 : decode cJ6_bitCount_0f7a4 27 = .ok (.iushr, 1) := dk_ok (by decide +kernel)
theorem dJ6_bitCount_0f7a4_28 : decode cJ6_bitCount_0f7a4 28 = .ok (.iadd, 1) := dk_ok (by decide +kernel)
theorem dJ6_bitCount_0f7a4_29 : decode cJ6_bitCount_0f7a4 29 = .ok (.ldc_w 267, 3) := dk_ok (by decide +kernel)
theorem dJ6_bitCount_0f7a4_32 : decode cJ6_bitCount_0f7a4 32 = .ok (.iand, 1) := dk_ok (by decide +kernel)
theorem dJ6_bitCount_0f7a4_33 : decode cJ6_bitCount_0f7a4 33 = .ok (.istore_n 0, 1) := dk_ok (by decide +kernel)
theorem dJ6_bitCount_0f7a4_34 : decode cJ6_bitCount_0f7a4 34 = .ok (.iload_n 0, 1) := dk_ok (by decide +kernel)
theorem dJ6_bitCount_0f7a4_35 : decode cJ6_bitCount_0f7a4 35 = .ok (.iload_n 0, 1) := dk_ok (by decide +kernel)
theorem dJ6_bitCount_0f7a4_36 : decode cJ6_bitCount_0f7a4 36 = .ok (.bipush 8, 2) := dk_ok (by decide +kernel)
theorem dJ6_bitCount_0f7a4_38 : decode cJ6_bitCount_0f7a4 38 = .ok (.iushr, 1) := dk_ok (by decide +kernel)
theorem dJ6_bitCount_0f7a4_39 : decode cJ6_bitCount_0f7a4 39 = .ok (.iadd, 1) := dk_ok (by decide +kernel)
theorem dJ6_bitCount_0f7a4_40 : decode cJ6_bitCount_0f7a4 40 = .ok (.istore_n 0, 1) := dk_ok (by decide +kernel)
theorem dJ6_bitCount_0f7a4_41 : decode cJ6_bitCount_0f7a4 41 = .ok (.iload_n 0, 1) := dk_ok (by decide +kernel)
theorem dJ6_bitCount_0f7a4_42 : decode cJ6_bitCount_0f7a4 42 = .ok (.iload_n 0, 1) := dk_ok (by decide +kernel)
theorem dJ6_bitCount_0f7a4_43 : decode cJ6_bitCount_0f7a4 43 = .ok (.bipush 16, 2) := dk_ok (by decide +kernel)
theorem dJ6_bitCount_0f7a4_45 : decode cJ6_bitCount_0f7a4 45 = .ok (.iushr, 1) := dk_ok (by decide +kernel)
theorem dJ6_bitCount_0f7a4_46 : decode cJ6_bitCount_0f7a4 46 = .ok (.iadd, 1) := dk_ok (by decide +kernel)
theorem dJ6_bitCount_0f7a4_47 : decode cJ6_bitCount_0f7a4 47 = .ok (.istore_n 0, 1) := dk_ok (by decide +kernel)
theorem dJ6_bitCount_0f7a4_48 : decode cJ6_bitCount_0f7a4 48 = .ok (.iload_n 0, 1) := dk_ok (by decide +kernel)
theorem dJ6_bitCount_0f7a4_49 : decode cJ6_bitCount_0f7a4 49 = .ok (.bipush 63, 2) := dk_ok (by decide +kernel)
theorem dJ6_bitCount_0f7a4_51 : decode cJ6_bitCount_0f7a4 51 = .ok (.iand, 1) := dk_ok (by decide +kernel)
theorem dJ6_bitCount_0f7a4_52 : decode cJ6_bitCount_0f7a4 52 = .ok (.ireturn, 1) := dk_ok (by decide +kernel)
def usr (x : Int32) (n : Int) : Int32 := (x.toUInt32 >>> ((Int32.ofInt n).toUInt32 &&& Int32.toUInt32 31)).toInt32
def jb1 (x : Int32) : Int32 := x - (usr x 1 &&& Int32.ofInt 1431655765)
def jb2 (x : Int32) : Int32 := (x &&& Int32.ofInt 858993459) + (usr x 2 &&& Int32.ofInt 858993459)
def jb3 (x : Int32) : Int32 := (x + usr x 4) &&& Int32.ofInt 252645135
def jb4 (x : Int32) : Int32 := x + usr x 8
def jb5 (x : Int32) : Int32 := x + usr x 16
def jbc (x : Int32) : Int32 := jb5 (jb4 (jb3 (jb2 (jb1 x)))) &&& Int32.ofInt 63
theorem jb_tab : ∀ a, a < 64 → ∀ b, b < 64 → jbc (Int32.ofNat (64 * a + b)) = Int32.ofInt ((cnN (bitAt (Int32.ofNat (64 * a + b))) 12 : Nat) : Int) := by decide +kernel
theorem jb_ok {x : Int32} (h : ∀ j, 12 ≤ j → j < 32 → bitAt x j = false) : jbc x = Int32.ofInt ((cnN (bitAt x) 12 : Nat) : Int) := by
  have hx : x.toBitVec.toNat < 2 ^ 12 := Nat.lt_pow_two_of_testBit _ (fun i hi => by
    by_cases q : i < 32
    · exact h i hi q
    · exact BitVec.getLsbD_of_ge x.toBitVec i (by omega))
  have hx : x.toBitVec.toNat < 4096 := hx
  have e : x = Int32.ofNat x.toBitVec.toNat := Int32.toBitVec_inj.mp (BitVec.eq_of_toNat_eq (by
    show x.toBitVec.toNat = (BitVec.ofNat 32 x.toBitVec.toNat).toNat
    rw [BitVec.toNat_ofNat, Nat.mod_eq_of_lt x.toBitVec.isLt]))
  have t := jb_tab (x.toBitVec.toNat / 64) (by omega) (x.toBitVec.toNat % 64) (by omega)
  rw [show 64 * (x.toBitVec.toNat / 64) + x.toBitVec.toNat % 64 = x.toBitVec.toNat by omega, ← e] at t
  exact t
def sJ6_bitCount_0f7a4 : am_Sp := fun as n σ post => n = 92 ∧ ∃ x : Int32, as = [.int x] ∧ post (some (.int (jbc x))) σ
def xJ6_bitCount_0f7a4 : am_X := (SH, KF, (some .int), FT_J6, PT_J6, CT_J6, KT_J6, LT_J6, NT_J6, [])
theorem xJ6_bitCount_0f7a4_SH : am_SH xJ6_bitCount_0f7a4 = SH := rfl
theorem xJ6_bitCount_0f7a4_KF : am_KF xJ6_bitCount_0f7a4 = KF := rfl
theorem xJ6_bitCount_0f7a4_rt : am_rt xJ6_bitCount_0f7a4 = (some .int) := rfl
theorem xJ6_bitCount_0f7a4_FT : am_FT xJ6_bitCount_0f7a4 = FT_J6 := rfl
theorem xJ6_bitCount_0f7a4_PT : am_PT xJ6_bitCount_0f7a4 = PT_J6 := rfl
theorem xJ6_bitCount_0f7a4_CT : am_CT xJ6_bitCount_0f7a4 = CT_J6 := rfl
theorem xJ6_bitCount_0f7a4_KT : am_KT xJ6_bitCount_0f7a4 = KT_J6 := rfl
theorem xJ6_bitCount_0f7a4_LT : am_LT xJ6_bitCount_0f7a4 = LT_J6 := rfl
theorem xJ6_bitCount_0f7a4_NT : am_NT xJ6_bitCount_0f7a4 = NT_J6 := rfl

set_option maxRecDepth 100000 in
theorem pJ6_bitCount_0f7a4 : am_B cJ6_bitCount_0f7a4 xJ6_bitCount_0f7a4 1 0 sJ6_bitCount_0f7a4 := by
  intro n0 as σ post AA hA h
  obtain ⟨rfl, x, rfl, h⟩ := h
  refine ⟨by simp [am_sl, Value.category], ?_⟩
  show AA 0 [some (.int x)] [] 92 σ
  have at41 : ∀ y : Int32, post (some (.int (jb5 y &&& Int32.ofInt 63))) σ → AA 41 [some (.int y)] [] 92 σ := fun y k => by
    refine hA [] 12 _ _ _ _ _ ?_
    try simp only [dJ6_bitCount_0f7a4_0, dJ6_bitCount_0f7a4_1, dJ6_bitCount_0f7a4_2, dJ6_bitCount_0f7a4_3, dJ6_bitCount_0f7a4_4, KT_J6, dJ6_bitCount_0f7a4_7, dJ6_bitCount_0f7a4_8, dJ6_bitCount_0f7a4_9, dJ6_bitCount_0f7a4_10, dJ6_bitCount_0f7a4_11, dJ6_bitCount_0f7a4_14, dJ6_bitCount_0f7a4_15, dJ6_bitCount_0f7a4_16, dJ6_bitCount_0f7a4_17, dJ6_bitCount_0f7a4_18, dJ6_bitCount_0f7a4_21, dJ6_bitCount_0f7a4_22, dJ6_bitCount_0f7a4_23, dJ6_bitCount_0f7a4_24, dJ6_bitCount_0f7a4_25, dJ6_bitCount_0f7a4_26, dJ6_bitCount_0f7a4_27, dJ6_bitCount_0f7a4_28, dJ6_bitCount_0f7a4_29, dJ6_bitCount_0f7a4_32, dJ6_bitCount_0f7a4_33, dJ6_bitCount_0f7a4_34, dJ6_bitCount_0f7a4_35, dJ6_bitCount_0f7a4_36, dJ6_bitCount_0f7a4_38, dJ6_bitCount_0f7a4_39, dJ6_bitCount_0f7a4_40, dJ6_bitCount_0f7a4_41, dJ6_bitCount_0f7a4_42, dJ6_bitCount_0f7a4_43, dJ6_bitCount_0f7a4_45, dJ6_bitCount_0f7a4_46, dJ6_bitCount_0f7a4_47, dJ6_bitCount_0f7a4_48, dJ6_bitCount_0f7a4_49, dJ6_bitCount_0f7a4_51, dJ6_bitCount_0f7a4_52, xJ6_bitCount_0f7a4_SH, xJ6_bitCount_0f7a4_KF, xJ6_bitCount_0f7a4_rt, xJ6_bitCount_0f7a4_FT, xJ6_bitCount_0f7a4_PT, xJ6_bitCount_0f7a4_CT, xJ6_bitCount_0f7a4_KT, xJ6_bitCount_0f7a4_LT, xJ6_bitCount_0f7a4_NT, o_bipush, o_iadd, o_iand, o_iconst, o_iload_n, o_ireturn, o_istore_n, o_isub, o_iushr, o_ldc_w, am_ty, am_vc, am_opt, am_cl, am_find, am_ldi, am_ldl, am_lda, am_v, am_1, am_1l, am_1a, am_2, am_2l, am_ix, am_ri, am_arr, am_pf, am_rc, am_mask, am_lg, am_av, am_nat, fv_0, fv_1, fv_2, fv_3, fw_0, fw_1, List.getElem?_cons_zero, List.getElem?_cons_succ, List.set_cons_zero, List.set_cons_succ, List.length_cons, List.length_nil, List.take_succ_cons, List.take_zero, List.drop_succ_cons, List.drop_zero, List.reverse_cons, List.reverse_nil, List.nil_append, List.cons_append, List.append_nil, List.map_cons, List.map_nil, List.sum_cons, List.sum_nil, Value.category, Option.toList_some, Option.toList_none, Nat.reduceAdd, Nat.reduceLT, Nat.reduceLeDiff, Nat.reduceEqDiff, Nat.reduceSub, Nat.add_zero, Nat.le_refl, Nat.zero_le, Int.reduceNeg, Int.reduceLE, Int.reduceLT, true_and, and_true, and_self, if_true, if_false, ite_true, ite_false, eq_self_iff_true, reduceIte, reduceCtorEq, not_false_eq_true, not_true_eq_false, or_true, true_or, or_false, false_or, Nat.lt_irrefl, Nat.zero_lt_succ]
    exact k
  have at34 : ∀ y : Int32, post (some (.int (jb5 (jb4 y) &&& Int32.ofInt 63))) σ → AA 34 [some (.int y)] [] 92 σ := fun y k => by
    have k := at41 _ k
    refine hA [(41, 1)] 10 _ _ _ _ _ ?_
    try simp only [dJ6_bitCount_0f7a4_0, dJ6_bitCount_0f7a4_1, dJ6_bitCount_0f7a4_2, dJ6_bitCount_0f7a4_3, dJ6_bitCount_0f7a4_4, KT_J6, dJ6_bitCount_0f7a4_7, dJ6_bitCount_0f7a4_8, dJ6_bitCount_0f7a4_9, dJ6_bitCount_0f7a4_10, dJ6_bitCount_0f7a4_11, dJ6_bitCount_0f7a4_14, dJ6_bitCount_0f7a4_15, dJ6_bitCount_0f7a4_16, dJ6_bitCount_0f7a4_17, dJ6_bitCount_0f7a4_18, dJ6_bitCount_0f7a4_21, dJ6_bitCount_0f7a4_22, dJ6_bitCount_0f7a4_23, dJ6_bitCount_0f7a4_24, dJ6_bitCount_0f7a4_25, dJ6_bitCount_0f7a4_26, dJ6_bitCount_0f7a4_27, dJ6_bitCount_0f7a4_28, dJ6_bitCount_0f7a4_29, dJ6_bitCount_0f7a4_32, dJ6_bitCount_0f7a4_33, dJ6_bitCount_0f7a4_34, dJ6_bitCount_0f7a4_35, dJ6_bitCount_0f7a4_36, dJ6_bitCount_0f7a4_38, dJ6_bitCount_0f7a4_39, dJ6_bitCount_0f7a4_40, dJ6_bitCount_0f7a4_41, dJ6_bitCount_0f7a4_42, dJ6_bitCount_0f7a4_43, dJ6_bitCount_0f7a4_45, dJ6_bitCount_0f7a4_46, dJ6_bitCount_0f7a4_47, dJ6_bitCount_0f7a4_48, dJ6_bitCount_0f7a4_49, dJ6_bitCount_0f7a4_51, dJ6_bitCount_0f7a4_52, xJ6_bitCount_0f7a4_SH, xJ6_bitCount_0f7a4_KF, xJ6_bitCount_0f7a4_rt, xJ6_bitCount_0f7a4_FT, xJ6_bitCount_0f7a4_PT, xJ6_bitCount_0f7a4_CT, xJ6_bitCount_0f7a4_KT, xJ6_bitCount_0f7a4_LT, xJ6_bitCount_0f7a4_NT, o_bipush, o_iadd, o_iand, o_iconst, o_iload_n, o_ireturn, o_istore_n, o_isub, o_iushr, o_ldc_w, am_ty, am_vc, am_opt, am_cl, am_find, am_ldi, am_ldl, am_lda, am_v, am_1, am_1l, am_1a, am_2, am_2l, am_ix, am_ri, am_arr, am_pf, am_rc, am_mask, am_lg, am_av, am_nat, fv_0, fv_1, fv_2, fv_3, fw_0, fw_1, List.getElem?_cons_zero, List.getElem?_cons_succ, List.set_cons_zero, List.set_cons_succ, List.length_cons, List.length_nil, List.take_succ_cons, List.take_zero, List.drop_succ_cons, List.drop_zero, List.reverse_cons, List.reverse_nil, List.nil_append, List.cons_append, List.append_nil, List.map_cons, List.map_nil, List.sum_cons, List.sum_nil, Value.category, Option.toList_some, Option.toList_none, Nat.reduceAdd, Nat.reduceLT, Nat.reduceLeDiff, Nat.reduceEqDiff, Nat.reduceSub, Nat.add_zero, Nat.le_refl, Nat.zero_le, Int.reduceNeg, Int.reduceLE, Int.reduceLT, true_and, and_true, and_self, if_true, if_false, ite_true, ite_false, eq_self_iff_true, reduceIte, reduceCtorEq, not_false_eq_true, not_true_eq_false, or_true, true_or, or_false, false_or, Nat.lt_irrefl, Nat.zero_lt_succ]
    exact k
  have at24 : ∀ y : Int32, post (some (.int (jb5 (jb4 (jb3 y)) &&& Int32.ofInt 63))) σ → AA 24 [some (.int y)] [] 92 σ := fun y k => by
    have k := at34 _ k
    refine hA [(34, 1)] 12 _ _ _ _ _ ?_
    try simp only [dJ6_bitCount_0f7a4_0, dJ6_bitCount_0f7a4_1, dJ6_bitCount_0f7a4_2, dJ6_bitCount_0f7a4_3, dJ6_bitCount_0f7a4_4, KT_J6, dJ6_bitCount_0f7a4_7, dJ6_bitCount_0f7a4_8, dJ6_bitCount_0f7a4_9, dJ6_bitCount_0f7a4_10, dJ6_bitCount_0f7a4_11, dJ6_bitCount_0f7a4_14, dJ6_bitCount_0f7a4_15, dJ6_bitCount_0f7a4_16, dJ6_bitCount_0f7a4_17, dJ6_bitCount_0f7a4_18, dJ6_bitCount_0f7a4_21, dJ6_bitCount_0f7a4_22, dJ6_bitCount_0f7a4_23, dJ6_bitCount_0f7a4_24, dJ6_bitCount_0f7a4_25, dJ6_bitCount_0f7a4_26, dJ6_bitCount_0f7a4_27, dJ6_bitCount_0f7a4_28, dJ6_bitCount_0f7a4_29, dJ6_bitCount_0f7a4_32, dJ6_bitCount_0f7a4_33, dJ6_bitCount_0f7a4_34, dJ6_bitCount_0f7a4_35, dJ6_bitCount_0f7a4_36, dJ6_bitCount_0f7a4_38, dJ6_bitCount_0f7a4_39, dJ6_bitCount_0f7a4_40, dJ6_bitCount_0f7a4_41, dJ6_bitCount_0f7a4_42, dJ6_bitCount_0f7a4_43, dJ6_bitCount_0f7a4_45, dJ6_bitCount_0f7a4_46, dJ6_bitCount_0f7a4_47, dJ6_bitCount_0f7a4_48, dJ6_bitCount_0f7a4_49, dJ6_bitCount_0f7a4_51, dJ6_bitCount_0f7a4_52, xJ6_bitCount_0f7a4_SH, xJ6_bitCount_0f7a4_KF, xJ6_bitCount_0f7a4_rt, xJ6_bitCount_0f7a4_FT, xJ6_bitCount_0f7a4_PT, xJ6_bitCount_0f7a4_CT, xJ6_bitCount_0f7a4_KT, xJ6_bitCount_0f7a4_LT, xJ6_bitCount_0f7a4_NT, o_bipush, o_iadd, o_iand, o_iconst, o_iload_n, o_ireturn, o_istore_n, o_isub, o_iushr, o_ldc_w, am_ty, am_vc, am_opt, am_cl, am_find, am_ldi, am_ldl, am_lda, am_v, am_1, am_1l, am_1a, am_2, am_2l, am_ix, am_ri, am_arr, am_pf, am_rc, am_mask, am_lg, am_av, am_nat, fv_0, fv_1, fv_2, fv_3, fw_0, fw_1, List.getElem?_cons_zero, List.getElem?_cons_succ, List.set_cons_zero, List.set_cons_succ, List.length_cons, List.length_nil, List.take_succ_cons, List.take_zero, List.drop_succ_cons, List.drop_zero, List.reverse_cons, List.reverse_nil, List.nil_append, List.cons_append, List.append_nil, List.map_cons, List.map_nil, List.sum_cons, List.sum_nil, Value.category, Option.toList_some, Option.toList_none, Nat.reduceAdd, Nat.reduceLT, Nat.reduceLeDiff, Nat.reduceEqDiff, Nat.reduceSub, Nat.add_zero, Nat.le_refl, Nat.zero_le, Int.reduceNeg, Int.reduceLE, Int.reduceLT, true_and, and_true, and_self, if_true, if_false, ite_true, ite_false, eq_self_iff_true, reduceIte, reduceCtorEq, not_false_eq_true, not_true_eq_false, or_true, true_or, or_false, false_or, Nat.lt_irrefl, Nat.zero_lt_succ]
    exact k
  have at10 : ∀ y : Int32, post (some (.int (jb5 (jb4 (jb3 (jb2 y))) &&& Int32.ofInt 63))) σ → AA 10 [some (.int y)] [] 92 σ := fun y k => by
    have k := at24 _ k
    refine hA [(24, 1)] 14 _ _ _ _ _ ?_
    try simp only [dJ6_bitCount_0f7a4_0, dJ6_bitCount_0f7a4_1, dJ6_bitCount_0f7a4_2, dJ6_bitCount_0f7a4_3, dJ6_bitCount_0f7a4_4, KT_J6, dJ6_bitCount_0f7a4_7, dJ6_bitCount_0f7a4_8, dJ6_bitCount_0f7a4_9, dJ6_bitCount_0f7a4_10, dJ6_bitCount_0f7a4_11, dJ6_bitCount_0f7a4_14, dJ6_bitCount_0f7a4_15, dJ6_bitCount_0f7a4_16, dJ6_bitCount_0f7a4_17, dJ6_bitCount_0f7a4_18, dJ6_bitCount_0f7a4_21, dJ6_bitCount_0f7a4_22, dJ6_bitCount_0f7a4_23, dJ6_bitCount_0f7a4_24, dJ6_bitCount_0f7a4_25, dJ6_bitCount_0f7a4_26, dJ6_bitCount_0f7a4_27, dJ6_bitCount_0f7a4_28, dJ6_bitCount_0f7a4_29, dJ6_bitCount_0f7a4_32, dJ6_bitCount_0f7a4_33, dJ6_bitCount_0f7a4_34, dJ6_bitCount_0f7a4_35, dJ6_bitCount_0f7a4_36, dJ6_bitCount_0f7a4_38, dJ6_bitCount_0f7a4_39, dJ6_bitCount_0f7a4_40, dJ6_bitCount_0f7a4_41, dJ6_bitCount_0f7a4_42, dJ6_bitCount_0f7a4_43, dJ6_bitCount_0f7a4_45, dJ6_bitCount_0f7a4_46, dJ6_bitCount_0f7a4_47, dJ6_bitCount_0f7a4_48, dJ6_bitCount_0f7a4_49, dJ6_bitCount_0f7a4_51, dJ6_bitCount_0f7a4_52, xJ6_bitCount_0f7a4_SH, xJ6_bitCount_0f7a4_KF, xJ6_bitCount_0f7a4_rt, xJ6_bitCount_0f7a4_FT, xJ6_bitCount_0f7a4_PT, xJ6_bitCount_0f7a4_CT, xJ6_bitCount_0f7a4_KT, xJ6_bitCount_0f7a4_LT, xJ6_bitCount_0f7a4_NT, o_bipush, o_iadd, o_iand, o_iconst, o_iload_n, o_ireturn, o_istore_n, o_isub, o_iushr, o_ldc_w, am_ty, am_vc, am_opt, am_cl, am_find, am_ldi, am_ldl, am_lda, am_v, am_1, am_1l, am_1a, am_2, am_2l, am_ix, am_ri, am_arr, am_pf, am_rc, am_mask, am_lg, am_av, am_nat, fv_0, fv_1, fv_2, fv_3, fw_0, fw_1, List.getElem?_cons_zero, List.getElem?_cons_succ, List.set_cons_zero, List.set_cons_succ, List.length_cons, List.length_nil, List.take_succ_cons, List.take_zero, List.drop_succ_cons, List.drop_zero, List.reverse_cons, List.reverse_nil, List.nil_append, List.cons_append, List.append_nil, List.map_cons, List.map_nil, List.sum_cons, List.sum_nil, Value.category, Option.toList_some, Option.toList_none, Nat.reduceAdd, Nat.reduceLT, Nat.reduceLeDiff, Nat.reduceEqDiff, Nat.reduceSub, Nat.add_zero, Nat.le_refl, Nat.zero_le, Int.reduceNeg, Int.reduceLE, Int.reduceLT, true_and, and_true, and_self, if_true, if_false, ite_true, ite_false, eq_self_iff_true, reduceIte, reduceCtorEq, not_false_eq_true, not_true_eq_false, or_true, true_or, or_false, false_or, Nat.lt_irrefl, Nat.zero_lt_succ]
    exact k
  have k := at10 _ h
  refine hA [(10, 1)] 12 _ _ _ _ _ ?_
  try simp only [dJ6_bitCount_0f7a4_0, dJ6_bitCount_0f7a4_1, dJ6_bitCount_0f7a4_2, dJ6_bitCount_0f7a4_3, dJ6_bitCount_0f7a4_4, KT_J6, dJ6_bitCount_0f7a4_7, dJ6_bitCount_0f7a4_8, dJ6_bitCount_0f7a4_9, dJ6_bitCount_0f7a4_10, dJ6_bitCount_0f7a4_11, dJ6_bitCount_0f7a4_14, dJ6_bitCount_0f7a4_15, dJ6_bitCount_0f7a4_16, dJ6_bitCount_0f7a4_17, dJ6_bitCount_0f7a4_18, dJ6_bitCount_0f7a4_21, dJ6_bitCount_0f7a4_22, dJ6_bitCount_0f7a4_23, dJ6_bitCount_0f7a4_24, dJ6_bitCount_0f7a4_25, dJ6_bitCount_0f7a4_26, dJ6_bitCount_0f7a4_27, dJ6_bitCount_0f7a4_28, dJ6_bitCount_0f7a4_29, dJ6_bitCount_0f7a4_32, dJ6_bitCount_0f7a4_33, dJ6_bitCount_0f7a4_34, dJ6_bitCount_0f7a4_35, dJ6_bitCount_0f7a4_36, dJ6_bitCount_0f7a4_38, dJ6_bitCount_0f7a4_39, dJ6_bitCount_0f7a4_40, dJ6_bitCount_0f7a4_41, dJ6_bitCount_0f7a4_42, dJ6_bitCount_0f7a4_43, dJ6_bitCount_0f7a4_45, dJ6_bitCount_0f7a4_46, dJ6_bitCount_0f7a4_47, dJ6_bitCount_0f7a4_48, dJ6_bitCount_0f7a4_49, dJ6_bitCount_0f7a4_51, dJ6_bitCount_0f7a4_52, xJ6_bitCount_0f7a4_SH, xJ6_bitCount_0f7a4_KF, xJ6_bitCount_0f7a4_rt, xJ6_bitCount_0f7a4_FT, xJ6_bitCount_0f7a4_PT, xJ6_bitCount_0f7a4_CT, xJ6_bitCount_0f7a4_KT, xJ6_bitCount_0f7a4_LT, xJ6_bitCount_0f7a4_NT, o_bipush, o_iadd, o_iand, o_iconst, o_iload_n, o_ireturn, o_istore_n, o_isub, o_iushr, o_ldc_w, am_ty, am_vc, am_opt, am_cl, am_find, am_ldi, am_ldl, am_lda, am_v, am_1, am_1l, am_1a, am_2, am_2l, am_ix, am_ri, am_arr, am_pf, am_rc, am_mask, am_lg, am_av, am_nat, fv_0, fv_1, fv_2, fv_3, fw_0, fw_1, List.getElem?_cons_zero, List.getElem?_cons_succ, List.set_cons_zero, List.set_cons_succ, List.length_cons, List.length_nil, List.take_succ_cons, List.take_zero, List.drop_succ_cons, List.drop_zero, List.reverse_cons, List.reverse_nil, List.nil_append, List.cons_append, List.append_nil, List.map_cons, List.map_nil, List.sum_cons, List.sum_nil, Value.category, Option.toList_some, Option.toList_none, Nat.reduceAdd, Nat.reduceLT, Nat.reduceLeDiff, Nat.reduceEqDiff, Nat.reduceSub, Nat.add_zero, Nat.le_refl, Nat.zero_le, Int.reduceNeg, Int.reduceLE, Int.reduceLT, true_and, and_true, and_self, if_true, if_false, ite_true, ite_false, eq_self_iff_true, reduceIte, reduceCtorEq, not_false_eq_true, not_true_eq_false, or_true, true_or, or_false, false_or, Nat.lt_irrefl, Nat.zero_lt_succ]
  exact k
theorem mJ6_bitCount_0f7a4 (l : Launch) : am_M l TB NB vwCl SH KF yJ6_bitCount_0f7a4 cJ6_bitCount_0f7a4 1 (some .int) 2 0 0 sJ6_bitCount_0f7a4 := by
  refine am_M.of xJ6_bitCount_0f7a4 (by decide +kernel) TB_good GF rfl rfl rfl (by decide) ⟨FT_J6_ok, PT_J6_ok _, CT_J6_ok, KT_J6_ok, LT_J6_ok, NT_J6_ok, ?_⟩ pJ6_bitCount_0f7a4
  exact fun _ h => absurd h List.not_mem_nil

def sX12_bitsM : am_Sp := fun as n σ post => n = 92 ∧ ∃ x : Int32, as = [.int x] ∧ post (some (.int (Int32.ofInt ((cnN (bitAt x) 12 : Nat) : Int)))) σ
def xX12_bitsM : am_X := (SH, KF, (some .int), FT_X12, PT_X12, CT_X12, KT_X12, LT_X12, NT_X12, [])
theorem xX12_bitsM_SH : am_SH xX12_bitsM = SH := rfl
theorem xX12_bitsM_KF : am_KF xX12_bitsM = KF := rfl
theorem xX12_bitsM_rt : am_rt xX12_bitsM = (some .int) := rfl
theorem xX12_bitsM_FT : am_FT xX12_bitsM = FT_X12 := rfl
theorem xX12_bitsM_PT : am_PT xX12_bitsM = PT_X12 := rfl
theorem xX12_bitsM_CT : am_CT xX12_bitsM = CT_X12 := rfl
theorem xX12_bitsM_KT : am_KT xX12_bitsM = KT_X12 := rfl
theorem xX12_bitsM_LT : am_LT xX12_bitsM = LT_X12 := rfl
theorem xX12_bitsM_NT : am_NT xX12_bitsM = NT_X12 := rfl
theorem xX12_bitsM_t7 (k : Nat → Prop) : am_tg 7 (17) k = k 24 := am_tg_eq (by decide)
theorem xX12_bitsM_t21 (k : Nat → Prop) : am_tg 21 (-17) k = k 4 := am_tg_eq (by decide)

set_option maxRecDepth 100000 in
theorem bi_loop {post : Option Value → am_S → Prop} {AA : Nat → List (Option Value) → List Value → Nat → am_S → Prop} (hA : ∀ cuts f pc ls stk n τ, am_vc cX12_bits xX12_bitsM (92 + 0) post AA cuts f pc ls stk n τ → AA pc ls stk n τ) {x : Int32} {σ : am_S} (h : post (some (.int (Int32.ofInt ((cnN (bitAt x) 12 : Nat) : Int)))) σ) : ∀ k : Nat, k ≤ 12 → AA 4 [some (.int x), some (.int (Int32.ofInt ((cnN (bitAt x) k : Nat) : Int))), some (.int (Int32.ofInt (k : Int)))] [] 92 σ := by
  refine am_up 12 fun k hk ih => ?_
  have hy := cnN_le (f := bitAt x) k
  have es := cnN_s (f := bitAt x) (k := k)
  have fin : k = 12 → post (some (.int (Int32.ofInt ((cnN (bitAt x) k : Nat) : Int)))) σ := fun q => by rw [q]; exact h
  have at10 : k < 12 → AA 10 [some (.int x), some (.int (Int32.ofInt ((cnN (bitAt x) k : Nat) : Int))), some (.int (Int32.ofInt (k : Int)))] [] 92 σ := fun q => by
    have ih := ih q
    rw [es] at ih
    generalize cnN (bitAt x) k = c at ih hy ⊢
    have at18 : AA 18 [some (.int x), some (.int (Int32.ofInt ((if bitAt x k = true then c + 1 else c : Nat) : Int))), some (.int (Int32.ofInt (k : Int)))] [] 92 σ := by
      refine hA [(4, 3)] 6 _ _ _ _ _ ?_
      try simp only [dX12_bits_0, dX12_bits_1, dX12_bits_2, dX12_bits_3, dX12_bits_4, dX12_bits_5, dX12_bits_7, xX12_bitsM_t7, dX12_bits_10, dX12_bits_11, dX12_bits_12, dX12_bits_13, dX12_bits_14, dX12_bits_15, dX12_bits_16, dX12_bits_17, dX12_bits_18, dX12_bits_21, xX12_bitsM_t21, dX12_bits_24, dX12_bits_25, xX12_bitsM_SH, xX12_bitsM_KF, xX12_bitsM_rt, xX12_bitsM_FT, xX12_bitsM_PT, xX12_bitsM_CT, xX12_bitsM_KT, xX12_bitsM_LT, xX12_bitsM_NT, o_bipush, o_goto, o_iadd, o_iand, o_iconst, o_if_icmp_ge, o_iinc, o_iload_n, o_ireturn, o_ishr, o_istore_n, am_ty, am_vc, am_opt, am_cl, am_find, am_ldi, am_ldl, am_lda, am_v, am_1, am_1l, am_1a, am_2, am_2l, am_ix, am_ri, am_arr, am_pf, am_rc, am_mask, am_lg, am_av, am_nat, fv_0, fv_1, fv_2, fv_3, fw_0, fw_1, List.getElem?_cons_zero, List.getElem?_cons_succ, List.set_cons_zero, List.set_cons_succ, List.length_cons, List.length_nil, List.take_succ_cons, List.take_zero, List.drop_succ_cons, List.drop_zero, List.reverse_cons, List.reverse_nil, List.nil_append, List.cons_append, List.append_nil, List.map_cons, List.map_nil, List.sum_cons, List.sum_nil, Value.category, Option.toList_some, Option.toList_none, Nat.reduceAdd, Nat.reduceLT, Nat.reduceLeDiff, Nat.reduceEqDiff, Nat.reduceSub, Nat.add_zero, Nat.le_refl, Nat.zero_le, Int.reduceNeg, Int.reduceLE, Int.reduceLT, true_and, and_true, and_self, if_true, if_false, ite_true, ite_false, eq_self_iff_true, reduceIte, reduceCtorEq, not_false_eq_true, not_true_eq_false, or_true, true_or, or_false, false_or, Nat.lt_irrefl, Nat.zero_lt_succ]
      try simp (disch := omega) only [ii_0, ii_1, ii_t, ii_add, ii_sub, ii_mul, ii_lt, ii_le, ii_eq, ij_in, ii_c, Int.toNat_natCast, Int.toNat_zero, Int.reduceToNat, Int.reduceEq, Int.reduceNe, Int.reduceLE, Int.reduceLT, Int.reduceAdd, Int.reduceSub, Int.reduceMul, Int.reduceNeg, Nat.reduceLT, Nat.reduceAdd, Nat.reduceMul, not_false_eq_true, not_true_eq_false, true_and, and_true, and_self, false_and, and_false, true_implies, false_implies, implies_true, forall_const, if_true, if_false, ite_true, ite_false, reduceIte, eq_self_iff_true, Int.natCast_nonneg, Int.zero_add, Int.add_zero, pi_s, pi_n, ik_s]
      exact ih
    refine hA [(18, 3)] 12 _ _ _ _ _ ?_
    try simp only [dX12_bits_0, dX12_bits_1, dX12_bits_2, dX12_bits_3, dX12_bits_4, dX12_bits_5, dX12_bits_7, xX12_bitsM_t7, dX12_bits_10, dX12_bits_11, dX12_bits_12, dX12_bits_13, dX12_bits_14, dX12_bits_15, dX12_bits_16, dX12_bits_17, dX12_bits_18, dX12_bits_21, xX12_bitsM_t21, dX12_bits_24, dX12_bits_25, xX12_bitsM_SH, xX12_bitsM_KF, xX12_bitsM_rt, xX12_bitsM_FT, xX12_bitsM_PT, xX12_bitsM_CT, xX12_bitsM_KT, xX12_bitsM_LT, xX12_bitsM_NT, o_bipush, o_goto, o_iadd, o_iand, o_iconst, o_if_icmp_ge, o_iinc, o_iload_n, o_ireturn, o_ishr, o_istore_n, am_ty, am_vc, am_opt, am_cl, am_find, am_ldi, am_ldl, am_lda, am_v, am_1, am_1l, am_1a, am_2, am_2l, am_ix, am_ri, am_arr, am_pf, am_rc, am_mask, am_lg, am_av, am_nat, fv_0, fv_1, fv_2, fv_3, fw_0, fw_1, List.getElem?_cons_zero, List.getElem?_cons_succ, List.set_cons_zero, List.set_cons_succ, List.length_cons, List.length_nil, List.take_succ_cons, List.take_zero, List.drop_succ_cons, List.drop_zero, List.reverse_cons, List.reverse_nil, List.nil_append, List.cons_append, List.append_nil, List.map_cons, List.map_nil, List.sum_cons, List.sum_nil, Value.category, Option.toList_some, Option.toList_none, Nat.reduceAdd, Nat.reduceLT, Nat.reduceLeDiff, Nat.reduceEqDiff, Nat.reduceSub, Nat.add_zero, Nat.le_refl, Nat.zero_le, Int.reduceNeg, Int.reduceLE, Int.reduceLT, true_and, and_true, and_self, if_true, if_false, ite_true, ite_false, eq_self_iff_true, reduceIte, reduceCtorEq, not_false_eq_true, not_true_eq_false, or_true, true_or, or_false, false_or, Nat.lt_irrefl, Nat.zero_lt_succ]
    rw [bt_s x (show k < 32 by omega)]
    by_cases w : bitAt x k = true
    · rw [if_pos w, show ((c + 1 : Nat) : Int) = (c : Int) + 1 by omega] at at18
      rw [if_pos w]
      try simp (disch := omega) only [ii_0, ii_1, ii_t, ii_add, ii_sub, ii_mul, ii_lt, ii_le, ii_eq, ij_in, ii_c, Int.toNat_natCast, Int.toNat_zero, Int.reduceToNat, Int.reduceEq, Int.reduceNe, Int.reduceLE, Int.reduceLT, Int.reduceAdd, Int.reduceSub, Int.reduceMul, Int.reduceNeg, Nat.reduceLT, Nat.reduceAdd, Nat.reduceMul, not_false_eq_true, not_true_eq_false, true_and, and_true, and_self, false_and, and_false, true_implies, false_implies, implies_true, forall_const, if_true, if_false, ite_true, ite_false, reduceIte, eq_self_iff_true, Int.natCast_nonneg, Int.zero_add, Int.add_zero, pi_s, pi_n]
      exact at18
    · rw [if_neg w] at at18
      rw [if_neg w]
      simp (disch := omega) only [ii_add, Int.add_zero]
      exact at18
  refine hA [(10, 3)] 8 _ _ _ _ _ ?_
  try simp only [dX12_bits_0, dX12_bits_1, dX12_bits_2, dX12_bits_3, dX12_bits_4, dX12_bits_5, dX12_bits_7, xX12_bitsM_t7, dX12_bits_10, dX12_bits_11, dX12_bits_12, dX12_bits_13, dX12_bits_14, dX12_bits_15, dX12_bits_16, dX12_bits_17, dX12_bits_18, dX12_bits_21, xX12_bitsM_t21, dX12_bits_24, dX12_bits_25, xX12_bitsM_SH, xX12_bitsM_KF, xX12_bitsM_rt, xX12_bitsM_FT, xX12_bitsM_PT, xX12_bitsM_CT, xX12_bitsM_KT, xX12_bitsM_LT, xX12_bitsM_NT, o_bipush, o_goto, o_iadd, o_iand, o_iconst, o_if_icmp_ge, o_iinc, o_iload_n, o_ireturn, o_ishr, o_istore_n, am_ty, am_vc, am_opt, am_cl, am_find, am_ldi, am_ldl, am_lda, am_v, am_1, am_1l, am_1a, am_2, am_2l, am_ix, am_ri, am_arr, am_pf, am_rc, am_mask, am_lg, am_av, am_nat, fv_0, fv_1, fv_2, fv_3, fw_0, fw_1, List.getElem?_cons_zero, List.getElem?_cons_succ, List.set_cons_zero, List.set_cons_succ, List.length_cons, List.length_nil, List.take_succ_cons, List.take_zero, List.drop_succ_cons, List.drop_zero, List.reverse_cons, List.reverse_nil, List.nil_append, List.cons_append, List.append_nil, List.map_cons, List.map_nil, List.sum_cons, List.sum_nil, Value.category, Option.toList_some, Option.toList_none, Nat.reduceAdd, Nat.reduceLT, Nat.reduceLeDiff, Nat.reduceEqDiff, Nat.reduceSub, Nat.add_zero, Nat.le_refl, Nat.zero_le, Int.reduceNeg, Int.reduceLE, Int.reduceLT, true_and, and_true, and_self, if_true, if_false, ite_true, ite_false, eq_self_iff_true, reduceIte, reduceCtorEq, not_false_eq_true, not_true_eq_false, or_true, true_or, or_false, false_or, Nat.lt_irrefl, Nat.zero_lt_succ]
  try simp (disch := omega) only [ii_0, ii_1, ii_t, ii_add, ii_sub, ii_mul, ii_lt, ii_le, ii_eq, ij_in, ii_c, Int.toNat_natCast, Int.toNat_zero, Int.reduceToNat, Int.reduceEq, Int.reduceNe, Int.reduceLE, Int.reduceLT, Int.reduceAdd, Int.reduceSub, Int.reduceMul, Int.reduceNeg, Nat.reduceLT, Nat.reduceAdd, Nat.reduceMul, not_false_eq_true, not_true_eq_false, true_and, and_true, and_self, false_and, and_false, true_implies, false_implies, implies_true, forall_const, if_true, if_false, ite_true, ite_false, reduceIte, eq_self_iff_true, Int.natCast_nonneg, Int.zero_add, Int.add_zero, pi_s, pi_n]
  exact ⟨fun q => fin (by omega), fun q => at10 (by omega)⟩
set_option maxRecDepth 100000 in
theorem ptX12_bitsM : am_B cX12_bits xX12_bitsM 3 0 sX12_bitsM := by
  intro n0 as σ post AA hA h
  obtain ⟨rfl, x, rfl, h⟩ := h
  refine ⟨by simp [am_sl, Value.category], ?_⟩
  show AA 0 [some (.int x), none, none] [] 92 σ
  have k := bi_loop hA h 0 (Nat.zero_le _)
  refine hA [(4, 3)] 8 _ _ _ _ _ ?_
  try simp only [dX12_bits_0, dX12_bits_1, dX12_bits_2, dX12_bits_3, dX12_bits_4, dX12_bits_5, dX12_bits_7, xX12_bitsM_t7, dX12_bits_10, dX12_bits_11, dX12_bits_12, dX12_bits_13, dX12_bits_14, dX12_bits_15, dX12_bits_16, dX12_bits_17, dX12_bits_18, dX12_bits_21, xX12_bitsM_t21, dX12_bits_24, dX12_bits_25, xX12_bitsM_SH, xX12_bitsM_KF, xX12_bitsM_rt, xX12_bitsM_FT, xX12_bitsM_PT, xX12_bitsM_CT, xX12_bitsM_KT, xX12_bitsM_LT, xX12_bitsM_NT, o_bipush, o_goto, o_iadd, o_iand, o_iconst, o_if_icmp_ge, o_iinc, o_iload_n, o_ireturn, o_ishr, o_istore_n, am_ty, am_vc, am_opt, am_cl, am_find, am_ldi, am_ldl, am_lda, am_v, am_1, am_1l, am_1a, am_2, am_2l, am_ix, am_ri, am_arr, am_pf, am_rc, am_mask, am_lg, am_av, am_nat, fv_0, fv_1, fv_2, fv_3, fw_0, fw_1, List.getElem?_cons_zero, List.getElem?_cons_succ, List.set_cons_zero, List.set_cons_succ, List.length_cons, List.length_nil, List.take_succ_cons, List.take_zero, List.drop_succ_cons, List.drop_zero, List.reverse_cons, List.reverse_nil, List.nil_append, List.cons_append, List.append_nil, List.map_cons, List.map_nil, List.sum_cons, List.sum_nil, Value.category, Option.toList_some, Option.toList_none, Nat.reduceAdd, Nat.reduceLT, Nat.reduceLeDiff, Nat.reduceEqDiff, Nat.reduceSub, Nat.add_zero, Nat.le_refl, Nat.zero_le, Int.reduceNeg, Int.reduceLE, Int.reduceLT, true_and, and_true, and_self, if_true, if_false, ite_true, ite_false, eq_self_iff_true, reduceIte, reduceCtorEq, not_false_eq_true, not_true_eq_false, or_true, true_or, or_false, false_or, Nat.lt_irrefl, Nat.zero_lt_succ]
  exact k
theorem mX12_bitsM (l : Launch) : am_M l TB NB vwCl SH KF yX12_bits cX12_bits 3 (some .int) 2 0 0 sX12_bitsM := by
  refine am_M.of xX12_bitsM (by decide +kernel) TB_good GF rfl rfl rfl (by decide) ⟨FT_X12_ok, PT_X12_ok _, CT_X12_ok, KT_X12_ok, LT_X12_ok, NT_X12_ok, ?_⟩ ptX12_bitsM
  exact fun _ h => absurd h List.not_mem_nil

theorem cnN_cut {f : Nat → Bool} {n : Nat} : ∀ k, n ≤ k → (∀ j, n ≤ j → j < k → f j = false) → cnN f k = cnN f n
  | 0, h, _ => by rw [show n = 0 by omega]
  | k + 1, h, g => by
    by_cases q : n = k + 1
    · rw [q]
    · rw [cnN_s, if_neg (by rw [g k (by omega) (Nat.lt_succ_self k)]; decide)]
      exact cnN_cut k (by omega) (fun j a b => g j a (by omega))
theorem cnN_cg {f g : Nat → Bool} : ∀ k, (∀ j, j < k → f j = g j) → cnN f k = cnN g k
  | 0, _ => rfl
  | k + 1, h => by rw [cnN_s, cnN_s, h k (Nat.lt_succ_self k), cnN_cg k (fun j hj => h j (by omega))]
