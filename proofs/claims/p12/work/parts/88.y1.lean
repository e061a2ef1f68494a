/-! THE CLASS'S SENTENCES: numbers and names. Printed from wip/am/chk/hand/y1.in. -/
theorem dX5_readInt_0 : decode cX5_readInt 0 = .ok (.aload_n 0, 1) := dk_ok (by decide +kernel)
theorem dX5_readInt_1 : decode cX5_readInt 1 = .ok (.getfield 39, 3) := dk_ok (by decide +kernel)
theorem dX5_readInt_4 : decode cX5_readInt 4 = .ok (.l2i, 1) := dk_ok (by decide +kernel)
theorem dX5_readInt_5 : decode cX5_readInt 5 = .ok (.istore_n 3, 1) := dk_ok (by decide +kernel)
theorem dX5_readInt_6 : decode cX5_readInt 6 = .ok (.aload_n 0, 1) := dk_ok (by decide +kernel)
theorem dX5_readInt_7 : decode cX5_readInt 7 = .ok (.getfield 36, 3) := dk_ok (by decide +kernel)
theorem dX5_readInt_10 : decode cX5_readInt 10 = .ok (.istore 4, 2) := dk_ok (by decide +kernel)
theorem dX5_readInt_12 : decode cX5_readInt 12 = .ok (.aload_n 0, 1) := dk_ok (by decide +kernel)
theorem dX5_readInt_13 : decode cX5_readInt 13 = .ok (.iconst 3, 1) := dk_ok (by decide +kernel)
theorem dX5_readInt_14 : decode cX5_readInt 14 = .ok (.invokevirtual 85, 3) := dk_ok (by decide +kernel)
theorem dX5_readInt_17 : decode cX5_readInt 17 = .ok (.ifCond .ne 5, 3) := dk_ok (by decide +kernel)
theorem dX5_readInt_20 : decode cX5_readInt 20 = .ok (.iload_n 1, 1) := dk_ok (by decide +kernel)
theorem dX5_readInt_21 : decode cX5_readInt 21 = .ok (.ireturn, 1) := dk_ok (by decide +kernel)
theorem dX5_readInt_22 : decode cX5_readInt 22 = .ok (.iload_n 3, 1) := dk_ok (by decide +kernel)
theorem dX5_readInt_23 : decode cX5_readInt 23 = .ok (.iload_n 1, 1) := dk_ok (by decide +kernel)
theorem dX5_readInt_24 : decode cX5_readInt 24 = .ok (.if_icmp .lt 8, 3) := dk_ok (by decide +kernel)
theorem dX5_readInt_27 : decode cX5_readInt 27 = .ok (.iload_n 3, 1) := dk_ok (by decide +kernel)
theorem dX5_readInt_28 : decode cX5_readInt 28 = .ok (.iload_n 2, 1) := dk_ok (by decide +kernel)
theorem dX5_readInt_29 : decode cX5_readInt 29 = .ok (.if_icmp .le 12, 3) := dk_ok (by decide +kernel)
theorem dX5_readInt_32 : decode cX5_readInt 32 = .ok (.aload_n 0, 1) := dk_ok (by decide +kernel)
theorem dX5_readInt_33 : decode cX5_readInt 33 = .ok (.iconst 5, 1) := dk_ok (by decide +kernel)
theorem dX5_readInt_34 : decode cX5_readInt 34 = .ok (.iload 4, 2) := dk_ok (by decide +kernel)
theorem dX5_readInt_36 : decode cX5_readInt 36 = .ok (.invokevirtual 77, 3) := dk_ok (by decide +kernel)
theorem dX5_readInt_39 : decode cX5_readInt 39 = .ok (.iload_n 1, 1) := dk_ok (by decide +kernel)
theorem dX5_readInt_40 : decode cX5_readInt 40 = .ok (.ireturn, 1) := dk_ok (by decide +kernel)
theorem dX5_readInt_41 : decode cX5_readInt 41 = .ok (.iload_n 3, 1) := dk_ok (by decide +kernel)
theorem dX5_readInt_42 : decode cX5_readInt 42 = .ok (.ireturn, 1) := dk_ok (by decide +kernel)

/-- what it holds for wrongly told -/
def cU (σ : am_S) (u : UT) : Prop := σ.1 2 9 = Int32.ofInt u.1 ∧ σ.1 2 10 = Int32.ofInt u.2 ∧ (0 ≤ u.1 ∧ u.1 ≤ 9)
def cuM : sa_M := [(2, 9, 10 + 1)]
def riM : sa_M := rkM ++ cuM
theorem cU_sI {u : UT} {M : sa_M} {σ τ : am_S} (h : cU σ u) (g : sI BB SH M σ τ) (hM : M.all (fun m => decide (m.1 ≠ 2) || (decide (m.2.2 ≤ 9) || decide (10 < m.2.1))) = true) : cU τ u := by
  have e : ∀ k, 9 ≤ k → k ≤ 10 → τ.1 2 k = σ.1 2 k := fun k h1 h2 => (g.2 _ k (fun m hm hh => by
    have q := List.all_eq_true.mp hM m hm
    simp only [Bool.or_eq_true, decide_eq_true_eq] at q
    rcases q with q | q | q
    · exact q hh.1
    · omega
    · omega)).1
  exact ⟨by rw [e _ (by decide) (by decide)]; exact h.1, by rw [e _ (by decide) (by decide)]; exact h.2.1, h.2.2⟩
def sX5_noteE : am_Sp := fun as n σ post => n = 92 ∧ sb_ok BB SH σ ∧ ∃ (u : UT) (k p : Int), cU σ u ∧ (1 ≤ k ∧ k ≤ 9) ∧ as = [.ref 2, .int (Int32.ofInt k), .int (Int32.ofInt p)] ∧ ∀ τ, sI BB SH cuM σ τ → cU τ (nt u k p) → post none τ
def xX5_noteE : am_X := (SH, KF, none, FT_X5, PT_X5, CT_X5, KT_X5, LT_X5, NT_X5, [])
theorem xX5_noteE_SH : am_SH xX5_noteE = SH := rfl
theorem xX5_noteE_KF : am_KF xX5_noteE = KF := rfl
theorem xX5_noteE_rt : am_rt xX5_noteE = none := rfl
theorem xX5_noteE_FT : am_FT xX5_noteE = FT_X5 := rfl
theorem xX5_noteE_PT : am_PT xX5_noteE = PT_X5 := rfl
theorem xX5_noteE_CT : am_CT xX5_noteE = CT_X5 := rfl
theorem xX5_noteE_KT : am_KT xX5_noteE = KT_X5 := rfl
theorem xX5_noteE_LT : am_LT xX5_noteE = LT_X5 := rfl
theorem xX5_noteE_NT : am_NT xX5_noteE = NT_X5 := rfl
theorem xX5_noteE_t4 (k : Nat → Prop) : am_tg 4 (13) k = k 17 := am_tg_eq (by decide)

set_option maxRecDepth 100000 in
theorem ptX5_noteE : am_B cX5_note xX5_noteE 3 0 sX5_noteE := by
  intro n0 as σ post AA hA h
  obtain ⟨rfl, hB, u, k, p, ⟨u1, u2, u3⟩, hk, rfl, h⟩ := h
  obtain ⟨wv, ewv⟩ : ∃ wv, wv = u.1 := ⟨_, rfl⟩
  rw [← ewv] at u1 u3
  have x1 := ii_hi (Int32.ofInt k)
  have x2 := ii_hi (Int32.ofInt p)
  refine ⟨by simp [am_sl, Value.category], ?_⟩
  show AA 0 [some (.ref 2), some (.int (Int32.ofInt k)), some (.int (Int32.ofInt p))] [] 92 σ
  have i1 : sI BB SH cuM σ (am_pi σ 2 9 (Int32.ofInt k)) := sI_fld (ci := 5) ⟨hB, sb_fr_r _ _⟩ rfl ⟨ii_lo _, by show _ ≤ (2147483647 : Int); omega⟩ ⟨_, List.mem_cons_self, rfl, by decide, by decide⟩
  have i2 := sI_fld (o := 2) (k := 10) (x := Int32.ofInt p) (ci := 5) i1 rfl ⟨ii_lo _, by show _ ≤ (2147483647 : Int); omega⟩ ⟨_, List.mem_cons_self, rfl, by decide, by decide⟩
  refine hA [] 20 _ _ _ _ _ ?_
  try simp only [dX5_note_0, dX5_note_1, FT_X5_49, dX5_note_4, xX5_noteE_t4, dX5_note_7, dX5_note_8, dX5_note_9, PT_X5_49, dX5_note_12, dX5_note_13, dX5_note_14, PT_X5_52, dX5_note_17, xX5_noteE_SH, xX5_noteE_KF, xX5_noteE_rt, xX5_noteE_FT, xX5_noteE_PT, xX5_noteE_CT, xX5_noteE_KT, xX5_noteE_LT, xX5_noteE_NT, o_aload_n, o_getfield, o_ifCond_ne, o_iload_n, o_putfield, o_return_, SH_2, KF_2_10, KF_2_9, am_ty, am_vc, am_opt, am_cl, am_find, am_ldi, am_ldl, am_lda, am_v, am_1, am_1l, am_1a, am_2, am_2l, am_ix, am_ri, am_arr, am_pf, am_rc, am_mask, am_lg, am_av, am_nat, fv_0, fv_1, fv_2, fv_3, fw_0, fw_1, List.getElem?_cons_zero, List.getElem?_cons_succ, List.set_cons_zero, List.set_cons_succ, List.length_cons, List.length_nil, List.take_succ_cons, List.take_zero, List.drop_succ_cons, List.drop_zero, List.reverse_cons, List.reverse_nil, List.nil_append, List.cons_append, List.append_nil, List.map_cons, List.map_nil, List.sum_cons, List.sum_nil, Value.category, Option.toList_some, Option.toList_none, Nat.reduceAdd, Nat.reduceLT, Nat.reduceLeDiff, Nat.reduceEqDiff, Nat.reduceSub, Nat.add_zero, Nat.le_refl, Nat.zero_le, Int.reduceNeg, Int.reduceLE, Int.reduceLT, true_and, and_true, and_self, if_true, if_false, ite_true, ite_false, eq_self_iff_true, reduceIte, reduceCtorEq, not_false_eq_true, not_true_eq_false, or_true, true_or, or_false, false_or, Nat.lt_irrefl, Nat.zero_lt_succ, u1]
  try simp (disch := omega) only [ii_0, ii_1, ii_t, ii_add, ii_sub, ii_mul, ii_lt, ii_le, ii_eq, ij_in, ii_c, Int.toNat_natCast, Int.toNat_zero, Int.reduceToNat, Int.reduceEq, Int.reduceNe, Int.reduceLE, Int.reduceLT, Int.reduceAdd, Int.reduceSub, Int.reduceMul, Int.reduceNeg, Nat.reduceLT, Nat.reduceAdd, Nat.reduceMul, not_false_eq_true, not_true_eq_false, true_and, and_true, and_self, false_and, and_false, true_implies, false_implies, implies_true, forall_const, if_true, if_false, ite_true, ite_false, reduceIte, eq_self_iff_true, Int.natCast_nonneg, Int.zero_add, Int.add_zero, pi_s, pi_n, on_2000, on_402, on_408, on_19, on_5, on_4, u1]
  refine ⟨fun q => h σ ⟨hB, sb_fr_r _ _⟩ ?_, fun q => h _ i2 ?_⟩
  · unfold nt
    rw [if_neg (by omega)]
    exact ⟨by rw [← ewv]; exact u1, u2, by rw [← ewv]; exact u3⟩
  · unfold nt
    rw [if_pos (by omega)]
    exact ⟨by rw [pi_n _ _ _ _ (fun z => absurd z.2 (by decide)), pi_s], by rw [pi_s], by show 0 ≤ k; omega, by show k ≤ 9; omega⟩
theorem mX5_noteE (l : Launch) : am_M l TB NB vwCl SH KF yX5_note cX5_note 3 none 2 0 0 sX5_noteE := by
  refine am_M.of xX5_noteE (by decide +kernel) TB_good GF rfl rfl rfl (by decide) ⟨FT_X5_ok, PT_X5_ok _, CT_X5_ok, KT_X5_ok, LT_X5_ok, NT_X5_ok, ?_⟩ ptX5_noteE
  exact fun _ h => absurd h List.not_mem_nil

def sX5_readIntE : am_Sp := fun as n σ post => n = 92 ∧ sb_ok BB SH σ ∧ ∃ (b : Nat → Int) (Z : Nat) (s : ST) (u : UT) (x y : Int), cST b Z σ s ∧ cU σ u ∧ (0 ≤ x ∧ x ≤ y ∧ y ≤ 9999) ∧ as = [.ref 2, .int (Int32.ofInt x), .int (Int32.ofInt y)] ∧ ∀ τ, sI BB SH riM σ τ → cST b Z τ (spQ b Z x y s u).1 → cU τ (spQ b Z x y s u).2.1 → post (some (.int (Int32.ofInt (spQ b Z x y s u).2.2))) τ
def xX5_readIntE : am_X := (SH, KF, (some .int), FT_X5, PT_X5, CT_X5, KT_X5, LT_X5, NT_X5, [(77, 0, 3, 5, 0, 0, sX5_noteE), (85, 0, 2, 5, 0, 0, sX5_takeE)])
theorem xX5_readIntE_SH : am_SH xX5_readIntE = SH := rfl
theorem xX5_readIntE_KF : am_KF xX5_readIntE = KF := rfl
theorem xX5_readIntE_rt : am_rt xX5_readIntE = (some .int) := rfl
theorem xX5_readIntE_FT : am_FT xX5_readIntE = FT_X5 := rfl
theorem xX5_readIntE_PT : am_PT xX5_readIntE = PT_X5 := rfl
theorem xX5_readIntE_CT : am_CT xX5_readIntE = CT_X5 := rfl
theorem xX5_readIntE_KT : am_KT xX5_readIntE = KT_X5 := rfl
theorem xX5_readIntE_LT : am_LT xX5_readIntE = LT_X5 := rfl
theorem xX5_readIntE_NT : am_NT xX5_readIntE = NT_X5 := rfl
theorem xX5_readIntE_c77 : am_find (am_ML xX5_readIntE) 77 = some (0, 3, 5, 0, 0, sX5_noteE) := rfl
theorem xX5_readIntE_n77 : am_find NT_X5 77 = none := rfl
theorem xX5_readIntE_c85 : am_find (am_ML xX5_readIntE) 85 = some (0, 2, 5, 0, 0, sX5_takeE) := rfl
theorem xX5_readIntE_n85 : am_find NT_X5 85 = none := rfl
theorem xX5_readIntE_t17 (k : Nat → Prop) : am_tg 17 (5) k = k 22 := am_tg_eq (by decide)
theorem xX5_readIntE_t24 (k : Nat → Prop) : am_tg 24 (8) k = k 32 := am_tg_eq (by decide)
theorem xX5_readIntE_t29 (k : Nat → Prop) : am_tg 29 (12) k = k 41 := am_tg_eq (by decide)

set_option maxRecDepth 100000 in
theorem ptX5_readIntE : am_B cX5_readInt xX5_readIntE 5 0 sX5_readIntE := by
  intro n0 as σ post AA hA h
  obtain ⟨rfl, hB, b, Z, s, u, x, y, hs, hu, hxy, rfl, h⟩ := h
  refine ⟨by simp [am_sl, Value.category], ?_⟩
  show AA 0 [some (.ref 2), some (.int (Int32.ofInt x)), some (.int (Int32.ofInt y)), none, none] [] 92 σ
  refine hA [] 10 _ _ _ _ _ ?_
  try simp only [dX5_readInt_0, dX5_readInt_1, FT_X5_39, dX5_readInt_4, dX5_readInt_5, dX5_readInt_6, dX5_readInt_7, FT_X5_36, dX5_readInt_10, dX5_readInt_12, dX5_readInt_13, dX5_readInt_14, xX5_readIntE_c85, xX5_readIntE_n85, dX5_readInt_17, xX5_readIntE_t17, dX5_readInt_20, dX5_readInt_21, dX5_readInt_22, dX5_readInt_23, dX5_readInt_24, xX5_readIntE_t24, dX5_readInt_27, dX5_readInt_28, dX5_readInt_29, xX5_readIntE_t29, dX5_readInt_32, dX5_readInt_33, dX5_readInt_34, dX5_readInt_36, xX5_readIntE_c77, xX5_readIntE_n77, dX5_readInt_39, dX5_readInt_40, dX5_readInt_41, dX5_readInt_42, xX5_readIntE_SH, xX5_readIntE_KF, xX5_readIntE_rt, xX5_readIntE_FT, xX5_readIntE_PT, xX5_readIntE_CT, xX5_readIntE_KT, xX5_readIntE_LT, xX5_readIntE_NT, o_aload_n, o_getfield, o_iconst, o_ifCond_ne, o_if_icmp_le, o_if_icmp_lt, o_iload, o_iload_n, o_invokevirtual, o_ireturn, o_istore, o_istore_n, o_l2i, SH_2, KF_2_5, KF_2_6, am_ty, am_vc, am_opt, am_cl, am_find, am_ldi, am_ldl, am_lda, am_v, am_1, am_1l, am_1a, am_2, am_2l, am_ix, am_ri, am_arr, am_pf, am_rc, am_mask, am_lg, am_av, am_nat, fv_0, fv_1, fv_2, fv_3, fw_0, fw_1, List.getElem?_cons_zero, List.getElem?_cons_succ, List.set_cons_zero, List.set_cons_succ, List.length_cons, List.length_nil, List.take_succ_cons, List.take_zero, List.drop_succ_cons, List.drop_zero, List.reverse_cons, List.reverse_nil, List.nil_append, List.cons_append, List.append_nil, List.map_cons, List.map_nil, List.sum_cons, List.sum_nil, Value.category, Option.toList_some, Option.toList_none, Nat.reduceAdd, Nat.reduceLT, Nat.reduceLeDiff, Nat.reduceEqDiff, Nat.reduceSub, Nat.add_zero, Nat.le_refl, Nat.zero_le, Int.reduceNeg, Int.reduceLE, Int.reduceLT, true_and, and_true, and_self, if_true, if_false, ite_true, ite_false, eq_self_iff_true, reduceIte, reduceCtorEq, not_false_eq_true, not_true_eq_false, or_true, true_or, or_false, false_or, Nat.lt_irrefl, Nat.zero_lt_succ]
  refine ⟨rfl, hB, b, Z, s, 2, hs, ⟨⟨by decide, by decide⟩, by decide, by decide, by decide, by decide, by decide⟩, rfl, fun τ g1 g2 => ?_⟩
  have hu1 := cU_sI hu g1 (by decide)
  have hI := sI_m (M' := riM) g1 (fun m hm => List.mem_append_left _ hm)
  try simp only [dX5_readInt_0, dX5_readInt_1, FT_X5_39, dX5_readInt_4, dX5_readInt_5, dX5_readInt_6, dX5_readInt_7, FT_X5_36, dX5_readInt_10, dX5_readInt_12, dX5_readInt_13, dX5_readInt_14, xX5_readIntE_c85, xX5_readIntE_n85, dX5_readInt_17, xX5_readIntE_t17, dX5_readInt_20, dX5_readInt_21, dX5_readInt_22, dX5_readInt_23, dX5_readInt_24, xX5_readIntE_t24, dX5_readInt_27, dX5_readInt_28, dX5_readInt_29, xX5_readIntE_t29, dX5_readInt_32, dX5_readInt_33, dX5_readInt_34, dX5_readInt_36, xX5_readIntE_c77, xX5_readIntE_n77, dX5_readInt_39, dX5_readInt_40, dX5_readInt_41, dX5_readInt_42, xX5_readIntE_SH, xX5_readIntE_KF, xX5_readIntE_rt, xX5_readIntE_FT, xX5_readIntE_PT, xX5_readIntE_CT, xX5_readIntE_KT, xX5_readIntE_LT, xX5_readIntE_NT, o_aload_n, o_getfield, o_iconst, o_ifCond_ne, o_if_icmp_le, o_if_icmp_lt, o_iload, o_iload_n, o_invokevirtual, o_ireturn, o_istore, o_istore_n, o_l2i, SH_2, KF_2_5, KF_2_6, am_ty, am_vc, am_opt, am_cl, am_find, am_ldi, am_ldl, am_lda, am_v, am_1, am_1l, am_1a, am_2, am_2l, am_ix, am_ri, am_arr, am_pf, am_rc, am_mask, am_lg, am_av, am_nat, fv_0, fv_1, fv_2, fv_3, fw_0, fw_1, List.getElem?_cons_zero, List.getElem?_cons_succ, List.set_cons_zero, List.set_cons_succ, List.length_cons, List.length_nil, List.take_succ_cons, List.take_zero, List.drop_succ_cons, List.drop_zero, List.reverse_cons, List.reverse_nil, List.nil_append, List.cons_append, List.append_nil, List.map_cons, List.map_nil, List.sum_cons, List.sum_nil, Value.category, Option.toList_some, Option.toList_none, Nat.reduceAdd, Nat.reduceLT, Nat.reduceLeDiff, Nat.reduceEqDiff, Nat.reduceSub, Nat.add_zero, Nat.le_refl, Nat.zero_le, Int.reduceNeg, Int.reduceLE, Int.reduceLT, true_and, and_true, and_self, if_true, if_false, ite_true, ite_false, eq_self_iff_true, reduceIte, reduceCtorEq, not_false_eq_true, not_true_eq_false, or_true, true_or, or_false, false_or, Nat.lt_irrefl, Nat.zero_lt_succ]
  cases s with
  | inr q =>
    have hP := h τ hI g2 hu1
    show AA _ _ _ _ _
    refine hA [] 4 _ _ _ _ _ ?_
    simp only [stT, stB]
    try simp only [dX5_readInt_0, dX5_readInt_1, FT_X5_39, dX5_readInt_4, dX5_readInt_5, dX5_readInt_6, dX5_readInt_7, FT_X5_36, dX5_readInt_10, dX5_readInt_12, dX5_readInt_13, dX5_readInt_14, xX5_readIntE_c85, xX5_readIntE_n85, dX5_readInt_17, xX5_readIntE_t17, dX5_readInt_20, dX5_readInt_21, dX5_readInt_22, dX5_readInt_23, dX5_readInt_24, xX5_readIntE_t24, dX5_readInt_27, dX5_readInt_28, dX5_readInt_29, xX5_readIntE_t29, dX5_readInt_32, dX5_readInt_33, dX5_readInt_34, dX5_readInt_36, xX5_readIntE_c77, xX5_readIntE_n77, dX5_readInt_39, dX5_readInt_40, dX5_readInt_41, dX5_readInt_42, xX5_readIntE_SH, xX5_readIntE_KF, xX5_readIntE_rt, xX5_readIntE_FT, xX5_readIntE_PT, xX5_readIntE_CT, xX5_readIntE_KT, xX5_readIntE_LT, xX5_readIntE_NT, o_aload_n, o_getfield, o_iconst, o_ifCond_ne, o_if_icmp_le, o_if_icmp_lt, o_iload, o_iload_n, o_invokevirtual, o_ireturn, o_istore, o_istore_n, o_l2i, SH_2, KF_2_5, KF_2_6, am_ty, am_vc, am_opt, am_cl, am_find, am_ldi, am_ldl, am_lda, am_v, am_1, am_1l, am_1a, am_2, am_2l, am_ix, am_ri, am_arr, am_pf, am_rc, am_mask, am_lg, am_av, am_nat, fv_0, fv_1, fv_2, fv_3, fw_0, fw_1, List.getElem?_cons_zero, List.getElem?_cons_succ, List.set_cons_zero, List.set_cons_succ, List.length_cons, List.length_nil, List.take_succ_cons, List.take_zero, List.drop_succ_cons, List.drop_zero, List.reverse_cons, List.reverse_nil, List.nil_append, List.cons_append, List.append_nil, List.map_cons, List.map_nil, List.sum_cons, List.sum_nil, Value.category, Option.toList_some, Option.toList_none, Nat.reduceAdd, Nat.reduceLT, Nat.reduceLeDiff, Nat.reduceEqDiff, Nat.reduceSub, Nat.add_zero, Nat.le_refl, Nat.zero_le, Int.reduceNeg, Int.reduceLE, Int.reduceLT, true_and, and_true, and_self, if_true, if_false, ite_true, ite_false, eq_self_iff_true, reduceIte, reduceCtorEq, not_false_eq_true, not_true_eq_false, or_true, true_or, or_false, false_or, Nat.lt_irrefl, Nat.zero_lt_succ]
    try simp (disch := omega) only [ii_0, ii_1, ii_t, ii_add, ii_sub, ii_mul, ii_lt, ii_le, ii_eq, ij_in, ii_c, Int.toNat_natCast, Int.toNat_zero, Int.reduceToNat, Int.reduceEq, Int.reduceNe, Int.reduceLE, Int.reduceLT, Int.reduceAdd, Int.reduceSub, Int.reduceMul, Int.reduceNeg, Nat.reduceLT, Nat.reduceAdd, Nat.reduceMul, not_false_eq_true, not_true_eq_false, true_and, and_true, and_self, false_and, and_false, true_implies, false_implies, implies_true, forall_const, if_true, if_false, ite_true, ite_false, reduceIte, eq_self_iff_true, Int.natCast_nonneg, Int.zero_add, Int.add_zero, pi_s, pi_n, on_2000, on_402, on_408, on_19, on_5, on_4]
    exact hP
  | inl t =>
    obtain ⟨v, ⟨t1, t2⟩, e3, e4, e5, e6, e7, e8⟩ := hs
    by_cases k2 : tK b Z t = 2
    · by_cases q4 : t = 400
      · have est : stT b Z 2 (.inl t) = .inr (2, tP b Z t) := by show (if tK b Z t = 2 then _ else _) = _; rw [if_pos k2, if_pos q4]
        have esp : spQ b Z x y (.inl t) u = (.inr (2, tP b Z t), u, x) := by show (if tK b Z t = 2 then _ else _) = _; rw [if_pos k2, if_pos q4]
        rw [est] at g2
        rw [esp] at h
        have hP := h τ hI g2 hu1
        rw [est]
        refine hA [] 4 _ _ _ _ _ ?_
        simp only [stB]
        try simp only [dX5_readInt_0, dX5_readInt_1, FT_X5_39, dX5_readInt_4, dX5_readInt_5, dX5_readInt_6, dX5_readInt_7, FT_X5_36, dX5_readInt_10, dX5_readInt_12, dX5_readInt_13, dX5_readInt_14, xX5_readIntE_c85, xX5_readIntE_n85, dX5_readInt_17, xX5_readIntE_t17, dX5_readInt_20, dX5_readInt_21, dX5_readInt_22, dX5_readInt_23, dX5_readInt_24, xX5_readIntE_t24, dX5_readInt_27, dX5_readInt_28, dX5_readInt_29, xX5_readIntE_t29, dX5_readInt_32, dX5_readInt_33, dX5_readInt_34, dX5_readInt_36, xX5_readIntE_c77, xX5_readIntE_n77, dX5_readInt_39, dX5_readInt_40, dX5_readInt_41, dX5_readInt_42, xX5_readIntE_SH, xX5_readIntE_KF, xX5_readIntE_rt, xX5_readIntE_FT, xX5_readIntE_PT, xX5_readIntE_CT, xX5_readIntE_KT, xX5_readIntE_LT, xX5_readIntE_NT, o_aload_n, o_getfield, o_iconst, o_ifCond_ne, o_if_icmp_le, o_if_icmp_lt, o_iload, o_iload_n, o_invokevirtual, o_ireturn, o_istore, o_istore_n, o_l2i, SH_2, KF_2_5, KF_2_6, am_ty, am_vc, am_opt, am_cl, am_find, am_ldi, am_ldl, am_lda, am_v, am_1, am_1l, am_1a, am_2, am_2l, am_ix, am_ri, am_arr, am_pf, am_rc, am_mask, am_lg, am_av, am_nat, fv_0, fv_1, fv_2, fv_3, fw_0, fw_1, List.getElem?_cons_zero, List.getElem?_cons_succ, List.set_cons_zero, List.set_cons_succ, List.length_cons, List.length_nil, List.take_succ_cons, List.take_zero, List.drop_succ_cons, List.drop_zero, List.reverse_cons, List.reverse_nil, List.nil_append, List.cons_append, List.append_nil, List.map_cons, List.map_nil, List.sum_cons, List.sum_nil, Value.category, Option.toList_some, Option.toList_none, Nat.reduceAdd, Nat.reduceLT, Nat.reduceLeDiff, Nat.reduceEqDiff, Nat.reduceSub, Nat.add_zero, Nat.le_refl, Nat.zero_le, Int.reduceNeg, Int.reduceLE, Int.reduceLT, true_and, and_true, and_self, if_true, if_false, ite_true, ite_false, eq_self_iff_true, reduceIte, reduceCtorEq, not_false_eq_true, not_true_eq_false, or_true, true_or, or_false, false_or, Nat.lt_irrefl, Nat.zero_lt_succ]
        try simp (disch := omega) only [ii_0, ii_1, ii_t, ii_add, ii_sub, ii_mul, ii_lt, ii_le, ii_eq, ij_in, ii_c, Int.toNat_natCast, Int.toNat_zero, Int.reduceToNat, Int.reduceEq, Int.reduceNe, Int.reduceLE, Int.reduceLT, Int.reduceAdd, Int.reduceSub, Int.reduceMul, Int.reduceNeg, Nat.reduceLT, Nat.reduceAdd, Nat.reduceMul, not_false_eq_true, not_true_eq_false, true_and, and_true, and_self, false_and, and_false, true_implies, false_implies, implies_true, forall_const, if_true, if_false, ite_true, ite_false, reduceIte, eq_self_iff_true, Int.natCast_nonneg, Int.zero_add, Int.add_zero, pi_s, pi_n, on_2000, on_402, on_408, on_19, on_5, on_4]
        exact hP
      · have est : stT b Z 2 (.inl t) = .inl (t + 1) := by show (if tK b Z t = 2 then _ else _) = _; rw [if_pos k2, if_neg q4]
        have esp : spQ b Z x y (.inl t) u = (.inl (t + 1), (if tV b Z t < x ∨ y < tV b Z t then nt u 5 (tP b Z t) else u), (if tV b Z t < x ∨ y < tV b Z t then x else tV b Z t)) := by show (if tK b Z t = 2 then _ else _) = _; rw [if_pos k2, if_neg q4]
        rw [est] at g2
        rw [esp] at h
        have e6' := e6 k2
        have vb := tV_b k2
        rw [est]
        rw [e6', i64_32, e5]
        have at32 : (tV b Z t < x ∨ y < tV b Z t) → AA 32 [some (.ref 2), some (.int (Int32.ofInt x)), some (.int (Int32.ofInt y)), some (.int (Int32.ofInt (tV b Z t))), some (.int (Int32.ofInt (tP b Z t)))] [] 92 τ := by
          intro w
          rw [if_pos w, if_pos w] at h
          refine hA [] 4 _ _ _ _ _ ?_
          try simp only [dX5_readInt_0, dX5_readInt_1, FT_X5_39, dX5_readInt_4, dX5_readInt_5, dX5_readInt_6, dX5_readInt_7, FT_X5_36, dX5_readInt_10, dX5_readInt_12, dX5_readInt_13, dX5_readInt_14, xX5_readIntE_c85, xX5_readIntE_n85, dX5_readInt_17, xX5_readIntE_t17, dX5_readInt_20, dX5_readInt_21, dX5_readInt_22, dX5_readInt_23, dX5_readInt_24, xX5_readIntE_t24, dX5_readInt_27, dX5_readInt_28, dX5_readInt_29, xX5_readIntE_t29, dX5_readInt_32, dX5_readInt_33, dX5_readInt_34, dX5_readInt_36, xX5_readIntE_c77, xX5_readIntE_n77, dX5_readInt_39, dX5_readInt_40, dX5_readInt_41, dX5_readInt_42, xX5_readIntE_SH, xX5_readIntE_KF, xX5_readIntE_rt, xX5_readIntE_FT, xX5_readIntE_PT, xX5_readIntE_CT, xX5_readIntE_KT, xX5_readIntE_LT, xX5_readIntE_NT, o_aload_n, o_getfield, o_iconst, o_ifCond_ne, o_if_icmp_le, o_if_icmp_lt, o_iload, o_iload_n, o_invokevirtual, o_ireturn, o_istore, o_istore_n, o_l2i, SH_2, KF_2_5, KF_2_6, am_ty, am_vc, am_opt, am_cl, am_find, am_ldi, am_ldl, am_lda, am_v, am_1, am_1l, am_1a, am_2, am_2l, am_ix, am_ri, am_arr, am_pf, am_rc, am_mask, am_lg, am_av, am_nat, fv_0, fv_1, fv_2, fv_3, fw_0, fw_1, List.getElem?_cons_zero, List.getElem?_cons_succ, List.set_cons_zero, List.set_cons_succ, List.length_cons, List.length_nil, List.take_succ_cons, List.take_zero, List.drop_succ_cons, List.drop_zero, List.reverse_cons, List.reverse_nil, List.nil_append, List.cons_append, List.append_nil, List.map_cons, List.map_nil, List.sum_cons, List.sum_nil, Value.category, Option.toList_some, Option.toList_none, Nat.reduceAdd, Nat.reduceLT, Nat.reduceLeDiff, Nat.reduceEqDiff, Nat.reduceSub, Nat.add_zero, Nat.le_refl, Nat.zero_le, Int.reduceNeg, Int.reduceLE, Int.reduceLT, true_and, and_true, and_self, if_true, if_false, ite_true, ite_false, eq_self_iff_true, reduceIte, reduceCtorEq, not_false_eq_true, not_true_eq_false, or_true, true_or, or_false, false_or, Nat.lt_irrefl, Nat.zero_lt_succ]
          refine ⟨rfl, g1.1, u, 5, tP b Z t, hu1, ⟨by decide, by decide⟩, rfl, fun υ j1 j2 => ?_⟩
          have hP := h υ (sI_t hI (sI_m (M' := riM) j1 (fun m hm => List.mem_append_right _ hm))) (cST_sI g2 j1 (by decide) (by decide)) j2
          try simp only [dX5_readInt_0, dX5_readInt_1, FT_X5_39, dX5_readInt_4, dX5_readInt_5, dX5_readInt_6, dX5_readInt_7, FT_X5_36, dX5_readInt_10, dX5_readInt_12, dX5_readInt_13, dX5_readInt_14, xX5_readIntE_c85, xX5_readIntE_n85, dX5_readInt_17, xX5_readIntE_t17, dX5_readInt_20, dX5_readInt_21, dX5_readInt_22, dX5_readInt_23, dX5_readInt_24, xX5_readIntE_t24, dX5_readInt_27, dX5_readInt_28, dX5_readInt_29, xX5_readIntE_t29, dX5_readInt_32, dX5_readInt_33, dX5_readInt_34, dX5_readInt_36, xX5_readIntE_c77, xX5_readIntE_n77, dX5_readInt_39, dX5_readInt_40, dX5_readInt_41, dX5_readInt_42, xX5_readIntE_SH, xX5_readIntE_KF, xX5_readIntE_rt, xX5_readIntE_FT, xX5_readIntE_PT, xX5_readIntE_CT, xX5_readIntE_KT, xX5_readIntE_LT, xX5_readIntE_NT, o_aload_n, o_getfield, o_iconst, o_ifCond_ne, o_if_icmp_le, o_if_icmp_lt, o_iload, o_iload_n, o_invokevirtual, o_ireturn, o_istore, o_istore_n, o_l2i, SH_2, KF_2_5, KF_2_6, am_ty, am_vc, am_opt, am_cl, am_find, am_ldi, am_ldl, am_lda, am_v, am_1, am_1l, am_1a, am_2, am_2l, am_ix, am_ri, am_arr, am_pf, am_rc, am_mask, am_lg, am_av, am_nat, fv_0, fv_1, fv_2, fv_3, fw_0, fw_1, List.getElem?_cons_zero, List.getElem?_cons_succ, List.set_cons_zero, List.set_cons_succ, List.length_cons, List.length_nil, List.take_succ_cons, List.take_zero, List.drop_succ_cons, List.drop_zero, List.reverse_cons, List.reverse_nil, List.nil_append, List.cons_append, List.append_nil, List.map_cons, List.map_nil, List.sum_cons, List.sum_nil, Value.category, Option.toList_some, Option.toList_none, Nat.reduceAdd, Nat.reduceLT, Nat.reduceLeDiff, Nat.reduceEqDiff, Nat.reduceSub, Nat.add_zero, Nat.le_refl, Nat.zero_le, Int.reduceNeg, Int.reduceLE, Int.reduceLT, true_and, and_true, and_self, if_true, if_false, ite_true, ite_false, eq_self_iff_true, reduceIte, reduceCtorEq, not_false_eq_true, not_true_eq_false, or_true, true_or, or_false, false_or, Nat.lt_irrefl, Nat.zero_lt_succ]
          refine hA [] 2 _ _ _ _ _ ?_
          try simp only [dX5_readInt_0, dX5_readInt_1, FT_X5_39, dX5_readInt_4, dX5_readInt_5, dX5_readInt_6, dX5_readInt_7, FT_X5_36, dX5_readInt_10, dX5_readInt_12, dX5_readInt_13, dX5_readInt_14, xX5_readIntE_c85, xX5_readIntE_n85, dX5_readInt_17, xX5_readIntE_t17, dX5_readInt_20, dX5_readInt_21, dX5_readInt_22, dX5_readInt_23, dX5_readInt_24, xX5_readIntE_t24, dX5_readInt_27, dX5_readInt_28, dX5_readInt_29, xX5_readIntE_t29, dX5_readInt_32, dX5_readInt_33, dX5_readInt_34, dX5_readInt_36, xX5_readIntE_c77, xX5_readIntE_n77, dX5_readInt_39, dX5_readInt_40, dX5_readInt_41, dX5_readInt_42, xX5_readIntE_SH, xX5_readIntE_KF, xX5_readIntE_rt, xX5_readIntE_FT, xX5_readIntE_PT, xX5_readIntE_CT, xX5_readIntE_KT, xX5_readIntE_LT, xX5_readIntE_NT, o_aload_n, o_getfield, o_iconst, o_ifCond_ne, o_if_icmp_le, o_if_icmp_lt, o_iload, o_iload_n, o_invokevirtual, o_ireturn, o_istore, o_istore_n, o_l2i, SH_2, KF_2_5, KF_2_6, am_ty, am_vc, am_opt, am_cl, am_find, am_ldi, am_ldl, am_lda, am_v, am_1, am_1l, am_1a, am_2, am_2l, am_ix, am_ri, am_arr, am_pf, am_rc, am_mask, am_lg, am_av, am_nat, fv_0, fv_1, fv_2, fv_3, fw_0, fw_1, List.getElem?_cons_zero, List.getElem?_cons_succ, List.set_cons_zero, List.set_cons_succ, List.length_cons, List.length_nil, List.take_succ_cons, List.take_zero, List.drop_succ_cons, List.drop_zero, List.reverse_cons, List.reverse_nil, List.nil_append, List.cons_append, List.append_nil, List.map_cons, List.map_nil, List.sum_cons, List.sum_nil, Value.category, Option.toList_some, Option.toList_none, Nat.reduceAdd, Nat.reduceLT, Nat.reduceLeDiff, Nat.reduceEqDiff, Nat.reduceSub, Nat.add_zero, Nat.le_refl, Nat.zero_le, Int.reduceNeg, Int.reduceLE, Int.reduceLT, true_and, and_true, and_self, if_true, if_false, ite_true, ite_false, eq_self_iff_true, reduceIte, reduceCtorEq, not_false_eq_true, not_true_eq_false, or_true, true_or, or_false, false_or, Nat.lt_irrefl, Nat.zero_lt_succ]
          exact hP
        refine hA [(32, 5)] 12 _ _ _ _ _ ?_
        simp only [stB]
        try simp only [dX5_readInt_0, dX5_readInt_1, FT_X5_39, dX5_readInt_4, dX5_readInt_5, dX5_readInt_6, dX5_readInt_7, FT_X5_36, dX5_readInt_10, dX5_readInt_12, dX5_readInt_13, dX5_readInt_14, xX5_readIntE_c85, xX5_readIntE_n85, dX5_readInt_17, xX5_readIntE_t17, dX5_readInt_20, dX5_readInt_21, dX5_readInt_22, dX5_readInt_23, dX5_readInt_24, xX5_readIntE_t24, dX5_readInt_27, dX5_readInt_28, dX5_readInt_29, xX5_readIntE_t29, dX5_readInt_32, dX5_readInt_33, dX5_readInt_34, dX5_readInt_36, xX5_readIntE_c77, xX5_readIntE_n77, dX5_readInt_39, dX5_readInt_40, dX5_readInt_41, dX5_readInt_42, xX5_readIntE_SH, xX5_readIntE_KF, xX5_readIntE_rt, xX5_readIntE_FT, xX5_readIntE_PT, xX5_readIntE_CT, xX5_readIntE_KT, xX5_readIntE_LT, xX5_readIntE_NT, o_aload_n, o_getfield, o_iconst, o_ifCond_ne, o_if_icmp_le, o_if_icmp_lt, o_iload, o_iload_n, o_invokevirtual, o_ireturn, o_istore, o_istore_n, o_l2i, SH_2, KF_2_5, KF_2_6, am_ty, am_vc, am_opt, am_cl, am_find, am_ldi, am_ldl, am_lda, am_v, am_1, am_1l, am_1a, am_2, am_2l, am_ix, am_ri, am_arr, am_pf, am_rc, am_mask, am_lg, am_av, am_nat, fv_0, fv_1, fv_2, fv_3, fw_0, fw_1, List.getElem?_cons_zero, List.getElem?_cons_succ, List.set_cons_zero, List.set_cons_succ, List.length_cons, List.length_nil, List.take_succ_cons, List.take_zero, List.drop_succ_cons, List.drop_zero, List.reverse_cons, List.reverse_nil, List.nil_append, List.cons_append, List.append_nil, List.map_cons, List.map_nil, List.sum_cons, List.sum_nil, Value.category, Option.toList_some, Option.toList_none, Nat.reduceAdd, Nat.reduceLT, Nat.reduceLeDiff, Nat.reduceEqDiff, Nat.reduceSub, Nat.add_zero, Nat.le_refl, Nat.zero_le, Int.reduceNeg, Int.reduceLE, Int.reduceLT, true_and, and_true, and_self, if_true, if_false, ite_true, ite_false, eq_self_iff_true, reduceIte, reduceCtorEq, not_false_eq_true, not_true_eq_false, or_true, true_or, or_false, false_or, Nat.lt_irrefl, Nat.zero_lt_succ]
        try simp (disch := omega) only [ii_0, ii_1, ii_t, ii_add, ii_sub, ii_mul, ii_lt, ii_le, ii_eq, ij_in, ii_c, Int.toNat_natCast, Int.toNat_zero, Int.reduceToNat, Int.reduceEq, Int.reduceNe, Int.reduceLE, Int.reduceLT, Int.reduceAdd, Int.reduceSub, Int.reduceMul, Int.reduceNeg, Nat.reduceLT, Nat.reduceAdd, Nat.reduceMul, not_false_eq_true, not_true_eq_false, true_and, and_true, and_self, false_and, and_false, true_implies, false_implies, implies_true, forall_const, if_true, if_false, ite_true, ite_false, reduceIte, eq_self_iff_true, Int.natCast_nonneg, Int.zero_add, Int.add_zero, pi_s, pi_n, on_2000, on_402, on_408, on_19, on_5, on_4]
        refine ⟨fun w => at32 (Or.inl w), fun w1 => ⟨fun w => ?_, fun w => at32 (Or.inr (by omega))⟩⟩
        rw [if_neg (by omega), if_neg (by omega)] at h
        exact h τ hI g2 hu1
    · have est : stT b Z 2 (.inl t) = .inr (1, tP b Z t) := by show (if tK b Z t = 2 then _ else _) = _; rw [if_neg k2]
      have esp : spQ b Z x y (.inl t) u = (.inr (1, tP b Z t), u, x) := by show (if tK b Z t = 2 then _ else _) = _; rw [if_neg k2]
      rw [est] at g2
      rw [esp] at h
      have hP := h τ hI g2 hu1
      rw [est]
      refine hA [] 4 _ _ _ _ _ ?_
      simp only [stB]
      try simp only [dX5_readInt_0, dX5_readInt_1, FT_X5_39, dX5_readInt_4, dX5_readInt_5, dX5_readInt_6, dX5_readInt_7, FT_X5_36, dX5_readInt_10, dX5_readInt_12, dX5_readInt_13, dX5_readInt_14, xX5_readIntE_c85, xX5_readIntE_n85, dX5_readInt_17, xX5_readIntE_t17, dX5_readInt_20, dX5_readInt_21, dX5_readInt_22, dX5_readInt_23, dX5_readInt_24, xX5_readIntE_t24, dX5_readInt_27, dX5_readInt_28, dX5_readInt_29, xX5_readIntE_t29, dX5_readInt_32, dX5_readInt_33, dX5_readInt_34, dX5_readInt_36, xX5_readIntE_c77, xX5_readIntE_n77, dX5_readInt_39, dX5_readInt_40, dX5_readInt_41, dX5_readInt_42, xX5_readIntE_SH, xX5_readIntE_KF, xX5_readIntE_rt, xX5_readIntE_FT, xX5_readIntE_PT, xX5_readIntE_CT, xX5_readIntE_KT, xX5_readIntE_LT, xX5_readIntE_NT, o_aload_n, o_getfield, o_iconst, o_ifCond_ne, o_if_icmp_le, o_if_icmp_lt, o_iload, o_iload_n, o_invokevirtual, o_ireturn, o_istore, o_istore_n, o_l2i, SH_2, KF_2_5, KF_2_6, am_ty, am_vc, am_opt, am_cl, am_find, am_ldi, am_ldl, am_lda, am_v, am_1, am_1l, am_1a, am_2, am_2l, am_ix, am_ri, am_arr, am_pf, am_rc, am_mask, am_lg, am_av, am_nat, fv_0, fv_1, fv_2, fv_3, fw_0, fw_1, List.getElem?_cons_zero, List.getElem?_cons_succ, List.set_cons_zero, List.set_cons_succ, List.length_cons, List.length_nil, List.take_succ_cons, List.take_zero, List.drop_succ_cons, List.drop_zero, List.reverse_cons, List.reverse_nil, List.nil_append, List.cons_append, List.append_nil, List.map_cons, List.map_nil, List.sum_cons, List.sum_nil, Value.category, Option.toList_some, Option.toList_none, Nat.reduceAdd, Nat.reduceLT, Nat.reduceLeDiff, Nat.reduceEqDiff, Nat.reduceSub, Nat.add_zero, Nat.le_refl, Nat.zero_le, Int.reduceNeg, Int.reduceLE, Int.reduceLT, true_and, and_true, and_self, if_true, if_false, ite_true, ite_false, eq_self_iff_true, reduceIte, reduceCtorEq, not_false_eq_true, not_true_eq_false, or_true, true_or, or_false, false_or, Nat.lt_irrefl, Nat.zero_lt_succ]
      try simp (disch := omega) only [ii_0, ii_1, ii_t, ii_add, ii_sub, ii_mul, ii_lt, ii_le, ii_eq, ij_in, ii_c, Int.toNat_natCast, Int.toNat_zero, Int.reduceToNat, Int.reduceEq, Int.reduceNe, Int.reduceLE, Int.reduceLT, Int.reduceAdd, Int.reduceSub, Int.reduceMul, Int.reduceNeg, Nat.reduceLT, Nat.reduceAdd, Nat.reduceMul, not_false_eq_true, not_true_eq_false, true_and, and_true, and_self, false_and, and_false, true_implies, false_implies, implies_true, forall_const, if_true, if_false, ite_true, ite_false, reduceIte, eq_self_iff_true, Int.natCast_nonneg, Int.zero_add, Int.add_zero, pi_s, pi_n, on_2000, on_402, on_408, on_19, on_5, on_4]
      exact hP
theorem mX5_readIntE (l : Launch) : am_M l TB NB vwCl SH KF yX5_readInt cX5_readInt 5 (some .int) 4 0 0 sX5_readIntE := by
  refine am_M.of xX5_readIntE (by decide +kernel) TB_good GF rfl rfl rfl (by decide) ⟨FT_X5_ok, PT_X5_ok _, CT_X5_ok, KT_X5_ok, LT_X5_ok, NT_X5_ok, ?_⟩ ptX5_readIntE
  exact List.forall_mem_cons.mpr ⟨⟨yX5_note, cX5_note, 3, none, 2, 2, mX5_noteE l, by decide, by decide, tk_615, tk_104, ⟨by decide +kernel, by decide +kernel, by decide +kernel⟩, rfl, tk_612, tk_614, ⟨(RX5, TX5, 11), rfl, tb_at 8 (by decide +kernel) (by decide +kernel)⟩⟩, List.forall_mem_cons.mpr ⟨⟨yX5_take, cX5_take, 2, (some .boolean), 3, 1, mX5_takeE l, by decide, by decide, tk_603, tk_104, ⟨by decide +kernel, by decide +kernel, by decide +kernel⟩, rfl, tk_600, tk_602, ⟨(RX5, TX5, 11), rfl, tb_at 5 (by decide +kernel) (by decide +kernel)⟩⟩, fun _ h => absurd h List.not_mem_nil⟩⟩

