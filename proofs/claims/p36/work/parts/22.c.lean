/-- as am_M.of, for a method of Tokens: it may also ask for its text's length and for a char of it -/
theorem am_M.ofT2 {l : Launch} {cl : List vw_C} {SH : am_Sh} {KF : am_Kf} {y : MethodName} {cc : ByteArray} {maxL : Nat} {ret : Option FieldType} {d mc ms : Nat} {sp : am_Sp} (X : am_X) (hy : plainName y.cls = true) (hyc : y.cls = "LadderStreet$Tokens") (hG : ∃ tyc, am_G TB cl SH KF tyc) (hSH : am_SH X = SH) (hKF : am_KF X = KF) (hrt : am_rt X = ret) (hd : 6 ≤ d) (hO : am_O l TB NB cl y.cls y.name d X)
    (body : ∀ (n0 : Nat) (as : List Value) (σ : am_S) (post : Option Value → am_S → Prop) (AA : Nat → List (Option Value) → List Value → Nat → am_S → Prop), (∀ cuts f pc ls stk n τ, am_vc cc X (n0 + mc) post AA cuts f pc ls stk n τ → AA pc ls stk n τ) →
      (∀ pc ls stk n τ, decode cc pc = .ok (.ldc 82, 2) → decode cc (pc + 2) = .ok (.invokevirtual 29, 3) → (stk.map fun v => v.category).sum ≤ 8 → AA (pc + 5) ls (.int (Int32.ofInt 9) :: stk) n τ → AA pc ls stk n τ) →
      (∀ pc (k : Fin 4) (j : Nat) ls stk n τ, decode cc pc = .ok (.ldc 82, 2) → decode cc (pc + 2) = .ok (.iload_n k, 1) → decode cc (pc + 3) = .ok (.invokevirtual 35, 3) → (stk.map fun v => v.category).sum ≤ 8 → j < 9 → ls[(k : Nat)]? = some (some (.int (Int32.ofInt (j : Int)))) → (∀ v : Int32, AA (pc + 6) ls (.int v :: stk) n τ) → AA pc ls stk n τ) →
      sp as n0 σ post → (am_sl as).length ≤ maxL ∧ AA 0 (am_entry maxL as) [] n0 σ) : am_M l TB NB cl SH KF y cc maxL ret d mc ms sp := by
  subst hSH; subst hKF; subst hrt
  intro D aC b n0 as σ post hsp hszm
  refine Met.ofW (cc := cc) (maxL := maxL) (ret := am_rt X) hy rfl ?_
  intro p e s m args below meth c s₁ B hml hv
  obtain ⟨rfl, hsz, hP, hK, hN⟩ := hv
  have hts : ∀ w ∈ TB, w.before (as.map (am_c b)).toArray s = true := fun w hw => atoms_spec (ws := .code y cc maxL (am_rt X) :: am_gb TB) B.pre w (List.mem_cons_of_mem _ (List.mem_filter.mpr ⟨hw, TB_good w hw⟩))
  have hown : s.vm.findClass y.cls = some m.cls := findClass_of_methodNamed B.named
  have hownT : s.vm.findClass "LadderStreet$Tokens" = some m.cls := by rw [← hyc]; exact hown
  have hnm : meth.name = y.name := (name_of_methodNamed B.named B.method).1
  have C : am_C p l (am_rm d mc ms) s m (as.map (am_c b)).toArray meth c cl TB NB D aC b n0 (n0 + mc) maxL cc y.cls X (am_KF X) := ⟨B.exec, B.bytes, hml, hown, hts, hN, hK, B.notSynchronized, hsz, Or.inl ⟨B.returns, rfl⟩, ⟨d, by omega, by rw [Nat.add_sub_cancel_left, hszm, Nat.add_sub_cancel_left], by rw [hnm]; exact hO⟩, hG⟩
  have fx : CallFix p m c cc maxL s (as.map (am_c b)).toArray TB "LadderStreet$Tokens" := ⟨B.exec, B.bytes, hml, hownT, hts⟩
  obtain ⟨adK, adV, hA⟩ := hN.2
  have hA : am_StA adK adV b s := hA
  obtain ⟨h1, h2⟩ := body n0 as σ post _ (fun cuts f pc ls stk n τ h => am_vc_ok (e := e) (below := below) (cuts := cuts) C f pc ls stk n τ h)
    (fun pc ls stk n τ g1 g2 g3 g4 q1 q2 q3 H locs lc hP hS hl => by
      have hsn : am_sz (am_SH X) (am_KF X) n - am_sz (am_SH X) (am_KF X) n0 ≤ ms := by have := am_sz_le (SH := am_SH X) (KF := am_KF X) q2; omega
      refine va_ldcS B.exec B.bytes hownT hA.2.1 g1 ?_
      refine va_calli (va_runV (As := []) (rest := stk.map (am_c b)) (C := "java/lang/String") (n := 0) fx (jm_length l b adK adV H (i := 1) (by decide)) ⟨⟨rfl, rfl, by show 2 + 1 ≤ d; omega, by show 8 + (1 + 11) + 64 * 2 ≤ 64 * d; omega, am_words hts (tb_at 234 (by decide +kernel) (by decide +kernel)), am_code_in, hts _ (tb_at 234 (by decide +kernel) (by decide +kernel)), hts _ (tb_at 108 (by decide +kernel) (by decide +kernel)), ⟨by decide +kernel, by decide +kernel⟩, am_sig (na := 0) (by decide +kernel), hts _ (tb_at 231 (by decide +kernel) (by decide +kernel))⟩, hts _ (tb_at 232 (by decide +kernel) (by decide +kernel)), hts _ (tb_at 233 (by decide +kernel) (by decide +kernel))⟩ ⟨am_blS, vk_recv hA.2.2.1 (by decide) hS, fun U hU hW => ⟨rfl, hU, hA.at hU hS hW⟩⟩ rfl rfl hl.1 rfl (lv_room (by rw [am_cats]; exact g3)) g2 ⟨by show n - n0 + 0 ≤ mc; omega, by show _ + 0 ≤ ms; omega⟩) hS (fun q _ h => h) (fun q h => h) (fun r u t H1 locs1 ht hvm hr0 hB hz1 hk1 hS1 => ?_)
      have hH1 : H1 = H := by rw [← ht]; exact hB
      subst hH1
      have e0 : r = Int32.ofInt 9 := hr0.trans (by decide +kernel)
      subst e0
      exact g4 q1 q2 q3 H1 locs1 lc hP hS1 hl)
    (fun pc k j ls stk n τ g1 g2 g2b g3 gj gl g4 q1 q2 q3 H locs lc hP hS hl => by
      have hsn : am_sz (am_SH X) (am_KF X) n - am_sz (am_SH X) (am_KF X) n0 ≤ ms := by have := am_sz_le (SH := am_SH X) (KF := am_KF X) q2; omega
      have jb : ∀ j : Nat, j < 9 → ¬ Int32.ofInt (j : Int) < 0 ∧ Int32.ofInt (j : Int) < Int32.ofNat (am_stl.getD 1 0) ∧ ¬ (am_stl.getD 1 0 ≤ (Int32.ofInt (j : Int)).toNatClampNeg) := by decide +kernel
      obtain ⟨j1, j2, j3⟩ := jb j gj
      refine va_ldcS B.exec B.bytes hownT hA.2.1 g1 ?_
      refine lv_iload_n B.exec B.bytes g2 rfl (am_lv_at hl gl) ?_
      refine va_calli (va_runV (As := [.int (Int32.ofInt (j : Int))]) (rest := stk.map (am_c b)) (C := "java/lang/String") (n := 1) fx (jm_charAt l b adK adV H (i := 1) (by decide) (k := Int32.ofInt (j : Int)) j1 j2 (fun z => z.elim j1 j3)) ⟨⟨rfl, rfl, by show 4 + 1 ≤ d; omega, by show 8 + (2 + 11) + 64 * 4 ≤ 64 * d; omega, am_words hts (tb_at 244 (by decide +kernel) (by decide +kernel)), am_code_in, hts _ (tb_at 244 (by decide +kernel) (by decide +kernel)), hts _ (tb_at 108 (by decide +kernel) (by decide +kernel)), ⟨by decide +kernel, by decide +kernel⟩, am_sig (na := 1) (by decide +kernel), hts _ (tb_at 241 (by decide +kernel) (by decide +kernel))⟩, hts _ (tb_at 242 (by decide +kernel) (by decide +kernel)), hts _ (tb_at 243 (by decide +kernel) (by decide +kernel))⟩ ⟨am_blS, vk_recv hA.2.2.1 (by decide) hS, fun U hU hW => ⟨rfl, hU, hA.at hU hS hW⟩⟩ rfl rfl hl.1 rfl (lv_room (by rw [am_cats]; exact g3)) g2b ⟨by show n - n0 + 0 ≤ mc; omega, by show _ + 0 ≤ ms; omega⟩) hS (fun q _ h => h) (fun q h => h) (fun r u t H1 locs1 ht hvm hr0 hB hz1 hk1 hS1 => ?_)
      have hH1 : H1 = H := by rw [← ht]; exact hB
      subst hH1
      exact g4 r q1 q2 q3 H1 locs1 lc hP hS1 hl) hsp
  have hl := lv_entry (as.map (am_c b)) (n := maxL) (by rw [am_sl_len]; exact h1)
  have h3 := h2 (Nat.le_refl _) (Nat.le_add_right _ _) (by simp [am_entry]; omega) s.heap [] _ hP va_S.rf (am_entry_lv hl)
  rw [Nat.sub_self, Nat.sub_self, Nat.add_sub_cancel_left, hszm, Nat.add_sub_cancel_left] at h3
  rw [lg_entry_eq]
  exact h3
-- Tokens()
theorem dX8_isSign_0 : decode cX8_isSign 0 = .ok (.iconst 0, 1) := by decide +kernel
theorem dX8_isSign_1 : decode cX8_isSign 1 = .ok (.istore_n 1, 1) := by decide +kernel
theorem dX8_isSign_2 : decode cX8_isSign 2 = .ok (.iload_n 1, 1) := by decide +kernel
theorem dX8_isSign_3 : decode cX8_isSign 3 = .ok (.ldc 82, 2) := by decide +kernel
theorem dX8_isSign_5 : decode cX8_isSign 5 = .ok (.invokevirtual 29, 3) := by decide +kernel
theorem dX8_isSign_8 : decode cX8_isSign 8 = .ok (.if_icmp .ge 21, 3) := by decide +kernel
theorem dX8_isSign_11 : decode cX8_isSign 11 = .ok (.ldc 82, 2) := by decide +kernel
theorem dX8_isSign_13 : decode cX8_isSign 13 = .ok (.iload_n 1, 1) := by decide +kernel
theorem dX8_isSign_14 : decode cX8_isSign 14 = .ok (.invokevirtual 35, 3) := by decide +kernel
theorem dX8_isSign_17 : decode cX8_isSign 17 = .ok (.iload_n 0, 1) := by decide +kernel
theorem dX8_isSign_18 : decode cX8_isSign 18 = .ok (.if_icmp .ne 5, 3) := by decide +kernel
theorem dX8_isSign_21 : decode cX8_isSign 21 = .ok (.iconst 1, 1) := by decide +kernel
theorem dX8_isSign_22 : decode cX8_isSign 22 = .ok (.ireturn, 1) := by decide +kernel
theorem dX8_isSign_23 : decode cX8_isSign 23 = .ok (.iinc 1 1, 3) := by decide +kernel
theorem dX8_isSign_26 : decode cX8_isSign 26 = .ok (.goto (-24), 3) := by decide +kernel
theorem dX8_isSign_29 : decode cX8_isSign 29 = .ok (.iconst 0, 1) := by decide +kernel
theorem dX8_isSign_30 : decode cX8_isSign 30 = .ok (.ireturn, 1) := by decide +kernel

def xX8_isSign : am_X := (SH, KF, (some .boolean), FT_X8, PT_X8, CT_X8, KT_X8, LT_X8, NT_X8, [])
theorem xX8_isSign_SH : am_SH xX8_isSign = SH := rfl
theorem xX8_isSign_KF : am_KF xX8_isSign = KF := rfl
theorem xX8_isSign_rt : am_rt xX8_isSign = (some .boolean) := rfl
theorem xX8_isSign_FT : am_FT xX8_isSign = FT_X8 := rfl
theorem xX8_isSign_PT : am_PT xX8_isSign = PT_X8 := rfl
theorem xX8_isSign_CT : am_CT xX8_isSign = CT_X8 := rfl
theorem xX8_isSign_KT : am_KT xX8_isSign = KT_X8 := rfl
theorem xX8_isSign_LT : am_LT xX8_isSign = LT_X8 := rfl
theorem xX8_isSign_NT : am_NT xX8_isSign = NT_X8 := rfl
theorem xX8_isSign_t8 (k : Nat → Prop) : am_tg 8 (21) k = k 29 := am_tg_eq (by decide)
theorem xX8_isSign_t18 (k : Nat → Prop) : am_tg 18 (5) k = k 23 := am_tg_eq (by decide)
theorem xX8_isSign_t26 (k : Nat → Prop) : am_tg 26 (-24) k = k 2 := am_tg_eq (by decide)

def wX8_isSign : List sa_A := [([.inl (-2147483648, 2147483647)], [(some (.inl (0, 1)), [])], [])]
set_option maxRecDepth 100000 in
theorem is_loop {σ : am_S} {post : Option Value → am_S → Prop} {AA : Nat → List (Option Value) → List Value → Nat → am_S → Prop} (hA : ∀ cuts f pc ls stk n τ, am_vc cX8_isSign xX8_isSign (92 + 0) post AA cuts f pc ls stk n τ → AA pc ls stk n τ)
    (rL : ∀ pc ls stk n τ, decode cX8_isSign pc = .ok (.ldc 82, 2) → decode cX8_isSign (pc + 2) = .ok (.invokevirtual 29, 3) → (stk.map fun v => v.category).sum ≤ 8 → AA (pc + 5) ls (.int (Int32.ofInt 9) :: stk) n τ → AA pc ls stk n τ)
    (rC : ∀ pc (k : Fin 4) (j : Nat) ls stk n τ, decode cX8_isSign pc = .ok (.ldc 82, 2) → decode cX8_isSign (pc + 2) = .ok (.iload_n k, 1) → decode cX8_isSign (pc + 3) = .ok (.invokevirtual 35, 3) → (stk.map fun v => v.category).sum ≤ 8 → j < 9 → ls[(k : Nat)]? = some (some (.int (Int32.ofInt (j : Int)))) → (∀ v : Int32, AA (pc + 6) ls (.int v :: stk) n τ) → AA pc ls stk n τ)
    (h : ∀ z : Int, (0 ≤ z ∧ z ≤ 1) → post (some (.int (Int32.ofInt z))) σ) {s : Int32} : ∀ (m j : Nat), j ≤ 9 → 9 - j = m → AA 2 [some (.int s), some (.int (Int32.ofInt (j : Int)))] [] 92 σ := by
  intro m
  induction m using Nat.strongRecOn with
  | ind m ih =>
  intro j hj hm
  refine hA [(3, 2)] 2 _ _ _ _ _ ?_
  try simp only [dX8_isSign_0, dX8_isSign_1, dX8_isSign_2, dX8_isSign_3, KT_X8, dX8_isSign_5, dX8_isSign_8, xX8_isSign_t8, dX8_isSign_11, dX8_isSign_13, dX8_isSign_14, dX8_isSign_17, dX8_isSign_18, xX8_isSign_t18, dX8_isSign_21, dX8_isSign_22, dX8_isSign_23, dX8_isSign_26, xX8_isSign_t26, dX8_isSign_29, dX8_isSign_30, xX8_isSign_SH, xX8_isSign_KF, xX8_isSign_rt, xX8_isSign_FT, xX8_isSign_PT, xX8_isSign_CT, xX8_isSign_KT, xX8_isSign_LT, xX8_isSign_NT, o_goto, o_iconst, o_if_icmp_ge, o_if_icmp_ne, o_iinc, o_iload_n, o_invokevirtual, o_ireturn, o_istore_n, o_ldc, am_ty, am_vc, am_opt, am_cl, am_find, am_ldi, am_ldl, am_lda, am_v, am_1, am_1l, am_1a, am_2, am_2l, am_ix, am_ri, am_arr, am_pf, am_rc, am_mask, am_lg, am_av, am_nat, fv_0, fv_1, fv_2, fv_3, fw_0, fw_1, List.getElem?_cons_zero, List.getElem?_cons_succ, List.set_cons_zero, List.set_cons_succ, List.length_cons, List.length_nil, List.take_succ_cons, List.take_zero, List.drop_succ_cons, List.drop_zero, List.reverse_cons, List.reverse_nil, List.nil_append, List.cons_append, List.append_nil, List.map_cons, List.map_nil, List.sum_cons, List.sum_nil, Value.category, Option.toList_some, Option.toList_none, Nat.reduceAdd, Nat.reduceLT, Nat.reduceLeDiff, Nat.reduceEqDiff, Nat.reduceSub, Nat.add_zero, Nat.le_refl, Nat.zero_le, Int.reduceNeg, Int.reduceLE, Int.reduceLT, true_and, and_true, and_self, if_true, if_false, ite_true, ite_false, eq_self_iff_true, reduceIte, reduceCtorEq, not_false_eq_true, not_true_eq_false, or_true, true_or, or_false, false_or, Nat.lt_irrefl, Nat.zero_lt_succ]
  refine rL _ _ _ _ _ dX8_isSign_3 dX8_isSign_5 (Nat.le_of_ble_eq_true rfl) ?_
  refine hA [(11, 2)] 4 _ _ _ _ _ ?_
  try simp only [dX8_isSign_0, dX8_isSign_1, dX8_isSign_2, dX8_isSign_3, KT_X8, dX8_isSign_5, dX8_isSign_8, xX8_isSign_t8, dX8_isSign_11, dX8_isSign_13, dX8_isSign_14, dX8_isSign_17, dX8_isSign_18, xX8_isSign_t18, dX8_isSign_21, dX8_isSign_22, dX8_isSign_23, dX8_isSign_26, xX8_isSign_t26, dX8_isSign_29, dX8_isSign_30, xX8_isSign_SH, xX8_isSign_KF, xX8_isSign_rt, xX8_isSign_FT, xX8_isSign_PT, xX8_isSign_CT, xX8_isSign_KT, xX8_isSign_LT, xX8_isSign_NT, o_goto, o_iconst, o_if_icmp_ge, o_if_icmp_ne, o_iinc, o_iload_n, o_invokevirtual, o_ireturn, o_istore_n, o_ldc, am_ty, am_vc, am_opt, am_cl, am_find, am_ldi, am_ldl, am_lda, am_v, am_1, am_1l, am_1a, am_2, am_2l, am_ix, am_ri, am_arr, am_pf, am_rc, am_mask, am_lg, am_av, am_nat, fv_0, fv_1, fv_2, fv_3, fw_0, fw_1, List.getElem?_cons_zero, List.getElem?_cons_succ, List.set_cons_zero, List.set_cons_succ, List.length_cons, List.length_nil, List.take_succ_cons, List.take_zero, List.drop_succ_cons, List.drop_zero, List.reverse_cons, List.reverse_nil, List.nil_append, List.cons_append, List.append_nil, List.map_cons, List.map_nil, List.sum_cons, List.sum_nil, Value.category, Option.toList_some, Option.toList_none, Nat.reduceAdd, Nat.reduceLT, Nat.reduceLeDiff, Nat.reduceEqDiff, Nat.reduceSub, Nat.add_zero, Nat.le_refl, Nat.zero_le, Int.reduceNeg, Int.reduceLE, Int.reduceLT, true_and, and_true, and_self, if_true, if_false, ite_true, ite_false, eq_self_iff_true, reduceIte, reduceCtorEq, not_false_eq_true, not_true_eq_false, or_true, true_or, or_false, false_or, Nat.lt_irrefl, Nat.zero_lt_succ]
  try simp (disch := omega) only [ii_0, ii_1, ii_t, ii_add, ii_sub, ii_mul, ii_lt, ii_le, ii_eq, ij_in, ii_c, Int.toNat_natCast, Int.toNat_zero, Int.reduceToNat, Int.reduceEq, Int.reduceNe, Int.reduceLE, Int.reduceLT, Int.reduceAdd, Int.reduceSub, Int.reduceMul, Int.reduceNeg, Nat.reduceLT, Nat.reduceAdd, Nat.reduceMul, not_false_eq_true, not_true_eq_false, true_and, and_true, and_self, false_and, and_false, true_implies, false_implies, implies_true, forall_const, if_true, if_false, ite_true, ite_false, reduceIte, eq_self_iff_true, Int.natCast_nonneg, Int.zero_add, Int.add_zero, pi_s, pi_n, nb_0, nb_1]
  refine ⟨fun _ => h 0 (by omega), fun hlt => ?_⟩
  refine rC _ 1 j _ _ _ _ dX8_isSign_11 dX8_isSign_13 dX8_isSign_14 (Nat.le_of_ble_eq_true rfl) (by omega) rfl (fun v => ?_)
  refine hA [(2, 2)] 6 _ _ _ _ _ ?_
  try simp only [dX8_isSign_0, dX8_isSign_1, dX8_isSign_2, dX8_isSign_3, KT_X8, dX8_isSign_5, dX8_isSign_8, xX8_isSign_t8, dX8_isSign_11, dX8_isSign_13, dX8_isSign_14, dX8_isSign_17, dX8_isSign_18, xX8_isSign_t18, dX8_isSign_21, dX8_isSign_22, dX8_isSign_23, dX8_isSign_26, xX8_isSign_t26, dX8_isSign_29, dX8_isSign_30, xX8_isSign_SH, xX8_isSign_KF, xX8_isSign_rt, xX8_isSign_FT, xX8_isSign_PT, xX8_isSign_CT, xX8_isSign_KT, xX8_isSign_LT, xX8_isSign_NT, o_goto, o_iconst, o_if_icmp_ge, o_if_icmp_ne, o_iinc, o_iload_n, o_invokevirtual, o_ireturn, o_istore_n, o_ldc, am_ty, am_vc, am_opt, am_cl, am_find, am_ldi, am_ldl, am_lda, am_v, am_1, am_1l, am_1a, am_2, am_2l, am_ix, am_ri, am_arr, am_pf, am_rc, am_mask, am_lg, am_av, am_nat, fv_0, fv_1, fv_2, fv_3, fw_0, fw_1, List.getElem?_cons_zero, List.getElem?_cons_succ, List.set_cons_zero, List.set_cons_succ, List.length_cons, List.length_nil, List.take_succ_cons, List.take_zero, List.drop_succ_cons, List.drop_zero, List.reverse_cons, List.reverse_nil, List.nil_append, List.cons_append, List.append_nil, List.map_cons, List.map_nil, List.sum_cons, List.sum_nil, Value.category, Option.toList_some, Option.toList_none, Nat.reduceAdd, Nat.reduceLT, Nat.reduceLeDiff, Nat.reduceEqDiff, Nat.reduceSub, Nat.add_zero, Nat.le_refl, Nat.zero_le, Int.reduceNeg, Int.reduceLE, Int.reduceLT, true_and, and_true, and_self, if_true, if_false, ite_true, ite_false, eq_self_iff_true, reduceIte, reduceCtorEq, not_false_eq_true, not_true_eq_false, or_true, true_or, or_false, false_or, Nat.lt_irrefl, Nat.zero_lt_succ]
  try simp (disch := omega) only [ii_0, ii_1, ii_t, ii_add, ii_sub, ii_mul, ii_lt, ii_le, ii_eq, ij_in, ii_c, Int.toNat_natCast, Int.toNat_zero, Int.reduceToNat, Int.reduceEq, Int.reduceNe, Int.reduceLE, Int.reduceLT, Int.reduceAdd, Int.reduceSub, Int.reduceMul, Int.reduceNeg, Nat.reduceLT, Nat.reduceAdd, Nat.reduceMul, not_false_eq_true, not_true_eq_false, true_and, and_true, and_self, false_and, and_false, true_implies, false_implies, implies_true, forall_const, if_true, if_false, ite_true, ite_false, reduceIte, eq_self_iff_true, Int.natCast_nonneg, Int.zero_add, Int.add_zero, pi_s, pi_n, nb_0, nb_1]
  refine ⟨fun _ => ?_, fun _ => h 1 (by omega)⟩
  have e : ((j : Int) + 1) = ((j + 1 : Nat) : Int) := by omega
  rw [e]
  exact ih _ (by omega) (j + 1) (by omega) rfl
set_option maxRecDepth 100000 in
theorem nX8_isSign (l : Launch) : am_M l TB NB vwCl SH KF yX8_isSign cX8_isSign 2 (some .boolean) 8 0 0 (sp_w JJ BB SH 92 wX8_isSign) := by
  refine am_M.ofT2 xX8_isSign (by decide +kernel) rfl GF rfl rfl rfl (by decide) ⟨FT_X8_ok, PT_X8_ok _, CT_X8_ok, KT_X8_ok, LT_X8_ok, NT_X8_ok, fun _ h => absurd h List.not_mem_nil⟩ ?_
  intro n0 as σ post AA hA rL rC h
  obtain ⟨rfl, hB, hJ, a, ha, has, h⟩ := h
  have ea := List.mem_singleton.mp ha
  subst ea
  match as, has with
  | [v0], ⟨⟨s, hs0, hs⟩, _⟩ =>
  subst hs0
  refine ⟨by simp [am_sl, Value.category], ?_⟩
  show AA 0 [some (.int s), none] [] 92 σ
  refine hA [(2, 2)] 3 _ _ _ _ _ ?_
  try simp only [dX8_isSign_0, dX8_isSign_1, dX8_isSign_2, dX8_isSign_3, KT_X8, dX8_isSign_5, dX8_isSign_8, xX8_isSign_t8, dX8_isSign_11, dX8_isSign_13, dX8_isSign_14, dX8_isSign_17, dX8_isSign_18, xX8_isSign_t18, dX8_isSign_21, dX8_isSign_22, dX8_isSign_23, dX8_isSign_26, xX8_isSign_t26, dX8_isSign_29, dX8_isSign_30, xX8_isSign_SH, xX8_isSign_KF, xX8_isSign_rt, xX8_isSign_FT, xX8_isSign_PT, xX8_isSign_CT, xX8_isSign_KT, xX8_isSign_LT, xX8_isSign_NT, o_goto, o_iconst, o_if_icmp_ge, o_if_icmp_ne, o_iinc, o_iload_n, o_invokevirtual, o_ireturn, o_istore_n, o_ldc, am_ty, am_vc, am_opt, am_cl, am_find, am_ldi, am_ldl, am_lda, am_v, am_1, am_1l, am_1a, am_2, am_2l, am_ix, am_ri, am_arr, am_pf, am_rc, am_mask, am_lg, am_av, am_nat, fv_0, fv_1, fv_2, fv_3, fw_0, fw_1, List.getElem?_cons_zero, List.getElem?_cons_succ, List.set_cons_zero, List.set_cons_succ, List.length_cons, List.length_nil, List.take_succ_cons, List.take_zero, List.drop_succ_cons, List.drop_zero, List.reverse_cons, List.reverse_nil, List.nil_append, List.cons_append, List.append_nil, List.map_cons, List.map_nil, List.sum_cons, List.sum_nil, Value.category, Option.toList_some, Option.toList_none, Nat.reduceAdd, Nat.reduceLT, Nat.reduceLeDiff, Nat.reduceEqDiff, Nat.reduceSub, Nat.add_zero, Nat.le_refl, Nat.zero_le, Int.reduceNeg, Int.reduceLE, Int.reduceLT, true_and, and_true, and_self, if_true, if_false, ite_true, ite_false, eq_self_iff_true, reduceIte, reduceCtorEq, not_false_eq_true, not_true_eq_false, or_true, true_or, or_false, false_or, Nat.lt_irrefl, Nat.zero_lt_succ]
  exact is_loop hA rL rC (fun z hz => h _ σ hB hJ (sb_fr_r _ _) ⟨_, List.mem_cons_self, ⟨_, rfl, by rw [ii_t (by omega) (by omega)]; exact hz⟩, fun q hq => absurd hq List.not_mem_nil⟩) 9 0 (by omega) rfl
