def yX12_backw : am_Sp := fun as n σ post => ∃ z T : Int, (-2147483648 ≤ z ∧ z < 2147483648) ∧ (0 ≤ T ∧ T ≤ 2000) ∧ n = 92 ∧ as = [.ref 51, .int (Int32.ofInt z)] ∧ σ.1 51 2 = Int32.ofInt T ∧ (0 ≤ z → z ≤ T → post (some (.int (Int32.ofInt (T - z)))) (am_pi σ 51 2 (Int32.ofInt (T - z)))) ∧ (¬ (0 ≤ z ∧ z ≤ T) → post (some (.int (Int32.ofInt (-1)))) σ)
def xX12_back : am_X := (SH, KF, (some .int), FT_X12, PT_X12, CT_X12, KT_X12, LT_X12, NT_X12, [])
theorem xX12_back_SH : am_SH xX12_back = SH := rfl
theorem xX12_back_KF : am_KF xX12_back = KF := rfl
theorem xX12_back_rt : am_rt xX12_back = (some .int) := rfl
theorem xX12_back_FT : am_FT xX12_back = FT_X12 := rfl
theorem xX12_back_PT : am_PT xX12_back = PT_X12 := rfl
theorem xX12_back_CT : am_CT xX12_back = CT_X12 := rfl
theorem xX12_back_KT : am_KT xX12_back = KT_X12 := rfl
theorem xX12_back_LT : am_LT xX12_back = LT_X12 := rfl
theorem xX12_back_NT : am_NT xX12_back = NT_X12 := rfl
theorem xX12_back_t1 (k : Nat → Prop) : am_tg 1 (11) k = k 12 := am_tg_eq (by decide)
theorem xX12_back_t9 (k : Nat → Prop) : am_tg 9 (5) k = k 14 := am_tg_eq (by decide)

theorem pX12_backw : am_B cX12_back xX12_back 2 0 yX12_backw := by
  intro n0 as σ post AA hA h
  obtain ⟨z, T, hz, hT, rfl, rfl, e1, h1, h2⟩ := h
  refine ⟨by simp [am_sl, Value.category], ?_⟩
  show AA 0 [some (.ref 51), some (.int (Int32.ofInt z))] [] 92 σ
  refine hA [] 40 _ _ _ _ _ ?_
  try simp only [dX12_back_0, dX12_back_1, xX12_back_t1, dX12_back_4, dX12_back_5, dX12_back_6, FT_X12_154, dX12_back_9, xX12_back_t9, dX12_back_12, dX12_back_13, dX12_back_14, dX12_back_15, dX12_back_16, dX12_back_19, dX12_back_20, dX12_back_21, PT_X12_154, dX12_back_24, dX12_back_25, dX12_back_28, xX12_back_SH, xX12_back_KF, xX12_back_rt, xX12_back_FT, xX12_back_PT, xX12_back_CT, xX12_back_KT, xX12_back_LT, xX12_back_NT, o_aload_n, o_dup, o_getfield, o_iconst, o_ifCond_lt, o_if_icmp_le, o_iload_n, o_ireturn, o_isub, o_putfield, SH_51, KF_51_2, am_ty, am_vc, am_opt, am_cl, am_find, am_ldi, am_ldl, am_lda, am_v, am_1, am_1l, am_1a, am_2, am_2l, am_ix, am_ri, am_arr, am_pf, am_rc, am_mask, am_lg, am_av, am_nat, fv_0, fv_1, fv_2, fv_3, fw_0, fw_1, List.getElem?_cons_zero, List.getElem?_cons_succ, List.set_cons_zero, List.set_cons_succ, List.length_cons, List.length_nil, List.take_succ_cons, List.take_zero, List.drop_succ_cons, List.drop_zero, List.reverse_cons, List.reverse_nil, List.nil_append, List.cons_append, List.append_nil, List.map_cons, List.map_nil, List.sum_cons, List.sum_nil, Value.category, Option.toList_some, Option.toList_none, Nat.reduceAdd, Nat.reduceLT, Nat.reduceLeDiff, Nat.reduceEqDiff, Nat.reduceSub, Nat.add_zero, Nat.le_refl, Nat.zero_le, Int.reduceNeg, Int.reduceLE, Int.reduceLT, true_and, and_true, and_self, if_true, if_false, ite_true, ite_false, eq_self_iff_true, reduceIte, reduceCtorEq, not_false_eq_true, not_true_eq_false, or_true, true_or, or_false, false_or, Nat.lt_irrefl, Nat.zero_lt_succ, e1, pi_s]
  try simp (disch := omega) only [ii_0, ii_1, ii_t, ii_add, ii_sub, ii_mul, ii_lt, ii_le, ii_eq, ij_in, ii_c, Int.toNat_natCast, Int.toNat_zero, Int.reduceToNat, Int.reduceEq, Int.reduceNe, Int.reduceLE, Int.reduceLT, Int.reduceAdd, Int.reduceSub, Int.reduceMul, Int.reduceNeg, Nat.reduceLT, Nat.reduceAdd, Nat.reduceMul, not_false_eq_true, not_true_eq_false, true_and, and_true, and_self, false_and, and_false, true_implies, false_implies, implies_true, forall_const, if_true, if_false, ite_true, ite_false, reduceIte, eq_self_iff_true, Int.natCast_nonneg, Int.zero_add, Int.add_zero, pi_s, pi_n]
  refine ⟨fun q => h2 (by omega), fun q => ⟨fun q2 => h1 (by omega) (by omega), fun q2 => h2 (by omega)⟩⟩
theorem mX12_backw (l : Launch) : am_M l TB NB vwCl SH KF yX12_back cX12_back 2 (some .int) 2 0 0 yX12_backw :=
  am_M.of xX12_back (by decide +kernel) TB_good GF rfl rfl rfl (by decide) ⟨FT_X12_ok, PT_X12_ok _, CT_X12_ok, KT_X12_ok, LT_X12_ok, NT_X12_ok, fun _ h => absurd h List.not_mem_nil⟩ pX12_backw
/-! THE TAPE: what feed, back and read of both do to its length. Printed by wip/am/chk/hand/tape.py. -/
def yX11_backw : am_Sp := fun as n σ post => ∃ z T : Int, (-2147483648 ≤ z ∧ z < 2147483648) ∧ (0 ≤ T ∧ T ≤ 2000) ∧ n = 92 ∧ as = [.ref 0, .int (Int32.ofInt z)] ∧ σ.1 0 1 = Int32.ofInt T ∧ (0 ≤ z → z ≤ T → post (some (.int (Int32.ofInt (T - z)))) (am_pi σ 0 1 (Int32.ofInt (T - z)))) ∧ (¬ (0 ≤ z ∧ z ≤ T) → post (some (.int (Int32.ofInt (-1)))) σ)
def xX11_back : am_X := (SH, KF, (some .int), FT_X11, PT_X11, CT_X11, KT_X11, LT_X11, NT_X11, [])
theorem xX11_back_SH : am_SH xX11_back = SH := rfl
theorem xX11_back_KF : am_KF xX11_back = KF := rfl
theorem xX11_back_rt : am_rt xX11_back = (some .int) := rfl
theorem xX11_back_FT : am_FT xX11_back = FT_X11 := rfl
theorem xX11_back_PT : am_PT xX11_back = PT_X11 := rfl
theorem xX11_back_CT : am_CT xX11_back = CT_X11 := rfl
theorem xX11_back_KT : am_KT xX11_back = KT_X11 := rfl
theorem xX11_back_LT : am_LT xX11_back = LT_X11 := rfl
theorem xX11_back_NT : am_NT xX11_back = NT_X11 := rfl
theorem xX11_back_t1 (k : Nat → Prop) : am_tg 1 (11) k = k 12 := am_tg_eq (by decide)
theorem xX11_back_t9 (k : Nat → Prop) : am_tg 9 (5) k = k 14 := am_tg_eq (by decide)

theorem pX11_backw : am_B cX11_back xX11_back 2 0 yX11_backw := by
  intro n0 as σ post AA hA h
  obtain ⟨z, T, hz, hT, rfl, rfl, e1, h1, h2⟩ := h
  refine ⟨by simp [am_sl, Value.category], ?_⟩
  show AA 0 [some (.ref 0), some (.int (Int32.ofInt z))] [] 92 σ
  refine hA [] 40 _ _ _ _ _ ?_
  try simp only [dX11_back_0, dX11_back_1, xX11_back_t1, dX11_back_4, dX11_back_5, dX11_back_6, FT_X11_13, dX11_back_9, xX11_back_t9, dX11_back_12, dX11_back_13, dX11_back_14, dX11_back_15, dX11_back_16, dX11_back_19, dX11_back_20, dX11_back_21, PT_X11_13, dX11_back_24, dX11_back_25, dX11_back_28, xX11_back_SH, xX11_back_KF, xX11_back_rt, xX11_back_FT, xX11_back_PT, xX11_back_CT, xX11_back_KT, xX11_back_LT, xX11_back_NT, o_aload_n, o_dup, o_getfield, o_iconst, o_ifCond_lt, o_if_icmp_le, o_iload_n, o_ireturn, o_isub, o_putfield, SH_0, KF_0_1, am_ty, am_vc, am_opt, am_cl, am_find, am_ldi, am_ldl, am_lda, am_v, am_1, am_1l, am_1a, am_2, am_2l, am_ix, am_ri, am_arr, am_pf, am_rc, am_mask, am_lg, am_av, am_nat, fv_0, fv_1, fv_2, fv_3, fw_0, fw_1, List.getElem?_cons_zero, List.getElem?_cons_succ, List.set_cons_zero, List.set_cons_succ, List.length_cons, List.length_nil, List.take_succ_cons, List.take_zero, List.drop_succ_cons, List.drop_zero, List.reverse_cons, List.reverse_nil, List.nil_append, List.cons_append, List.append_nil, List.map_cons, List.map_nil, List.sum_cons, List.sum_nil, Value.category, Option.toList_some, Option.toList_none, Nat.reduceAdd, Nat.reduceLT, Nat.reduceLeDiff, Nat.reduceEqDiff, Nat.reduceSub, Nat.add_zero, Nat.le_refl, Nat.zero_le, Int.reduceNeg, Int.reduceLE, Int.reduceLT, true_and, and_true, and_self, if_true, if_false, ite_true, ite_false, eq_self_iff_true, reduceIte, reduceCtorEq, not_false_eq_true, not_true_eq_false, or_true, true_or, or_false, false_or, Nat.lt_irrefl, Nat.zero_lt_succ, e1, pi_s]
  try simp (disch := omega) only [ii_0, ii_1, ii_t, ii_add, ii_sub, ii_mul, ii_lt, ii_le, ii_eq, ij_in, ii_c, Int.toNat_natCast, Int.toNat_zero, Int.reduceToNat, Int.reduceEq, Int.reduceNe, Int.reduceLE, Int.reduceLT, Int.reduceAdd, Int.reduceSub, Int.reduceMul, Int.reduceNeg, Nat.reduceLT, Nat.reduceAdd, Nat.reduceMul, not_false_eq_true, not_true_eq_false, true_and, and_true, and_self, false_and, and_false, true_implies, false_implies, implies_true, forall_const, if_true, if_false, ite_true, ite_false, reduceIte, eq_self_iff_true, Int.natCast_nonneg, Int.zero_add, Int.add_zero, pi_s, pi_n]
  refine ⟨fun q => h2 (by omega), fun q => ⟨fun q2 => h1 (by omega) (by omega), fun q2 => h2 (by omega)⟩⟩
theorem mX11_backw (l : Launch) : am_M l TB NB vwCl SH KF yX11_back cX11_back 2 (some .int) 2 0 0 yX11_backw :=
  am_M.of xX11_back (by decide +kernel) TB_good GF rfl rfl rfl (by decide) ⟨FT_X11_ok, PT_X11_ok _, CT_X11_ok, KT_X11_ok, LT_X11_ok, NT_X11_ok, fun _ h => absurd h List.not_mem_nil⟩ pX11_backw
/-! THE CHARS of the text of signs, exactly. Printed by wip/am/chk/hand/ud.py out of 22.c. -/
theorem am_M.ofT2E {l : Launch} {cl : List vw_C} {SH : am_Sh} {KF : am_Kf} {y : MethodName} {cc : ByteArray} {maxL : Nat} {ret : Option FieldType} {d mc ms : Nat} {sp : am_Sp} (X : am_X) (hy : plainName y.cls = true) (hyc : y.cls = "LadderStreet$Tokens") (hG : ∃ tyc, am_G TB cl SH KF tyc) (hSH : am_SH X = SH) (hKF : am_KF X = KF) (hrt : am_rt X = ret) (hd : 6 ≤ d) (hO : am_O l TB NB cl y.cls y.name d X)
    (body : ∀ (n0 : Nat) (as : List Value) (σ : am_S) (post : Option Value → am_S → Prop) (AA : Nat → List (Option Value) → List Value → Nat → am_S → Prop), (∀ cuts f pc ls stk n τ, am_vc cc X (n0 + mc) post AA cuts f pc ls stk n τ → AA pc ls stk n τ) →
      (∀ pc ls stk n τ, decode cc pc = .ok (.ldc 82, 2) → decode cc (pc + 2) = .ok (.invokevirtual 29, 3) → (stk.map fun v => v.category).sum ≤ 8 → AA (pc + 5) ls (.int (Int32.ofInt 9) :: stk) n τ → AA pc ls stk n τ) →
      (∀ pc (k : Fin 4) (j : Nat) ls stk n τ, decode cc pc = .ok (.ldc 82, 2) → decode cc (pc + 2) = .ok (.iload_n k, 1) → decode cc (pc + 3) = .ok (.invokevirtual 35, 3) → (stk.map fun v => v.category).sum ≤ 8 → j < 9 → ls[(k : Nat)]? = some (some (.int (Int32.ofInt (j : Int)))) → AA (pc + 6) ls (.int (chx 1 (Int32.ofInt (j : Int))) :: stk) n τ → AA pc ls stk n τ) →
      sp as n0 σ post → (am_sl as).length ≤ maxL ∧ AA 0 (am_entry maxL as) [] n0 σ) : am_M l TB NB cl SH KF y cc maxL ret d mc ms sp := by
  subst hSH; subst hKF; subst hrt
  intro D aC b n0 as σ post hsp hszm
  refine Met.ofW (cc := cc) (maxL := maxL) (ret := am_rt X) hy rfl ?_
  intro p e s m args below meth c s₁ B hml hv
  obtain ⟨rfl, hsz, hP, hK, hN⟩ := hv
  have hts : ∀ w ∈ TB, w.before (as.map (am_c b)).toArray s = true := fun w hw => atoms_spec (ws := .code y cc maxL (am_rt X) :: am_gb TB) B.pre w (List.mem_cons_of_mem _ (List.mem_filter.mpr ⟨hw, TB_good w hw⟩))
  have hown : s.vm.findClass y.cls = some m.cls := findClass_of_methodNamed B.named
  have hownT : s.vm.findClass "LadderStreet$Tokens" = some m.cls := by rw [← hyc]; exact hown
  have hnm : meth.name = y.name := (name_of_methodNamed B.named B.method).1
  have C : am_C p l (am_rm d mc ms) s m (as.map (am_c b)).toArray meth c cl TB NB D aC b n0 (n0 + mc) maxL cc y.cls X (am_KF X) := ⟨B.exec, B.bytes, hml, hown, hts, hN, hK, B.notSynchronized, hsz, Or.inl ⟨B.returns, rfl⟩, ⟨d, by omega, by rw [Nat.add_sub_cancel_left, hszm, Nat.add_sub_cancel_left], by rw [hnm]; exact hO⟩, hG⟩
  have fx : CallFix p m c cc maxL s (as.map (am_c b)).toArray TB "LadderStreet$Tokens" := ⟨B.exec, B.bytes, hml, hownT, hts⟩
  obtain ⟨adK, adV, hA⟩ := hN.2
  have hA : am_StA adK adV b s := hA
  obtain ⟨h1, h2⟩ := body n0 as σ post _ (fun cuts f pc ls stk n τ h => am_vc_ok (e := e) (below := below) (cuts := cuts) C f pc ls stk n τ h)
    (fun pc ls stk n τ g1 g2 g3 g4 q1 q2 q3 H locs lc hP hS hl => by
      have hsn : am_sz (am_SH X) (am_KF X) n - am_sz (am_SH X) (am_KF X) n0 ≤ ms := by have := am_sz_le (SH := am_SH X) (KF := am_KF X) q2; omega
      refine va_ldcS B.exec B.bytes hownT hA.2.1 g1 ?_
      refine va_calli (va_runV (As := []) (rest := stk.map (am_c b)) (C := "java/lang/String") (n := 0) fx (jm_length l b adK adV H (i := 1) (by decide)) ⟨⟨rfl, rfl, by show 2 + 1 ≤ d; omega, by show 8 + (1 + 11) + 64 * 2 ≤ 64 * d; omega, am_words hts (tk_234), am_code_in, hts _ (tk_234), hts _ (tk_108), ⟨by decide +kernel, by decide +kernel⟩, am_sig (na := 0) (by decide +kernel), hts _ (tk_231)⟩, hts _ (tk_232), hts _ (tk_233)⟩ ⟨am_blS, vk_recv hA.2.2.1 (by decide) hS, fun U hU hW => ⟨rfl, hU, hA.at hU hS hW⟩⟩ rfl rfl hl.1 rfl (lv_room (by rw [am_cats]; exact g3)) g2 ⟨by show n - n0 + 0 ≤ mc; omega, by show _ + 0 ≤ ms; omega⟩) hS (fun q _ h => h) (fun q h => h) (fun r u t H1 locs1 ht hvm hr0 hB hz1 hk1 hS1 => ?_)
      have hH1 : H1 = H := by rw [← ht]; exact hB
      subst hH1
      have e0 : r = Int32.ofInt 9 := hr0.trans (by decide +kernel)
      subst e0
      exact g4 q1 q2 q3 H1 locs1 lc hP hS1 hl)
    (fun pc k j ls stk n τ g1 g2 g2b g3 gj gl g4 q1 q2 q3 H locs lc hP hS hl => by
      have hsn : am_sz (am_SH X) (am_KF X) n - am_sz (am_SH X) (am_KF X) n0 ≤ ms := by have := am_sz_le (SH := am_SH X) (KF := am_KF X) q2; omega
      have jb : ∀ j : Nat, j < 9 → ¬ Int32.ofInt (j : Int) < 0 ∧ Int32.ofInt (j : Int) < Int32.ofNat (am_stl.getD 1 0) ∧ ¬ (am_stl.getD 1 0 ≤ (Int32.ofInt (j : Int)).toNatClampNeg) := by decide +kernel
      obtain ⟨j1, j2, j3⟩ := jb j gj
      refine va_ldcS B.exec B.bytes hownT hA.2.1 g1 ?_
      refine lv_iload_n B.exec B.bytes g2 rfl (am_lv_at hl gl) ?_
      refine va_calli (va_runV (As := [.int (Int32.ofInt (j : Int))]) (rest := stk.map (am_c b)) (C := "java/lang/String") (n := 1) fx (jm_charAtE l b adK adV H (i := 1) (by decide) (k := Int32.ofInt (j : Int)) j1 j2 (fun z => z.elim j1 j3)) ⟨⟨rfl, rfl, by show 4 + 1 ≤ d; omega, by show 8 + (2 + 11) + 64 * 4 ≤ 64 * d; omega, am_words hts (tk_244), am_code_in, hts _ (tk_244), hts _ (tk_108), ⟨by decide +kernel, by decide +kernel⟩, am_sig (na := 1) (by decide +kernel), hts _ (tk_241)⟩, hts _ (tk_242), hts _ (tk_243)⟩ ⟨am_blS, vk_recv hA.2.2.1 (by decide) hS, fun U hU hW => ⟨rfl, hU, hA.at hU hS hW⟩⟩ rfl rfl hl.1 rfl (lv_room (by rw [am_cats]; exact g3)) g2b ⟨by show n - n0 + 0 ≤ mc; omega, by show _ + 0 ≤ ms; omega⟩) hS (fun q _ h => h) (fun q h => h) (fun r u t H1 locs1 ht hvm hr0 hB hz1 hk1 hS1 => ?_)
      have hH1 : H1 = H := by rw [← ht]; exact hB
      subst hH1
      have e9 := hr0.2
      subst e9
      exact g4 q1 q2 q3 H1 locs1 lc hP hS1 hl) hsp
  have hl := lv_entry (as.map (am_c b)) (n := maxL) (by rw [am_sl_len]; exact h1)
  have h3 := h2 (Nat.le_refl _) (Nat.le_add_right _ _) (by simp [am_entry]; omega) s.heap [] _ hP va_S.rf (am_entry_lv hl)
  rw [Nat.sub_self, Nat.sub_self, Nat.add_sub_cancel_left, hszm, Nat.add_sub_cancel_left] at h3
  rw [lg_entry_eq]
  exact h3
/-! WHAT A TEXT SAYS: its tokens, one after the other. b: its bytes, Z: how many. Printed from wip/am/chk/hand/u1.in. -/
def isLt (c : Int) : Bool := decide (97 ≤ c) && decide (c ≤ 122)
def isDg (c : Int) : Bool := decide (48 ≤ c) && decide (c ≤ 57)
def isBl (c : Int) : Bool := decide (c = 9) || (decide (c = 10) || (decide (c = 13) || decide (c = 32)))
theorem isLt_i {c : Int} : isLt c = true ↔ 97 ≤ c ∧ c ≤ 122 := by simp [isLt]
theorem isDg_i {c : Int} : isDg c = true ↔ 48 ≤ c ∧ c ≤ 57 := by simp [isDg]
theorem isBl_i {c : Int} : isBl c = true ↔ c = 9 ∨ c = 10 ∨ c = 13 ∨ c = 32 := by simp [isBl]
/-- on from i as long as p holds -/
def rn (p : Int → Bool) (b : Nat → Int) (Z : Nat) : Nat → Nat → Nat
  | 0, i => i
  | f + 1, i => if i < Z ∧ p (b i) = true then rn p b Z f (i + 1) else i
def rr (p : Int → Bool) (b : Nat → Int) (Z i : Nat) : Nat := rn p b Z (Z - i) i
theorem rr_go {p : Int → Bool} {b : Nat → Int} {Z i : Nat} (h : i < Z) (hp : p (b i) = true) : rr p b Z i = rr p b Z (i + 1) := by
  unfold rr
  rw [show Z - i = (Z - (i + 1)) + 1 by omega]
  simp only [rn]
  rw [if_pos ⟨h, hp⟩]
theorem rr_no {p : Int → Bool} {b : Nat → Int} {Z i : Nat} (h : ¬ (i < Z ∧ p (b i) = true)) : rr p b Z i = i := by
  unfold rr
  cases Z - i with
  | zero => rfl
  | succ f => simp only [rn]; rw [if_neg h]
theorem rn_ge {p : Int → Bool} {b : Nat → Int} {Z : Nat} : ∀ (f i : Nat), i ≤ rn p b Z f i
  | 0, i => Nat.le_refl _
  | f + 1, i => by
    simp only [rn]
    split
    · exact Nat.le_trans (Nat.le_succ i) (rn_ge f (i + 1))
    · exact Nat.le_refl _
theorem rn_le {p : Int → Bool} {b : Nat → Int} {Z : Nat} : ∀ (f i : Nat), i ≤ Z → rn p b Z f i ≤ Z
  | 0, i, h => h
  | f + 1, i, h => by
    simp only [rn]
    split
    · rename_i q
      exact rn_le f (i + 1) q.1
    · exact h
theorem rr_ge {p : Int → Bool} {b : Nat → Int} {Z i : Nat} : i ≤ rr p b Z i := rn_ge _ _
theorem rr_le {p : Int → Bool} {b : Nat → Int} {Z i : Nat} (h : i ≤ Z) : rr p b Z i ≤ Z := rn_le _ _ h
theorem rn_in {p : Int → Bool} {b : Nat → Int} {Z : Nat} : ∀ (f i j : Nat), i ≤ j → j < rn p b Z f i → p (b j) = true
  | 0, i, j, h1, h2 => absurd (show j < i from h2) (by omega)
  | f + 1, i, j, h1, h2 => by
    simp only [rn] at h2
    split at h2
    · rename_i q
      by_cases e : j = i
      · rw [e]; exact q.2
      · exact rn_in f (i + 1) j (by omega) h2
    · omega
/-- all between hold p -/
theorem rr_in {p : Int → Bool} {b : Nat → Int} {Z i j : Nat} (h1 : i ≤ j) (h2 : j < rr p b Z i) : p (b j) = true := rn_in _ _ _ h1 h2
theorem rn_end {p : Int → Bool} {b : Nat → Int} {Z : Nat} : ∀ (f i : Nat), Z ≤ f + i → ¬ (rn p b Z f i < Z ∧ p (b (rn p b Z f i)) = true)
  | 0, i, h => fun z => by have := z.1; simp only [rn] at this; omega
  | f + 1, i, h => by
    simp only [rn]
    split
    · exact rn_end f (i + 1) (by omega)
    · assumption
theorem rr_end {p : Int → Bool} {b : Nat → Int} {Z i : Nat} : ¬ (rr p b Z i < Z ∧ p (b (rr p b Z i)) = true) := rn_end _ _ (by omega)
/-- where what stands at i ends -/
def tnx (b : Nat → Int) (Z i : Nat) : Nat := if Z ≤ i then i else if isLt (b i) = true then rr isLt b Z i else if isDg (b i) = true then rr isDg b Z i else i + 1
theorem tnx_b {b : Nat → Int} {Z i : Nat} (h : i < Z) : i < tnx b Z i ∧ tnx b Z i ≤ Z := by
  unfold tnx
  rw [if_neg (by omega)]
  split
  · rename_i q
    rw [rr_go h q]
    exact ⟨rr_ge, rr_le h⟩
  · split
    · rename_i q
      rw [rr_go h q]
      exact ⟨rr_ge, rr_le h⟩
    · omega
/-- where the j-th token stands -/
def ps (b : Nat → Int) (Z : Nat) : Nat → Nat
  | 0 => rr isBl b Z 0
  | j + 1 => rr isBl b Z (tnx b Z (ps b Z j))
theorem ps_le {b : Nat → Int} {Z : Nat} : ∀ j, ps b Z j ≤ Z
  | 0 => rr_le (Nat.zero_le _)
  | j + 1 => by
    have h := ps_le (b := b) (Z := Z) j
    show rr isBl b Z (tnx b Z (ps b Z j)) ≤ Z
    by_cases q : ps b Z j < Z
    · exact rr_le (tnx_b q).2
    · refine rr_le ?_
      unfold tnx
      rw [if_pos (by omega)]
      exact h
theorem ps_lt {b : Nat → Int} {Z j : Nat} (h : ps b Z j < Z) : ps b Z j < ps b Z (j + 1) := Nat.lt_of_lt_of_le (tnx_b h).1 rr_ge
/-- n letters from i on as one number -/
def pk (b : Nat → Int) (i : Nat) : Nat → Int64
  | 0 => 0
  | n + 1 => pk b i n * 27 + (Int32.ofInt (b (i + n)) - Int32.ofInt 97 + Int32.ofInt 1).toInt64
/-- the first place of x in a row; its length without -/
def kwi (x : Int64) : List Int64 → Nat
  | [] => 0
  | a :: t => if a = x then 0 else kwi x t + 1
theorem kwi_le {x : Int64} : ∀ l : List Int64, kwi x l ≤ l.length
  | [] => Nat.le_refl _
  | a :: t => by
    simp only [kwi]
    split
    · exact Nat.zero_le _
    · exact Nat.succ_le_succ (kwi_le t)
theorem kwi_lt {x : Int64} : ∀ {l : List Int64} {k : Nat}, k < kwi x l → ¬ l.getD k 0 = x
  | [], k, h => absurd (show k < 0 from h) (Nat.not_lt_zero _)
  | a :: t, k, h => by
    simp only [kwi] at h
    split at h
    · exact absurd h (Nat.not_lt_zero _)
    · rename_i q
      cases k with
      | zero => exact q
      | succ k => exact kwi_lt (l := t) (by omega)
theorem kwi_at {x : Int64} : ∀ {l : List Int64}, kwi x l < l.length → l.getD (kwi x l) 0 = x
  | [], h => absurd h (Nat.not_lt_zero _)
  | a :: t, h => by
    simp only [kwi] at h ⊢
    split
    · assumption
    · rename_i q
      rw [if_neg q] at h
      exact kwi_at (l := t) (by simpa using h)
def sgn (c : Int) : Int := if c = 59 then 4 else if c = 61 then 5 else if c = 40 then 6 else if c = 41 then 7 else if c = 43 then 8 else if c = 45 then 9 else if c = 42 then 10 else if c = 47 then 15 else if c = 60 then 13 else 3
/-- what kind of token stands at i: 0 the end, 1 a NAME, 2 an INT, 3 none, 4 to 15 signs, 20 to 38 words -/
def tkd (b : Nat → Int) (Z i : Nat) : Int := if Z ≤ i then 0 else if isLt (b i) = true then (if rr isLt b Z i - i ≤ 8 then (if kwi (pk b i (rr isLt b Z i - i)) KEYS < 19 then 20 + (kwi (pk b i (rr isLt b Z i - i)) KEYS : Int) else 1) else 3) else if isDg (b i) = true then (if rr isDg b Z i - i ≤ 4 then 2 else 3) else sgn (b i)
def dv (b : Nat → Int) (i : Nat) : Nat → Int
  | 0 => 0
  | n + 1 => 10 * dv b i n + (b (i + n) - 48)
def twI (b : Nat → Int) (Z i : Nat) : Int := dv b i (rr isDg b Z i - i)
def twN (b : Nat → Int) (Z i : Nat) : Int64 := pk b i (rr isLt b Z i - i)
theorem sgn_b (c : Int) : 3 ≤ sgn c ∧ sgn c ≤ 15 := by
  unfold sgn
  repeat' split
  all_goals decide
theorem tkd_b {b : Nat → Int} {Z i : Nat} : 0 ≤ tkd b Z i ∧ tkd b Z i ≤ 38 ∧ (tkd b Z i = 0 ↔ Z ≤ i) := by
  unfold tkd
  have s := sgn_b (b i)
  repeat' split
  all_goals omega
/-- the tokens' kinds, places, numbers, names -/
def tK (b : Nat → Int) (Z j : Nat) : Int := tkd b Z (ps b Z j)
def tP (b : Nat → Int) (Z j : Nat) : Int := (ps b Z j : Int)
def tV (b : Nat → Int) (Z j : Nat) : Int := twI b Z (ps b Z j)
def tN (b : Nat → Int) (Z j : Nat) : Int64 := twN b Z (ps b Z j)
theorem tP_lt {b : Nat → Int} {Z j : Nat} (h : tK b Z j ≠ 0) : tP b Z j < tP b Z (j + 1) := by
  have h1 : ps b Z j < Z := Nat.lt_of_not_le (fun q => h ((tkd_b (b := b) (Z := Z) (i := ps b Z j)).2.2.mpr q))
  have := ps_lt (b := b) (Z := Z) (j := j) h1
  unfold tP
  omega
theorem dv_b {b : Nat → Int} {i : Nat} : ∀ {n : Nat}, (∀ j, j < n → 48 ≤ b (i + j) ∧ b (i + j) ≤ 57) → n ≤ 4 → 0 ≤ dv b i n ∧ dv b i n ≤ 9999 := by
  have one : ∀ n, (∀ j, j < n → 48 ≤ b (i + j) ∧ b (i + j) ≤ 57) → 0 ≤ dv b i n ∧ dv b i n < 10 ^ n := by
    intro n
    induction n with
    | zero => intro _; exact ⟨Int.le_refl _, by show (0 : Int) < 10 ^ 0; decide⟩
    | succ n ih =>
      intro h
      have h1 := ih (fun j hj => h j (by omega))
      have h2 := h n (by omega)
      simp only [dv]
      have e : (10 : Int) ^ (n + 1) = 10 * 10 ^ n := by rw [Int.pow_succ, Int.mul_comm]
      rw [e]
      generalize (10 : Int) ^ n = q at h1 ⊢
      omega
  intro n h hn
  have h1 := one n h
  have hn' : n = 0 ∨ n = 1 ∨ n = 2 ∨ n = 3 ∨ n = 4 := by omega
  rcases hn' with rfl | rfl | rfl | rfl | rfl <;> (simp only [show (10 : Int) ^ 0 = 1 by decide, show (10 : Int) ^ 1 = 10 by decide, show (10 : Int) ^ 2 = 100 by decide, show (10 : Int) ^ 3 = 1000 by decide, show (10 : Int) ^ 4 = 10000 by decide] at h1; omega)
theorem tV_b {b : Nat → Int} {Z j : Nat} (h : tK b Z j = 2) : 0 ≤ tV b Z j ∧ tV b Z j ≤ 9999 := by
  have e : isDg (b (ps b Z j)) = true ∧ rr isDg b Z (ps b Z j) - ps b Z j ≤ 4 := by
    unfold tK tkd at h
    have s := sgn_b (b (ps b Z j))
    split at h
    · cases h
    · split at h
      · split at h
        · split at h
          · omega
          · cases h
        · cases h
      · split at h
        · split at h
          · exact ⟨by assumption, by assumption⟩
          · cases h
        · exfalso
          unfold sgn at h
          repeat' split at h
          all_goals omega
  exact dv_b (fun k hk => isDg_i.mp (rr_in (p := isDg) (Z := Z) (i := ps b Z j) (by omega) (by omega))) e.2
theorem tP_b {b : Nat → Int} {Z j : Nat} (h : Z ≤ 2000) : 0 ≤ tP b Z j ∧ tP b Z j ≤ 2000 := by
  have := ps_le (b := b) (Z := Z) j
  unfold tP
  omega
