/-! the reference newly made keeps the bounds; its laws can be reckoned -/
def ini_M : sa_M := [(51, 0, 63), (52, 0, 2000), (53, 0, 2000), (54, 0, 403), (55, 0, 403), (56, 0, 403), (57, 0, 403), (58, 0, 19), (59, 0, 5), (60, 0, 2), (61, 0, 2), (62, 0, 10), (63, 0, 10), (64, 0, 10), (65, 0, 10), (66, 0, 2), (67, 0, 8), (68, 0, 8), (69, 0, 260), (70, 0, 260), (71, 0, 260), (72, 0, 260), (73, 0, 260), (74, 0, 840), (75, 0, 840), (76, 0, 64), (77, 0, 9), (78, 0, 400), (79, 0, 51), (80, 0, 51), (81, 0, 2040), (82, 0, 5), (83, 0, 144), (84, 0, 144), (85, 0, 5), (86, 0, 5), (87, 0, 32), (88, 0, 20), (89, 0, 20), (90, 0, 3), (91, 0, 153)]
/-- the numbers below n are in their bounds -/
def sb_lo (B : sa_I) (n : Nat) (σ : am_S) : Prop := (∀ o q k, o < n → SH o = .inr q → k < q.2 → (sb_a B o k).1 ≤ (σ.1 o k).toInt ∧ (σ.1 o k).toInt ≤ (sb_a B o k).2) ∧ (∀ o c k, o < n → SH o = .inl c → (B.2 o k).1 ≤ (σ.1 o k).toInt ∧ (σ.1 o k).toInt ≤ (B.2 o k).2)
theorem SH_big {o : Nat} (h : 92 ≤ o) : SH o = .inr (0, 0) := by
  unfold SH
  rw [List.getD_eq_getElem?_getD, List.getElem?_eq_none (show SHl.length ≤ o from Nat.le_trans (by decide) h)]
  rfl
theorem BF_big {o k : Nat} (h : 63 ≤ k) : B0.2 o k = ((-2147483648 : Int), (2147483647 : Int)) := by
  show (if (o = 51 ∧ k = 18) ∨ (o = 51 ∧ k = 2) ∨ (o = 0 ∧ k = 1) then ((0 : Int), (0 : Int)) else BB.2 o k) = _
  rw [if_neg (by omega)]
  show (match am_find BFl o with
  | some l => l.getD k ((-2147483648 : Int), (2147483647 : Int))
  | none => ((-2147483648 : Int), (2147483647 : Int))) = _
  cases hf : am_find BFl o with
  | none => rfl
  | some l =>
    have hl : l.length ≤ 63 := by
      have q : ∀ z ∈ BFl, z.2.length ≤ 63 := by decide
      exact q _ (am_find_mem hf)
    show l.getD k ((-2147483648 : Int), (2147483647 : Int)) = _
    rw [List.getD_eq_getElem?_getD, List.getElem?_eq_none (by omega)]
    rfl
theorem ini_f : (List.range 63).all (fun k => decide ((B0.2 51 k).1 ≤ ((am_find iniV k).getD 0).toInt ∧ ((am_find iniV k).getD 0).toInt ≤ (B0.2 51 k).2)) = true := by decide +kernel
theorem ini_a : (List.range 92).all (fun o => decide (o ≤ 51) || decide ((B0.1 o).length = 1) && decide ((sb_a B0 o 0).1 ≤ 0 ∧ 0 ≤ (sb_a B0 o 0).2)) = true := by decide +kernel
theorem ini_ok {σ : am_S} (h : sb_lo B0 51 σ) : sb_ok B0 SH (iniF iniV 92 σ) := by
  refine ⟨fun o q k hs hk => ?_, fun o ci k hs => ?_⟩
  · by_cases h1 : o < 51
    · have e : (iniF iniV 92 σ).1 o k = σ.1 o k := by
        simp only [iniF]
        rw [if_neg (by omega), if_neg (by omega)]
      rw [e]
      exact h.1 o q k h1 hs hk
    · by_cases h2 : o = 51
      · subst h2; cases hs
      · by_cases h3 : o < 92
        · have e : (iniF iniV 92 σ).1 o k = 0 := by
            simp only [iniF]
            rw [if_neg h2, if_pos (by omega)]
          rw [e]
          have q1 := List.all_eq_true.mp ini_a o (List.mem_range.mpr h3)
          simp only [Bool.or_eq_true, Bool.and_eq_true, decide_eq_true_eq] at q1
          rcases q1 with q1 | ⟨q1, q2⟩
          · omega
          · have e2 : sb_a B0 o k = sb_a B0 o 0 := by
              unfold sb_a
              rw [q1, Nat.mod_one, Nat.mod_one]
            rw [e2]
            exact q2
        · rw [SH_big (by omega)] at hs
          cases hs
          exact absurd hk (Nat.not_lt_zero _)
  · by_cases h1 : o < 51
    · have e : (iniF iniV 92 σ).1 o k = σ.1 o k := by
        simp only [iniF]
        rw [if_neg (by omega), if_neg (by omega)]
      rw [e]
      exact h.2 o ci k h1 hs
    · by_cases h2 : o = 51
      · subst h2
        by_cases hk : k < 63
        · have q1 := of_decide_eq_true (List.all_eq_true.mp ini_f k (List.mem_range.mpr hk))
          exact q1
        · rw [BF_big (by omega)]
          have l1 := ii_lo ((iniF iniV 92 σ).1 51 k)
          have l2 := ii_hi ((iniF iniV 92 σ).1 51 k)
          exact ⟨l1, by show _ ≤ (2147483647 : Int); omega⟩
      · by_cases h3 : o < 92
        · exfalso
          have q1 : ∀ o, o < 92 → ¬ o ≤ 51 → (SH o).isLeft = false := by decide +kernel
          have := q1 o h3 (by omega)
          rw [hs] at this
          cases this
        · rw [SH_big (by omega)] at hs
          cases hs
def sX12_initz : am_Sp := fun as n σ post => n = 52 ∧ as = [.ref 51] ∧ (∀ k, σ.1 51 k = 0) ∧ sb_lo B0 51 σ ∧ ∀ τ, sb_ok B0 SH τ → post none τ
theorem ini_B {τ : am_S} (h : sb_ok B0 SH τ) : sb_ok BB SH τ ∧ JJ τ := by
  have hF : ∀ o k, (BB.2 o k).1 ≤ (B0.2 o k).1 ∧ (B0.2 o k).2 ≤ (BB.2 o k).2 := by
    intro o k
    show _ ≤ (if (o = 51 ∧ k = 18) ∨ (o = 51 ∧ k = 2) ∨ (o = 0 ∧ k = 1) then ((0 : Int), (0 : Int)) else BB.2 o k).1 ∧ (if (o = 51 ∧ k = 18) ∨ (o = 51 ∧ k = 2) ∨ (o = 0 ∧ k = 1) then ((0 : Int), (0 : Int)) else BB.2 o k).2 ≤ _
    split
    · rename_i q
      rcases q with ⟨rfl, rfl⟩ | ⟨rfl, rfl⟩ | ⟨rfl, rfl⟩ <;> exact ⟨by decide, by decide⟩
    · exact ⟨Int.le_refl _, Int.le_refl _⟩
  have hA : ∀ o k, (sb_a BB o k).1 ≤ (sb_a B0 o k).1 ∧ (sb_a B0 o k).2 ≤ (sb_a BB o k).2 := by
    intro o k
    by_cases q : o = 67 ∨ o = 68 ∨ o = 74
    · have e : sb_a B0 o k = (0, 0) := sb_1 (B := B0) (by show (if _ then _ else _) = _; rw [if_pos q])
      rw [e]
      rcases q with rfl | rfl | rfl
      · rw [sb_1 (q := (0, 260)) rfl]; exact ⟨by decide, by decide⟩
      · rw [sb_1 (q := (0, 260)) rfl]; exact ⟨by decide, by decide⟩
      · rw [sb_1 (q := (0, 5)) rfl]; exact ⟨by decide, by decide⟩
    · by_cases q2 : o = 60
      · subst q2
        rw [show sb_a B0 60 k = (0, 12) from sb_1 (B := B0) (q := (0, 12)) rfl]
        have e : sb_a BB 60 k = (-2147483648, 2147483647) := by
          unfold sb_a
          have : BB.1 60 = [(-2147483648, 2147483647)] := rfl
          rw [this]
          simp [Nat.mod_one]
        rw [e]
        exact ⟨by decide, by decide⟩
      · have e : sb_a B0 o k = sb_a BB o k := by
          unfold sb_a
          have : B0.1 o = BB.1 o := by show (if o = 67 ∨ o = 68 ∨ o = 74 then _ else if o = 60 then _ else BB.1 o) = _; rw [if_neg q, if_neg q2]
          rw [this]
        rw [e]
        exact ⟨Int.le_refl _, Int.le_refl _⟩
  have z : ∀ o, (o = 67 ∨ o = 68 ∨ o = 74) → ∀ k, k < (match SH o with
    | .inr q => q.2
    | .inl _ => 0) → (τ.1 o k).toInt = 0 := by
    intro o ho k hk
    have e : sb_a B0 o k = (0, 0) := sb_1 (B := B0) (by show (if _ then _ else _) = _; rw [if_pos ho])
    cases hs : SH o with
    | inl c => rw [hs] at hk; exact absurd hk (Nat.not_lt_zero _)
    | inr q =>
      rw [hs] at hk
      have := h.1 o q k hs hk
      rw [e] at this
      have h1 : (0 : Int) ≤ (τ.1 o k).toInt := this.1
      have h2 : (τ.1 o k).toInt ≤ 0 := this.2
      omega
  refine ⟨⟨fun o q k hs hk => ?_, fun o ci k hs => ?_⟩, ⟨fun i hi hc => ?_, fun k hk b h1 h2 => ?_⟩, ?_⟩
  · have h1 := h.1 o q k hs hk
    have h2 := hA o k
    omega
  · have h1 := h.2 o ci k hs
    have h2 := hF o k
    omega
  · rw [z 74 (by decide) i hi] at hc
    omega
  · exfalso
    have hl := h.2 51 12 18 rfl
    have hl1 : (0 : Int) ≤ (τ.1 51 18).toInt := hl.1
    have hl2 : (τ.1 51 18).toInt ≤ 0 := hl.2
    rw [z 68 (by decide) _ (by show 4 * (τ.1 51 18).toInt.toNat + k < 8; omega)] at h2
    rw [z 67 (by decide) _ (by show 4 * (τ.1 51 18).toInt.toNat + k < 8; omega)] at h1
    omega
  · have hl := h.2 51 12 18 rfl
    have hl1 : (0 : Int) ≤ (τ.1 51 18).toInt := hl.1
    have hl2 : (τ.1 51 18).toInt ≤ 0 := hl.2
    have hs := h.1 60 (0, 2) (τ.1 51 18).toInt.toNat rfl (by show (τ.1 51 18).toInt.toNat < 2; omega)
    rw [sb_1 (q := (0, 12)) rfl] at hs
    exact hs
theorem ini_TP {τ : am_S} (h : sb_ok B0 SH τ) : τ.1 0 1 = τ.1 51 2 := by
  have h1 : 0 ≤ (τ.1 0 1).toInt ∧ (τ.1 0 1).toInt ≤ 0 := h.2 0 11 1 rfl
  have h2 : 0 ≤ (τ.1 51 2).toInt ∧ (τ.1 51 2).toInt ≤ 0 := h.2 51 12 2 rfl
  exact Int32.toInt_inj.mp (by omega)
set_option maxRecDepth 100000 in
theorem mX12_initz (l : Launch) : am_MS l TB NB vwCl SH K2 KF yX12_init cX12_init 1 none 4 40 11824 sX12_initz := by
  refine am_MS.of xX12_initr xX12_initz (by decide +kernel) TB_good G2 GF K2_len rfl rfl rfl rfl rfl rfl (by decide) ⟨FT_X12_ok, PI_X12_ok, CT_X12_ok, KT_X12_ok, LT_X12_ok, NT_X12_ok, fun _ h => absurd h List.not_mem_nil⟩ ⟨FT_X12_ok, PI_X12_ok, CT_X12_ok, KT_X12_ok, LT_X12_ok, NT_X12_ok, ?_⟩ ?_
  · exact List.forall_mem_cons.mpr ⟨⟨yX12_plain, cX12_plain, 3, none, 2, 1, nX12_plain_0 l, by decide, by decide, tb_at 1300 (by decide +kernel) (by decide +kernel), tb_at 120 (by decide +kernel) (by decide +kernel), ⟨by decide +kernel, by decide +kernel, by decide +kernel⟩, rfl, tb_at 1297 (by decide +kernel) (by decide +kernel), tb_at 1299 (by decide +kernel) (by decide +kernel), ⟨(RX12, TX12, 63), rfl, tb_at 37 (by decide +kernel) (by decide +kernel)⟩⟩, List.forall_mem_cons.mpr ⟨⟨yX12_word, cX12_word, 7, (some .long), 3, 7, nX12_word_0 l, by decide, by decide, tb_at 1303 (by decide +kernel) (by decide +kernel), tb_at 120 (by decide +kernel) (by decide +kernel), ⟨by decide +kernel, by decide +kernel, by decide +kernel⟩, rfl, tb_at 1301 (by decide +kernel) (by decide +kernel), tb_at 1302 (by decide +kernel) (by decide +kernel)⟩, List.forall_mem_cons.mpr ⟨⟨yX12_begins, cX12_begins, 2, none, 2, 0, nX12_begins_0 l, by decide, by decide, tb_at 1311 (by decide +kernel) (by decide +kernel), tb_at 120 (by decide +kernel) (by decide +kernel), ⟨by decide +kernel, by decide +kernel, by decide +kernel⟩, rfl, tb_at 1308 (by decide +kernel) (by decide +kernel), tb_at 1310 (by decide +kernel) (by decide +kernel), ⟨(RX12, TX12, 63), rfl, tb_at 38 (by decide +kernel) (by decide +kernel)⟩⟩, List.forall_mem_cons.mpr ⟨⟨yX12_keepsRow, cX12_keepsRow, 2, none, 2, 0, nX12_keepsRow_0 l, by decide, by decide, tb_at 1315 (by decide +kernel) (by decide +kernel), tb_at 120 (by decide +kernel) (by decide +kernel), ⟨by decide +kernel, by decide +kernel, by decide +kernel⟩, rfl, tb_at 1312 (by decide +kernel) (by decide +kernel), tb_at 1314 (by decide +kernel) (by decide +kernel), ⟨(RX12, TX12, 63), rfl, tb_at 39 (by decide +kernel) (by decide +kernel)⟩⟩, fun _ h => absurd h List.not_mem_nil⟩⟩⟩⟩
  · intro n0 as σ post AA BQ hA hB sw h
    obtain ⟨rfl, rfl, hz, hlo, h⟩ := h
    refine ⟨by simp [am_sl, Value.category], ?_⟩
    show AA 0 [some (.ref 51)] [] 52 σ
    refine hA [] 2 _ _ _ _ _ ?_
    simp only [dX12_init_0, dX12_init_1, NT_X12, PI_X12_13, PI_X12_17, PI_X12_20, PI_X12_24, PI_X12_27, PI_X12_30, PI_X12_34, PI_X12_37, PI_X12_40, PI_X12_43, PI_X12_46, PI_X12_49, PI_X12_52, PI_X12_55, PI_X12_58, PI_X12_61, PI_X12_64, PI_X12_67, PI_X12_70, PI_X12_74, PI_X12_77, PI_X12_80, PI_X12_83, PI_X12_86, PI_X12_89, PI_X12_92, PI_X12_95, PI_X12_98, PI_X12_101, PI_X12_104, PI_X12_107, PI_X12_110, PI_X12_113, PI_X12_116, PI_X12_119, PI_X12_122, PI_X12_125, PI_X12_128, PI_X12_131, PI_X12_134, PI_X12_137, FT_X12_34, xX12_initr_SH, xX12_initr_KF, xX12_initr_rt, xX12_initr_FT, xX12_initr_PT, xX12_initr_CT, xX12_initr_KT, xX12_initr_LT, xX12_initr_NT, o_aload_n, o_bipush, o_getfield, o_iconst, o_invokespecial, o_invokestatic, o_invokevirtual, o_lastore, o_newarray, o_putfield, o_return_, o_sipush, SH_51, K2_51_1, SH_52, K2_51_17, K2_51_21, SH_59, K2_51_22, SH_60, K2_51_23, SH_61, K2_51_24, SH_62, K2_51_25, SH_63, K2_51_26, SH_64, K2_51_27, SH_65, K2_51_28, SH_66, K2_51_29, SH_67, K2_51_3, SH_53, K2_51_30, SH_68, K2_51_32, SH_69, K2_51_33, SH_70, K2_51_34, SH_71, K2_51_35, SH_72, K2_51_36, SH_73, K2_51_38, SH_74, K2_51_39, SH_75, K2_51_40, SH_76, K2_51_42, SH_77, K2_51_43, SH_78, K2_51_45, SH_79, K2_51_46, SH_80, K2_51_5, SH_54, K2_51_50, SH_81, K2_51_51, SH_82, K2_51_52, SH_83, K2_51_53, SH_84, K2_51_55, SH_85, K2_51_56, SH_86, K2_51_57, SH_87, K2_51_59, SH_88, K2_51_6, SH_55, K2_51_60, SH_89, K2_51_61, SH_90, K2_51_62, SH_91, K2_51_7, SH_56, K2_51_8, SH_57, K2_51_9, SH_58, am_ty, am_vc, am_opt, am_cl, am_find, am_ldi, am_ldl, am_lda, am_v, am_1, am_1l, am_1a, am_2, am_2l, am_ix, am_ri, am_arr, am_pf, am_rc, am_mask, am_lg, am_av, am_nat, fv_0, fv_1, fv_2, fv_3, fw_0, fw_1, List.getElem?_cons_zero, List.getElem?_cons_succ, List.set_cons_zero, List.set_cons_succ, List.length_cons, List.length_nil, List.take_succ_cons, List.take_zero, List.drop_succ_cons, List.drop_zero, List.reverse_cons, List.reverse_nil, List.nil_append, List.cons_append, List.append_nil, List.map_cons, List.map_nil, List.sum_cons, List.sum_nil, Value.category, Option.toList_some, Option.toList_none, Nat.reduceAdd, Nat.reduceLT, Nat.reduceLeDiff, Nat.reduceEqDiff, Nat.reduceSub, Nat.add_zero, Nat.le_refl, Nat.zero_le, Int.reduceNeg, Int.reduceLE, Int.reduceLT, true_and, and_true, and_self, if_true, if_false, ite_true, ite_false, eq_self_iff_true, reduceIte, reduceCtorEq, not_false_eq_true, not_true_eq_false, or_true, true_or, or_false, false_or, Nat.lt_irrefl, Nat.zero_lt_succ]
    have e0 : σ = iniF [] 52 σ := by
      refine Prod.ext (funext fun o => funext fun k => ?_) (funext fun o => funext fun k => ?_)
      · simp only [iniF]
        by_cases q : o = 51
        · subst q; rw [if_pos rfl, hz]; rfl
        · rw [if_neg q, if_neg (by omega)]
      · simp only [iniF]
        rw [if_neg (by omega)]
    rw [e0]
    refine ini_walk hA (sw _ _ _ _ _ (ini_refs σ) ?_)
    refine hB [] 2000 _ _ _ _ _ ?_
    have hP : s_P [some (.inr (.inl 51))] [some (.ref 51)] := s_P_r s_P_nil
    exact s_run_ok (X := xX12_initz) (B := B0) (N := 92) (CS := CX12_init) (M := ini_M) (D := LX12_init) (cuts := []) (Fk := ([], [])) (ret := fun _ v => v.isNone) (cut := fun _ _ _ _ _ => false) (J := JT) (σ0 := iniF iniV 92 σ) (E0 := s_aE [some (.inr (.inl 51))]) (ρ0 := s_ρ [some (.inr (.inl 51))] [some (.ref 51)]) (s_ML0_ok rfl rfl) (fun _ _ => trivial) (fun g hg => absurd hg List.not_mem_nil) (s_D_ok LX12_init_ok) (fun E' ρ' v' v τ hr hx hE hv hI => by
      cases v' with
      | some _ => cases hr
      | none =>
        cases v with
        | some _ => exact hv.elim
        | none => exact h τ hI.1) (fun _ _ _ _ _ hc => by cases hc) 2000 339 _ _ [] _ [] _ [] _ (sx_r _ _) (s_start_E hP) sg_F_nil (s_start_L hP) trivial ⟨ini_ok hlo, sb_fr_r _ _⟩ (by decide +kernel)
