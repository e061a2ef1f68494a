/-! THE REFERENCE IS MADE, its keys known. Printed by wip/am/chk/do_initk.py. -/
/-- the states of plain, begins, keepsRow in the tight bounds -/
def plQ (s : Nat) : sa_M := [(60, s, s + 1), (61, s, s + 1), (66, s, s + 1), (67, 4 * s, 4 * s + 4), (68, 4 * s, 4 * s + 4)]
theorem plL_I {s : Nat} {σ0 σ : am_S} (hs : s < 2) (h : sI B0 SH (plQ s) σ0 σ) : ∀ k, k ≤ 4 → sI B0 SH (plQ s) σ0 (plL s k σ)
  | 0, _ => h
  | k + 1, hk => by
    have i := plL_I hs h k (by omega)
    refine sI_arr (q := (0, 8)) (sI_arr (q := (0, 8)) i rfl ?_ ⟨(67, 4 * s, 4 * s + 4), by unfold plQ; simp, rfl, by show 4 * s ≤ 4 * s + k; omega, by show 4 * s + k < 4 * s + 4; omega⟩) rfl ?_ ⟨(68, 4 * s, 4 * s + 4), by unfold plQ; simp, rfl, by show 4 * s ≤ 4 * s + k; omega, by show 4 * s + k < 4 * s + 4; omega⟩
    · rw [sb_1 (q := (0, 0)) rfl]; exact ⟨by decide, by decide⟩
    · rw [sb_1 (q := (0, 0)) rfl]; exact ⟨by decide, by decide⟩
theorem plS_I {s : Nat} {σ : am_S} (hs : s < 2) (h : sb_ok B0 SH σ) : sI B0 SH (plQ s) σ (plS s σ) := by
  unfold plS plZ
  refine plL_I hs (sI_arr (q := (0, 2)) (sI_arr (q := (0, 2)) (sI_arr (q := (0, 2)) ⟨h, sb_fr_r _ _⟩ rfl ?_ ⟨(60, s, s + 1), by unfold plQ; simp, rfl, Nat.le_refl _, Nat.lt_succ_self _⟩) rfl ?_ ⟨(61, s, s + 1), by unfold plQ; simp, rfl, Nat.le_refl _, Nat.lt_succ_self _⟩) rfl ?_ ⟨(66, s, s + 1), by unfold plQ; simp, rfl, Nat.le_refl _, Nat.lt_succ_self _⟩) 4 (by decide)
  · rw [sb_1 (q := (0, 12)) rfl]; exact ⟨by decide, by decide⟩
  · rw [sb_1 (q := (0, 5)) rfl]; exact ⟨by decide, by decide⟩
  · rw [sb_1 (q := (-2147483648, 2147483647)) rfl]; exact ⟨by decide, by decide⟩
theorem plL_n {s : Nat} {σ : am_S} {o i : Nat} : ∀ k, ¬ ((o = 67 ∨ o = 68) ∧ 4 * s ≤ i ∧ i < 4 * s + k) → (plL s k σ).1 o i = σ.1 o i
  | 0, _ => rfl
  | k + 1, h => by
    show (am_pi (am_pi (plL s k σ) _ _ _) _ _ _).1 o i = _
    rw [pi_n _ _ _ _ (fun z => h ⟨Or.inr z.1, by omega⟩), pi_n _ _ _ _ (fun z => h ⟨Or.inl z.1, by omega⟩)]
    exact plL_n k (fun z => h ⟨z.1, by omega⟩)
theorem plL_2 {s : Nat} {σ : am_S} : ∀ k, (plL s k σ).2 = σ.2
  | 0 => rfl
  | k + 1 => plL_2 k
theorem plL_w {s : Nat} {σ : am_S} : ∀ k, ∀ j, j < k → (plL s k σ).1 67 (4 * s + j) = Int32.ofInt 0 ∧ (plL s k σ).1 68 (4 * s + j) = Int32.ofInt 0
  | k + 1, j, h => by
    show (am_pi (am_pi (plL s k σ) _ _ _) _ _ _).1 _ _ = _ ∧ (am_pi (am_pi (plL s k σ) _ _ _) _ _ _).1 _ _ = _
    by_cases q : j = k
    · subst q
      exact ⟨by rw [pi_n _ _ _ _ (fun z => absurd z.1 (by decide)), pi_s], by rw [pi_s]⟩
    · have w := plL_w (s := s) (σ := σ) k j (by omega)
      exact ⟨by rw [pi_n _ _ _ _ (fun z => absurd z.1 (by decide)), pi_n _ _ _ _ (fun z => by omega)]; exact w.1, by rw [pi_n _ _ _ _ (fun z => by omega), pi_n _ _ _ _ (fun z => absurd z.1 (by decide))]; exact w.2⟩
theorem plS_n {s : Nat} {σ : am_S} {o i : Nat} (h : ¬ ((o = 67 ∨ o = 68) ∧ 4 * s ≤ i ∧ i < 4 * s + 4)) (g : ¬ ((o = 60 ∨ o = 61 ∨ o = 66) ∧ i = s)) : (plS s σ).1 o i = σ.1 o i := by
  unfold plS plZ
  rw [plL_n 4 h, pi_n _ _ _ _ (fun z => g ⟨Or.inr (Or.inr z.1), z.2⟩), pi_n _ _ _ _ (fun z => g ⟨Or.inr (Or.inl z.1), z.2⟩), pi_n _ _ _ _ (fun z => g ⟨Or.inl z.1, z.2⟩)]
theorem plS_2 {s : Nat} {σ : am_S} : (plS s σ).2 = σ.2 := plL_2 4
theorem plS_v {s : Nat} {σ : am_S} : (plS s σ).1 60 s = Int32.ofInt 8 ∧ (plS s σ).1 61 s = Int32.ofInt 0 ∧ (plS s σ).1 66 s = Int32.ofInt 0 := by
  unfold plS plZ
  refine ⟨?_, ?_, ?_⟩
  · rw [plL_n 4 (fun z => by omega), pi_n _ _ _ _ (fun z => absurd z.1 (by decide)), pi_n _ _ _ _ (fun z => absurd z.1 (by decide)), pi_s]
  · rw [plL_n 4 (fun z => by omega), pi_n _ _ _ _ (fun z => absurd z.1 (by decide)), pi_s]
  · rw [plL_n 4 (fun z => by omega), pi_s]
def rwM : sa_M := [(80, 0, 51), (51, 47, 47 + 1), (51, 48, 48 + 1)]
theorem bgS_I {B : sa_I} {σ0 σ : am_S} (hB : B.1 80 = [(-2147483648, 2147483647)]) (h : sI B SH rwM σ0 σ) : ∀ k, k ≤ 51 → sI B SH rwM σ0 (bgS k σ)
  | 0, _ => by rw [bgS_0]; exact h
  | k + 1, hk => by
    have i := bgS_I hB h k (by omega)
    rw [← bgS_s]
    exact sI_arr (q := (0, 51)) i rfl (by rw [sb_1 hB]; exact ⟨by decide, by decide⟩) ⟨_, List.mem_cons_self, rfl, Nat.zero_le _, by show k < 51; omega⟩
theorem bgT_I {B : sa_I} {σ0 σ : am_S} {P L : Nat} (hB : B.1 80 = [(-2147483648, 2147483647)]) (h : sI B SH rwM σ0 σ) : ∀ k, k ≤ 5 → sI B SH rwM σ0 (bgT k P L σ)
  | 0, _ => by rw [bgT_0]; exact h
  | k + 1, hk => by
    have i := bgT_I (P := P) (L := L) hB h k (by omega)
    rw [← bgT_s (by omega) rfl]
    refine sI_arr (q := (0, 51)) (sI_arr (q := (0, 51)) i rfl ?_ ⟨_, List.mem_cons_self, rfl, Nat.zero_le _, by show k < 51; omega⟩) rfl ?_ ⟨_, List.mem_cons_self, rfl, Nat.zero_le _, by show 5 + k < 51; omega⟩
    · rw [sb_1 hB]; exact ⟨ii_lo _, by have := ii_hi (if k < P then σ.1 62 (5 * L + k) else Int32.ofInt (-1)); show _ ≤ (2147483647 : Int); omega⟩
    · rw [sb_1 hB]; exact ⟨by decide, by decide⟩
theorem bgR_I {B : sa_I} {σ : am_S} {P L : Nat} (hB : B.1 80 = [(-2147483648, 2147483647)]) (h1 : B.2 51 47 = (-2147483648, 2147483647)) (h2 : (B.2 51 48).1 ≤ 0 ∧ 0 ≤ (B.2 51 48).2) (h : sb_ok B SH σ) : sI B SH rwM σ (bgR P L σ) := by
  unfold bgR bgF
  have i := bgT_I (P := P) (L := L) hB (bgS_I hB (⟨h, sb_fr_r _ _⟩ : sI B SH rwM σ σ) 51 (by decide)) 5 (by decide)
  refine sI_fld (ci := 12) (sI_fld (ci := 12) i rfl ?_ ⟨_, List.mem_cons_of_mem _ List.mem_cons_self, rfl, Nat.le_refl _, Nat.lt_succ_self _⟩) rfl ?_ ⟨_, List.mem_cons_of_mem _ (List.mem_cons_of_mem _ List.mem_cons_self), rfl, Nat.le_refl _, Nat.lt_succ_self _⟩
  · rw [h1]
    exact ⟨ii_lo _, by have := ii_hi ((bgT 5 P L (bgS 51 σ)).1 66 L); show _ ≤ (2147483647 : Int); omega⟩
  · exact h2
def kpM : sa_M := [(79, 0, 51)]
theorem kp_I {B : sa_I} {σ : am_S} (hB : B.1 80 = [(-2147483648, 2147483647)]) (hN : B.1 79 = [(-2147483648, 2147483647)]) (h : sb_ok B SH σ) : sI B SH kpM σ (cpX 80 79 0 0 51 σ) := by
  refine sI_cpy (q := (0, 51)) (q2 := (0, 51)) ⟨h, sb_fr_r _ _⟩ rfl rfl (by decide) (fun j hj => ?_) ⟨_, List.mem_cons_self, rfl, Nat.le_refl _, Nat.le_refl _⟩
  rw [sb_1 hB, sb_1 hN]
  exact ⟨Int.le_refl _, Int.le_refl _⟩
/-- behind the fields' first worths -/
def inS (σ : am_S) : am_S := cpX 80 79 0 0 51 (bgR 0 0 (KF19 (plS 1 (plS 0 σ))))
theorem bgR_n {P L o i : Nat} {σ : am_S} (h : o ≠ 80) (g : ¬ (o = 51 ∧ (i = 47 ∨ i = 48))) : (bgR P L σ).1 o i = σ.1 o i := by
  unfold bgR bgF
  rw [pi_n _ _ _ _ (fun z => g ⟨z.1, Or.inr z.2⟩), pi_n _ _ _ _ (fun z => g ⟨z.1, Or.inl z.2⟩), bgT_n h, bgS_n h]
theorem bgR_r {P L i : Nat} {σ : am_S} (hi : i < 51) : (bgR P L σ).1 80 i = if i < 5 then (if i < P then σ.1 62 (5 * L + i) else Int32.ofInt (-1)) else if i < 10 then Int32.ofInt (-2) else Int32.ofInt 0 := by
  unfold bgR bgF
  rw [pi_n _ _ _ _ (fun z => absurd z.1 (by decide)), pi_n _ _ _ _ (fun z => absurd z.1 (by decide))]
  show (if 80 = 80 ∧ i < 5 then (if i < P then (bgS 51 σ).1 62 (5 * L + i) else Int32.ofInt (-1)) else if 80 = 80 ∧ 5 ≤ i ∧ i < 5 + 5 then Int32.ofInt (-2) else (if 80 = 80 ∧ i < 51 then Int32.ofInt 0 else σ.1 80 i)) = _
  rw [bgS_n (by decide)]
  by_cases q : i < 5
  · rw [if_pos ⟨rfl, q⟩, if_pos q]
  · rw [if_neg (fun z => q z.2), if_neg q]
    by_cases w : i < 10
    · rw [if_pos ⟨rfl, by omega, by omega⟩, if_pos w]
    · rw [if_neg (fun z => by omega), if_neg w, if_pos ⟨rfl, hi⟩]
theorem inS_n {σ : am_S} {o i : Nat} (h : ¬ (o = 80 ∨ o = 79 ∨ o = 60 ∨ o = 61 ∨ o = 66 ∨ o = 67 ∨ o = 68)) (g : ¬ (o = 51 ∧ (i = 47 ∨ i = 48))) : (inS σ).1 o i = σ.1 o i := by
  unfold inS
  rw [cpX_n (fun z => h (by omega)), bgR_n (fun z => h (by omega)) g, KF19_1, plS_n (fun z => h (by omega)) (fun z => h (by omega)), plS_n (fun z => h (by omega)) (fun z => h (by omega))]
theorem inS_2 {σ : am_S} {o k : Nat} (ho : o ≠ 58) : (inS σ).2 o k = σ.2 o k := by
  show (KF19 (plS 1 (plS 0 σ))).2 o k = _
  rw [KF19_2 _ ho, plS_2, plS_2]
theorem inS_K (σ : am_S) : KR (inS σ) := fun k hk => KF19_R (plS 1 (plS 0 σ)) k hk
theorem inS_I {σ : am_S} (h : sb_ok B0 SH σ) : sb_ok B0 SH (inS σ) := by
  have a := (plS_I (s := 1) (by decide) (plS_I (s := 0) (by decide) h).1).1
  have b : sb_ok B0 SH (KF19 (plS 1 (plS 0 σ))) := by unfold sb_ok at a ⊢; rw [KF19_1]; exact a
  exact (kp_I rfl rfl (bgR_I (P := 0) (L := 0) rfl rfl ⟨by decide, by decide⟩ b).1).1
/-- the reference newly made: its row now, its halves -/
def NM (τ : am_S) : Prop := (∀ i, i < 51 → τ.1 79 i = if i < 5 then Int32.ofInt (-1) else if i < 10 then Int32.ofInt (-2) else Int32.ofInt 0) ∧ (τ.1 60 0 = Int32.ofInt 8 ∧ τ.1 61 0 = Int32.ofInt 0 ∧ τ.1 66 0 = Int32.ofInt 0) ∧ (∀ k, k < 4 → τ.1 67 k = Int32.ofInt 0 ∧ τ.1 68 k = Int32.ofInt 0) ∧ ∀ k, k < 3 → τ.1 90 k = Int32.ofInt 0
theorem inS_N {σ : am_S} (h : ∀ k, k < 3 → σ.1 90 k = Int32.ofInt 0) : NM (inS σ) := by
  have e : ∀ o i, o ≠ 80 → o ≠ 79 → o ≠ 51 → (inS σ).1 o i = (plS 1 (plS 0 σ)).1 o i := fun o i a b c => by
    unfold inS
    rw [cpX_n (fun z => b z.1), bgR_n a (fun z => c z.1), KF19_1]
  refine ⟨fun i hi => ?_, ⟨?_, ?_, ?_⟩, fun k hk => ⟨?_, ?_⟩, fun k hk => ?_⟩
  · unfold inS
    have w := cpX_d (σ := bgR 0 0 (KF19 (plS 1 (plS 0 σ)))) (c := 80) (d := 79) (sp := 0) (dp := 0) hi
    rw [Nat.zero_add] at w
    rw [w, bgR_r hi]
    by_cases q : i < 5
    · rw [if_pos q, if_pos q, if_neg (Nat.not_lt_zero _)]
    · rw [if_neg q, if_neg q]
  · rw [e _ _ (by decide) (by decide) (by decide), plS_n (fun z => by omega) (fun z => by omega)]
    exact plS_v.1
  · rw [e _ _ (by decide) (by decide) (by decide), plS_n (fun z => by omega) (fun z => by omega)]
    exact plS_v.2.1
  · rw [e _ _ (by decide) (by decide) (by decide), plS_n (fun z => by omega) (fun z => by omega)]
    exact plS_v.2.2
  · rw [e _ _ (by decide) (by decide) (by decide), plS_n (fun z => by omega) (fun z => by omega)]
    have w := (plL_w (s := 0) (σ := plZ 0 σ) 4 k hk).1
    rw [Nat.mul_zero, Nat.zero_add] at w
    exact w
  · rw [e _ _ (by decide) (by decide) (by decide), plS_n (fun z => by omega) (fun z => by omega)]
    have w := (plL_w (s := 0) (σ := plZ 0 σ) 4 k hk).2
    rw [Nat.mul_zero, Nat.zero_add] at w
    exact w
  · rw [inS_n (by decide) (fun z => absurd z.1 (by decide))]
    exact h k hk
def sX12_initk : am_Sp := fun as n σ post => n = 52 ∧ as = [.ref 51] ∧ (∀ k, σ.1 51 k = 0) ∧ sb_lo B0 51 σ ∧ ∀ τ, sb_ok B0 SH τ → KR τ → (∀ o k, o < 51 → τ.1 o k = σ.1 o k ∧ τ.2 o k = σ.2 o k) → (∀ k, k < 63 → k ≠ 47 → k ≠ 48 → τ.1 51 k = (am_find iniV k).getD 0) → NM τ → post none τ
set_option maxRecDepth 100000 in
theorem ik_all {post : Option Value → am_S → Prop} {AA : Nat → List (Option Value) → List Value → Nat → am_S → Prop} (hA : ∀ cuts f pc ls stk n τ, am_vc cX12_init xX12_initk (92 + 0) post AA cuts f pc ls stk n τ → AA pc ls stk n τ) {σ : am_S} (hl : σ.1 51 18 = Int32.ofInt 0) (h : post none (inS σ)) : AA 339 [some (.ref 51)] [] 92 σ := by
  refine hA [(349, 1)] 20 _ _ _ _ _ ?_
  simp only [NT_X12, dX12_init_339, dX12_init_340, dX12_init_341, xX12_initk_c140, xX12_initk_n140, dX12_init_344, dX12_init_345, dX12_init_346, FT_X12_34, xX12_initk_c144, xX12_initk_n144, xX12_initk_c148, xX12_initk_n148, xX12_initk_c151, xX12_initk_n151, xX12_initk_SH, xX12_initk_KF, xX12_initk_rt, xX12_initk_FT, xX12_initk_PT, xX12_initk_CT, xX12_initk_KT, xX12_initk_LT, xX12_initk_NT, o_aload_n, o_bipush, o_getfield, o_iconst, o_invokespecial, o_invokestatic, o_invokevirtual, o_lastore, o_newarray, o_putfield, o_return_, o_sipush, SH_51, SH_52, SH_59, SH_60, SH_61, SH_62, SH_63, SH_64, SH_65, SH_66, SH_67, SH_53, SH_68, SH_69, SH_70, SH_71, SH_72, SH_73, SH_74, SH_75, SH_76, SH_77, SH_78, SH_79, SH_80, SH_54, SH_81, SH_82, SH_83, SH_84, SH_85, SH_86, SH_87, SH_88, SH_55, SH_89, SH_90, SH_91, SH_56, SH_57, KF_51_9, SH_58, am_ty, am_vc, am_opt, am_cl, am_find, am_ldi, am_ldl, am_lda, am_v, am_1, am_1l, am_1a, am_2, am_2l, am_ix, am_ri, am_arr, am_pf, am_rc, am_mask, am_lg, am_av, am_nat, fv_0, fv_1, fv_2, fv_3, fw_0, fw_1, List.getElem?_cons_zero, List.getElem?_cons_succ, List.set_cons_zero, List.set_cons_succ, List.length_cons, List.length_nil, List.take_succ_cons, List.take_zero, List.drop_succ_cons, List.drop_zero, List.reverse_cons, List.reverse_nil, List.nil_append, List.cons_append, List.append_nil, List.map_cons, List.map_nil, List.sum_cons, List.sum_nil, Value.category, Option.toList_some, Option.toList_none, Nat.reduceAdd, Nat.reduceLT, Nat.reduceLeDiff, Nat.reduceEqDiff, Nat.reduceSub, Nat.add_zero, Nat.le_refl, Nat.zero_le, Int.reduceNeg, Int.reduceLE, Int.reduceLT, true_and, and_true, and_self, if_true, if_false, ite_true, ite_false, eq_self_iff_true, reduceIte, reduceCtorEq, not_false_eq_true, not_true_eq_false, or_true, true_or, or_false, false_or, Nat.lt_irrefl, Nat.zero_lt_succ]
  refine ⟨rfl, 0, by decide, rfl, ?_⟩
  simp only [NT_X12, dX12_init_339, dX12_init_340, dX12_init_341, xX12_initk_c140, xX12_initk_n140, dX12_init_344, dX12_init_345, dX12_init_346, FT_X12_34, xX12_initk_c144, xX12_initk_n144, xX12_initk_c148, xX12_initk_n148, xX12_initk_c151, xX12_initk_n151, xX12_initk_SH, xX12_initk_KF, xX12_initk_rt, xX12_initk_FT, xX12_initk_PT, xX12_initk_CT, xX12_initk_KT, xX12_initk_LT, xX12_initk_NT, o_aload_n, o_bipush, o_getfield, o_iconst, o_invokespecial, o_invokestatic, o_invokevirtual, o_lastore, o_newarray, o_putfield, o_return_, o_sipush, SH_51, SH_52, SH_59, SH_60, SH_61, SH_62, SH_63, SH_64, SH_65, SH_66, SH_67, SH_53, SH_68, SH_69, SH_70, SH_71, SH_72, SH_73, SH_74, SH_75, SH_76, SH_77, SH_78, SH_79, SH_80, SH_54, SH_81, SH_82, SH_83, SH_84, SH_85, SH_86, SH_87, SH_88, SH_55, SH_89, SH_90, SH_91, SH_56, SH_57, KF_51_9, SH_58, am_ty, am_vc, am_opt, am_cl, am_find, am_ldi, am_ldl, am_lda, am_v, am_1, am_1l, am_1a, am_2, am_2l, am_ix, am_ri, am_arr, am_pf, am_rc, am_mask, am_lg, am_av, am_nat, fv_0, fv_1, fv_2, fv_3, fw_0, fw_1, List.getElem?_cons_zero, List.getElem?_cons_succ, List.set_cons_zero, List.set_cons_succ, List.length_cons, List.length_nil, List.take_succ_cons, List.take_zero, List.drop_succ_cons, List.drop_zero, List.reverse_cons, List.reverse_nil, List.nil_append, List.cons_append, List.append_nil, List.map_cons, List.map_nil, List.sum_cons, List.sum_nil, Value.category, Option.toList_some, Option.toList_none, Nat.reduceAdd, Nat.reduceLT, Nat.reduceLeDiff, Nat.reduceEqDiff, Nat.reduceSub, Nat.add_zero, Nat.le_refl, Nat.zero_le, Int.reduceNeg, Int.reduceLE, Int.reduceLT, true_and, and_true, and_self, if_true, if_false, ite_true, ite_false, eq_self_iff_true, reduceIte, reduceCtorEq, not_false_eq_true, not_true_eq_false, or_true, true_or, or_false, false_or, Nat.lt_irrefl, Nat.zero_lt_succ]
  refine ⟨rfl, 1, by decide, rfl, ?_⟩
  simp only [NT_X12, dX12_init_339, dX12_init_340, dX12_init_341, xX12_initk_c140, xX12_initk_n140, dX12_init_344, dX12_init_345, dX12_init_346, FT_X12_34, xX12_initk_c144, xX12_initk_n144, xX12_initk_c148, xX12_initk_n148, xX12_initk_c151, xX12_initk_n151, xX12_initk_SH, xX12_initk_KF, xX12_initk_rt, xX12_initk_FT, xX12_initk_PT, xX12_initk_CT, xX12_initk_KT, xX12_initk_LT, xX12_initk_NT, o_aload_n, o_bipush, o_getfield, o_iconst, o_invokespecial, o_invokestatic, o_invokevirtual, o_lastore, o_newarray, o_putfield, o_return_, o_sipush, SH_51, SH_52, SH_59, SH_60, SH_61, SH_62, SH_63, SH_64, SH_65, SH_66, SH_67, SH_53, SH_68, SH_69, SH_70, SH_71, SH_72, SH_73, SH_74, SH_75, SH_76, SH_77, SH_78, SH_79, SH_80, SH_54, SH_81, SH_82, SH_83, SH_84, SH_85, SH_86, SH_87, SH_88, SH_55, SH_89, SH_90, SH_91, SH_56, SH_57, KF_51_9, SH_58, am_ty, am_vc, am_opt, am_cl, am_find, am_ldi, am_ldl, am_lda, am_v, am_1, am_1l, am_1a, am_2, am_2l, am_ix, am_ri, am_arr, am_pf, am_rc, am_mask, am_lg, am_av, am_nat, fv_0, fv_1, fv_2, fv_3, fw_0, fw_1, List.getElem?_cons_zero, List.getElem?_cons_succ, List.set_cons_zero, List.set_cons_succ, List.length_cons, List.length_nil, List.take_succ_cons, List.take_zero, List.drop_succ_cons, List.drop_zero, List.reverse_cons, List.reverse_nil, List.nil_append, List.cons_append, List.append_nil, List.map_cons, List.map_nil, List.sum_cons, List.sum_nil, Value.category, Option.toList_some, Option.toList_none, Nat.reduceAdd, Nat.reduceLT, Nat.reduceLeDiff, Nat.reduceEqDiff, Nat.reduceSub, Nat.add_zero, Nat.le_refl, Nat.zero_le, Int.reduceNeg, Int.reduceLE, Int.reduceLT, true_and, and_true, and_self, if_true, if_false, ite_true, ite_false, eq_self_iff_true, reduceIte, reduceCtorEq, not_false_eq_true, not_true_eq_false, or_true, true_or, or_false, false_or, Nat.lt_irrefl, Nat.zero_lt_succ]
  refine iw_all hA ?_
  refine hA [] 20 _ _ _ _ _ ?_
  simp only [NT_X12, xX12_initk_c140, xX12_initk_n140, FT_X12_34, xX12_initk_c144, xX12_initk_n144, dX12_init_757, dX12_init_758, xX12_initk_c148, xX12_initk_n148, dX12_init_761, dX12_init_762, xX12_initk_c151, xX12_initk_n151, dX12_init_765, xX12_initk_SH, xX12_initk_KF, xX12_initk_rt, xX12_initk_FT, xX12_initk_PT, xX12_initk_CT, xX12_initk_KT, xX12_initk_LT, xX12_initk_NT, o_aload_n, o_bipush, o_getfield, o_iconst, o_invokespecial, o_invokestatic, o_invokevirtual, o_lastore, o_newarray, o_putfield, o_return_, o_sipush, SH_51, SH_52, SH_59, SH_60, SH_61, SH_62, SH_63, SH_64, SH_65, SH_66, SH_67, SH_53, SH_68, SH_69, SH_70, SH_71, SH_72, SH_73, SH_74, SH_75, SH_76, SH_77, SH_78, SH_79, SH_80, SH_54, SH_81, SH_82, SH_83, SH_84, SH_85, SH_86, SH_87, SH_88, SH_55, SH_89, SH_90, SH_91, SH_56, SH_57, KF_51_9, SH_58, am_ty, am_vc, am_opt, am_cl, am_find, am_ldi, am_ldl, am_lda, am_v, am_1, am_1l, am_1a, am_2, am_2l, am_ix, am_ri, am_arr, am_pf, am_rc, am_mask, am_lg, am_av, am_nat, fv_0, fv_1, fv_2, fv_3, fw_0, fw_1, List.getElem?_cons_zero, List.getElem?_cons_succ, List.set_cons_zero, List.set_cons_succ, List.length_cons, List.length_nil, List.take_succ_cons, List.take_zero, List.drop_succ_cons, List.drop_zero, List.reverse_cons, List.reverse_nil, List.nil_append, List.cons_append, List.append_nil, List.map_cons, List.map_nil, List.sum_cons, List.sum_nil, Value.category, Option.toList_some, Option.toList_none, Nat.reduceAdd, Nat.reduceLT, Nat.reduceLeDiff, Nat.reduceEqDiff, Nat.reduceSub, Nat.add_zero, Nat.le_refl, Nat.zero_le, Int.reduceNeg, Int.reduceLE, Int.reduceLT, true_and, and_true, and_self, if_true, if_false, ite_true, ite_false, eq_self_iff_true, reduceIte, reduceCtorEq, not_false_eq_true, not_true_eq_false, or_true, true_or, or_false, false_or, Nat.lt_irrefl, Nat.zero_lt_succ]
  refine ⟨rfl, 0, 0, by decide, by decide, rfl, ?_, ?_, ?_⟩
  · rw [KF19_1, plS_n (fun z => absurd z.1 (by decide)) (fun z => absurd z.1 (by decide)), plS_n (fun z => absurd z.1 (by decide)) (fun z => absurd z.1 (by decide))]
    exact hl
  · rw [KF19_1, plS_n (fun z => absurd z.1 (by decide)) (fun z => absurd z.2 (by decide))]
    exact plS_v.2.1
  simp only [NT_X12, xX12_initk_c140, xX12_initk_n140, FT_X12_34, xX12_initk_c144, xX12_initk_n144, dX12_init_757, dX12_init_758, xX12_initk_c148, xX12_initk_n148, dX12_init_761, dX12_init_762, xX12_initk_c151, xX12_initk_n151, dX12_init_765, xX12_initk_SH, xX12_initk_KF, xX12_initk_rt, xX12_initk_FT, xX12_initk_PT, xX12_initk_CT, xX12_initk_KT, xX12_initk_LT, xX12_initk_NT, o_aload_n, o_bipush, o_getfield, o_iconst, o_invokespecial, o_invokestatic, o_invokevirtual, o_lastore, o_newarray, o_putfield, o_return_, o_sipush, SH_51, SH_52, SH_59, SH_60, SH_61, SH_62, SH_63, SH_64, SH_65, SH_66, SH_67, SH_53, SH_68, SH_69, SH_70, SH_71, SH_72, SH_73, SH_74, SH_75, SH_76, SH_77, SH_78, SH_79, SH_80, SH_54, SH_81, SH_82, SH_83, SH_84, SH_85, SH_86, SH_87, SH_88, SH_55, SH_89, SH_90, SH_91, SH_56, SH_57, KF_51_9, SH_58, am_ty, am_vc, am_opt, am_cl, am_find, am_ldi, am_ldl, am_lda, am_v, am_1, am_1l, am_1a, am_2, am_2l, am_ix, am_ri, am_arr, am_pf, am_rc, am_mask, am_lg, am_av, am_nat, fv_0, fv_1, fv_2, fv_3, fw_0, fw_1, List.getElem?_cons_zero, List.getElem?_cons_succ, List.set_cons_zero, List.set_cons_succ, List.length_cons, List.length_nil, List.take_succ_cons, List.take_zero, List.drop_succ_cons, List.drop_zero, List.reverse_cons, List.reverse_nil, List.nil_append, List.cons_append, List.append_nil, List.map_cons, List.map_nil, List.sum_cons, List.sum_nil, Value.category, Option.toList_some, Option.toList_none, Nat.reduceAdd, Nat.reduceLT, Nat.reduceLeDiff, Nat.reduceEqDiff, Nat.reduceSub, Nat.add_zero, Nat.le_refl, Nat.zero_le, Int.reduceNeg, Int.reduceLE, Int.reduceLT, true_and, and_true, and_self, if_true, if_false, ite_true, ite_false, eq_self_iff_true, reduceIte, reduceCtorEq, not_false_eq_true, not_true_eq_false, or_true, true_or, or_false, false_or, Nat.lt_irrefl, Nat.zero_lt_succ]
  refine ⟨rfl, rfl, ?_⟩
  simp only [NT_X12, xX12_initk_c140, xX12_initk_n140, FT_X12_34, xX12_initk_c144, xX12_initk_n144, dX12_init_757, dX12_init_758, xX12_initk_c148, xX12_initk_n148, dX12_init_761, dX12_init_762, xX12_initk_c151, xX12_initk_n151, dX12_init_765, xX12_initk_SH, xX12_initk_KF, xX12_initk_rt, xX12_initk_FT, xX12_initk_PT, xX12_initk_CT, xX12_initk_KT, xX12_initk_LT, xX12_initk_NT, o_aload_n, o_bipush, o_getfield, o_iconst, o_invokespecial, o_invokestatic, o_invokevirtual, o_lastore, o_newarray, o_putfield, o_return_, o_sipush, SH_51, SH_52, SH_59, SH_60, SH_61, SH_62, SH_63, SH_64, SH_65, SH_66, SH_67, SH_53, SH_68, SH_69, SH_70, SH_71, SH_72, SH_73, SH_74, SH_75, SH_76, SH_77, SH_78, SH_79, SH_80, SH_54, SH_81, SH_82, SH_83, SH_84, SH_85, SH_86, SH_87, SH_88, SH_55, SH_89, SH_90, SH_91, SH_56, SH_57, KF_51_9, SH_58, am_ty, am_vc, am_opt, am_cl, am_find, am_ldi, am_ldl, am_lda, am_v, am_1, am_1l, am_1a, am_2, am_2l, am_ix, am_ri, am_arr, am_pf, am_rc, am_mask, am_lg, am_av, am_nat, fv_0, fv_1, fv_2, fv_3, fw_0, fw_1, List.getElem?_cons_zero, List.getElem?_cons_succ, List.set_cons_zero, List.set_cons_succ, List.length_cons, List.length_nil, List.take_succ_cons, List.take_zero, List.drop_succ_cons, List.drop_zero, List.reverse_cons, List.reverse_nil, List.nil_append, List.cons_append, List.append_nil, List.map_cons, List.map_nil, List.sum_cons, List.sum_nil, Value.category, Option.toList_some, Option.toList_none, Nat.reduceAdd, Nat.reduceLT, Nat.reduceLeDiff, Nat.reduceEqDiff, Nat.reduceSub, Nat.add_zero, Nat.le_refl, Nat.zero_le, Int.reduceNeg, Int.reduceLE, Int.reduceLT, true_and, and_true, and_self, if_true, if_false, ite_true, ite_false, eq_self_iff_true, reduceIte, reduceCtorEq, not_false_eq_true, not_true_eq_false, or_true, true_or, or_false, false_or, Nat.lt_irrefl, Nat.zero_lt_succ]
  exact h
set_option maxRecDepth 100000 in
theorem mX12_initk (l : Launch) : am_MS l TB NB vwCl SH K2 KF yX12_init cX12_init 1 none 4 40 11824 sX12_initk := by
  refine am_MS.of xX12_initr xX12_initk (by decide +kernel) TB_good G2 GF K2_len rfl rfl rfl rfl rfl rfl (by decide) ⟨FT_X12_ok, PI_X12_ok, CT_X12_ok, KT_X12_ok, LT_X12_ok, NT_X12_ok, fun _ h => absurd h List.not_mem_nil⟩ ⟨FT_X12_ok, PI_X12_ok, CT_X12_ok, KT_X12_ok, LT_X12_ok, NT_X12_ok, ?_⟩ ?_
  · exact List.forall_mem_cons.mpr ⟨⟨yX12_plain, cX12_plain, 3, none, 2, 1, mX12_plainX l, by decide, by decide, tk_1300, tk_120, ⟨by decide +kernel, by decide +kernel, by decide +kernel⟩, rfl, tk_1297, tk_1299, ⟨(RX12, TX12, 63), rfl, tb_at 37 (by decide +kernel) (by decide +kernel)⟩⟩, List.forall_mem_cons.mpr ⟨⟨yX12_word, cX12_word, 7, (some .long), 3, 7, mX12_wordK l, by decide, by decide, tk_1303, tk_120, ⟨by decide +kernel, by decide +kernel, by decide +kernel⟩, rfl, tk_1301, tk_1302⟩, List.forall_mem_cons.mpr ⟨⟨yX12_begins, cX12_begins, 2, none, 2, 0, mX12_beginsX l, by decide, by decide, tk_1311, tk_120, ⟨by decide +kernel, by decide +kernel, by decide +kernel⟩, rfl, tk_1308, tk_1310, ⟨(RX12, TX12, 63), rfl, tb_at 38 (by decide +kernel) (by decide +kernel)⟩⟩, List.forall_mem_cons.mpr ⟨⟨yX12_keepsRow, cX12_keepsRow, 2, none, 2, 0, mX12_keepsRowX l, by decide, by decide, tk_1315, tk_120, ⟨by decide +kernel, by decide +kernel, by decide +kernel⟩, rfl, tk_1312, tk_1314, ⟨(RX12, TX12, 63), rfl, tb_at 39 (by decide +kernel) (by decide +kernel)⟩⟩, fun _ h => absurd h List.not_mem_nil⟩⟩⟩⟩
  · intro n0 as σ post AA BQ hA hB sw h
    obtain ⟨rfl, rfl, hz, hlo, h⟩ := h
    refine ⟨by simp [am_sl, Value.category], ?_⟩
    show AA 0 [some (.ref 51)] [] 52 σ
    refine hA [] 2 _ _ _ _ _ ?_
    simp only [dX12_init_0, dX12_init_1, NT_X12, PI_X12_13, PI_X12_17, PI_X12_20, PI_X12_24, PI_X12_27, PI_X12_30, PI_X12_34, PI_X12_37, PI_X12_40, PI_X12_43, PI_X12_46, PI_X12_49, PI_X12_52, PI_X12_55, PI_X12_58, PI_X12_61, PI_X12_64, PI_X12_67, PI_X12_70, PI_X12_74, PI_X12_77, PI_X12_80, PI_X12_83, PI_X12_86, PI_X12_89, PI_X12_92, PI_X12_95, PI_X12_98, PI_X12_101, PI_X12_104, PI_X12_107, PI_X12_110, PI_X12_113, PI_X12_116, PI_X12_119, PI_X12_122, PI_X12_125, PI_X12_128, PI_X12_131, PI_X12_134, PI_X12_137, FT_X12_34, xX12_initr_SH, xX12_initr_KF, xX12_initr_rt, xX12_initr_FT, xX12_initr_PT, xX12_initr_CT, xX12_initr_KT, xX12_initr_LT, xX12_initr_NT, o_aload_n, o_bipush, o_getfield, o_iconst, o_invokespecial, o_invokestatic, o_invokevirtual, o_lastore, o_newarray, o_putfield, o_return_, o_sipush, SH_51, K2_51_1, SH_52, K2_51_17, K2_51_21, SH_59, K2_51_22, SH_60, K2_51_23, SH_61, K2_51_24, SH_62, K2_51_25, SH_63, K2_51_26, SH_64, K2_51_27, SH_65, K2_51_28, SH_66, K2_51_29, SH_67, K2_51_3, SH_53, K2_51_30, SH_68, K2_51_32, SH_69, K2_51_33, SH_70, K2_51_34, SH_71, K2_51_35, SH_72, K2_51_36, SH_73, K2_51_38, SH_74, K2_51_39, SH_75, K2_51_40, SH_76, K2_51_42, SH_77, K2_51_43, SH_78, K2_51_45, SH_79, K2_51_46, SH_80, K2_51_5, SH_54, K2_51_50, SH_81, K2_51_51, SH_82, K2_51_52, SH_83, K2_51_53, SH_84, K2_51_55, SH_85, K2_51_56, SH_86, K2_51_57, SH_87, K2_51_59, SH_88, K2_51_6, SH_55, K2_51_60, SH_89, K2_51_61, SH_90, K2_51_62, SH_91, K2_51_7, SH_56, K2_51_8, SH_57, K2_51_9, SH_58, am_ty, am_vc, am_opt, am_cl, am_find, am_ldi, am_ldl, am_lda, am_v, am_1, am_1l, am_1a, am_2, am_2l, am_ix, am_ri, am_arr, am_pf, am_rc, am_mask, am_lg, am_av, am_nat, fv_0, fv_1, fv_2, fv_3, fw_0, fw_1, List.getElem?_cons_zero, List.getElem?_cons_succ, List.set_cons_zero, List.set_cons_succ, List.length_cons, List.length_nil, List.take_succ_cons, List.take_zero, List.drop_succ_cons, List.drop_zero, List.reverse_cons, List.reverse_nil, List.nil_append, List.cons_append, List.append_nil, List.map_cons, List.map_nil, List.sum_cons, List.sum_nil, Value.category, Option.toList_some, Option.toList_none, Nat.reduceAdd, Nat.reduceLT, Nat.reduceLeDiff, Nat.reduceEqDiff, Nat.reduceSub, Nat.add_zero, Nat.le_refl, Nat.zero_le, Int.reduceNeg, Int.reduceLE, Int.reduceLT, true_and, and_true, and_self, if_true, if_false, ite_true, ite_false, eq_self_iff_true, reduceIte, reduceCtorEq, not_false_eq_true, not_true_eq_false, or_true, true_or, or_false, false_or, Nat.lt_irrefl, Nat.zero_lt_succ]
    have e0 : σ = iniF [] 52 σ := by
      refine Prod.ext (funext fun o => funext fun k => ?_) (funext fun o => funext fun k => ?_)
      · simp only [iniF]
        by_cases q : o = 51
        · subst q; rw [if_pos rfl, hz]; rfl
        · rw [if_neg q, if_neg (by omega)]
      · simp only [iniF]
        rw [if_neg (by omega)]
    rw [e0]
    refine ini_walk hA (sw _ _ _ _ _ (ini_refs σ) ?_)
    refine ik_all hB rfl (h _ (inS_I (ini_ok hlo)) (inS_K _) (fun o k ho => ?_) (fun k hk q1 q2 => ?_) (inS_N (fun _ _ => rfl)))
    · rw [inS_n (by omega) (fun z => by omega), inS_2 (by omega)]
      simp only [iniF]
      rw [if_neg (by omega), if_neg (by omega), if_neg (by omega)]
      exact ⟨rfl, rfl⟩
    · rw [inS_n (by decide) (fun z => by omega)]
      show (if (51 : Nat) = 51 then (am_find iniV k).getD 0 else if 51 < 51 ∧ 51 < 92 then 0 else σ.1 51 k) = _
      rw [if_pos rfl]
