/-! THE REFERENCE'S HALVES AND ROWS: plain, begins, keepsRow as states. Printed from wip/am/chk/hand/nk.in. -/
/-- m cells of c from sp on are copied to d from dp on -/
def cpX (c d sp dp m : Nat) (σ : am_S) : am_S := (fun o' k' => if o' = d then va_cpy (σ.1 c) (σ.1 d) sp dp m k' else σ.1 o' k', σ.2)
theorem cpX_n {σ : am_S} {c d sp dp m o k : Nat} (h : ¬ (o = d ∧ dp ≤ k ∧ k < dp + m)) : (cpX c d sp dp m σ).1 o k = σ.1 o k := by
  show (if o = d then va_cpy (σ.1 c) (σ.1 d) sp dp m k else σ.1 o k) = _
  by_cases q : o = d
  · subst q
    rw [if_pos rfl]
    unfold va_cpy
    rw [if_neg (fun z => h ⟨rfl, z⟩)]
  · rw [if_neg q]
theorem cpX_d {σ : am_S} {c d sp dp m k : Nat} (h : k < m) : (cpX c d sp dp m σ).1 d (dp + k) = σ.1 c (sp + k) := by
  show (if d = d then va_cpy (σ.1 c) (σ.1 d) sp dp m (dp + k) else σ.1 d (dp + k)) = _
  rw [if_pos rfl]
  unfold va_cpy
  rw [if_pos ⟨by omega, by omega⟩, Nat.add_sub_cancel_left]
theorem cpX_0 {σ : am_S} {c d sp dp : Nat} : cpX c d sp dp 0 σ = σ := am_Sext (fun o k => cpX_n (fun z => by omega)) rfl
theorem cpX_s {σ : am_S} {c d sp dp m : Nat} : am_pi (cpX c d sp dp m σ) d (dp + m) (σ.1 c (sp + m)) = cpX c d sp dp (m + 1) σ := by
  refine am_Sext (fun o k => ?_) rfl
  by_cases q : o = d ∧ k = dp + m
  · obtain ⟨rfl, rfl⟩ := q
    rw [pi_s, cpX_d (Nat.lt_succ_self m)]
  · rw [pi_n _ _ _ _ q]
    by_cases q2 : o = d ∧ dp ≤ k ∧ k < dp + m
    · obtain ⟨rfl, h1, h2⟩ := q2
      have e : k = dp + (k - dp) := by omega
      rw [e, cpX_d (by omega), cpX_d (by omega)]
    · rw [cpX_n q2, cpX_n (fun z => q2 ⟨z.1, z.2.1, by
        have : ¬ k = dp + m := fun w => q ⟨z.1, w⟩
        omega⟩)]
theorem cpX_I {M : sa_M} {σ0 σ : am_S} {c d sp dp m : Nat} {q q2 : Nat × Nat} (h : sI BB SH M σ0 σ) (hc : SH c = .inr q) (hd : SH d = .inr q2) (h1 : sp + m ≤ q.2) (hb : ∀ j, j < m → (sb_a BB d (dp + j)).1 ≤ (sb_a BB c (sp + j)).1 ∧ (sb_a BB c (sp + j)).2 ≤ (sb_a BB d (dp + j)).2) (hm : ∃ z ∈ M, z.1 = d ∧ z.2.1 ≤ dp ∧ dp + m ≤ z.2.2) : sI BB SH M σ0 (cpX c d sp dp m σ) := sI_cpy h hc hd h1 hb hm
def plZ (s : Nat) (σ : am_S) : am_S := am_pi (am_pi (am_pi σ 60 s (Int32.ofInt 8)) 61 s (Int32.ofInt 0)) 66 s (Int32.ofInt 0)
def plL (s : Nat) : Nat → am_S → am_S
  | 0, σ => σ
  | k + 1, σ => am_pi (am_pi (plL s k σ) 67 (4 * s + k) (Int32.ofInt 0)) 68 (4 * s + k) (Int32.ofInt 0)
def plS (s : Nat) (σ : am_S) : am_S := plL s 4 (plZ s σ)
def sX12_plainX : am_Sp := fun as n σ post => n = 92 ∧ ∃ s : Nat, s < 2 ∧ as = [.ref 51, .int (Int32.ofInt (s : Int))] ∧ post none (plS s σ)
def xX12_plainX : am_X := (SH, KF, none, FT_X12, PT_X12, CT_X12, KT_X12, LT_X12, NT_X12, [])
theorem xX12_plainX_SH : am_SH xX12_plainX = SH := rfl
theorem xX12_plainX_KF : am_KF xX12_plainX = KF := rfl
theorem xX12_plainX_rt : am_rt xX12_plainX = none := rfl
theorem xX12_plainX_FT : am_FT xX12_plainX = FT_X12 := rfl
theorem xX12_plainX_PT : am_PT xX12_plainX = PT_X12 := rfl
theorem xX12_plainX_CT : am_CT xX12_plainX = CT_X12 := rfl
theorem xX12_plainX_KT : am_KT xX12_plainX = KT_X12 := rfl
theorem xX12_plainX_LT : am_LT xX12_plainX = LT_X12 := rfl
theorem xX12_plainX_NT : am_NT xX12_plainX = NT_X12 := rfl
theorem xX12_plainX_t26 (k : Nat → Prop) : am_tg 26 (31) k = k 57 := am_tg_eq (by decide)
theorem xX12_plainX_t54 (k : Nat → Prop) : am_tg 54 (-30) k = k 24 := am_tg_eq (by decide)

set_option maxRecDepth 100000 in
theorem plX_loop {post : Option Value → am_S → Prop} {AA : Nat → List (Option Value) → List Value → Nat → am_S → Prop} (hA : ∀ cuts f pc ls stk n τ, am_vc cX12_plain xX12_plainX (92 + 0) post AA cuts f pc ls stk n τ → AA pc ls stk n τ) {s : Nat} {σ : am_S} (hs : s < 2) (h : post none (plL s 4 σ)) : ∀ k : Nat, k ≤ 4 → AA 24 [some (.ref 51), some (.int (Int32.ofInt (s : Int))), some (.int (Int32.ofInt (k : Int)))] [] 92 (plL s k σ) := by
  refine am_up 4 fun k hk ih => ?_
  have e : (4 * (s : Int) + (k : Int)).toNat = 4 * s + k := by omega
  have fin : k = 4 → post none (plL s k σ) := fun q => by subst q; exact h
  have k' : k < 4 → AA 24 [some (.ref 51), some (.int (Int32.ofInt (s : Int))), some (.int (Int32.ofInt ((k + 1 : Nat) : Int)))] [] 92 (am_pi (am_pi (plL s k σ) 67 (4 * s + k) (Int32.ofInt 0)) 68 (4 * s + k) (Int32.ofInt 0)) := fun q => ih q
  refine hA [(24, 3)] 60 _ _ _ _ _ ?_
  try simp only [dX12_plain_0, dX12_plain_1, FT_X12_43, dX12_plain_4, dX12_plain_5, dX12_plain_7, dX12_plain_8, dX12_plain_9, FT_X12_46, dX12_plain_12, dX12_plain_13, dX12_plain_14, dX12_plain_15, dX12_plain_16, FT_X12_61, dX12_plain_19, dX12_plain_20, dX12_plain_21, dX12_plain_22, dX12_plain_23, dX12_plain_24, dX12_plain_25, dX12_plain_26, xX12_plainX_t26, dX12_plain_29, dX12_plain_30, FT_X12_64, dX12_plain_33, dX12_plain_34, dX12_plain_35, dX12_plain_36, dX12_plain_37, dX12_plain_38, dX12_plain_39, dX12_plain_40, dX12_plain_41, FT_X12_67, dX12_plain_44, dX12_plain_45, dX12_plain_46, dX12_plain_47, dX12_plain_48, dX12_plain_49, dX12_plain_50, dX12_plain_51, dX12_plain_54, xX12_plainX_t54, dX12_plain_57, xX12_plainX_SH, xX12_plainX_KF, xX12_plainX_rt, xX12_plainX_FT, xX12_plainX_PT, xX12_plainX_CT, xX12_plainX_KT, xX12_plainX_LT, xX12_plainX_NT, o_aload_n, o_bipush, o_getfield, o_goto, o_iadd, o_iastore, o_iconst, o_if_icmp_ge, o_iinc, o_iload_n, o_imul, o_istore_n, o_return_, SH_51, KF_51_22, SH_60, KF_51_23, SH_61, KF_51_28, SH_66, KF_51_29, SH_67, KF_51_30, SH_68, am_ty, am_vc, am_opt, am_cl, am_find, am_ldi, am_ldl, am_lda, am_v, am_1, am_1l, am_1a, am_2, am_2l, am_ix, am_ri, am_arr, am_pf, am_rc, am_mask, am_lg, am_av, am_nat, fv_0, fv_1, fv_2, fv_3, fw_0, fw_1, List.getElem?_cons_zero, List.getElem?_cons_succ, List.set_cons_zero, List.set_cons_succ, List.length_cons, List.length_nil, List.take_succ_cons, List.take_zero, List.drop_succ_cons, List.drop_zero, List.reverse_cons, List.reverse_nil, List.nil_append, List.cons_append, List.append_nil, List.map_cons, List.map_nil, List.sum_cons, List.sum_nil, Value.category, Option.toList_some, Option.toList_none, Nat.reduceAdd, Nat.reduceLT, Nat.reduceLeDiff, Nat.reduceEqDiff, Nat.reduceSub, Nat.add_zero, Nat.le_refl, Nat.zero_le, Int.reduceNeg, Int.reduceLE, Int.reduceLT, true_and, and_true, and_self, if_true, if_false, ite_true, ite_false, eq_self_iff_true, reduceIte, reduceCtorEq, not_false_eq_true, not_true_eq_false, or_true, true_or, or_false, false_or, Nat.lt_irrefl, Nat.zero_lt_succ]
  try simp (disch := omega) only [ii_0, ii_1, ii_t, ii_add, ii_sub, ii_mul, ii_lt, ii_le, ii_eq, ij_in, ii_c, Int.toNat_natCast, Int.toNat_zero, Int.reduceToNat, Int.reduceEq, Int.reduceNe, Int.reduceLE, Int.reduceLT, Int.reduceAdd, Int.reduceSub, Int.reduceMul, Int.reduceNeg, Nat.reduceLT, Nat.reduceAdd, Nat.reduceMul, not_false_eq_true, not_true_eq_false, true_and, and_true, and_self, false_and, and_false, true_implies, false_implies, implies_true, forall_const, if_true, if_false, ite_true, ite_false, reduceIte, eq_self_iff_true, Int.natCast_nonneg, Int.zero_add, Int.add_zero, pi_s, pi_n, ik_s, ik_c, e]
  first
  | exact ⟨fun q => fin (by omega), fun q => ⟨⟨by omega, by omega⟩, ⟨by omega, by omega⟩, k' (by omega)⟩⟩
  | exact ⟨fun q => fin (by omega), fun q => ⟨by omega, by omega, k' (by omega)⟩⟩
set_option maxRecDepth 100000 in
theorem ptX12_plainX : am_B cX12_plain xX12_plainX 3 0 sX12_plainX := by
  intro n0 as σ post AA hA h
  obtain ⟨rfl, s, hs, rfl, h⟩ := h
  refine ⟨by simp [am_sl, Value.category], ?_⟩
  show AA 0 [some (.ref 51), some (.int (Int32.ofInt (s : Int))), none] [] 92 σ
  have k := plX_loop hA hs h 0 (by decide)
  unfold plL plZ at k
  refine hA [(24, 3)] 60 _ _ _ _ _ ?_
  try simp only [dX12_plain_0, dX12_plain_1, FT_X12_43, dX12_plain_4, dX12_plain_5, dX12_plain_7, dX12_plain_8, dX12_plain_9, FT_X12_46, dX12_plain_12, dX12_plain_13, dX12_plain_14, dX12_plain_15, dX12_plain_16, FT_X12_61, dX12_plain_19, dX12_plain_20, dX12_plain_21, dX12_plain_22, dX12_plain_23, dX12_plain_24, dX12_plain_25, dX12_plain_26, xX12_plainX_t26, dX12_plain_29, dX12_plain_30, FT_X12_64, dX12_plain_33, dX12_plain_34, dX12_plain_35, dX12_plain_36, dX12_plain_37, dX12_plain_38, dX12_plain_39, dX12_plain_40, dX12_plain_41, FT_X12_67, dX12_plain_44, dX12_plain_45, dX12_plain_46, dX12_plain_47, dX12_plain_48, dX12_plain_49, dX12_plain_50, dX12_plain_51, dX12_plain_54, xX12_plainX_t54, dX12_plain_57, xX12_plainX_SH, xX12_plainX_KF, xX12_plainX_rt, xX12_plainX_FT, xX12_plainX_PT, xX12_plainX_CT, xX12_plainX_KT, xX12_plainX_LT, xX12_plainX_NT, o_aload_n, o_bipush, o_getfield, o_goto, o_iadd, o_iastore, o_iconst, o_if_icmp_ge, o_iinc, o_iload_n, o_imul, o_istore_n, o_return_, SH_51, KF_51_22, SH_60, KF_51_23, SH_61, KF_51_28, SH_66, KF_51_29, SH_67, KF_51_30, SH_68, am_ty, am_vc, am_opt, am_cl, am_find, am_ldi, am_ldl, am_lda, am_v, am_1, am_1l, am_1a, am_2, am_2l, am_ix, am_ri, am_arr, am_pf, am_rc, am_mask, am_lg, am_av, am_nat, fv_0, fv_1, fv_2, fv_3, fw_0, fw_1, List.getElem?_cons_zero, List.getElem?_cons_succ, List.set_cons_zero, List.set_cons_succ, List.length_cons, List.length_nil, List.take_succ_cons, List.take_zero, List.drop_succ_cons, List.drop_zero, List.reverse_cons, List.reverse_nil, List.nil_append, List.cons_append, List.append_nil, List.map_cons, List.map_nil, List.sum_cons, List.sum_nil, Value.category, Option.toList_some, Option.toList_none, Nat.reduceAdd, Nat.reduceLT, Nat.reduceLeDiff, Nat.reduceEqDiff, Nat.reduceSub, Nat.add_zero, Nat.le_refl, Nat.zero_le, Int.reduceNeg, Int.reduceLE, Int.reduceLT, true_and, and_true, and_self, if_true, if_false, ite_true, ite_false, eq_self_iff_true, reduceIte, reduceCtorEq, not_false_eq_true, not_true_eq_false, or_true, true_or, or_false, false_or, Nat.lt_irrefl, Nat.zero_lt_succ]
  try simp (disch := omega) only [ii_0, ii_1, ii_t, ii_add, ii_sub, ii_mul, ii_lt, ii_le, ii_eq, ij_in, ii_c, Int.toNat_natCast, Int.toNat_zero, Int.reduceToNat, Int.reduceEq, Int.reduceNe, Int.reduceLE, Int.reduceLT, Int.reduceAdd, Int.reduceSub, Int.reduceMul, Int.reduceNeg, Nat.reduceLT, Nat.reduceAdd, Nat.reduceMul, not_false_eq_true, not_true_eq_false, true_and, and_true, and_self, false_and, and_false, true_implies, false_implies, implies_true, forall_const, if_true, if_false, ite_true, ite_false, reduceIte, eq_self_iff_true, Int.natCast_nonneg, Int.zero_add, Int.add_zero, pi_s, pi_n, ik_c]
  first
  | exact ⟨by omega, by omega, by omega, k⟩
  | exact ⟨⟨by omega, by omega⟩, ⟨by omega, by omega⟩, ⟨by omega, by omega⟩, k⟩
theorem mX12_plainX (l : Launch) : am_M l TB NB vwCl SH KF yX12_plain cX12_plain 3 none 2 0 0 sX12_plainX := by
  refine am_M.of xX12_plainX (by decide +kernel) TB_good GF rfl rfl rfl (by decide) ⟨FT_X12_ok, PT_X12_ok _, CT_X12_ok, KT_X12_ok, LT_X12_ok, NT_X12_ok, ?_⟩ ptX12_plainX
  exact fun _ h => absurd h List.not_mem_nil

/-- the row: nothing; people where they were told, no goals -/
def bgS (k : Nat) (σ : am_S) : am_S := (fun o i => if o = 80 ∧ i < k then Int32.ofInt 0 else σ.1 o i, σ.2)
def bgT (k P L : Nat) (σ : am_S) : am_S := (fun o i => if o = 80 ∧ i < k then (if i < P then σ.1 62 (5 * L + i) else Int32.ofInt (-1)) else if o = 80 ∧ 5 ≤ i ∧ i < 5 + k then Int32.ofInt (-2) else σ.1 o i, σ.2)
def bgF (L : Nat) (σ : am_S) : am_S := am_pi (am_pi σ 51 47 (σ.1 66 L)) 51 48 (Int32.ofInt 0)
def bgR (P L : Nat) (σ : am_S) : am_S := bgF L (bgT 5 P L (bgS 51 σ))
theorem bgS_n {k o i : Nat} {σ : am_S} (h : o ≠ 80) : (bgS k σ).1 o i = σ.1 o i := if_neg (fun z => h z.1)
theorem bgT_n {k P L o i : Nat} {σ : am_S} (h : o ≠ 80) : (bgT k P L σ).1 o i = σ.1 o i := (if_neg (fun z => h z.1)).trans (if_neg (fun z => h z.1))
theorem bgS_0 {σ : am_S} : bgS 0 σ = σ := am_Sext (fun o i => if_neg (fun z => absurd z.2 (Nat.not_lt_zero _))) rfl
theorem bgS_s {k : Nat} {σ : am_S} : am_pi (bgS k σ) 80 k (Int32.ofInt 0) = bgS (k + 1) σ := by
  refine am_Sext (fun o i => ?_) rfl
  by_cases q : o = 80 ∧ i = k
  · rw [q.1, q.2, pi_s]
    show _ = if 80 = 80 ∧ k < k + 1 then Int32.ofInt 0 else σ.1 80 k
    rw [if_pos ⟨rfl, Nat.lt_succ_self k⟩]
  · rw [pi_n _ _ _ _ q]
    show (if o = 80 ∧ i < k then Int32.ofInt 0 else σ.1 o i) = if o = 80 ∧ i < k + 1 then Int32.ofInt 0 else σ.1 o i
    by_cases w : o = 80 ∧ i < k
    · rw [if_pos w, if_pos ⟨w.1, by omega⟩]
    · rw [if_neg w, if_neg (fun z => w ⟨z.1, by
        have : ¬ i = k := fun y => q ⟨z.1, y⟩
        omega⟩)]
theorem bgT_0 {P L : Nat} {σ : am_S} : bgT 0 P L σ = σ := am_Sext (fun o i => (if_neg (fun z => absurd z.2 (Nat.not_lt_zero _))).trans (if_neg (fun z => by omega))) rfl
theorem bgT_s {k P L : Nat} {σ : am_S} (hk : k < 5) {v : Int32} (hv : v = if k < P then σ.1 62 (5 * L + k) else Int32.ofInt (-1)) : am_pi (am_pi (bgT k P L σ) 80 k v) 80 (5 + k) (Int32.ofInt (-2)) = bgT (k + 1) P L σ := by
  refine am_Sext (fun o i => ?_) rfl
  show _ = if o = 80 ∧ i < k + 1 then (if i < P then σ.1 62 (5 * L + i) else Int32.ofInt (-1)) else if o = 80 ∧ 5 ≤ i ∧ i < 5 + (k + 1) then Int32.ofInt (-2) else σ.1 o i
  by_cases q : o = 80 ∧ i = 5 + k
  · rw [q.1, q.2, pi_s, if_neg (fun z => by omega), if_pos ⟨rfl, by omega, by omega⟩]
  · rw [pi_n _ _ _ _ q]
    by_cases q2 : o = 80 ∧ i = k
    · rw [q2.1, q2.2, pi_s, if_pos ⟨rfl, Nat.lt_succ_self k⟩, hv]
    · rw [pi_n _ _ _ _ q2]
      show (if o = 80 ∧ i < k then (if i < P then σ.1 62 (5 * L + i) else Int32.ofInt (-1)) else if o = 80 ∧ 5 ≤ i ∧ i < 5 + k then Int32.ofInt (-2) else σ.1 o i) = _
      by_cases w : o = 80
      · have n1 : ¬ i = 5 + k := fun y => q ⟨w, y⟩
        have n2 : ¬ i = k := fun y => q2 ⟨w, y⟩
        by_cases w2 : i < k
        · rw [if_pos (show o = 80 ∧ i < k from ⟨w, w2⟩), if_pos (show o = 80 ∧ i < k + 1 from ⟨w, by omega⟩)]
        · rw [if_neg (show ¬ (o = 80 ∧ i < k) from fun z => w2 z.2), if_neg (show ¬ (o = 80 ∧ i < k + 1) from fun z => by omega)]
          by_cases w3 : 5 ≤ i ∧ i < 5 + k
          · rw [if_pos (show o = 80 ∧ 5 ≤ i ∧ i < 5 + k from ⟨w, w3⟩), if_pos (show o = 80 ∧ 5 ≤ i ∧ i < 5 + (k + 1) from ⟨w, by omega, by omega⟩)]
          · rw [if_neg (show ¬ (o = 80 ∧ 5 ≤ i ∧ i < 5 + k) from fun z => w3 z.2), if_neg (show ¬ (o = 80 ∧ 5 ≤ i ∧ i < 5 + (k + 1)) from fun z => by omega)]
      · rw [if_neg (show ¬ (o = 80 ∧ i < k) from fun z => w z.1), if_neg (show ¬ (o = 80 ∧ 5 ≤ i ∧ i < 5 + k) from fun z => w z.1), if_neg (show ¬ (o = 80 ∧ i < k + 1) from fun z => w z.1), if_neg (show ¬ (o = 80 ∧ 5 ≤ i ∧ i < 5 + (k + 1)) from fun z => w z.1)]
def sX12_beginsX : am_Sp := fun as n σ post => n = 92 ∧ ∃ L P : Nat, L < 2 ∧ P ≤ 5 ∧ as = [.ref 51] ∧ σ.1 51 18 = Int32.ofInt (L : Int) ∧ σ.1 61 L = Int32.ofInt (P : Int) ∧ post none (bgR P L σ)
def xX12_beginsX : am_X := (SH, KF, none, FT_X12, PT_X12, CT_X12, KT_X12, LT_X12, NT_X12, [])
theorem xX12_beginsX_SH : am_SH xX12_beginsX = SH := rfl
theorem xX12_beginsX_KF : am_KF xX12_beginsX = KF := rfl
theorem xX12_beginsX_rt : am_rt xX12_beginsX = none := rfl
theorem xX12_beginsX_FT : am_FT xX12_beginsX = FT_X12 := rfl
theorem xX12_beginsX_PT : am_PT xX12_beginsX = PT_X12 := rfl
theorem xX12_beginsX_CT : am_CT xX12_beginsX = CT_X12 := rfl
theorem xX12_beginsX_KT : am_KT xX12_beginsX = KT_X12 := rfl
theorem xX12_beginsX_LT : am_LT xX12_beginsX = LT_X12 := rfl
theorem xX12_beginsX_NT : am_NT xX12_beginsX = NT_X12 := rfl
theorem xX12_beginsX_t5 (k : Nat → Prop) : am_tg 5 (16) k = k 21 := am_tg_eq (by decide)
theorem xX12_beginsX_t18 (k : Nat → Prop) : am_tg 18 (-16) k = k 2 := am_tg_eq (by decide)
theorem xX12_beginsX_t25 (k : Nat → Prop) : am_tg 25 (55) k = k 80 := am_tg_eq (by decide)
theorem xX12_beginsX_t43 (k : Nat → Prop) : am_tg 43 (19) k = k 62 := am_tg_eq (by decide)
theorem xX12_beginsX_t59 (k : Nat → Prop) : am_tg 59 (4) k = k 63 := am_tg_eq (by decide)
theorem xX12_beginsX_t77 (k : Nat → Prop) : am_tg 77 (-54) k = k 23 := am_tg_eq (by decide)

section
variable {post : Option Value → am_S → Prop} {AA : Nat → List (Option Value) → List Value → Nat → am_S → Prop} {σ : am_S} {L P : Nat}
set_option maxRecDepth 100000 in
theorem bgX_23 (hA : ∀ cuts f pc ls stk n τ, am_vc cX12_begins xX12_beginsX (92 + 0) post AA cuts f pc ls stk n τ → AA pc ls stk n τ) (hL : L < 2) (hP : P ≤ 5) (e1 : σ.1 51 18 = Int32.ofInt (L : Int)) (e2 : σ.1 61 L = Int32.ofInt (P : Int)) (h : post none (bgF L (bgT 5 P L σ))) : ∀ k : Nat, k ≤ 5 → AA 23 [some (.ref 51), some (.int (Int32.ofInt (k : Int)))] [] 92 (bgT k P L σ) := by
  refine am_up 5 fun k hk ih => ?_
  have f1 : (bgT k P L σ).1 51 18 = Int32.ofInt (L : Int) := (bgT_n (by decide)).trans e1
  have f2 : (bgT k P L σ).1 61 L = Int32.ofInt (P : Int) := (bgT_n (by decide)).trans e2
  have f3 : (bgT k P L σ).1 62 (5 * L + k) = σ.1 62 (5 * L + k) := bgT_n (by decide)
  have f4 : (bgT k P L σ).1 66 L = σ.1 66 L := bgT_n (by decide)
  have e5 : (5 * (L : Int) + (k : Int)).toNat = 5 * L + k := by omega
  have e6 : (5 + (k : Int)).toNat = 5 + k := by omega
  have fin : k = 5 → post none (bgF L (bgT k P L σ)) := fun q => by subst q; exact h
  unfold bgF at fin
  rw [f4] at fin
  have at63 : ∀ v : Int32, k < 5 → v = (if k < P then σ.1 62 (5 * L + k) else Int32.ofInt (-1)) → AA 63 [some (.ref 51), some (.int (Int32.ofInt (k : Int)))] [.int v, .int (Int32.ofInt (k : Int)), .ref 80] 92 (bgT k P L σ) := fun v q hv => by
    have k9 := ih q
    rw [← bgT_s q hv] at k9
    refine hA [(23, 2)] 14 _ _ _ _ _ ?_
    try simp only [dX12_begins_0, dX12_begins_1, dX12_begins_2, dX12_begins_3, dX12_begins_5, xX12_beginsX_t5, dX12_begins_8, dX12_begins_9, FT_X12_104, dX12_begins_12, dX12_begins_13, dX12_begins_14, dX12_begins_15, dX12_begins_18, xX12_beginsX_t18, dX12_begins_21, dX12_begins_22, dX12_begins_23, dX12_begins_24, dX12_begins_25, xX12_beginsX_t25, dX12_begins_28, dX12_begins_29, dX12_begins_32, dX12_begins_33, dX12_begins_34, dX12_begins_35, FT_X12_46, dX12_begins_38, dX12_begins_39, FT_X12_221, dX12_begins_42, dX12_begins_43, xX12_beginsX_t43, dX12_begins_46, dX12_begins_47, FT_X12_49, dX12_begins_50, dX12_begins_51, dX12_begins_52, dX12_begins_55, dX12_begins_56, dX12_begins_57, dX12_begins_58, dX12_begins_59, xX12_beginsX_t59, dX12_begins_62, dX12_begins_63, dX12_begins_64, dX12_begins_65, dX12_begins_68, dX12_begins_69, dX12_begins_70, dX12_begins_71, dX12_begins_73, dX12_begins_74, dX12_begins_77, xX12_beginsX_t77, dX12_begins_80, dX12_begins_81, dX12_begins_82, FT_X12_61, dX12_begins_85, dX12_begins_86, dX12_begins_89, dX12_begins_90, PT_X12_296, dX12_begins_93, dX12_begins_94, dX12_begins_95, PT_X12_299, dX12_begins_98, xX12_beginsX_SH, xX12_beginsX_KF, xX12_beginsX_rt, xX12_beginsX_FT, xX12_beginsX_PT, xX12_beginsX_CT, xX12_beginsX_KT, xX12_beginsX_LT, xX12_beginsX_NT, o_aload_n, o_bipush, o_getfield, o_goto, o_iadd, o_iaload, o_iastore, o_iconst, o_if_icmp_ge, o_iinc, o_iload_n, o_imul, o_istore_n, o_putfield, o_return_, SH_51, KF_51_18, KF_51_23, SH_61, KF_51_24, SH_62, KF_51_28, SH_66, KF_51_46, SH_80, KF_51_47, KF_51_48, am_ty, am_vc, am_opt, am_cl, am_find, am_ldi, am_ldl, am_lda, am_v, am_1, am_1l, am_1a, am_2, am_2l, am_ix, am_ri, am_arr, am_pf, am_rc, am_mask, am_lg, am_av, am_nat, fv_0, fv_1, fv_2, fv_3, fw_0, fw_1, List.getElem?_cons_zero, List.getElem?_cons_succ, List.set_cons_zero, List.set_cons_succ, List.length_cons, List.length_nil, List.take_succ_cons, List.take_zero, List.drop_succ_cons, List.drop_zero, List.reverse_cons, List.reverse_nil, List.nil_append, List.cons_append, List.append_nil, List.map_cons, List.map_nil, List.sum_cons, List.sum_nil, Value.category, Option.toList_some, Option.toList_none, Nat.reduceAdd, Nat.reduceLT, Nat.reduceLeDiff, Nat.reduceEqDiff, Nat.reduceSub, Nat.add_zero, Nat.le_refl, Nat.zero_le, Int.reduceNeg, Int.reduceLE, Int.reduceLT, true_and, and_true, and_self, if_true, if_false, ite_true, ite_false, eq_self_iff_true, reduceIte, reduceCtorEq, not_false_eq_true, not_true_eq_false, or_true, true_or, or_false, false_or, Nat.lt_irrefl, Nat.zero_lt_succ]
    try simp (disch := omega) only [ii_0, ii_1, ii_t, ii_add, ii_sub, ii_mul, ii_lt, ii_le, ii_eq, ij_in, ii_c, Int.toNat_natCast, Int.toNat_zero, Int.reduceToNat, Int.reduceEq, Int.reduceNe, Int.reduceLE, Int.reduceLT, Int.reduceAdd, Int.reduceSub, Int.reduceMul, Int.reduceNeg, Nat.reduceLT, Nat.reduceAdd, Nat.reduceMul, not_false_eq_true, not_true_eq_false, true_and, and_true, and_self, false_and, and_false, true_implies, false_implies, implies_true, forall_const, if_true, if_false, ite_true, ite_false, reduceIte, eq_self_iff_true, Int.natCast_nonneg, Int.zero_add, Int.add_zero, pi_s, pi_n, ik_s, ik_c, e6]
    first
    | exact k9
    | exact ⟨by omega, ⟨by omega, by omega⟩, k9⟩
    | exact ⟨⟨by omega, by omega⟩, ⟨by omega, by omega⟩, k9⟩
    | exact ⟨by omega, by omega, k9⟩
    | trace_state
  have at28 : k < 5 → AA 28 [some (.ref 51), some (.int (Int32.ofInt (k : Int)))] [] 92 (bgT k P L σ) := fun q => by
    by_cases w : k < P
    · have k9 := at63 _ q (if_pos w).symm
      have w' : (k : Int) < (P : Int) := by omega
      have w2 : ¬ (P : Int) ≤ (k : Int) := by omega
      refine hA [(63, 2)] 20 _ _ _ _ _ ?_
      try simp only [dX12_begins_0, dX12_begins_1, dX12_begins_2, dX12_begins_3, dX12_begins_5, xX12_beginsX_t5, dX12_begins_8, dX12_begins_9, FT_X12_104, dX12_begins_12, dX12_begins_13, dX12_begins_14, dX12_begins_15, dX12_begins_18, xX12_beginsX_t18, dX12_begins_21, dX12_begins_22, dX12_begins_23, dX12_begins_24, dX12_begins_25, xX12_beginsX_t25, dX12_begins_28, dX12_begins_29, dX12_begins_32, dX12_begins_33, dX12_begins_34, dX12_begins_35, FT_X12_46, dX12_begins_38, dX12_begins_39, FT_X12_221, dX12_begins_42, dX12_begins_43, xX12_beginsX_t43, dX12_begins_46, dX12_begins_47, FT_X12_49, dX12_begins_50, dX12_begins_51, dX12_begins_52, dX12_begins_55, dX12_begins_56, dX12_begins_57, dX12_begins_58, dX12_begins_59, xX12_beginsX_t59, dX12_begins_62, dX12_begins_63, dX12_begins_64, dX12_begins_65, dX12_begins_68, dX12_begins_69, dX12_begins_70, dX12_begins_71, dX12_begins_73, dX12_begins_74, dX12_begins_77, xX12_beginsX_t77, dX12_begins_80, dX12_begins_81, dX12_begins_82, FT_X12_61, dX12_begins_85, dX12_begins_86, dX12_begins_89, dX12_begins_90, PT_X12_296, dX12_begins_93, dX12_begins_94, dX12_begins_95, PT_X12_299, dX12_begins_98, xX12_beginsX_SH, xX12_beginsX_KF, xX12_beginsX_rt, xX12_beginsX_FT, xX12_beginsX_PT, xX12_beginsX_CT, xX12_beginsX_KT, xX12_beginsX_LT, xX12_beginsX_NT, o_aload_n, o_bipush, o_getfield, o_goto, o_iadd, o_iaload, o_iastore, o_iconst, o_if_icmp_ge, o_iinc, o_iload_n, o_imul, o_istore_n, o_putfield, o_return_, SH_51, KF_51_18, KF_51_23, SH_61, KF_51_24, SH_62, KF_51_28, SH_66, KF_51_46, SH_80, KF_51_47, KF_51_48, am_ty, am_vc, am_opt, am_cl, am_find, am_ldi, am_ldl, am_lda, am_v, am_1, am_1l, am_1a, am_2, am_2l, am_ix, am_ri, am_arr, am_pf, am_rc, am_mask, am_lg, am_av, am_nat, fv_0, fv_1, fv_2, fv_3, fw_0, fw_1, List.getElem?_cons_zero, List.getElem?_cons_succ, List.set_cons_zero, List.set_cons_succ, List.length_cons, List.length_nil, List.take_succ_cons, List.take_zero, List.drop_succ_cons, List.drop_zero, List.reverse_cons, List.reverse_nil, List.nil_append, List.cons_append, List.append_nil, List.map_cons, List.map_nil, List.sum_cons, List.sum_nil, Value.category, Option.toList_some, Option.toList_none, Nat.reduceAdd, Nat.reduceLT, Nat.reduceLeDiff, Nat.reduceEqDiff, Nat.reduceSub, Nat.add_zero, Nat.le_refl, Nat.zero_le, Int.reduceNeg, Int.reduceLE, Int.reduceLT, true_and, and_true, and_self, if_true, if_false, ite_true, ite_false, eq_self_iff_true, reduceIte, reduceCtorEq, not_false_eq_true, not_true_eq_false, or_true, true_or, or_false, false_or, Nat.lt_irrefl, Nat.zero_lt_succ, f1]
      try simp (disch := omega) only [ii_0, ii_1, ii_t, ii_add, ii_sub, ii_mul, ii_lt, ii_le, ii_eq, ij_in, ii_c, Int.toNat_natCast, Int.toNat_zero, Int.reduceToNat, Int.reduceEq, Int.reduceNe, Int.reduceLE, Int.reduceLT, Int.reduceAdd, Int.reduceSub, Int.reduceMul, Int.reduceNeg, Nat.reduceLT, Nat.reduceAdd, Nat.reduceMul, not_false_eq_true, not_true_eq_false, true_and, and_true, and_self, false_and, and_false, true_implies, false_implies, implies_true, forall_const, if_true, if_false, ite_true, ite_false, reduceIte, eq_self_iff_true, Int.natCast_nonneg, Int.zero_add, Int.add_zero, pi_s, pi_n, f1, f2, f3, e5, w', w2]
      first
      | exact k9
      | exact ⟨⟨by omega, by omega⟩, ⟨by omega, by omega⟩, k9⟩
      | exact ⟨by omega, by omega, k9⟩
      | exact ⟨by omega, ⟨by omega, by omega⟩, k9⟩
      | trace_state
    · have k9 := at63 _ q (if_neg w).symm
      have w' : ¬ (k : Int) < (P : Int) := by omega
      have w2 : (P : Int) ≤ (k : Int) := by omega
      refine hA [(63, 2)] 20 _ _ _ _ _ ?_
      try simp only [dX12_begins_0, dX12_begins_1, dX12_begins_2, dX12_begins_3, dX12_begins_5, xX12_beginsX_t5, dX12_begins_8, dX12_begins_9, FT_X12_104, dX12_begins_12, dX12_begins_13, dX12_begins_14, dX12_begins_15, dX12_begins_18, xX12_beginsX_t18, dX12_begins_21, dX12_begins_22, dX12_begins_23, dX12_begins_24, dX12_begins_25, xX12_beginsX_t25, dX12_begins_28, dX12_begins_29, dX12_begins_32, dX12_begins_33, dX12_begins_34, dX12_begins_35, FT_X12_46, dX12_begins_38, dX12_begins_39, FT_X12_221, dX12_begins_42, dX12_begins_43, xX12_beginsX_t43, dX12_begins_46, dX12_begins_47, FT_X12_49, dX12_begins_50, dX12_begins_51, dX12_begins_52, dX12_begins_55, dX12_begins_56, dX12_begins_57, dX12_begins_58, dX12_begins_59, xX12_beginsX_t59, dX12_begins_62, dX12_begins_63, dX12_begins_64, dX12_begins_65, dX12_begins_68, dX12_begins_69, dX12_begins_70, dX12_begins_71, dX12_begins_73, dX12_begins_74, dX12_begins_77, xX12_beginsX_t77, dX12_begins_80, dX12_begins_81, dX12_begins_82, FT_X12_61, dX12_begins_85, dX12_begins_86, dX12_begins_89, dX12_begins_90, PT_X12_296, dX12_begins_93, dX12_begins_94, dX12_begins_95, PT_X12_299, dX12_begins_98, xX12_beginsX_SH, xX12_beginsX_KF, xX12_beginsX_rt, xX12_beginsX_FT, xX12_beginsX_PT, xX12_beginsX_CT, xX12_beginsX_KT, xX12_beginsX_LT, xX12_beginsX_NT, o_aload_n, o_bipush, o_getfield, o_goto, o_iadd, o_iaload, o_iastore, o_iconst, o_if_icmp_ge, o_iinc, o_iload_n, o_imul, o_istore_n, o_putfield, o_return_, SH_51, KF_51_18, KF_51_23, SH_61, KF_51_24, SH_62, KF_51_28, SH_66, KF_51_46, SH_80, KF_51_47, KF_51_48, am_ty, am_vc, am_opt, am_cl, am_find, am_ldi, am_ldl, am_lda, am_v, am_1, am_1l, am_1a, am_2, am_2l, am_ix, am_ri, am_arr, am_pf, am_rc, am_mask, am_lg, am_av, am_nat, fv_0, fv_1, fv_2, fv_3, fw_0, fw_1, List.getElem?_cons_zero, List.getElem?_cons_succ, List.set_cons_zero, List.set_cons_succ, List.length_cons, List.length_nil, List.take_succ_cons, List.take_zero, List.drop_succ_cons, List.drop_zero, List.reverse_cons, List.reverse_nil, List.nil_append, List.cons_append, List.append_nil, List.map_cons, List.map_nil, List.sum_cons, List.sum_nil, Value.category, Option.toList_some, Option.toList_none, Nat.reduceAdd, Nat.reduceLT, Nat.reduceLeDiff, Nat.reduceEqDiff, Nat.reduceSub, Nat.add_zero, Nat.le_refl, Nat.zero_le, Int.reduceNeg, Int.reduceLE, Int.reduceLT, true_and, and_true, and_self, if_true, if_false, ite_true, ite_false, eq_self_iff_true, reduceIte, reduceCtorEq, not_false_eq_true, not_true_eq_false, or_true, true_or, or_false, false_or, Nat.lt_irrefl, Nat.zero_lt_succ, f1]
      try simp (disch := omega) only [ii_0, ii_1, ii_t, ii_add, ii_sub, ii_mul, ii_lt, ii_le, ii_eq, ij_in, ii_c, Int.toNat_natCast, Int.toNat_zero, Int.reduceToNat, Int.reduceEq, Int.reduceNe, Int.reduceLE, Int.reduceLT, Int.reduceAdd, Int.reduceSub, Int.reduceMul, Int.reduceNeg, Nat.reduceLT, Nat.reduceAdd, Nat.reduceMul, not_false_eq_true, not_true_eq_false, true_and, and_true, and_self, false_and, and_false, true_implies, false_implies, implies_true, forall_const, if_true, if_false, ite_true, ite_false, reduceIte, eq_self_iff_true, Int.natCast_nonneg, Int.zero_add, Int.add_zero, pi_s, pi_n, f1, f2, f3, e5, w', w2]
      first
      | exact k9
      | exact ⟨⟨by omega, by omega⟩, k9⟩
      | exact ⟨by omega, k9⟩
      | trace_state
  have at80 : k = 5 → AA 80 [some (.ref 51), some (.int (Int32.ofInt (k : Int)))] [] 92 (bgT k P L σ) := fun q => by
    have fin := fin q
    refine hA [] 14 _ _ _ _ _ ?_
    try simp only [dX12_begins_0, dX12_begins_1, dX12_begins_2, dX12_begins_3, dX12_begins_5, xX12_beginsX_t5, dX12_begins_8, dX12_begins_9, FT_X12_104, dX12_begins_12, dX12_begins_13, dX12_begins_14, dX12_begins_15, dX12_begins_18, xX12_beginsX_t18, dX12_begins_21, dX12_begins_22, dX12_begins_23, dX12_begins_24, dX12_begins_25, xX12_beginsX_t25, dX12_begins_28, dX12_begins_29, dX12_begins_32, dX12_begins_33, dX12_begins_34, dX12_begins_35, FT_X12_46, dX12_begins_38, dX12_begins_39, FT_X12_221, dX12_begins_42, dX12_begins_43, xX12_beginsX_t43, dX12_begins_46, dX12_begins_47, FT_X12_49, dX12_begins_50, dX12_begins_51, dX12_begins_52, dX12_begins_55, dX12_begins_56, dX12_begins_57, dX12_begins_58, dX12_begins_59, xX12_beginsX_t59, dX12_begins_62, dX12_begins_63, dX12_begins_64, dX12_begins_65, dX12_begins_68, dX12_begins_69, dX12_begins_70, dX12_begins_71, dX12_begins_73, dX12_begins_74, dX12_begins_77, xX12_beginsX_t77, dX12_begins_80, dX12_begins_81, dX12_begins_82, FT_X12_61, dX12_begins_85, dX12_begins_86, dX12_begins_89, dX12_begins_90, PT_X12_296, dX12_begins_93, dX12_begins_94, dX12_begins_95, PT_X12_299, dX12_begins_98, xX12_beginsX_SH, xX12_beginsX_KF, xX12_beginsX_rt, xX12_beginsX_FT, xX12_beginsX_PT, xX12_beginsX_CT, xX12_beginsX_KT, xX12_beginsX_LT, xX12_beginsX_NT, o_aload_n, o_bipush, o_getfield, o_goto, o_iadd, o_iaload, o_iastore, o_iconst, o_if_icmp_ge, o_iinc, o_iload_n, o_imul, o_istore_n, o_putfield, o_return_, SH_51, KF_51_18, KF_51_23, SH_61, KF_51_24, SH_62, KF_51_28, SH_66, KF_51_46, SH_80, KF_51_47, KF_51_48, am_ty, am_vc, am_opt, am_cl, am_find, am_ldi, am_ldl, am_lda, am_v, am_1, am_1l, am_1a, am_2, am_2l, am_ix, am_ri, am_arr, am_pf, am_rc, am_mask, am_lg, am_av, am_nat, fv_0, fv_1, fv_2, fv_3, fw_0, fw_1, List.getElem?_cons_zero, List.getElem?_cons_succ, List.set_cons_zero, List.set_cons_succ, List.length_cons, List.length_nil, List.take_succ_cons, List.take_zero, List.drop_succ_cons, List.drop_zero, List.reverse_cons, List.reverse_nil, List.nil_append, List.cons_append, List.append_nil, List.map_cons, List.map_nil, List.sum_cons, List.sum_nil, Value.category, Option.toList_some, Option.toList_none, Nat.reduceAdd, Nat.reduceLT, Nat.reduceLeDiff, Nat.reduceEqDiff, Nat.reduceSub, Nat.add_zero, Nat.le_refl, Nat.zero_le, Int.reduceNeg, Int.reduceLE, Int.reduceLT, true_and, and_true, and_self, if_true, if_false, ite_true, ite_false, eq_self_iff_true, reduceIte, reduceCtorEq, not_false_eq_true, not_true_eq_false, or_true, true_or, or_false, false_or, Nat.lt_irrefl, Nat.zero_lt_succ, f1, nb_0]
    try simp (disch := omega) only [ii_0, ii_1, ii_t, ii_add, ii_sub, ii_mul, ii_lt, ii_le, ii_eq, ij_in, ii_c, Int.toNat_natCast, Int.toNat_zero, Int.reduceToNat, Int.reduceEq, Int.reduceNe, Int.reduceLE, Int.reduceLT, Int.reduceAdd, Int.reduceSub, Int.reduceMul, Int.reduceNeg, Nat.reduceLT, Nat.reduceAdd, Nat.reduceMul, not_false_eq_true, not_true_eq_false, true_and, and_true, and_self, false_and, and_false, true_implies, false_implies, implies_true, forall_const, if_true, if_false, ite_true, ite_false, reduceIte, eq_self_iff_true, Int.natCast_nonneg, Int.zero_add, Int.add_zero, pi_s, pi_n, f1, f4, nb_0]
    first
    | exact fin
    | exact ⟨by omega, fin⟩
    | exact ⟨⟨by omega, by omega⟩, fin⟩
    | trace_state
  refine hA [(28, 2), (80, 2)] 4 _ _ _ _ _ ?_
  try simp only [dX12_begins_0, dX12_begins_1, dX12_begins_2, dX12_begins_3, dX12_begins_5, xX12_beginsX_t5, dX12_begins_8, dX12_begins_9, FT_X12_104, dX12_begins_12, dX12_begins_13, dX12_begins_14, dX12_begins_15, dX12_begins_18, xX12_beginsX_t18, dX12_begins_21, dX12_begins_22, dX12_begins_23, dX12_begins_24, dX12_begins_25, xX12_beginsX_t25, dX12_begins_28, dX12_begins_29, dX12_begins_32, dX12_begins_33, dX12_begins_34, dX12_begins_35, FT_X12_46, dX12_begins_38, dX12_begins_39, FT_X12_221, dX12_begins_42, dX12_begins_43, xX12_beginsX_t43, dX12_begins_46, dX12_begins_47, FT_X12_49, dX12_begins_50, dX12_begins_51, dX12_begins_52, dX12_begins_55, dX12_begins_56, dX12_begins_57, dX12_begins_58, dX12_begins_59, xX12_beginsX_t59, dX12_begins_62, dX12_begins_63, dX12_begins_64, dX12_begins_65, dX12_begins_68, dX12_begins_69, dX12_begins_70, dX12_begins_71, dX12_begins_73, dX12_begins_74, dX12_begins_77, xX12_beginsX_t77, dX12_begins_80, dX12_begins_81, dX12_begins_82, FT_X12_61, dX12_begins_85, dX12_begins_86, dX12_begins_89, dX12_begins_90, PT_X12_296, dX12_begins_93, dX12_begins_94, dX12_begins_95, PT_X12_299, dX12_begins_98, xX12_beginsX_SH, xX12_beginsX_KF, xX12_beginsX_rt, xX12_beginsX_FT, xX12_beginsX_PT, xX12_beginsX_CT, xX12_beginsX_KT, xX12_beginsX_LT, xX12_beginsX_NT, o_aload_n, o_bipush, o_getfield, o_goto, o_iadd, o_iaload, o_iastore, o_iconst, o_if_icmp_ge, o_iinc, o_iload_n, o_imul, o_istore_n, o_putfield, o_return_, SH_51, KF_51_18, KF_51_23, SH_61, KF_51_24, SH_62, KF_51_28, SH_66, KF_51_46, SH_80, KF_51_47, KF_51_48, am_ty, am_vc, am_opt, am_cl, am_find, am_ldi, am_ldl, am_lda, am_v, am_1, am_1l, am_1a, am_2, am_2l, am_ix, am_ri, am_arr, am_pf, am_rc, am_mask, am_lg, am_av, am_nat, fv_0, fv_1, fv_2, fv_3, fw_0, fw_1, List.getElem?_cons_zero, List.getElem?_cons_succ, List.set_cons_zero, List.set_cons_succ, List.length_cons, List.length_nil, List.take_succ_cons, List.take_zero, List.drop_succ_cons, List.drop_zero, List.reverse_cons, List.reverse_nil, List.nil_append, List.cons_append, List.append_nil, List.map_cons, List.map_nil, List.sum_cons, List.sum_nil, Value.category, Option.toList_some, Option.toList_none, Nat.reduceAdd, Nat.reduceLT, Nat.reduceLeDiff, Nat.reduceEqDiff, Nat.reduceSub, Nat.add_zero, Nat.le_refl, Nat.zero_le, Int.reduceNeg, Int.reduceLE, Int.reduceLT, true_and, and_true, and_self, if_true, if_false, ite_true, ite_false, eq_self_iff_true, reduceIte, reduceCtorEq, not_false_eq_true, not_true_eq_false, or_true, true_or, or_false, false_or, Nat.lt_irrefl, Nat.zero_lt_succ]
  try simp (disch := omega) only [ii_0, ii_1, ii_t, ii_add, ii_sub, ii_mul, ii_lt, ii_le, ii_eq, ij_in, ii_c, Int.toNat_natCast, Int.toNat_zero, Int.reduceToNat, Int.reduceEq, Int.reduceNe, Int.reduceLE, Int.reduceLT, Int.reduceAdd, Int.reduceSub, Int.reduceMul, Int.reduceNeg, Nat.reduceLT, Nat.reduceAdd, Nat.reduceMul, not_false_eq_true, not_true_eq_false, true_and, and_true, and_self, false_and, and_false, true_implies, false_implies, implies_true, forall_const, if_true, if_false, ite_true, ite_false, reduceIte, eq_self_iff_true, Int.natCast_nonneg, Int.zero_add, Int.add_zero, pi_s, pi_n]
  exact ⟨fun q => at80 (by omega), fun q => at28 (by omega)⟩
set_option maxRecDepth 100000 in
theorem bgX_2 (hA : ∀ cuts f pc ls stk n τ, am_vc cX12_begins xX12_beginsX (92 + 0) post AA cuts f pc ls stk n τ → AA pc ls stk n τ) (h : AA 23 [some (.ref 51), some (.int (Int32.ofInt ((0 : Nat) : Int)))] [] 92 (bgS 51 σ)) : ∀ k : Nat, k ≤ 51 → AA 2 [some (.ref 51), some (.int (Int32.ofInt (k : Int)))] [] 92 (bgS k σ) := by
  refine am_up 51 fun k hk ih => ?_
  have fin : k = 51 → AA 23 [some (.ref 51), some (.int (Int32.ofInt ((0 : Nat) : Int)))] [] 92 (bgS k σ) := fun q => by subst q; exact h
  have k' : k < 51 → AA 2 [some (.ref 51), some (.int (Int32.ofInt ((k + 1 : Nat) : Int)))] [] 92 (am_pi (bgS k σ) 80 k (Int32.ofInt 0)) := fun q => by rw [bgS_s]; exact ih q
  have at21 : k = 51 → AA 21 [some (.ref 51), some (.int (Int32.ofInt (k : Int)))] [] 92 (bgS k σ) := fun q => by
    have k9 := fin q
    refine hA [(23, 2)] 3 _ _ _ _ _ ?_
    try simp only [dX12_begins_0, dX12_begins_1, dX12_begins_2, dX12_begins_3, dX12_begins_5, xX12_beginsX_t5, dX12_begins_8, dX12_begins_9, FT_X12_104, dX12_begins_12, dX12_begins_13, dX12_begins_14, dX12_begins_15, dX12_begins_18, xX12_beginsX_t18, dX12_begins_21, dX12_begins_22, dX12_begins_23, dX12_begins_24, dX12_begins_25, xX12_beginsX_t25, dX12_begins_28, dX12_begins_29, dX12_begins_32, dX12_begins_33, dX12_begins_34, dX12_begins_35, FT_X12_46, dX12_begins_38, dX12_begins_39, FT_X12_221, dX12_begins_42, dX12_begins_43, xX12_beginsX_t43, dX12_begins_46, dX12_begins_47, FT_X12_49, dX12_begins_50, dX12_begins_51, dX12_begins_52, dX12_begins_55, dX12_begins_56, dX12_begins_57, dX12_begins_58, dX12_begins_59, xX12_beginsX_t59, dX12_begins_62, dX12_begins_63, dX12_begins_64, dX12_begins_65, dX12_begins_68, dX12_begins_69, dX12_begins_70, dX12_begins_71, dX12_begins_73, dX12_begins_74, dX12_begins_77, xX12_beginsX_t77, dX12_begins_80, dX12_begins_81, dX12_begins_82, FT_X12_61, dX12_begins_85, dX12_begins_86, dX12_begins_89, dX12_begins_90, PT_X12_296, dX12_begins_93, dX12_begins_94, dX12_begins_95, PT_X12_299, dX12_begins_98, xX12_beginsX_SH, xX12_beginsX_KF, xX12_beginsX_rt, xX12_beginsX_FT, xX12_beginsX_PT, xX12_beginsX_CT, xX12_beginsX_KT, xX12_beginsX_LT, xX12_beginsX_NT, o_aload_n, o_bipush, o_getfield, o_goto, o_iadd, o_iaload, o_iastore, o_iconst, o_if_icmp_ge, o_iinc, o_iload_n, o_imul, o_istore_n, o_putfield, o_return_, SH_51, KF_51_18, KF_51_23, SH_61, KF_51_24, SH_62, KF_51_28, SH_66, KF_51_46, SH_80, KF_51_47, KF_51_48, am_ty, am_vc, am_opt, am_cl, am_find, am_ldi, am_ldl, am_lda, am_v, am_1, am_1l, am_1a, am_2, am_2l, am_ix, am_ri, am_arr, am_pf, am_rc, am_mask, am_lg, am_av, am_nat, fv_0, fv_1, fv_2, fv_3, fw_0, fw_1, List.getElem?_cons_zero, List.getElem?_cons_succ, List.set_cons_zero, List.set_cons_succ, List.length_cons, List.length_nil, List.take_succ_cons, List.take_zero, List.drop_succ_cons, List.drop_zero, List.reverse_cons, List.reverse_nil, List.nil_append, List.cons_append, List.append_nil, List.map_cons, List.map_nil, List.sum_cons, List.sum_nil, Value.category, Option.toList_some, Option.toList_none, Nat.reduceAdd, Nat.reduceLT, Nat.reduceLeDiff, Nat.reduceEqDiff, Nat.reduceSub, Nat.add_zero, Nat.le_refl, Nat.zero_le, Int.reduceNeg, Int.reduceLE, Int.reduceLT, true_and, and_true, and_self, if_true, if_false, ite_true, ite_false, eq_self_iff_true, reduceIte, reduceCtorEq, not_false_eq_true, not_true_eq_false, or_true, true_or, or_false, false_or, Nat.lt_irrefl, Nat.zero_lt_succ]
    first
    | exact k9
    | (simp (disch := omega) only [ii_0, ii_1, ii_t, ii_add, ii_sub, ii_mul, ii_lt, ii_le, ii_eq, ij_in, ii_c, Int.toNat_natCast, Int.toNat_zero, Int.reduceToNat, Int.reduceEq, Int.reduceNe, Int.reduceLE, Int.reduceLT, Int.reduceAdd, Int.reduceSub, Int.reduceMul, Int.reduceNeg, Nat.reduceLT, Nat.reduceAdd, Nat.reduceMul, not_false_eq_true, not_true_eq_false, true_and, and_true, and_self, false_and, and_false, true_implies, false_implies, implies_true, forall_const, if_true, if_false, ite_true, ite_false, reduceIte, eq_self_iff_true, Int.natCast_nonneg, Int.zero_add, Int.add_zero, pi_s, pi_n]; exact k9)
    | trace_state
  refine hA [(2, 2), (21, 2)] 14 _ _ _ _ _ ?_
  try simp only [dX12_begins_0, dX12_begins_1, dX12_begins_2, dX12_begins_3, dX12_begins_5, xX12_beginsX_t5, dX12_begins_8, dX12_begins_9, FT_X12_104, dX12_begins_12, dX12_begins_13, dX12_begins_14, dX12_begins_15, dX12_begins_18, xX12_beginsX_t18, dX12_begins_21, dX12_begins_22, dX12_begins_23, dX12_begins_24, dX12_begins_25, xX12_beginsX_t25, dX12_begins_28, dX12_begins_29, dX12_begins_32, dX12_begins_33, dX12_begins_34, dX12_begins_35, FT_X12_46, dX12_begins_38, dX12_begins_39, FT_X12_221, dX12_begins_42, dX12_begins_43, xX12_beginsX_t43, dX12_begins_46, dX12_begins_47, FT_X12_49, dX12_begins_50, dX12_begins_51, dX12_begins_52, dX12_begins_55, dX12_begins_56, dX12_begins_57, dX12_begins_58, dX12_begins_59, xX12_beginsX_t59, dX12_begins_62, dX12_begins_63, dX12_begins_64, dX12_begins_65, dX12_begins_68, dX12_begins_69, dX12_begins_70, dX12_begins_71, dX12_begins_73, dX12_begins_74, dX12_begins_77, xX12_beginsX_t77, dX12_begins_80, dX12_begins_81, dX12_begins_82, FT_X12_61, dX12_begins_85, dX12_begins_86, dX12_begins_89, dX12_begins_90, PT_X12_296, dX12_begins_93, dX12_begins_94, dX12_begins_95, PT_X12_299, dX12_begins_98, xX12_beginsX_SH, xX12_beginsX_KF, xX12_beginsX_rt, xX12_beginsX_FT, xX12_beginsX_PT, xX12_beginsX_CT, xX12_beginsX_KT, xX12_beginsX_LT, xX12_beginsX_NT, o_aload_n, o_bipush, o_getfield, o_goto, o_iadd, o_iaload, o_iastore, o_iconst, o_if_icmp_ge, o_iinc, o_iload_n, o_imul, o_istore_n, o_putfield, o_return_, SH_51, KF_51_18, KF_51_23, SH_61, KF_51_24, SH_62, KF_51_28, SH_66, KF_51_46, SH_80, KF_51_47, KF_51_48, am_ty, am_vc, am_opt, am_cl, am_find, am_ldi, am_ldl, am_lda, am_v, am_1, am_1l, am_1a, am_2, am_2l, am_ix, am_ri, am_arr, am_pf, am_rc, am_mask, am_lg, am_av, am_nat, fv_0, fv_1, fv_2, fv_3, fw_0, fw_1, List.getElem?_cons_zero, List.getElem?_cons_succ, List.set_cons_zero, List.set_cons_succ, List.length_cons, List.length_nil, List.take_succ_cons, List.take_zero, List.drop_succ_cons, List.drop_zero, List.reverse_cons, List.reverse_nil, List.nil_append, List.cons_append, List.append_nil, List.map_cons, List.map_nil, List.sum_cons, List.sum_nil, Value.category, Option.toList_some, Option.toList_none, Nat.reduceAdd, Nat.reduceLT, Nat.reduceLeDiff, Nat.reduceEqDiff, Nat.reduceSub, Nat.add_zero, Nat.le_refl, Nat.zero_le, Int.reduceNeg, Int.reduceLE, Int.reduceLT, true_and, and_true, and_self, if_true, if_false, ite_true, ite_false, eq_self_iff_true, reduceIte, reduceCtorEq, not_false_eq_true, not_true_eq_false, or_true, true_or, or_false, false_or, Nat.lt_irrefl, Nat.zero_lt_succ]
  try simp (disch := omega) only [ii_0, ii_1, ii_t, ii_add, ii_sub, ii_mul, ii_lt, ii_le, ii_eq, ij_in, ii_c, Int.toNat_natCast, Int.toNat_zero, Int.reduceToNat, Int.reduceEq, Int.reduceNe, Int.reduceLE, Int.reduceLT, Int.reduceAdd, Int.reduceSub, Int.reduceMul, Int.reduceNeg, Nat.reduceLT, Nat.reduceAdd, Nat.reduceMul, not_false_eq_true, not_true_eq_false, true_and, and_true, and_self, false_and, and_false, true_implies, false_implies, implies_true, forall_const, if_true, if_false, ite_true, ite_false, reduceIte, eq_self_iff_true, Int.natCast_nonneg, Int.zero_add, Int.add_zero, pi_s, pi_n, ik_s, ik_c]
  first
  | exact ⟨fun q => at21 (by omega), fun q => ⟨by omega, k' (by omega)⟩⟩
  | exact ⟨fun q => at21 (by omega), fun q => ⟨⟨by omega, by omega⟩, k' (by omega)⟩⟩
  | trace_state
end
set_option maxRecDepth 100000 in
theorem ptX12_beginsX : am_B cX12_begins xX12_beginsX 2 0 sX12_beginsX := by
  intro n0 as σ post AA hA h
  obtain ⟨rfl, L, P, hL, hP, rfl, e1, e2, h⟩ := h
  refine ⟨by simp [am_sl, Value.category], ?_⟩
  show AA 0 [some (.ref 51), none] [] 92 σ
  have k2 := bgX_23 hA hL hP ((bgS_n (k := 51) (by decide)).trans e1) ((bgS_n (by decide)).trans e2) h 0 (by decide)
  rw [bgT_0] at k2
  have k1 := bgX_2 hA k2 0 (by decide)
  rw [bgS_0] at k1
  refine hA [(2, 2)] 3 _ _ _ _ _ ?_
  try simp only [dX12_begins_0, dX12_begins_1, dX12_begins_2, dX12_begins_3, dX12_begins_5, xX12_beginsX_t5, dX12_begins_8, dX12_begins_9, FT_X12_104, dX12_begins_12, dX12_begins_13, dX12_begins_14, dX12_begins_15, dX12_begins_18, xX12_beginsX_t18, dX12_begins_21, dX12_begins_22, dX12_begins_23, dX12_begins_24, dX12_begins_25, xX12_beginsX_t25, dX12_begins_28, dX12_begins_29, dX12_begins_32, dX12_begins_33, dX12_begins_34, dX12_begins_35, FT_X12_46, dX12_begins_38, dX12_begins_39, FT_X12_221, dX12_begins_42, dX12_begins_43, xX12_beginsX_t43, dX12_begins_46, dX12_begins_47, FT_X12_49, dX12_begins_50, dX12_begins_51, dX12_begins_52, dX12_begins_55, dX12_begins_56, dX12_begins_57, dX12_begins_58, dX12_begins_59, xX12_beginsX_t59, dX12_begins_62, dX12_begins_63, dX12_begins_64, dX12_begins_65, dX12_begins_68, dX12_begins_69, dX12_begins_70, dX12_begins_71, dX12_begins_73, dX12_begins_74, dX12_begins_77, xX12_beginsX_t77, dX12_begins_80, dX12_begins_81, dX12_begins_82, FT_X12_61, dX12_begins_85, dX12_begins_86, dX12_begins_89, dX12_begins_90, PT_X12_296, dX12_begins_93, dX12_begins_94, dX12_begins_95, PT_X12_299, dX12_begins_98, xX12_beginsX_SH, xX12_beginsX_KF, xX12_beginsX_rt, xX12_beginsX_FT, xX12_beginsX_PT, xX12_beginsX_CT, xX12_beginsX_KT, xX12_beginsX_LT, xX12_beginsX_NT, o_aload_n, o_bipush, o_getfield, o_goto, o_iadd, o_iaload, o_iastore, o_iconst, o_if_icmp_ge, o_iinc, o_iload_n, o_imul, o_istore_n, o_putfield, o_return_, SH_51, KF_51_18, KF_51_23, SH_61, KF_51_24, SH_62, KF_51_28, SH_66, KF_51_46, SH_80, KF_51_47, KF_51_48, am_ty, am_vc, am_opt, am_cl, am_find, am_ldi, am_ldl, am_lda, am_v, am_1, am_1l, am_1a, am_2, am_2l, am_ix, am_ri, am_arr, am_pf, am_rc, am_mask, am_lg, am_av, am_nat, fv_0, fv_1, fv_2, fv_3, fw_0, fw_1, List.getElem?_cons_zero, List.getElem?_cons_succ, List.set_cons_zero, List.set_cons_succ, List.length_cons, List.length_nil, List.take_succ_cons, List.take_zero, List.drop_succ_cons, List.drop_zero, List.reverse_cons, List.reverse_nil, List.nil_append, List.cons_append, List.append_nil, List.map_cons, List.map_nil, List.sum_cons, List.sum_nil, Value.category, Option.toList_some, Option.toList_none, Nat.reduceAdd, Nat.reduceLT, Nat.reduceLeDiff, Nat.reduceEqDiff, Nat.reduceSub, Nat.add_zero, Nat.le_refl, Nat.zero_le, Int.reduceNeg, Int.reduceLE, Int.reduceLT, true_and, and_true, and_self, if_true, if_false, ite_true, ite_false, eq_self_iff_true, reduceIte, reduceCtorEq, not_false_eq_true, not_true_eq_false, or_true, true_or, or_false, false_or, Nat.lt_irrefl, Nat.zero_lt_succ]
  exact k1
theorem mX12_beginsX (l : Launch) : am_M l TB NB vwCl SH KF yX12_begins cX12_begins 2 none 2 0 0 sX12_beginsX := by
  refine am_M.of xX12_beginsX (by decide +kernel) TB_good GF rfl rfl rfl (by decide) ⟨FT_X12_ok, PT_X12_ok _, CT_X12_ok, KT_X12_ok, LT_X12_ok, NT_X12_ok, ?_⟩ ptX12_beginsX
  exact fun _ h => absurd h List.not_mem_nil

def sX12_keepsRowX : am_Sp := fun as n σ post => n = 92 ∧ as = [.ref 51] ∧ post none (cpX 80 79 0 0 51 σ)
def xX12_keepsRowX : am_X := (SH, KF, none, FT_X12, PT_X12, CT_X12, KT_X12, LT_X12, NT_X12, [])
theorem xX12_keepsRowX_SH : am_SH xX12_keepsRowX = SH := rfl
theorem xX12_keepsRowX_KF : am_KF xX12_keepsRowX = KF := rfl
theorem xX12_keepsRowX_rt : am_rt xX12_keepsRowX = none := rfl
theorem xX12_keepsRowX_FT : am_FT xX12_keepsRowX = FT_X12 := rfl
theorem xX12_keepsRowX_PT : am_PT xX12_keepsRowX = PT_X12 := rfl
theorem xX12_keepsRowX_CT : am_CT xX12_keepsRowX = CT_X12 := rfl
theorem xX12_keepsRowX_KT : am_KT xX12_keepsRowX = KT_X12 := rfl
theorem xX12_keepsRowX_LT : am_LT xX12_keepsRowX = LT_X12 := rfl
theorem xX12_keepsRowX_NT : am_NT xX12_keepsRowX = NT_X12 := rfl
theorem xX12_keepsRowX_t5 (k : Nat → Prop) : am_tg 5 (21) k = k 26 := am_tg_eq (by decide)
theorem xX12_keepsRowX_t23 (k : Nat → Prop) : am_tg 23 (-21) k = k 2 := am_tg_eq (by decide)

set_option maxRecDepth 100000 in
theorem kpX_loop {post : Option Value → am_S → Prop} {AA : Nat → List (Option Value) → List Value → Nat → am_S → Prop} (hA : ∀ cuts f pc ls stk n τ, am_vc cX12_keepsRow xX12_keepsRowX (92 + 0) post AA cuts f pc ls stk n τ → AA pc ls stk n τ) {σ : am_S} (h : post none (cpX 80 79 0 0 51 σ)) : ∀ k : Nat, k ≤ 51 → AA 2 [some (.ref 51), some (.int (Int32.ofInt (k : Int)))] [] 92 (cpX 80 79 0 0 k σ) := by
  refine am_up 51 fun k hk ih => ?_
  have e1 : (cpX 80 79 0 0 k σ).1 80 k = σ.1 80 k := cpX_n (fun z => absurd z.1 (by decide))
  have fin : k = 51 → post none (cpX 80 79 0 0 k σ) := fun q => by subst q; exact h
  have k' : k < 51 → AA 2 [some (.ref 51), some (.int (Int32.ofInt ((k + 1 : Nat) : Int)))] [] 92 (am_pi (cpX 80 79 0 0 k σ) 79 k (σ.1 80 k)) := fun q => by
    have := cpX_s (σ := σ) (c := 80) (d := 79) (sp := 0) (dp := 0) (m := k)
    rw [Nat.zero_add] at this
    rw [this]
    exact ih q
  refine hA [(2, 2)] 16 _ _ _ _ _ ?_
  try simp only [dX12_keepsRow_0, dX12_keepsRow_1, dX12_keepsRow_2, dX12_keepsRow_3, dX12_keepsRow_5, xX12_keepsRowX_t5, dX12_keepsRow_8, dX12_keepsRow_9, FT_X12_101, dX12_keepsRow_12, dX12_keepsRow_13, dX12_keepsRow_14, FT_X12_104, dX12_keepsRow_17, dX12_keepsRow_18, dX12_keepsRow_19, dX12_keepsRow_20, dX12_keepsRow_23, xX12_keepsRowX_t23, dX12_keepsRow_26, xX12_keepsRowX_SH, xX12_keepsRowX_KF, xX12_keepsRowX_rt, xX12_keepsRowX_FT, xX12_keepsRowX_PT, xX12_keepsRowX_CT, xX12_keepsRowX_KT, xX12_keepsRowX_LT, xX12_keepsRowX_NT, o_aload_n, o_bipush, o_getfield, o_goto, o_iaload, o_iastore, o_iconst, o_if_icmp_ge, o_iinc, o_iload_n, o_istore_n, o_return_, SH_51, KF_51_45, SH_79, KF_51_46, SH_80, am_ty, am_vc, am_opt, am_cl, am_find, am_ldi, am_ldl, am_lda, am_v, am_1, am_1l, am_1a, am_2, am_2l, am_ix, am_ri, am_arr, am_pf, am_rc, am_mask, am_lg, am_av, am_nat, fv_0, fv_1, fv_2, fv_3, fw_0, fw_1, List.getElem?_cons_zero, List.getElem?_cons_succ, List.set_cons_zero, List.set_cons_succ, List.length_cons, List.length_nil, List.take_succ_cons, List.take_zero, List.drop_succ_cons, List.drop_zero, List.reverse_cons, List.reverse_nil, List.nil_append, List.cons_append, List.append_nil, List.map_cons, List.map_nil, List.sum_cons, List.sum_nil, Value.category, Option.toList_some, Option.toList_none, Nat.reduceAdd, Nat.reduceLT, Nat.reduceLeDiff, Nat.reduceEqDiff, Nat.reduceSub, Nat.add_zero, Nat.le_refl, Nat.zero_le, Int.reduceNeg, Int.reduceLE, Int.reduceLT, true_and, and_true, and_self, if_true, if_false, ite_true, ite_false, eq_self_iff_true, reduceIte, reduceCtorEq, not_false_eq_true, not_true_eq_false, or_true, true_or, or_false, false_or, Nat.lt_irrefl, Nat.zero_lt_succ, e1]
  try simp (disch := omega) only [ii_0, ii_1, ii_t, ii_add, ii_sub, ii_mul, ii_lt, ii_le, ii_eq, ij_in, ii_c, Int.toNat_natCast, Int.toNat_zero, Int.reduceToNat, Int.reduceEq, Int.reduceNe, Int.reduceLE, Int.reduceLT, Int.reduceAdd, Int.reduceSub, Int.reduceMul, Int.reduceNeg, Nat.reduceLT, Nat.reduceAdd, Nat.reduceMul, not_false_eq_true, not_true_eq_false, true_and, and_true, and_self, false_and, and_false, true_implies, false_implies, implies_true, forall_const, if_true, if_false, ite_true, ite_false, reduceIte, eq_self_iff_true, Int.natCast_nonneg, Int.zero_add, Int.add_zero, pi_s, pi_n, ik_s, ik_c, e1]
  first
  | exact ⟨fun q => fin (by omega), fun q => ⟨by omega, by omega, k' (by omega)⟩⟩
  | exact ⟨fun q => fin (by omega), fun q => ⟨⟨by omega, by omega⟩, ⟨by omega, by omega⟩, k' (by omega)⟩⟩
  | exact ⟨fun q => fin (by omega), fun q => ⟨by omega, k' (by omega)⟩⟩
  | trace_state
set_option maxRecDepth 100000 in
theorem ptX12_keepsRowX : am_B cX12_keepsRow xX12_keepsRowX 2 0 sX12_keepsRowX := by
  intro n0 as σ post AA hA h
  obtain ⟨rfl, rfl, h⟩ := h
  refine ⟨by simp [am_sl, Value.category], ?_⟩
  show AA 0 [some (.ref 51), none] [] 92 σ
  have k1 := kpX_loop hA h 0 (by decide)
  rw [cpX_0] at k1
  refine hA [(2, 2)] 3 _ _ _ _ _ ?_
  try simp only [dX12_keepsRow_0, dX12_keepsRow_1, dX12_keepsRow_2, dX12_keepsRow_3, dX12_keepsRow_5, xX12_keepsRowX_t5, dX12_keepsRow_8, dX12_keepsRow_9, FT_X12_101, dX12_keepsRow_12, dX12_keepsRow_13, dX12_keepsRow_14, FT_X12_104, dX12_keepsRow_17, dX12_keepsRow_18, dX12_keepsRow_19, dX12_keepsRow_20, dX12_keepsRow_23, xX12_keepsRowX_t23, dX12_keepsRow_26, xX12_keepsRowX_SH, xX12_keepsRowX_KF, xX12_keepsRowX_rt, xX12_keepsRowX_FT, xX12_keepsRowX_PT, xX12_keepsRowX_CT, xX12_keepsRowX_KT, xX12_keepsRowX_LT, xX12_keepsRowX_NT, o_aload_n, o_bipush, o_getfield, o_goto, o_iaload, o_iastore, o_iconst, o_if_icmp_ge, o_iinc, o_iload_n, o_istore_n, o_return_, SH_51, KF_51_45, SH_79, KF_51_46, SH_80, am_ty, am_vc, am_opt, am_cl, am_find, am_ldi, am_ldl, am_lda, am_v, am_1, am_1l, am_1a, am_2, am_2l, am_ix, am_ri, am_arr, am_pf, am_rc, am_mask, am_lg, am_av, am_nat, fv_0, fv_1, fv_2, fv_3, fw_0, fw_1, List.getElem?_cons_zero, List.getElem?_cons_succ, List.set_cons_zero, List.set_cons_succ, List.length_cons, List.length_nil, List.take_succ_cons, List.take_zero, List.drop_succ_cons, List.drop_zero, List.reverse_cons, List.reverse_nil, List.nil_append, List.cons_append, List.append_nil, List.map_cons, List.map_nil, List.sum_cons, List.sum_nil, Value.category, Option.toList_some, Option.toList_none, Nat.reduceAdd, Nat.reduceLT, Nat.reduceLeDiff, Nat.reduceEqDiff, Nat.reduceSub, Nat.add_zero, Nat.le_refl, Nat.zero_le, Int.reduceNeg, Int.reduceLE, Int.reduceLT, true_and, and_true, and_self, if_true, if_false, ite_true, ite_false, eq_self_iff_true, reduceIte, reduceCtorEq, not_false_eq_true, not_true_eq_false, or_true, true_or, or_false, false_or, Nat.lt_irrefl, Nat.zero_lt_succ]
  exact k1
theorem mX12_keepsRowX (l : Launch) : am_M l TB NB vwCl SH KF yX12_keepsRow cX12_keepsRow 2 none 2 0 0 sX12_keepsRowX := by
  refine am_M.of xX12_keepsRowX (by decide +kernel) TB_good GF rfl rfl rfl (by decide) ⟨FT_X12_ok, PT_X12_ok _, CT_X12_ok, KT_X12_ok, LT_X12_ok, NT_X12_ok, ?_⟩ ptX12_keepsRowX
  exact fun _ h => absurd h List.not_mem_nil

