/-! THE REFERENCE'S READER: going on from token to token. Printed by wip/am/chk/hand/tk.py. -/
def pT (σ : am_S) : Int := (σ.1 51 11).toInt
def pF (σ : am_S) : Int := (σ.1 51 13).toInt
def pC (σ : am_S) : Int := (σ.1 51 37).toInt
def pW (σ : am_S) : Int := (σ.1 51 41).toInt
def pO (σ : am_S) : Int := (σ.1 51 12).toInt
def pB (σ : am_S) : Int := (σ.1 51 31).toInt
/-- what these methods change -/
def TKm : sa_M := [(51, 11, 12), (51, 13, 17)]
def pX (σ : am_S) : Int := (σ.1 51 15).toInt
/-- a fault stays a fault -/
abbrev NZ (σ τ : am_S) : Prop := (pF σ ≠ 0 → pF τ ≠ 0) ∧ (pX σ ≠ 0 → pX τ ≠ 0)
theorem NZ_r (σ : am_S) : NZ σ σ := ⟨fun h => h, fun h => h⟩
theorem NZ_t {σ τ υ : am_S} (h : NZ σ τ) (g : NZ τ υ) : NZ σ υ := ⟨fun q => g.1 (h.1 q), fun q => g.2 (h.2 q)⟩
theorem NZ_of {σ τ : am_S} (h1 : τ.1 51 13 = σ.1 51 13) (h2 : τ.1 51 15 = σ.1 51 15) : NZ σ τ := ⟨fun q => by unfold pF at *; rw [h1]; exact q, fun q => by unfold pX at *; rw [h2]; exact q⟩
def TK (σ τ : am_S) : Prop := sI BB SH TKm σ τ ∧ pT σ ≤ pT τ ∧ NZ σ τ
/-- one token on, or a fault -/
def ADV (σ τ : am_S) : Prop := (pT τ = pT σ + 1 ∧ pF τ = pF σ) ∨ (pT τ = pT σ ∧ pF τ ≠ 0)
theorem TK_r {σ : am_S} (h : sb_ok BB SH σ) : TK σ σ := ⟨⟨h, sb_fr_r _ _⟩, Int.le_refl _, NZ_r σ⟩
theorem TK_t {σ τ υ : am_S} (h : TK σ τ) (g : TK τ υ) : TK σ υ := ⟨⟨g.1.1, sb_fr_t h.1.2 g.1.2⟩, Int.le_trans h.2.1 g.2.1, NZ_t h.2.2 g.2.2⟩
theorem TK_o {σ τ : am_S} (h : TK σ τ) {o k : Nat} (hn : ¬ (o = 51 ∧ (11 ≤ k ∧ k < 12 ∨ 13 ≤ k ∧ k < 17))) : τ.1 o k = σ.1 o k := (h.1.2 o k (fun m hm hh => by
  rcases List.mem_cons.mp hm with rfl | hm
  · exact hn ⟨hh.1.symm, Or.inl hh.2⟩
  · rcases List.mem_cons.mp hm with rfl | hm
    · exact hn ⟨hh.1.symm, Or.inr hh.2⟩
    · cases hm)).1
theorem TK_2 {σ τ : am_S} (h : TK σ τ) {o k : Nat} (hn : ¬ o = 51) : τ.2 o k = σ.2 o k := (h.1.2 o k (fun m hm hh => by
  rcases List.mem_cons.mp hm with rfl | hm
  · exact hn hh.1.symm
  · rcases List.mem_cons.mp hm with rfl | hm
    · exact hn hh.1.symm
    · cases hm)).2
theorem pT_b {σ : am_S} (h : sb_ok BB SH σ) : 0 ≤ pT σ ∧ pT σ ≤ 400 := h.2 51 12 11 rfl
theorem pF_b {σ : am_S} (h : sb_ok BB SH σ) : 0 ≤ pF σ ∧ pF σ ≤ 9 := h.2 51 12 13 rfl
theorem pX_b {σ : am_S} (h : sb_ok BB SH σ) : 0 ≤ pX σ ∧ pX σ ≤ 9 := h.2 51 12 15 rfl
def sX12_fail : am_Sp := fun as n σ post => n = 92 ∧ sb_ok BB SH σ ∧ sp_all [.inr (.inl 51), .inl (1, 9)] as ∧ ∀ v τ, TK σ τ → (v = none ∧ pT τ = pT σ ∧ pF τ ≠ 0) → post v τ
def sX12_goesOn : am_Sp := fun as n σ post => n = 92 ∧ sb_ok BB SH σ ∧ sp_all [.inr (.inl 51)] as ∧ ∀ v τ, TK σ τ → (v = none ∧ ADV σ τ) → post v τ
def sX12_must : am_Sp := fun as n σ post => n = 92 ∧ sb_ok BB SH σ ∧ sp_all [.inr (.inl 51), .inl (-2147483648, 2147483647)] as ∧ ∀ v τ, TK σ τ → (v = none ∧ ADV σ τ) → post v τ
def sX12_wrong : am_Sp := fun as n σ post => n = 92 ∧ sb_ok BB SH σ ∧ sp_all [.inr (.inl 51), .inl (1, 9), .inl (0, 402)] as ∧ ∀ v τ, TK σ τ → (v = none ∧ pT τ = pT σ ∧ pF τ = pF σ) → post v τ
def sX12_bounded : am_Sp := fun as n σ post => n = 92 ∧ sb_ok BB SH σ ∧ sp_all [.inr (.inl 51), .inl (-2147483648, 2147483647), .inl (-2147483648, 2147483647)] as ∧ ∀ v τ, TK σ τ → ((∃ x, v = some (.int x)) ∧ ADV σ τ) → post v τ
def sX12_bounded1 : am_Sp := fun as n σ post => n = 92 ∧ sb_ok BB SH σ ∧ sp_all [.inr (.inl 51), .inl (1, 1), .inl (12, 12)] as ∧ ∀ v τ, TK σ τ → ((∃ x : Int32, v = some (.int x) ∧ (pF τ = 0 → pX τ = 0 → 1 ≤ x.toInt ∧ x.toInt ≤ 12)) ∧ ADV σ τ) → post v τ
/-- one word for both -/
def sX12_boundedC : am_Sp := fun as n σ post => sX12_bounded1 as n σ post ∨ sX12_bounded as n σ post
def sX12_roomFor : am_Sp := fun as n σ post => n = 92 ∧ sb_ok BB SH σ ∧ sp_all [.inr (.inl 51), .inl (0, 5), .inl (5, 5)] as ∧ ∀ v τ, TK σ τ → (v = none ∧ ADV σ τ ∧ (pF τ = 0 → ∀ x : Int32, as[1]? = some (.int x) → x.toInt ≤ 4)) → post v τ
/-- is the token of this kind? -/
def sX12_is : am_Sp := fun as n σ post => n = 92 ∧ sb_ok BB SH σ ∧ ∃ k : Int, (-2147483648 ≤ k ∧ k < 2147483648) ∧ as = [.ref 51, .int (Int32.ofInt k)] ∧ ∀ z : Int, (z = 1 ∧ pF σ = 0 ∧ (σ.1 54 (pT σ).toNat).toInt = k ∨ z = 0 ∧ ¬ (pF σ = 0 ∧ (σ.1 54 (pT σ).toNat).toInt = k)) → post (some (.int (Int32.ofInt z))) σ
def xX12_is : am_X := (SH, KF, (some .boolean), FT_X12, PT_X12, CT_X12, KT_X12, LT_X12, NT_X12, [])
theorem xX12_is_SH : am_SH xX12_is = SH := rfl
theorem xX12_is_KF : am_KF xX12_is = KF := rfl
theorem xX12_is_rt : am_rt xX12_is = (some .boolean) := rfl
theorem xX12_is_FT : am_FT xX12_is = FT_X12 := rfl
theorem xX12_is_PT : am_PT xX12_is = PT_X12 := rfl
theorem xX12_is_CT : am_CT xX12_is = CT_X12 := rfl
theorem xX12_is_KT : am_KT xX12_is = KT_X12 := rfl
theorem xX12_is_LT : am_LT xX12_is = LT_X12 := rfl
theorem xX12_is_NT : am_NT xX12_is = NT_X12 := rfl
theorem xX12_is_t4 (k : Nat → Prop) : am_tg 4 (20) k = k 24 := am_tg_eq (by decide)
theorem xX12_is_t17 (k : Nat → Prop) : am_tg 17 (7) k = k 24 := am_tg_eq (by decide)
theorem xX12_is_t21 (k : Nat → Prop) : am_tg 21 (4) k = k 25 := am_tg_eq (by decide)

theorem ptX12_is : am_B cX12_is xX12_is 2 0 sX12_is := by
  intro n0 as σ post AA hA h
  obtain ⟨rfl, hB, k, hk, rfl, h⟩ := h
  have t1 := pT_b hB
  have f1 := pF_b hB
  obtain ⟨tv, etv⟩ : ∃ tv, tv = pT σ := ⟨_, rfl⟩
  obtain ⟨fv, efv⟩ : ∃ fv, fv = pF σ := ⟨_, rfl⟩
  have e1 : σ.1 51 11 = Int32.ofInt tv := by rw [etv]; exact ii_of _
  have e2 : σ.1 51 13 = Int32.ofInt fv := by rw [efv]; exact ii_of _
  rw [← etv] at t1 h
  rw [← efv] at f1 h
  obtain ⟨kv, ekv⟩ : ∃ kv, kv = (σ.1 54 tv.toNat).toInt := ⟨_, rfl⟩
  have e3 : σ.1 54 tv.toNat = Int32.ofInt kv := by rw [ekv]; exact ii_of _
  have k1 := ii_lo (σ.1 54 tv.toNat)
  have k2 := ii_hi (σ.1 54 tv.toNat)
  rw [← ekv] at h k1 k2
  refine ⟨by simp [am_sl, Value.category], ?_⟩
  show AA 0 [some (.ref 51), some (.int (Int32.ofInt k))] [] 92 σ
  refine hA [] 40 _ _ _ _ _ ?_
  try simp only [dX12_is_0, dX12_is_1, FT_X12_191, dX12_is_4, xX12_is_t4, dX12_is_7, dX12_is_8, FT_X12_20, dX12_is_11, dX12_is_12, FT_X12_194, dX12_is_15, dX12_is_16, dX12_is_17, xX12_is_t17, dX12_is_20, dX12_is_21, xX12_is_t21, dX12_is_24, dX12_is_25, xX12_is_SH, xX12_is_KF, xX12_is_rt, xX12_is_FT, xX12_is_PT, xX12_is_CT, xX12_is_KT, xX12_is_LT, xX12_is_NT, o_aload_n, o_getfield, o_goto, o_iaload, o_iconst, o_ifCond_ne, o_if_icmp_ne, o_iload_n, o_ireturn, SH_51, KF_51_13, KF_51_5, SH_54, KF_51_11, am_ty, am_vc, am_opt, am_cl, am_find, am_ldi, am_ldl, am_lda, am_v, am_1, am_1l, am_1a, am_2, am_2l, am_ix, am_ri, am_arr, am_pf, am_rc, am_mask, am_lg, am_av, am_nat, fv_0, fv_1, fv_2, fv_3, fw_0, fw_1, List.getElem?_cons_zero, List.getElem?_cons_succ, List.set_cons_zero, List.set_cons_succ, List.length_cons, List.length_nil, List.take_succ_cons, List.take_zero, List.drop_succ_cons, List.drop_zero, List.reverse_cons, List.reverse_nil, List.nil_append, List.cons_append, List.append_nil, List.map_cons, List.map_nil, List.sum_cons, List.sum_nil, Value.category, Option.toList_some, Option.toList_none, Nat.reduceAdd, Nat.reduceLT, Nat.reduceLeDiff, Nat.reduceEqDiff, Nat.reduceSub, Nat.add_zero, Nat.le_refl, Nat.zero_le, Int.reduceNeg, Int.reduceLE, Int.reduceLT, true_and, and_true, and_self, if_true, if_false, ite_true, ite_false, eq_self_iff_true, reduceIte, reduceCtorEq, not_false_eq_true, not_true_eq_false, or_true, true_or, or_false, false_or, Nat.lt_irrefl, Nat.zero_lt_succ, e1, e2, nb_0, nb_1]
  try simp (disch := omega) only [ii_0, ii_1, ii_t, ii_add, ii_sub, ii_mul, ii_lt, ii_le, ii_eq, ij_in, ii_c, Int.toNat_natCast, Int.toNat_zero, Int.reduceToNat, Int.reduceEq, Int.reduceNe, Int.reduceLE, Int.reduceLT, Int.reduceAdd, Int.reduceSub, Int.reduceMul, Int.reduceNeg, Nat.reduceLT, Nat.reduceAdd, Nat.reduceMul, not_false_eq_true, not_true_eq_false, true_and, and_true, and_self, false_and, and_false, true_implies, false_implies, implies_true, forall_const, if_true, if_false, ite_true, ite_false, reduceIte, eq_self_iff_true, Int.natCast_nonneg, Int.zero_add, Int.add_zero, pi_s, pi_n, e1, e2, e3, nb_0, nb_1]
  refine ⟨fun q => h 0 (Or.inr ⟨rfl, by omega⟩), fun q => ⟨by omega, fun q2 => h 0 (Or.inr ⟨rfl, by omega⟩), fun q2 => h 1 (Or.inl ⟨rfl, by omega, by omega⟩)⟩⟩
theorem mX12_is (l : Launch) : am_M l TB NB vwCl SH KF yX12_is cX12_is 2 (some .boolean) 2 0 0 sX12_is :=
  am_M.of xX12_is (by decide +kernel) TB_good GF rfl rfl rfl (by decide) ⟨FT_X12_ok, PT_X12_ok _, CT_X12_ok, KT_X12_ok, LT_X12_ok, NT_X12_ok, fun _ h => absurd h List.not_mem_nil⟩ ptX12_is
