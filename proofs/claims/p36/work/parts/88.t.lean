/-! THE TAPE: what feed, back and read of both do to its length. Printed by wip/am/chk/hand/tape.py. -/
/-- a method's word: its tape's length (field s of o) by R, the other's as it was -/
def tpw (o s o2 s2 : Nat) (As : List sa_P) (R : List Value → Int → Int → Int → Prop) : am_Sp := fun as n σ post => n = 92 ∧ sb_ok BB SH σ ∧ JJ σ ∧ (0 ≤ (σ.1 o s).toInt ∧ (σ.1 o s).toInt ≤ 2000) ∧ sp_all As as ∧ ∀ (x : Int32) (τ : am_S), sb_ok BB SH τ → JJ τ → τ.1 o2 s2 = σ.1 o2 s2 → R as (σ.1 o s).toInt (τ.1 o s).toInt x.toInt → post (some (.int x)) τ
def RF (_ : List Value) (T T' x : Int) : Prop := if T ≤ 1980 then T' = T + 20 ∧ x = T + 20 else T' = T ∧ x = -1
def RB (as : List Value) (T T' x : Int) : Prop := ∃ z : Int32, as[1]? = some (.int z) ∧ if 0 ≤ z.toInt ∧ z.toInt ≤ T then T' = T - z.toInt ∧ x = T - z.toInt else T' = T ∧ x = -1
def RR (_ : List Value) (_ T' _ : Int) : Prop := T' = 0
def xX11_putFouri : am_X := (SH, KF, none, FT_X11, PT_X11, CT_X11, KT_X11, LT_X11, NT_X11, [])
def CX11_putFouri (M : sa_M) : ta_C := []
theorem hX11_putFouri (M : sa_M) (σ0 : am_S) : t_CS BB (am_SH xX11_putFouri) 92 M σ0 (am_ML xX11_putFouri) (CX11_putFouri M) := t_cs_nil
theorem mX11_putFouri (l : Launch) : am_M l TB NB vwCl SH KF yX11_putFour cX11_putFour 3 none 2 0 0 (t_wp cX11_putFour xX11_putFouri 400 3) := by
  refine am_M.of xX11_putFouri (by decide +kernel) TB_good GF rfl rfl rfl (by decide) ⟨FT_X11_ok, PT_X11_ok _, CT_X11_ok, KT_X11_ok, LT_X11_ok, NT_X11_ok, ?_⟩ t_wp_B
  exact fun _ h => absurd h List.not_mem_nil
def xX11_feedt : am_X := (SH, KF, (some .int), FT_X11, PT_X11, CT_X11, KT_X11, LT_X11, NT_X11, [(97, 0, 2, 11, 0, 0, t_wp cX11_putFour xX11_putFouri 400 3)])
def CX11_feedt (M : sa_M) : ta_C := [(97, 0, 2, 11, t_in xX11_putFouri BB 92 (CX11_putFouri M) M LX11_putFour [] 400 3)]
theorem hX11_feedt (M : sa_M) (σ0 : am_S) : t_CS BB (am_SH xX11_feedt) 92 M σ0 (am_ML xX11_feedt) (CX11_feedt M) := t_cs_cons (t_in_ok (hX11_putFouri M σ0) (s_D_ok LX11_putFour_ok)) (t_cs_nil)
def rX11_feed (E : sa_E) (F : ta_F) (v : Option sa_V) : Bool := match v with
  | some (.inl a) => (decide (a = (7, 20)) && (decide (t_lk F 0 (0, 1) = some (7, 20)) && decide ((sa_h E (7, 0)).2 ≤ 1980))) || (decide (a = (0, -1)) && (decide (t_lk F 0 (0, 1) = some (7, 0)) && decide (1981 ≤ (sa_h E (7, 0)).1)))
  | _ => false
set_option maxRecDepth 100000 in
theorem ptX11_feed : am_B cX11_feed xX11_feedt 6 0 (tpw 0 1 51 2 [.inr (.inl 0), .inl (-2147483648, 2147483647), .inl (-2147483648, 2147483647), .inl (-2147483648, 2147483647), .inl (-2147483648, 2147483647), .inl (-2147483648, 2147483647)] RF) := by
  refine t_flat (X := xX11_feedt) (B := BB) (N := 92) (CS := CX11_feedt [(0, 1, 2), (1, 0, 2000)]) (M := [(0, 1, 2), (1, 0, 2000)]) (D := LX11_feed) (Fk := []) (fuel := 400) [.inr (.inl 0), .inl (-2147483648, 2147483647), .inl (-2147483648, 2147483647), .inl (-2147483648, 2147483647), .inl (-2147483648, 2147483647), .inl (-2147483648, 2147483647)] [(0, (0, 1), 0, 2000)] rX11_feed (by decide) (s_D_ok LX11_feed_ok) ?_ (by decide +kernel)
  rintro as n σ post ⟨rfl, hB, hJ, ⟨hT1, hT2⟩, has, h⟩
  refine ⟨rfl, hB, has, hX11_feedt _ _, fun q hq => ?_, fun E' F' ρ' v' v τ hr hx hE hF hv hI => ?_⟩
  · have e : q = (0, (0, 1), 0, 2000) := by simpa using hq
    subst e
    exact ⟨by decide, by show (0 : Int) ≤ 0 + 1; decide, hT1, hT2⟩
  · have eT : t_sρ (s_en 6 [.inr (.inl 0), .inl (-2147483648, 2147483647), .inl (-2147483648, 2147483647), .inl (-2147483648, 2147483647), .inl (-2147483648, 2147483647), .inl (-2147483648, 2147483647)]) (am_entry 6 as) [(0, (0, 1), 0, 2000)] σ 7 = (σ.1 0 1).toInt := rfl
    have eT' : ρ' 7 = (σ.1 0 1).toInt := by rw [hx.2 7 (by decide), eT]
    have hg : ∀ a : Nat × Int, t_lk F' 0 (0, 1) = some a → (τ.1 0 1).toInt = ρ' a.1 + a.2 := fun a ha => by
      have := (t_lk_ok hF ha).2
      rw [hE.2.1] at this
      exact this
    have hh := sa_h_ok (a := (7, 0)) (x := σ.1 0 1) hE (by show _ = ρ' 7 + 0; rw [eT']; omega)
    have hJ' := JJ_fr (sm := [([], [], [(0, 1, 2), (1, 0, 2000)])]) (by decide +kernel) _ (List.mem_singleton.mpr rfl) σ τ hJ hI.2
    have hf : τ.1 51 2 = σ.1 51 2 := (hI.2 _ _ (by decide)).1
    unfold rX11_feed at hr
    split at hr
    · rename_i a
      cases v with
      | none => exact hv.elim
      | some w =>
        obtain ⟨_, x, rfl, hxv⟩ := hv
        simp only [Bool.or_eq_true, Bool.and_eq_true, decide_eq_true_eq] at hr
        rcases hr with ⟨rfl, r2, r3⟩ | ⟨rfl, r2, r3⟩
        · have r4 := hg _ r2
          simp only [eT'] at r4 hxv
          refine h x τ hI.1 hJ' hf ?_
          unfold RF
          rw [if_pos (by omega)]
          exact ⟨r4, hxv⟩
        · have r4 := hg _ r2
          simp only [eT', hE.2.1] at r4 hxv
          refine h x τ hI.1 hJ' hf ?_
          unfold RF
          rw [if_neg (by omega)]
          exact ⟨by omega, by omega⟩
    · cases hr
theorem mTX11_feed (l : Launch) : am_M l TB NB vwCl SH KF yX11_feed cX11_feed 6 (some .int) 3 0 0 (tpw 0 1 51 2 [.inr (.inl 0), .inl (-2147483648, 2147483647), .inl (-2147483648, 2147483647), .inl (-2147483648, 2147483647), .inl (-2147483648, 2147483647), .inl (-2147483648, 2147483647)] RF) := by
  refine am_M.of xX11_feedt (by decide +kernel) TB_good GF rfl rfl rfl (by decide) ⟨FT_X11_ok, PT_X11_ok _, CT_X11_ok, KT_X11_ok, LT_X11_ok, NT_X11_ok, ?_⟩ ptX11_feed
  exact List.forall_mem_cons.mpr ⟨⟨yX11_putFour, cX11_putFour, 3, none, 2, 1, mX11_putFouri l, by decide, by decide, tb_at 524 (by decide +kernel) (by decide +kernel), tb_at 103 (by decide +kernel) (by decide +kernel), ⟨by decide +kernel, by decide +kernel, by decide +kernel⟩, rfl, tb_at 521 (by decide +kernel) (by decide +kernel), tb_at 523 (by decide +kernel) (by decide +kernel), ⟨(RX11, TX11, 14), rfl, tb_at 0 (by decide +kernel) (by decide +kernel)⟩⟩, fun _ h => absurd h List.not_mem_nil⟩
theorem mTX12_feed (l : Launch) : am_M l TB NB vwCl SH KF yX12_feed cX12_feed 6 (some .int) 3 0 0 (tpw 51 2 0 1 [.inr (.inl 51), .inl (-2147483648, 2147483647), .inl (-2147483648, 2147483647), .inl (-2147483648, 2147483647), .inl (-2147483648, 2147483647), .inl (-2147483648, 2147483647)] RF) := by
  refine am_M.weak (mX12_feedw l) ?_
  rintro as n σ post ⟨rfl, hB, hJ, hT, has, h⟩
  refine ⟨rfl, hB, hJ, has, fun v τ h1 h2 h3 h4 => ?_⟩
  have hf : τ.1 0 1 = σ.1 0 1 := (h3 _ _ (by decide)).1
  unfold fdX12_feed at h4
  split at h4
  · obtain ⟨e, x, rfl, ex⟩ := h4
    refine h x τ h1 h2 hf ?_
    unfold RF
    rw [if_pos (by assumption)]
    exact ⟨e, ex⟩
  · obtain ⟨e, x, rfl, ex⟩ := h4
    refine h x τ h1 h2 hf ?_
    unfold RF
    rw [if_neg (by assumption)]
    exact ⟨e, ex⟩
def yX11_backw : am_Sp := fun as n σ post => ∃ z T : Int, (-2147483648 ≤ z ∧ z < 2147483648) ∧ (0 ≤ T ∧ T ≤ 2000) ∧ n = 92 ∧ as = [.ref 0, .int (Int32.ofInt z)] ∧ σ.1 0 1 = Int32.ofInt T ∧ (0 ≤ z → z ≤ T → post (some (.int (Int32.ofInt (T - z)))) (am_pi σ 0 1 (Int32.ofInt (T - z)))) ∧ (¬ (0 ≤ z ∧ z ≤ T) → post (some (.int (Int32.ofInt (-1)))) σ)
def xX11_back : am_X := (SH, KF, (some .int), FT_X11, PT_X11, CT_X11, KT_X11, LT_X11, NT_X11, [])
theorem xX11_back_SH : am_SH xX11_back = SH := rfl
theorem xX11_back_KF : am_KF xX11_back = KF := rfl
theorem xX11_back_rt : am_rt xX11_back = (some .int) := rfl
theorem xX11_back_FT : am_FT xX11_back = FT_X11 := rfl
theorem xX11_back_PT : am_PT xX11_back = PT_X11 := rfl
theorem xX11_back_CT : am_CT xX11_back = CT_X11 := rfl
theorem xX11_back_KT : am_KT xX11_back = KT_X11 := rfl
theorem xX11_back_LT : am_LT xX11_back = LT_X11 := rfl
theorem xX11_back_NT : am_NT xX11_back = NT_X11 := rfl
theorem xX11_back_t1 (k : Nat → Prop) : am_tg 1 (11) k = k 12 := am_tg_eq (by decide)
theorem xX11_back_t9 (k : Nat → Prop) : am_tg 9 (5) k = k 14 := am_tg_eq (by decide)

theorem pX11_backw : am_B cX11_back xX11_back 2 0 yX11_backw := by
  intro n0 as σ post AA hA h
  obtain ⟨z, T, hz, hT, rfl, rfl, e1, h1, h2⟩ := h
  refine ⟨by simp [am_sl, Value.category], ?_⟩
  show AA 0 [some (.ref 0), some (.int (Int32.ofInt z))] [] 92 σ
  refine hA [] 40 _ _ _ _ _ ?_
  try simp only [dX11_back_0, dX11_back_1, xX11_back_t1, dX11_back_4, dX11_back_5, dX11_back_6, FT_X11_13, dX11_back_9, xX11_back_t9, dX11_back_12, dX11_back_13, dX11_back_14, dX11_back_15, dX11_back_16, dX11_back_19, dX11_back_20, dX11_back_21, PT_X11_13, dX11_back_24, dX11_back_25, dX11_back_28, xX11_back_SH, xX11_back_KF, xX11_back_rt, xX11_back_FT, xX11_back_PT, xX11_back_CT, xX11_back_KT, xX11_back_LT, xX11_back_NT, o_aload_n, o_dup, o_getfield, o_iconst, o_ifCond_lt, o_if_icmp_le, o_iload_n, o_ireturn, o_isub, o_putfield, SH_0, KF_0_1, am_ty, am_vc, am_opt, am_cl, am_find, am_ldi, am_ldl, am_lda, am_v, am_1, am_1l, am_1a, am_2, am_2l, am_ix, am_ri, am_arr, am_pf, am_rc, am_mask, am_lg, am_av, am_nat, fv_0, fv_1, fv_2, fv_3, fw_0, fw_1, List.getElem?_cons_zero, List.getElem?_cons_succ, List.set_cons_zero, List.set_cons_succ, List.length_cons, List.length_nil, List.take_succ_cons, List.take_zero, List.drop_succ_cons, List.drop_zero, List.reverse_cons, List.reverse_nil, List.nil_append, List.cons_append, List.append_nil, List.map_cons, List.map_nil, List.sum_cons, List.sum_nil, Value.category, Option.toList_some, Option.toList_none, Nat.reduceAdd, Nat.reduceLT, Nat.reduceLeDiff, Nat.reduceEqDiff, Nat.reduceSub, Nat.add_zero, Nat.le_refl, Nat.zero_le, Int.reduceNeg, Int.reduceLE, Int.reduceLT, true_and, and_true, and_self, if_true, if_false, ite_true, ite_false, eq_self_iff_true, reduceIte, reduceCtorEq, not_false_eq_true, not_true_eq_false, or_true, true_or, or_false, false_or, Nat.lt_irrefl, Nat.zero_lt_succ, e1, pi_s]
  try simp (disch := omega) only [ii_0, ii_1, ii_t, ii_add, ii_sub, ii_mul, ii_lt, ii_le, ii_eq, ij_in, ii_c, Int.toNat_natCast, Int.toNat_zero, Int.reduceToNat, Int.reduceEq, Int.reduceNe, Int.reduceLE, Int.reduceLT, Int.reduceAdd, Int.reduceSub, Int.reduceMul, Int.reduceNeg, Nat.reduceLT, Nat.reduceAdd, Nat.reduceMul, not_false_eq_true, not_true_eq_false, true_and, and_true, and_self, false_and, and_false, true_implies, false_implies, implies_true, forall_const, if_true, if_false, ite_true, ite_false, reduceIte, eq_self_iff_true, Int.natCast_nonneg, Int.zero_add, Int.add_zero, pi_s, pi_n]
  refine ⟨fun q => h2 (by omega), fun q => ⟨fun q2 => h1 (by omega) (by omega), fun q2 => h2 (by omega)⟩⟩
theorem mX11_backw (l : Launch) : am_M l TB NB vwCl SH KF yX11_back cX11_back 2 (some .int) 2 0 0 yX11_backw :=
  am_M.of xX11_back (by decide +kernel) TB_good GF rfl rfl rfl (by decide) ⟨FT_X11_ok, PT_X11_ok _, CT_X11_ok, KT_X11_ok, LT_X11_ok, NT_X11_ok, fun _ h => absurd h List.not_mem_nil⟩ pX11_backw
theorem mTX11_back (l : Launch) : am_M l TB NB vwCl SH KF yX11_back cX11_back 2 (some .int) 2 0 0 (tpw 0 1 51 2 [.inr (.inl 0), .inl (-2147483648, 2147483647)] RB) := by
  refine am_M.weak (mX11_backw l) ?_
  rintro as n σ post ⟨rfl, hB, hJ, ⟨hT1, hT2⟩, has, h⟩
  match as, has with
  | [v0, v1], ⟨h0, ⟨z, hz0, hz⟩, _⟩ =>
  have h0 : v0 = .ref 0 := h0
  subst h0; subst hz0
  have l1 := ii_lo z
  have l2 := ii_hi z
  refine ⟨z.toInt, (σ.1 0 1).toInt, ⟨l1, l2⟩, ⟨hT1, hT2⟩, rfl, by rw [← ii_of], by rw [← ii_of], fun q1 q2 => ?_, fun q => h _ σ hB hJ rfl ⟨z, rfl, by rw [if_neg q]; exact ⟨rfl, rfl⟩⟩⟩
  have hI : sI BB SH [(0, 1, 2)] σ (am_pi σ 0 1 (Int32.ofInt ((σ.1 0 1).toInt - z.toInt))) := sI_fld (ci := 11) ⟨hB, sb_fr_r _ _⟩ rfl ⟨ii_lo _, by have := ii_hi (Int32.ofInt ((σ.1 0 1).toInt - z.toInt)); show _ ≤ (2147483647 : Int); omega⟩ ⟨_, List.mem_cons_self, rfl, by decide, by decide⟩
  refine h _ _ hI.1 (JJ_fr (sm := [([], [], [(0, 1, 2)])]) (by decide +kernel) _ (List.mem_singleton.mpr rfl) σ _ hJ hI.2) (hI.2 _ _ (by decide)).1 ⟨z, rfl, ?_⟩
  rw [if_pos ⟨q1, q2⟩, pi_s, ii_t (by omega) (by omega)]
  exact ⟨rfl, rfl⟩
theorem mTX12_back (l : Launch) : am_M l TB NB vwCl SH KF yX12_back cX12_back 2 (some .int) 2 0 0 (tpw 51 2 0 1 [.inr (.inl 51), .inl (-2147483648, 2147483647)] RB) := by
  refine am_M.weak (mX12_backw l) ?_
  rintro as n σ post ⟨rfl, hB, hJ, ⟨hT1, hT2⟩, has, h⟩
  match as, has with
  | [v0, v1], ⟨h0, ⟨z, hz0, hz⟩, _⟩ =>
  have h0 : v0 = .ref 51 := h0
  subst h0; subst hz0
  have l1 := ii_lo z
  have l2 := ii_hi z
  refine ⟨z.toInt, (σ.1 51 2).toInt, ⟨l1, l2⟩, ⟨hT1, hT2⟩, rfl, by rw [← ii_of], by rw [← ii_of], fun q1 q2 => ?_, fun q => h _ σ hB hJ rfl ⟨z, rfl, by rw [if_neg q]; exact ⟨rfl, rfl⟩⟩⟩
  have hI : sI BB SH [(51, 2, 3)] σ (am_pi σ 51 2 (Int32.ofInt ((σ.1 51 2).toInt - z.toInt))) := sI_fld (ci := 12) ⟨hB, sb_fr_r _ _⟩ rfl (by rw [ii_t (by omega) (by omega)]; exact ⟨by show (0 : Int) ≤ _; omega, by show _ ≤ (2000 : Int); omega⟩) ⟨_, List.mem_cons_self, rfl, by decide, by decide⟩
  refine h _ _ hI.1 (JJ_fr (sm := [([], [], [(51, 2, 3)])]) (by decide +kernel) _ (List.mem_singleton.mpr rfl) σ _ hJ hI.2) (hI.2 _ _ (by decide)).1 ⟨z, rfl, ?_⟩
  rw [if_pos ⟨q1, q2⟩, pi_s, ii_t (by omega) (by omega)]
  exact ⟨rfl, rfl⟩
def xX11_readt : am_X := (SH, KF, (some .int), FT_X11, PT_X11, CT_X11, KT_X11, LT_X11, NT_X11, [(94, 0, 2, 4, 0, 0, sp_w JJ BB SH 92 wX4_begin), (101, 0, 3, 5, 0, 0, sp_w JJ BB SH 92 wX5_begin), (106, 0, 1, 5, 0, 0, sp_w JJ BB SH 92 wX5_goesOn), (110, 0, 1, 5, 0, 0, sp_w JJ BB SH 92 wX5_readTell), (113, 0, 1, 5, 0, 0, sp_w JJ BB SH 92 wX5_end), (117, 0, 1, 5, 0, 0, sp_w JJ BB SH 92 wX5_placeOfFault), (123, 0, 2, 9, 0, 0, sp_w JJ BB SH 92 wX9_become), (126, 0, 1, 7, 0, 0, sp_w JJ BB SH 92 wX7_clear), (129, 0, 1, 6, 0, 0, sp_w JJ BB SH 92 wX6_clear)])
def CX11_readt (M : sa_M) : ta_C := [(94, 0, 2, 4, t_w M wX4_begin), (101, 0, 3, 5, t_w M wX5_begin), (106, 0, 1, 5, t_w M wX5_goesOn), (110, 0, 1, 5, t_w M wX5_readTell), (113, 0, 1, 5, t_w M wX5_end), (117, 0, 1, 5, t_w M wX5_placeOfFault), (123, 0, 2, 9, t_w M wX9_become), (126, 0, 1, 7, t_w M wX7_clear), (129, 0, 1, 6, t_w M wX6_clear)]
theorem hX11_readt (M : sa_M) (σ0 : am_S) (hJ : ∀ τ, sb_fr M σ0 τ → JJ τ) : t_CS BB (am_SH xX11_readt) 92 M σ0 (am_ML xX11_readt) (CX11_readt M) := t_cs_cons (t_w_ok hJ) (t_cs_cons (t_w_ok hJ) (t_cs_cons (t_w_ok hJ) (t_cs_cons (t_w_ok hJ) (t_cs_cons (t_w_ok hJ) (t_cs_cons (t_w_ok hJ) (t_cs_cons (t_w_ok hJ) (t_cs_cons (t_w_ok hJ) (t_cs_cons (t_w_ok hJ) (t_cs_nil)))))))))
def tpRM : sa_M := [(0, 1, 2), (0, 2, 3), (2, 3, 4), (2, 4, 5), (2, 5, 6), (2, 6, 7), (2, 7, 8), (2, 8, 9), (2, 9, 10), (2, 10, 11), (3, 0, 1), (3, 1, 2), (3, 2, 3), (4, 5, 6), (5, 0, 408), (6, 0, 408), (7, 0, 4), (10, 0, 5), (11, 0, 5), (12, 0, 5), (13, 0, 5), (14, 4, 5), (16, 0, 402), (17, 0, 402), (18, 0, 402), (19, 0, 5), (20, 0, 1), (20, 1, 2), (20, 2, 3), (21, 5, 6), (22, 0, 408), (23, 0, 408), (24, 0, 4), (27, 0, 5), (28, 0, 5), (29, 0, 5), (30, 0, 5), (32, 0, 40), (35, 3, 4), (35, 4, 5), (47, 3, 4)]
def tpR_P (a b : Int) : List (Option sa_P) := [some (.inr (.inl 0)), some (.inl (a, b))]
def tpR_ret (_ : sa_E) (F : ta_F) (v : Option sa_V) : Bool := match v with
  | some (.inl _) => decide (t_lk F 0 (0, 1) = some (0, 0))
  | _ => false
def tpR_c0 (pc : Nat) (_ : sa_E) (_ : ta_F) (L : List (Option sa_V)) (S : List sa_V) : Bool := decide (pc = 17) && (S.isEmpty && decide (L = [some (.inr (.inl 0)), some (.inl (0, 0))]))
def tpR_c1 (pc : Nat) (_ : sa_E) (_ : ta_F) (L : List (Option sa_V)) (S : List sa_V) : Bool := decide (pc = 17) && (S.isEmpty && decide (L = [some (.inr (.inl 0)), some (.inl (2, 1))]))
def tpR_c2 (_ : Nat) (_ : sa_E) (_ : ta_F) (_ : List (Option sa_V)) (_ : List sa_V) : Bool := false
theorem tpR_retk {σ0 : am_S} {post : Option Value → am_S → Prop} (hJ : JJ σ0) (h : ∀ (x : Int32) (τ : am_S), sb_ok BB SH τ → JJ τ → τ.1 51 2 = σ0.1 51 2 → (τ.1 0 1).toInt = 0 → post (some (.int x)) τ) {E' : sa_E} {F' : ta_F} {ρ' : Nat → Int} {v' : Option sa_V} {v : Option Value} {τ : am_S} (hr : tpR_ret E' F' v' = true) (hE : sg_E E' ρ') (hF : tg_F E' ρ' F' τ) (hv : sv_o E' ρ' v' v) (hI : sI BB SH tpRM σ0 τ) : post v τ := by
  unfold tpR_ret at hr
  split at hr
  · cases v with
    | none => exact hv.elim
    | some w =>
      obtain ⟨_, x, rfl, hxv⟩ := hv
      have hr := of_decide_eq_true hr
      have q := (t_lk_ok hF hr).2
      simp only [hE.2.1] at q
      refine h x τ hI.1 (JJ_fr (sm := [([], [], tpRM)]) (by decide +kernel) _ (List.mem_singleton.mpr rfl) σ0 τ hJ hI.2) (hI.2 _ _ (by decide)).1 ?_
      exact q
  · cases hr
set_option maxRecDepth 100000 in
theorem tpR_17 {σ0 : am_S} {post : Option Value → am_S → Prop} {AA : Nat → List (Option Value) → List Value → Nat → am_S → Prop} (hA : ∀ cuts f pc ls stk n τ, am_vc cX11_read xX11_readt 92 post AA cuts f pc ls stk n τ → AA pc ls stk n τ) (hJ : JJ σ0) (h : ∀ (x : Int32) (τ : am_S), sb_ok BB SH τ → JJ τ → τ.1 51 2 = σ0.1 51 2 → (τ.1 0 1).toInt = 0 → post (some (.int x)) τ) : ∀ i : Nat, i ≤ 401 → ∀ σ, sI BB SH tpRM σ0 σ → AA 17 [some (.ref 0), some (.int (Int32.ofInt (i : Int)))] [] 92 σ := by
  have hJt : ∀ τ, sb_fr tpRM σ0 τ → JJ τ := fun τ hf => JJ_fr (sm := [([], [], tpRM)]) (by decide +kernel) _ (List.mem_singleton.mpr rfl) σ0 τ hJ hf
  refine am_up 401 fun i hi ih σ hI => ?_
  have ei : (Int32.ofInt (i : Int)).toInt = (i : Int) := ii_t (by omega) (by omega)
  by_cases q : i ≤ 400
  · refine t_seg (X := xX11_readt) (B := BB) (N := 92) (CS := CX11_readt tpRM) (M := tpRM) (D := LX11_read) (cuts := [(17, 2)]) (Fk := []) (P := tpR_P 0 400) (σ0 := σ0) (σ := σ) [] tpR_ret tpR_c1 400 hA (s_D_ok LX11_read_ok) (hX11_readt tpRM σ0 hJt) (s_P_r (s_P_i (by rw [ei]; exact ⟨by show (0 : Int) ≤ _; omega, by show _ ≤ (400 : Int); omega⟩) s_P_nil)) t_sc_nil hI (by decide +kernel) (fun E' F' ρ' v' v τ hr hx hE hF hv hI' => tpR_retk hJ h hr hE hF hv hI') (fun pc' E' F' L' S' hc ρ' ls' st' τ hx hE hF hL hS hI' => ?_)
    simp only [tpR_c1, Bool.and_eq_true, decide_eq_true_eq, List.isEmpty_iff] at hc
    obtain ⟨rfl, rfl, rfl⟩ := hc
    cases st' with
    | cons _ _ => exact hS.elim
    | nil =>
    have e := sg_L_eq rfl hL
    subst e
    have e2 : ρ' 2 = (i : Int) := (hx.2 2 (by decide)).trans ei
    simp only [List.map_cons, List.map_nil, s_cl, e2]
    exact ih (by omega) τ hI'
  · have e4 : i = 401 := by omega
    subst e4
    exact t_seg (X := xX11_readt) (B := BB) (N := 92) (CS := CX11_readt tpRM) (M := tpRM) (D := LX11_read) (cuts := [(17, 2)]) (Fk := []) (P := tpR_P 401 401) (σ0 := σ0) (σ := σ) [] tpR_ret tpR_c2 400 hA (s_D_ok LX11_read_ok) (hX11_readt tpRM σ0 hJt) (s_P_r (s_P_i ⟨by decide, by decide⟩ s_P_nil)) t_sc_nil hI (by decide +kernel) (fun E' F' ρ' v' v τ hr hx hE hF hv hI' => tpR_retk hJ h hr hE hF hv hI') (fun pc' E' F' L' S' hc ρ' ls' st' τ hx hE hF hL hS hI' => by cases hc)
set_option maxRecDepth 100000 in
theorem ptX11_read : am_B cX11_read xX11_readt 2 0 (tpw 0 1 51 2 [.inr (.inl 0)] RR) := by
  intro n0 as σ post AA hA h
  obtain ⟨rfl, hB, hJ, hT, has, h⟩ := h
  match as, has with
  | [v0], ⟨h0, _⟩ =>
  have h0 : v0 = .ref 0 := h0
  subst h0
  refine ⟨by simp [am_sl, Value.category], ?_⟩
  show AA 0 [some (.ref 0), none] [] 92 σ
  have hJt : ∀ τ, sb_fr tpRM σ τ → JJ τ := fun τ hf => JJ_fr (sm := [([], [], tpRM)]) (by decide +kernel) _ (List.mem_singleton.mpr rfl) σ τ hJ hf
  refine t_seg (X := xX11_readt) (B := BB) (N := 92) (CS := CX11_readt tpRM) (M := tpRM) (D := LX11_read) (cuts := [(17, 2)]) (Fk := []) (P := [some (.inr (.inl 0)), none]) (σ0 := σ) (σ := σ) [] tpR_ret tpR_c0 400 hA (s_D_ok LX11_read_ok) (hX11_readt tpRM σ hJt) (s_P_r (s_P_n s_P_nil)) t_sc_nil ⟨hB, sb_fr_r _ _⟩ (by decide +kernel) (fun E' F' ρ' v' v τ hr hx hE hF hv hI' => tpR_retk hJ h hr hE hF hv hI') (fun pc' E' F' L' S' hc ρ' ls' st' τ hx hE hF hL hS hI' => ?_)
  simp only [tpR_c0, Bool.and_eq_true, decide_eq_true_eq, List.isEmpty_iff] at hc
  obtain ⟨rfl, rfl, rfl⟩ := hc
  cases st' with
  | cons _ _ => exact hS.elim
  | nil =>
  have e := sg_L_eq rfl hL
  subst e
  simp only [List.map_cons, List.map_nil, s_cl, hE.2.1]
  exact tpR_17 hA hJ h 0 (by decide) τ hI'
theorem mTX11_read (l : Launch) : am_M l TB NB vwCl SH KF yX11_read cX11_read 2 (some .int) 27 0 0 (tpw 0 1 51 2 [.inr (.inl 0)] RR) := by
  refine am_M.of xX11_readt (by decide +kernel) TB_good GF rfl rfl rfl (by decide) ⟨FT_X11_ok, PT_X11_ok _, CT_X11_ok, KT_X11_ok, LT_X11_ok, NT_X11_ok, ?_⟩ ptX11_read
  exact List.forall_mem_cons.mpr ⟨⟨yX4_begin, cX4_begin, 3, none, 4, 1, nX4_begin l, by decide, by decide, tb_at 459 (by decide +kernel) (by decide +kernel), tb_at 112 (by decide +kernel) (by decide +kernel), ⟨by decide +kernel, by decide +kernel, by decide +kernel⟩, rfl, tb_at 456 (by decide +kernel) (by decide +kernel), tb_at 457 (by decide +kernel) (by decide +kernel), ⟨(RX4, TX4, 1), rfl, tb_at 458 (by decide +kernel) (by decide +kernel)⟩⟩, List.forall_mem_cons.mpr ⟨⟨yX5_begin, cX5_begin, 3, none, 10, 2, nX5_begin l, by decide, by decide, tb_at 536 (by decide +kernel) (by decide +kernel), tb_at 104 (by decide +kernel) (by decide +kernel), ⟨by decide +kernel, by decide +kernel, by decide +kernel⟩, rfl, tb_at 533 (by decide +kernel) (by decide +kernel), tb_at 534 (by decide +kernel) (by decide +kernel), ⟨(RX5, TX5, 11), rfl, tb_at 535 (by decide +kernel) (by decide +kernel)⟩⟩, List.forall_mem_cons.mpr ⟨⟨yX5_goesOn, cX5_goesOn, 1, (some .boolean), 2, 0, nX5_goesOn l, by decide, by decide, tb_at 595 (by decide +kernel) (by decide +kernel), tb_at 104 (by decide +kernel) (by decide +kernel), ⟨by decide +kernel, by decide +kernel, by decide +kernel⟩, rfl, tb_at 592 (by decide +kernel) (by decide +kernel), tb_at 593 (by decide +kernel) (by decide +kernel), ⟨(RX5, TX5, 11), rfl, tb_at 594 (by decide +kernel) (by decide +kernel)⟩⟩, List.forall_mem_cons.mpr ⟨⟨yX5_readTell, cX5_readTell, 1, none, 26, 0, nX5_readTell l, by decide, by decide, tb_at 599 (by decide +kernel) (by decide +kernel), tb_at 104 (by decide +kernel) (by decide +kernel), ⟨by decide +kernel, by decide +kernel, by decide +kernel⟩, rfl, tb_at 596 (by decide +kernel) (by decide +kernel), tb_at 597 (by decide +kernel) (by decide +kernel), ⟨(RX5, TX5, 11), rfl, tb_at 598 (by decide +kernel) (by decide +kernel)⟩⟩, List.forall_mem_cons.mpr ⟨⟨yX5_end, cX5_end, 1, (some .int), 5, 0, nX5_end l, by decide, by decide, tb_at 653 (by decide +kernel) (by decide +kernel), tb_at 104 (by decide +kernel) (by decide +kernel), ⟨by decide +kernel, by decide +kernel, by decide +kernel⟩, rfl, tb_at 650 (by decide +kernel) (by decide +kernel), tb_at 651 (by decide +kernel) (by decide +kernel), ⟨(RX5, TX5, 11), rfl, tb_at 652 (by decide +kernel) (by decide +kernel)⟩⟩, List.forall_mem_cons.mpr ⟨⟨yX5_placeOfFault, cX5_placeOfFault, 1, (some .int), 2, 0, nX5_placeOfFault l, by decide, by decide, tb_at 666 (by decide +kernel) (by decide +kernel), tb_at 104 (by decide +kernel) (by decide +kernel), ⟨by decide +kernel, by decide +kernel, by decide +kernel⟩, rfl, tb_at 663 (by decide +kernel) (by decide +kernel), tb_at 664 (by decide +kernel) (by decide +kernel), ⟨(RX5, TX5, 11), rfl, tb_at 665 (by decide +kernel) (by decide +kernel)⟩⟩, List.forall_mem_cons.mpr ⟨⟨yX9_become, cX9_become, 2, none, 3, 1, nX9_become l, by decide, by decide, tb_at 670 (by decide +kernel) (by decide +kernel), tb_at 105 (by decide +kernel) (by decide +kernel), ⟨by decide +kernel, by decide +kernel, by decide +kernel⟩, rfl, tb_at 667 (by decide +kernel) (by decide +kernel), tb_at 668 (by decide +kernel) (by decide +kernel), ⟨(RX9, TX9, 8), rfl, tb_at 669 (by decide +kernel) (by decide +kernel)⟩⟩, List.forall_mem_cons.mpr ⟨⟨yX7_clear, cX7_clear, 1, none, 2, 0, nX7_clear l, by decide, by decide, tb_at 682 (by decide +kernel) (by decide +kernel), tb_at 113 (by decide +kernel) (by decide +kernel), ⟨by decide +kernel, by decide +kernel, by decide +kernel⟩, rfl, tb_at 679 (by decide +kernel) (by decide +kernel), tb_at 680 (by decide +kernel) (by decide +kernel), ⟨(RX7, TX7, 5), rfl, tb_at 681 (by decide +kernel) (by decide +kernel)⟩⟩, List.forall_mem_cons.mpr ⟨⟨yX6_clear, cX6_clear, 2, (some .int), 2, 0, nX6_clear l, by decide, by decide, tb_at 686 (by decide +kernel) (by decide +kernel), tb_at 118 (by decide +kernel) (by decide +kernel), ⟨by decide +kernel, by decide +kernel, by decide +kernel⟩, rfl, tb_at 683 (by decide +kernel) (by decide +kernel), tb_at 684 (by decide +kernel) (by decide +kernel), ⟨(RX6, TX6, 4), rfl, tb_at 685 (by decide +kernel) (by decide +kernel)⟩⟩, fun _ h => absurd h List.not_mem_nil⟩⟩⟩⟩⟩⟩⟩⟩⟩
theorem mTX12_read (l : Launch) : am_M l TB NB vwCl SH KF yX12_read cX12_read 2 (some .int) 9 0 0 (tpw 51 2 0 1 [.inr (.inl 51)] RR) := by
  refine am_M.weak (mX12_read l) ?_
  rintro as n σ post ⟨rfl, hB, hJ, hT, has, h⟩
  match as, has with
  | [v0], ⟨h0, _⟩ =>
  have h0 : v0 = .ref 51 := h0
  subst h0
  exact ⟨rfl, hB, hJ, rfl, fun x τ h1 h2 h3 h4 => h x τ h1 h2 (h3 _ _ (by decide)).1 (by show (τ.1 51 2).toInt = 0; rw [h4]; rfl)⟩
