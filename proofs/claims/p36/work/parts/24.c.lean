/-! FEED. Printed by wip/am/chk/hand/feed.py. -/
def LX12_put : List (Nat × Instr × Nat) := [(0, .bipush 24, 2), (2, .istore_n 2, 1), (3, .iload_n 2, 1), (4, .ifCond .lt 32, 3), (7, .aload_n 0, 1), (8, .getfield 13, 3), (11, .aload_n 0, 1), (12, .getfield 154, 3), (15, .iload_n 1, 1), (16, .iload_n 2, 1), (17, .ishr, 1), (18, .i2b, 1), (19, .bastore, 1), (20, .aload_n 0, 1), (21, .dup, 1), (22, .getfield 154, 3), (25, .iconst 1, 1), (26, .iadd, 1), (27, .putfield 154, 3), (30, .iinc 2 (-8), 3), (33, .goto (-30), 3), (36, .return_, 1)]
theorem LX12_put_ok : LX12_put.all (s_Dc cX12_put) = true := by decide +kernel
def xX12_puti : am_X := (SH, KF, none, FT_X12, PT_X12, CT_X12, KT_X12, LT_X12, NT_X12, [])
def CX12_puti (M : sa_M) : ta_C := []
theorem hX12_puti (M : sa_M) (σ0 : am_S) : t_CS BB (am_SH xX12_puti) 92 M σ0 (am_ML xX12_puti) (CX12_puti M) := t_cs_nil
theorem mX12_puti (l : Launch) : am_M l TB NB vwCl SH KF yX12_put cX12_put 3 none 2 0 0 (t_wp cX12_put xX12_puti 400 3) := by
  refine am_M.of xX12_puti (by decide +kernel) TB_good GF rfl rfl rfl (by decide) ⟨FT_X12_ok, PT_X12_ok _, CT_X12_ok, KT_X12_ok, LT_X12_ok, NT_X12_ok, ?_⟩ t_wp_B
  exact fun _ h => absurd h List.not_mem_nil
def LX12_feed : List (Nat × Instr × Nat) := [(0, .aload_n 0, 1), (1, .getfield 154, 3), (4, .bipush 20, 2), (6, .iadd, 1), (7, .sipush 2000, 3), (10, .if_icmp .le 5, 3), (13, .iconst (-1), 1), (14, .ireturn, 1), (15, .aload_n 0, 1), (16, .iload_n 1, 1), (17, .invokevirtual 157, 3), (20, .aload_n 0, 1), (21, .iload_n 2, 1), (22, .invokevirtual 157, 3), (25, .aload_n 0, 1), (26, .iload_n 3, 1), (27, .invokevirtual 157, 3), (30, .aload_n 0, 1), (31, .iload 4, 2), (33, .invokevirtual 157, 3), (36, .aload_n 0, 1), (37, .iload 5, 2), (39, .invokevirtual 157, 3), (42, .aload_n 0, 1), (43, .getfield 154, 3), (46, .ireturn, 1)]
theorem LX12_feed_ok : LX12_feed.all (s_Dc cX12_feed) = true := by decide +kernel
def xX12_feedt : am_X := (SH, KF, (some .int), FT_X12, PT_X12, CT_X12, KT_X12, LT_X12, NT_X12, [(157, 0, 2, 12, 0, 0, t_wp cX12_put xX12_puti 400 3)])
def CX12_feedt (M : sa_M) : ta_C := [(157, 0, 2, 12, t_in xX12_puti BB 92 (CX12_puti M) M LX12_put [] 400 3)]
theorem hX12_feedt (M : sa_M) (σ0 : am_S) : t_CS BB (am_SH xX12_feedt) 92 M σ0 (am_ML xX12_feedt) (CX12_feedt M) := t_cs_cons (t_in_ok (hX12_puti M σ0) (s_D_ok LX12_put_ok)) (t_cs_nil)
/-- what feed does to the tape's length, and answers -/
def fdX12_feed (T T' : Int) (v : Option Value) : Prop := if T ≤ 1980 then T' = T + 20 ∧ ∃ x : Int32, v = some (.int x) ∧ x.toInt = T + 20 else T' = T ∧ ∃ x : Int32, v = some (.int x) ∧ x.toInt = -1
def yX12_feedw : am_Sp := fun as n σ post => n = 92 ∧ sb_ok BB SH σ ∧ JJ σ ∧ sp_all [.inr (.inl 51), .inl (-2147483648, 2147483647), .inl (-2147483648, 2147483647), .inl (-2147483648, 2147483647), .inl (-2147483648, 2147483647), .inl (-2147483648, 2147483647)] as ∧ ∀ v τ, sb_ok BB SH τ → JJ τ → sb_fr [(51, 2, 3), (52, 0, 2000)] σ τ → fdX12_feed (σ.1 51 2).toInt (τ.1 51 2).toInt v → post v τ
def rX12_feed (E : sa_E) (F : ta_F) (v : Option sa_V) : Bool := match v with
  | some (.inl a) => (decide (a = (7, 20)) && (decide (t_lk F 51 (0, 2) = some (7, 20)) && decide ((sa_h E (7, 0)).2 ≤ 1980))) || (decide (a = (0, -1)) && (decide (t_lk F 51 (0, 2) = some (7, 0)) && decide (1981 ≤ (sa_h E (7, 0)).1)))
  | _ => false
set_option maxRecDepth 100000 in
theorem pX12_feedw : am_B cX12_feed xX12_feedt 6 0 yX12_feedw := by
  refine t_flat (X := xX12_feedt) (B := BB) (N := 92) (CS := CX12_feedt [(51, 2, 3), (52, 0, 2000)]) (M := [(51, 2, 3), (52, 0, 2000)]) (D := LX12_feed) (Fk := []) (fuel := 400) [.inr (.inl 51), .inl (-2147483648, 2147483647), .inl (-2147483648, 2147483647), .inl (-2147483648, 2147483647), .inl (-2147483648, 2147483647), .inl (-2147483648, 2147483647)] [(51, (0, 2), 0, 2000)] rX12_feed (by decide) (s_D_ok LX12_feed_ok) ?_ (by decide +kernel)
  rintro as n σ post ⟨rfl, hB, hJ, has, h⟩
  have hT := hB.2 51 12 2 rfl
  have hT1 : (0 : Int) ≤ (σ.1 51 2).toInt := hT.1
  have hT2 : (σ.1 51 2).toInt ≤ 2000 := hT.2
  refine ⟨rfl, hB, has, hX12_feedt _ _, fun q hq => ?_, fun E' F' ρ' v' v τ hr hx hE hF hv hI => ?_⟩
  · have e : q = (51, (0, 2), 0, 2000) := by simpa using hq
    subst e
    exact ⟨by decide, by show (0 : Int) ≤ 0 + 2; decide, hT1, hT2⟩
  · have eT : t_sρ (s_en 6 [.inr (.inl 51), .inl (-2147483648, 2147483647), .inl (-2147483648, 2147483647), .inl (-2147483648, 2147483647), .inl (-2147483648, 2147483647), .inl (-2147483648, 2147483647)]) (am_entry 6 as) [(51, (0, 2), 0, 2000)] σ 7 = (σ.1 51 2).toInt := rfl
    have eT' : ρ' 7 = (σ.1 51 2).toInt := by rw [hx.2 7 (by decide), eT]
    have hg : ∀ a : Nat × Int, t_lk F' 51 (0, 2) = some a → (τ.1 51 2).toInt = ρ' a.1 + a.2 := fun a ha => by
      have := (t_lk_ok hF ha).2
      rw [hE.2.1] at this
      exact this
    have hh := sa_h_ok (a := (7, 0)) (x := σ.1 51 2) hE (by show _ = ρ' 7 + 0; rw [eT']; omega)
    refine h v τ hI.1 (JJ_fr (sm := [([], [], [(51, 2, 3), (52, 0, 2000)])]) (by decide +kernel) _ (List.mem_singleton.mpr rfl) σ τ hJ hI.2) hI.2 ?_
    unfold rX12_feed at hr
    split at hr
    · rename_i a
      cases v with
      | none => exact hv.elim
      | some w =>
        obtain ⟨_, x, rfl, hxv⟩ := hv
        simp only [Bool.or_eq_true, Bool.and_eq_true, decide_eq_true_eq] at hr
        rcases hr with ⟨rfl, r2, r3⟩ | ⟨rfl, r2, r3⟩
        · have r4 := hg _ r2
          simp only [eT'] at r4 hxv
          unfold fdX12_feed
          rw [if_pos (by omega)]
          exact ⟨r4, x, rfl, hxv⟩
        · have r4 := hg _ r2
          simp only [eT', hE.2.1] at r4 hxv
          unfold fdX12_feed
          rw [if_neg (by omega)]
          exact ⟨by omega, x, rfl, by omega⟩
    · cases hr
theorem mX12_feedw (l : Launch) : am_M l TB NB vwCl SH KF yX12_feed cX12_feed 6 (some .int) 3 0 0 (yX12_feedw) := by
  refine am_M.of xX12_feedt (by decide +kernel) TB_good GF rfl rfl rfl (by decide) ⟨FT_X12_ok, PT_X12_ok _, CT_X12_ok, KT_X12_ok, LT_X12_ok, NT_X12_ok, ?_⟩ pX12_feedw
  exact List.forall_mem_cons.mpr ⟨⟨yX12_put, cX12_put, 3, none, 2, 1, mX12_puti l, by decide, by decide, tb_at 1512 (by decide +kernel) (by decide +kernel), tb_at 120 (by decide +kernel) (by decide +kernel), ⟨by decide +kernel, by decide +kernel, by decide +kernel⟩, rfl, tb_at 1509 (by decide +kernel) (by decide +kernel), tb_at 1511 (by decide +kernel) (by decide +kernel), ⟨(RX12, TX12, 63), rfl, tb_at 40 (by decide +kernel) (by decide +kernel)⟩⟩, fun _ h => absurd h List.not_mem_nil⟩
