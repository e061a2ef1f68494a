/-! THE REFERENCE'S READER: codes. Printed from wip/am/chk/hand/ex.in. -/
theorem pC_b {σ : am_S} (h : sb_ok BB SH σ) : 0 ≤ pC σ ∧ pC σ ≤ 840 := h.2 51 12 37 rfl
theorem pW_b {σ : am_S} (h : sb_ok BB SH σ) : 0 ≤ pW σ ∧ pW σ ≤ 64 := h.2 51 12 41 rfl
def cd (σ : am_S) (i : Nat) : Int := (σ.1 74 i).toInt
def cI (σ : am_S) (i : Nat) : Int := (σ.1 75 i).toInt
def sw (σ : am_S) (i : Nat) : Int := (σ.1 76 i).toInt
/-- a code more -/
def emS (σ : am_S) (k v : Int) : am_S := am_pi (am_pi (am_pi σ 74 (pC σ).toNat (Int32.ofInt k)) 75 (pC σ).toNat (Int32.ofInt v)) 51 37 (Int32.ofInt (pC σ + 1))
def em_M : sa_M := [(74, 0, 840), (75, 0, 840), (51, 37, 37 + 1)]
theorem emS_ok {σ : am_S} {k v : Int} (h : sb_ok BB SH σ) (hk : 0 ≤ k ∧ k ≤ 5) (hc : pC σ ≤ 839) : sb_ok BB SH (emS σ k v) := by
  have hb := pC_b h
  have h0 : sI BB SH em_M σ σ := ⟨h, sb_fr_r _ _⟩
  have h1 : sI BB SH em_M σ (am_pi σ 74 (pC σ).toNat (Int32.ofInt k)) := sI_arr (q := (0, 840)) h0 rfl (by rw [sb_1 (q := (0, 5)) rfl, ii_t (by omega) (by omega)]; exact hk) ⟨_, List.mem_cons_self, rfl, Nat.zero_le _, by show (pC σ).toNat < 840; omega⟩
  have h2 : sI BB SH em_M σ (am_pi (am_pi σ 74 (pC σ).toNat (Int32.ofInt k)) 75 (pC σ).toNat (Int32.ofInt v)) := sI_arr (q := (0, 840)) h1 rfl (by
    have e : sb_a BB 75 (pC σ).toNat = (-2147483648, 2147483647) := sb_1 rfl
    rw [e]
    exact ⟨ii_lo _, by have := ii_hi (Int32.ofInt v); show _ ≤ (2147483647 : Int); omega⟩) ⟨_, List.mem_cons_of_mem _ List.mem_cons_self, rfl, Nat.zero_le _, by show (pC σ).toNat < 840; omega⟩
  have h3 := sI_fld (k := 37) (x := Int32.ofInt (pC σ + 1)) (ci := 12) h2 rfl (by rw [ii_t (by omega) (by omega)]; exact ⟨by show (0 : Int) ≤ _; omega, by show _ ≤ (840 : Int); omega⟩) ⟨_, List.mem_cons_of_mem _ (List.mem_cons_of_mem _ List.mem_cons_self), rfl, by decide, by decide⟩
  exact h3.1
theorem emS_o {σ : am_S} {k v : Int} {o i : Nat} (h1 : o ≠ 74) (h2 : o ≠ 75) (h3 : ¬ (o = 51 ∧ i = 37)) : (emS σ k v).1 o i = σ.1 o i := by
  unfold emS
  rw [pi_n _ _ _ _ h3, pi_n _ _ _ _ (fun z => h2 z.1), pi_n _ _ _ _ (fun z => h1 z.1)]
theorem emS_C {σ : am_S} {k v : Int} (h : 0 ≤ pC σ ∧ pC σ ≤ 839) : pC (emS σ k v) = pC σ + 1 := by
  unfold emS
  show ((am_pi _ 51 37 _).1 51 37).toInt = _
  rw [pi_s, ii_t (by omega) (by omega)]
theorem emS_c {σ : am_S} {k v : Int} (hk : 0 ≤ k ∧ k ≤ 5) (i : Nat) : cd (emS σ k v) i = if i = (pC σ).toNat then k else cd σ i := by
  unfold cd emS
  rw [pi_n _ _ _ _ (fun z => absurd z.1 (by decide)), pi_n _ _ _ _ (fun z => absurd z.1 (by decide))]
  by_cases q : i = (pC σ).toNat
  · rw [if_pos q, q, pi_s, ii_t (by omega) (by omega)]
  · rw [if_neg q, pi_n _ _ _ _ (fun z => q z.2)]
theorem emS_i {σ : am_S} {k v : Int} (hv : -2147483648 ≤ v ∧ v < 2147483648) (i : Nat) : cI (emS σ k v) i = if i = (pC σ).toNat then v else cI σ i := by
  unfold cI emS
  rw [pi_n _ _ _ _ (fun z => absurd z.1 (by decide))]
  by_cases q : i = (pC σ).toNat
  · rw [if_pos q, q, pi_s, ii_t hv.1 hv.2]
  · rw [if_neg q, pi_n _ _ _ _ (fun z => q z.2), pi_n _ _ _ _ (fun z => absurd z.1 (by decide))]
def sX12_emit : am_Sp := fun as n σ post => n = 92 ∧ sb_ok BB SH σ ∧ pC σ ≤ 839 ∧ ∃ k v : Int, (0 ≤ k ∧ k ≤ 5) ∧ (-2147483648 ≤ v ∧ v < 2147483648) ∧ as = [.ref 51, .int (Int32.ofInt k), .int (Int32.ofInt v)] ∧ post none (emS σ k v)
theorem dX12_emit_0 : decode cX12_emit 0 = .ok (.aload_n 0, 1) := dk_ok (by decide +kernel)
theorem dX12_emit_1 : decode cX12_emit 1 = .ok (.getfield 86, 3) := dk_ok (by decide +kernel)
theorem dX12_emit_4 : decode cX12_emit 4 = .ok (.aload_n 0, 1) := dk_ok (by decide +kernel)
theorem dX12_emit_5 : decode cX12_emit 5 = .ok (.getfield 233, 3) := dk_ok (by decide +kernel)
theorem dX12_emit_8 : decode cX12_emit 8 = .ok (.iload_n 1, 1) := dk_ok (by decide +kernel)
theorem dX12_emit_9 : decode cX12_emit 9 = .ok (.iastore, 1) := dk_ok (by decide +kernel)
theorem dX12_emit_10 : decode cX12_emit 10 = .ok (.aload_n 0, 1) := dk_ok (by decide +kernel)
theorem dX12_emit_11 : decode cX12_emit 11 = .ok (.getfield 89, 3) := dk_ok (by decide +kernel)
theorem dX12_emit_14 : decode cX12_emit 14 = .ok (.aload_n 0, 1) := dk_ok (by decide +kernel)
theorem dX12_emit_15 : decode cX12_emit 15 = .ok (.getfield 233, 3) := dk_ok (by decide +kernel)
theorem dX12_emit_18 : decode cX12_emit 18 = .ok (.iload_n 2, 1) := dk_ok (by decide +kernel)
theorem dX12_emit_19 : decode cX12_emit 19 = .ok (.iastore, 1) := dk_ok (by decide +kernel)
theorem dX12_emit_20 : decode cX12_emit 20 = .ok (.aload_n 0, 1) := dk_ok (by decide +kernel)
theorem dX12_emit_21 : decode cX12_emit 21 = .ok (.dup, 1) := dk_ok (by decide +kernel)
theorem dX12_emit_22 : decode cX12_emit 22 = .ok (.getfield 233, 3) := dk_ok (by decide +kernel)
theorem dX12_emit_25 : decode cX12_emit 25 = .ok (.iconst 1, 1) := dk_ok (by decide +kernel)
theorem dX12_emit_26 : decode cX12_emit 26 = .ok (.iadd, 1) := dk_ok (by decide +kernel)
theorem dX12_emit_27 : decode cX12_emit 27 = .ok (.putfield 233, 3) := dk_ok (by decide +kernel)
theorem dX12_emit_30 : decode cX12_emit 30 = .ok (.return_, 1) := dk_ok (by decide +kernel)
theorem dX12_unit_0 : decode cX12_unit 0 = .ok (.aload_n 0, 1) := dk_ok (by decide +kernel)
theorem dX12_unit_1 : decode cX12_unit 1 = .ok (.iconst 2, 1) := dk_ok (by decide +kernel)
theorem dX12_unit_2 : decode cX12_unit 2 = .ok (.invokevirtual 209, 3) := dk_ok (by decide +kernel)
theorem dX12_unit_5 : decode cX12_unit 5 = .ok (.ifCond .eq 24, 3) := dk_ok (by decide +kernel)
theorem dX12_unit_8 : decode cX12_unit 8 = .ok (.aload_n 0, 1) := dk_ok (by decide +kernel)
theorem dX12_unit_9 : decode cX12_unit 9 = .ok (.iconst 0, 1) := dk_ok (by decide +kernel)
theorem dX12_unit_10 : decode cX12_unit 10 = .ok (.aload_n 0, 1) := dk_ok (by decide +kernel)
theorem dX12_unit_11 : decode cX12_unit 11 = .ok (.getfield 27, 3) := dk_ok (by decide +kernel)
theorem dX12_unit_14 : decode cX12_unit 14 = .ok (.aload_n 0, 1) := dk_ok (by decide +kernel)
theorem dX12_unit_15 : decode cX12_unit 15 = .ok (.getfield 194, 3) := dk_ok (by decide +kernel)
theorem dX12_unit_18 : decode cX12_unit 18 = .ok (.iaload, 1) := dk_ok (by decide +kernel)
theorem dX12_unit_19 : decode cX12_unit 19 = .ok (.invokevirtual 278, 3) := dk_ok (by decide +kernel)
theorem dX12_unit_22 : decode cX12_unit 22 = .ok (.aload_n 0, 1) := dk_ok (by decide +kernel)
theorem dX12_unit_23 : decode cX12_unit 23 = .ok (.invokevirtual 212, 3) := dk_ok (by decide +kernel)
theorem dX12_unit_26 : decode cX12_unit 26 = .ok (.goto 67, 3) := dk_ok (by decide +kernel)
theorem dX12_unit_29 : decode cX12_unit 29 = .ok (.aload_n 0, 1) := dk_ok (by decide +kernel)
theorem dX12_unit_30 : decode cX12_unit 30 = .ok (.getfield 191, 3) := dk_ok (by decide +kernel)
theorem dX12_unit_33 : decode cX12_unit 33 = .ok (.ifCond .ne 55, 3) := dk_ok (by decide +kernel)
theorem dX12_unit_36 : decode cX12_unit 36 = .ok (.aload_n 0, 1) := dk_ok (by decide +kernel)
theorem dX12_unit_37 : decode cX12_unit 37 = .ok (.getfield 20, 3) := dk_ok (by decide +kernel)
theorem dX12_unit_40 : decode cX12_unit 40 = .ok (.aload_n 0, 1) := dk_ok (by decide +kernel)
theorem dX12_unit_41 : decode cX12_unit 41 = .ok (.getfield 194, 3) := dk_ok (by decide +kernel)
theorem dX12_unit_44 : decode cX12_unit 44 = .ok (.iaload, 1) := dk_ok (by decide +kernel)
theorem dX12_unit_45 : decode cX12_unit 45 = .ok (.bipush 30, 2) := dk_ok (by decide +kernel)
theorem dX12_unit_47 : decode cX12_unit 47 = .ok (.if_icmp .lt 41, 3) := dk_ok (by decide +kernel)
theorem dX12_unit_50 : decode cX12_unit 50 = .ok (.aload_n 0, 1) := dk_ok (by decide +kernel)
theorem dX12_unit_51 : decode cX12_unit 51 = .ok (.getfield 20, 3) := dk_ok (by decide +kernel)
theorem dX12_unit_54 : decode cX12_unit 54 = .ok (.aload_n 0, 1) := dk_ok (by decide +kernel)
theorem dX12_unit_55 : decode cX12_unit 55 = .ok (.getfield 194, 3) := dk_ok (by decide +kernel)
theorem dX12_unit_58 : decode cX12_unit 58 = .ok (.iaload, 1) := dk_ok (by decide +kernel)
theorem dX12_unit_59 : decode cX12_unit 59 = .ok (.bipush 38, 2) := dk_ok (by decide +kernel)
theorem dX12_unit_61 : decode cX12_unit 61 = .ok (.if_icmp .gt 27, 3) := dk_ok (by decide +kernel)
theorem dX12_unit_64 : decode cX12_unit 64 = .ok (.aload_n 0, 1) := dk_ok (by decide +kernel)
theorem dX12_unit_65 : decode cX12_unit 65 = .ok (.iconst 1, 1) := dk_ok (by decide +kernel)
theorem dX12_unit_66 : decode cX12_unit 66 = .ok (.aload_n 0, 1) := dk_ok (by decide +kernel)
theorem dX12_unit_67 : decode cX12_unit 67 = .ok (.getfield 20, 3) := dk_ok (by decide +kernel)
theorem dX12_unit_70 : decode cX12_unit 70 = .ok (.aload_n 0, 1) := dk_ok (by decide +kernel)
theorem dX12_unit_71 : decode cX12_unit 71 = .ok (.getfield 194, 3) := dk_ok (by decide +kernel)
theorem dX12_unit_74 : decode cX12_unit 74 = .ok (.iaload, 1) := dk_ok (by decide +kernel)
theorem dX12_unit_75 : decode cX12_unit 75 = .ok (.bipush 30, 2) := dk_ok (by decide +kernel)
theorem dX12_unit_77 : decode cX12_unit 77 = .ok (.isub, 1) := dk_ok (by decide +kernel)
theorem dX12_unit_78 : decode cX12_unit 78 = .ok (.invokevirtual 278, 3) := dk_ok (by decide +kernel)
theorem dX12_unit_81 : decode cX12_unit 81 = .ok (.aload_n 0, 1) := dk_ok (by decide +kernel)
theorem dX12_unit_82 : decode cX12_unit 82 = .ok (.invokevirtual 212, 3) := dk_ok (by decide +kernel)
theorem dX12_unit_85 : decode cX12_unit 85 = .ok (.goto 8, 3) := dk_ok (by decide +kernel)
theorem dX12_unit_88 : decode cX12_unit 88 = .ok (.aload_n 0, 1) := dk_ok (by decide +kernel)
theorem dX12_unit_89 : decode cX12_unit 89 = .ok (.iconst 1, 1) := dk_ok (by decide +kernel)
theorem dX12_unit_90 : decode cX12_unit 90 = .ok (.invokevirtual 206, 3) := dk_ok (by decide +kernel)
theorem dX12_unit_93 : decode cX12_unit 93 = .ok (.return_, 1) := dk_ok (by decide +kernel)
theorem dX12_comesOut_0 : decode cX12_comesOut 0 = .ok (.aload_n 0, 1) := dk_ok (by decide +kernel)
theorem dX12_comesOut_1 : decode cX12_comesOut 1 = .ok (.getfield 275, 3) := dk_ok (by decide +kernel)
theorem dX12_comesOut_4 : decode cX12_comesOut 4 = .ok (.ifCond .le 87, 3) := dk_ok (by decide +kernel)
theorem dX12_comesOut_7 : decode cX12_comesOut 7 = .ok (.aload_n 0, 1) := dk_ok (by decide +kernel)
theorem dX12_comesOut_8 : decode cX12_comesOut 8 = .ok (.getfield 92, 3) := dk_ok (by decide +kernel)
theorem dX12_comesOut_11 : decode cX12_comesOut 11 = .ok (.aload_n 0, 1) := dk_ok (by decide +kernel)
theorem dX12_comesOut_12 : decode cX12_comesOut 12 = .ok (.getfield 275, 3) := dk_ok (by decide +kernel)
theorem dX12_comesOut_15 : decode cX12_comesOut 15 = .ok (.iconst 1, 1) := dk_ok (by decide +kernel)
theorem dX12_comesOut_16 : decode cX12_comesOut 16 = .ok (.isub, 1) := dk_ok (by decide +kernel)
theorem dX12_comesOut_17 : decode cX12_comesOut 17 = .ok (.iaload, 1) := dk_ok (by decide +kernel)
theorem dX12_comesOut_18 : decode cX12_comesOut 18 = .ok (.istore_n 2, 1) := dk_ok (by decide +kernel)
theorem dX12_comesOut_19 : decode cX12_comesOut 19 = .ok (.iload_n 2, 1) := dk_ok (by decide +kernel)
theorem dX12_comesOut_20 : decode cX12_comesOut 20 = .ok (.bipush 6, 2) := dk_ok (by decide +kernel)
theorem dX12_comesOut_22 : decode cX12_comesOut 22 = .ok (.if_icmp .eq 19, 3) := dk_ok (by decide +kernel)
theorem dX12_comesOut_25 : decode cX12_comesOut 25 = .ok (.iload_n 1, 1) := dk_ok (by decide +kernel)
theorem dX12_comesOut_26 : decode cX12_comesOut 26 = .ok (.ifCond .eq 16, 3) := dk_ok (by decide +kernel)
theorem dX12_comesOut_29 : decode cX12_comesOut 29 = .ok (.iload_n 2, 1) := dk_ok (by decide +kernel)
theorem dX12_comesOut_30 : decode cX12_comesOut 30 = .ok (.bipush 8, 2) := dk_ok (by decide +kernel)
theorem dX12_comesOut_32 : decode cX12_comesOut 32 = .ok (.if_icmp .eq 9, 3) := dk_ok (by decide +kernel)
theorem dX12_comesOut_35 : decode cX12_comesOut 35 = .ok (.iload_n 2, 1) := dk_ok (by decide +kernel)
theorem dX12_comesOut_36 : decode cX12_comesOut 36 = .ok (.bipush 9, 2) := dk_ok (by decide +kernel)
theorem dX12_comesOut_38 : decode cX12_comesOut 38 = .ok (.if_icmp .ne 4, 3) := dk_ok (by decide +kernel)
theorem dX12_comesOut_41 : decode cX12_comesOut 41 = .ok (.return_, 1) := dk_ok (by decide +kernel)
theorem dX12_comesOut_42 : decode cX12_comesOut 42 = .ok (.aload_n 0, 1) := dk_ok (by decide +kernel)
theorem dX12_comesOut_43 : decode cX12_comesOut 43 = .ok (.dup, 1) := dk_ok (by decide +kernel)
theorem dX12_comesOut_44 : decode cX12_comesOut 44 = .ok (.getfield 275, 3) := dk_ok (by decide +kernel)
theorem dX12_comesOut_47 : decode cX12_comesOut 47 = .ok (.iconst 1, 1) := dk_ok (by decide +kernel)
theorem dX12_comesOut_48 : decode cX12_comesOut 48 = .ok (.isub, 1) := dk_ok (by decide +kernel)
theorem dX12_comesOut_49 : decode cX12_comesOut 49 = .ok (.putfield 275, 3) := dk_ok (by decide +kernel)
theorem dX12_comesOut_52 : decode cX12_comesOut 52 = .ok (.aload_n 0, 1) := dk_ok (by decide +kernel)
theorem dX12_comesOut_53 : decode cX12_comesOut 53 = .ok (.iload_n 2, 1) := dk_ok (by decide +kernel)
theorem dX12_comesOut_54 : decode cX12_comesOut 54 = .ok (.bipush 8, 2) := dk_ok (by decide +kernel)
theorem dX12_comesOut_56 : decode cX12_comesOut 56 = .ok (.if_icmp .ne 7, 3) := dk_ok (by decide +kernel)
theorem dX12_comesOut_59 : decode cX12_comesOut 59 = .ok (.iconst 2, 1) := dk_ok (by decide +kernel)
theorem dX12_comesOut_60 : decode cX12_comesOut 60 = .ok (.goto 24, 3) := dk_ok (by decide +kernel)
theorem dX12_comesOut_63 : decode cX12_comesOut 63 = .ok (.iload_n 2, 1) := dk_ok (by decide +kernel)
theorem dX12_comesOut_64 : decode cX12_comesOut 64 = .ok (.bipush 9, 2) := dk_ok (by decide +kernel)
theorem dX12_comesOut_66 : decode cX12_comesOut 66 = .ok (.if_icmp .ne 7, 3) := dk_ok (by decide +kernel)
theorem dX12_comesOut_69 : decode cX12_comesOut 69 = .ok (.iconst 3, 1) := dk_ok (by decide +kernel)
theorem dX12_comesOut_70 : decode cX12_comesOut 70 = .ok (.goto 14, 3) := dk_ok (by decide +kernel)
theorem dX12_comesOut_73 : decode cX12_comesOut 73 = .ok (.iload_n 2, 1) := dk_ok (by decide +kernel)
theorem dX12_comesOut_74 : decode cX12_comesOut 74 = .ok (.bipush 10, 2) := dk_ok (by decide +kernel)
theorem dX12_comesOut_76 : decode cX12_comesOut 76 = .ok (.if_icmp .ne 7, 3) := dk_ok (by decide +kernel)
theorem dX12_comesOut_79 : decode cX12_comesOut 79 = .ok (.iconst 4, 1) := dk_ok (by decide +kernel)
theorem dX12_comesOut_80 : decode cX12_comesOut 80 = .ok (.goto 4, 3) := dk_ok (by decide +kernel)
theorem dX12_comesOut_83 : decode cX12_comesOut 83 = .ok (.iconst 5, 1) := dk_ok (by decide +kernel)
theorem dX12_comesOut_84 : decode cX12_comesOut 84 = .ok (.iconst 0, 1) := dk_ok (by decide +kernel)
theorem dX12_comesOut_85 : decode cX12_comesOut 85 = .ok (.invokevirtual 278, 3) := dk_ok (by decide +kernel)
theorem dX12_comesOut_88 : decode cX12_comesOut 88 = .ok (.goto (-88), 3) := dk_ok (by decide +kernel)
theorem dX12_comesOut_91 : decode cX12_comesOut 91 = .ok (.return_, 1) := dk_ok (by decide +kernel)

def xX12_emit : am_X := (SH, KF, none, FT_X12, PT_X12, CT_X12, KT_X12, LT_X12, NT_X12, [])
theorem xX12_emit_SH : am_SH xX12_emit = SH := rfl
theorem xX12_emit_KF : am_KF xX12_emit = KF := rfl
theorem xX12_emit_rt : am_rt xX12_emit = none := rfl
theorem xX12_emit_FT : am_FT xX12_emit = FT_X12 := rfl
theorem xX12_emit_PT : am_PT xX12_emit = PT_X12 := rfl
theorem xX12_emit_CT : am_CT xX12_emit = CT_X12 := rfl
theorem xX12_emit_KT : am_KT xX12_emit = KT_X12 := rfl
theorem xX12_emit_LT : am_LT xX12_emit = LT_X12 := rfl
theorem xX12_emit_NT : am_NT xX12_emit = NT_X12 := rfl

theorem ptX12_emit : am_B cX12_emit xX12_emit 3 0 sX12_emit := by
  intro n0 as σ post AA hA h
  obtain ⟨rfl, hB, hc, k, v, hk, hv, rfl, h⟩ := h
  have c1 := pC_b hB
  unfold emS at h
  obtain ⟨c, ec⟩ : ∃ c, c = pC σ := ⟨_, rfl⟩
  rw [← ec] at hc c1 h
  have e1 : σ.1 51 37 = Int32.ofInt c := by rw [ec]; exact ii_of _
  refine ⟨by simp [am_sl, Value.category], ?_⟩
  show AA 0 [some (.ref 51), some (.int (Int32.ofInt k)), some (.int (Int32.ofInt v))] [] 92 σ
  refine hA [] 40 _ _ _ _ _ ?_
  try simp only [dX12_emit_0, dX12_emit_1, FT_X12_86, dX12_emit_4, dX12_emit_5, FT_X12_233, dX12_emit_8, dX12_emit_9, dX12_emit_10, dX12_emit_11, FT_X12_89, dX12_emit_14, dX12_emit_15, dX12_emit_18, dX12_emit_19, dX12_emit_20, dX12_emit_21, dX12_emit_22, dX12_emit_25, dX12_emit_26, dX12_emit_27, PT_X12_233, dX12_emit_30, xX12_emit_SH, xX12_emit_KF, xX12_emit_rt, xX12_emit_FT, xX12_emit_PT, xX12_emit_CT, xX12_emit_KT, xX12_emit_LT, xX12_emit_NT, o_aload_n, o_dup, o_getfield, o_iadd, o_iastore, o_iconst, o_iload_n, o_putfield, o_return_, SH_51, KF_51_37, KF_51_38, SH_74, KF_51_39, SH_75, am_ty, am_vc, am_opt, am_cl, am_find, am_ldi, am_ldl, am_lda, am_v, am_1, am_1l, am_1a, am_2, am_2l, am_ix, am_ri, am_arr, am_pf, am_rc, am_mask, am_lg, am_av, am_nat, fv_0, fv_1, fv_2, fv_3, fw_0, fw_1, List.getElem?_cons_zero, List.getElem?_cons_succ, List.set_cons_zero, List.set_cons_succ, List.length_cons, List.length_nil, List.take_succ_cons, List.take_zero, List.drop_succ_cons, List.drop_zero, List.reverse_cons, List.reverse_nil, List.nil_append, List.cons_append, List.append_nil, List.map_cons, List.map_nil, List.sum_cons, List.sum_nil, Value.category, Option.toList_some, Option.toList_none, Nat.reduceAdd, Nat.reduceLT, Nat.reduceLeDiff, Nat.reduceEqDiff, Nat.reduceSub, Nat.add_zero, Nat.le_refl, Nat.zero_le, Int.reduceNeg, Int.reduceLE, Int.reduceLT, true_and, and_true, and_self, if_true, if_false, ite_true, ite_false, eq_self_iff_true, reduceIte, reduceCtorEq, not_false_eq_true, not_true_eq_false, or_true, true_or, or_false, false_or, Nat.lt_irrefl, Nat.zero_lt_succ, e1]
  try simp (disch := omega) only [ii_0, ii_1, ii_t, ii_add, ii_sub, ii_mul, ii_lt, ii_le, ii_eq, ij_in, ii_c, Int.toNat_natCast, Int.toNat_zero, Int.reduceToNat, Int.reduceEq, Int.reduceNe, Int.reduceLE, Int.reduceLT, Int.reduceAdd, Int.reduceSub, Int.reduceMul, Int.reduceNeg, Nat.reduceLT, Nat.reduceAdd, Nat.reduceMul, not_false_eq_true, not_true_eq_false, true_and, and_true, and_self, false_and, and_false, true_implies, false_implies, implies_true, forall_const, if_true, if_false, ite_true, ite_false, reduceIte, eq_self_iff_true, Int.natCast_nonneg, Int.zero_add, Int.add_zero, pi_s, pi_n, e1]
  repeat' (first | exact h | refine And.intro ?_ ?_ | omega)
theorem mX12_emit (l : Launch) : am_M l TB NB vwCl SH KF yX12_emit cX12_emit 3 none 2 0 0 sX12_emit :=
  am_M.of xX12_emit (by decide +kernel) TB_good GF rfl rfl rfl (by decide) ⟨FT_X12_ok, PT_X12_ok _, CT_X12_ok, KT_X12_ok, LT_X12_ok, NT_X12_ok, fun _ h => absurd h List.not_mem_nil⟩ ptX12_emit
/-- what unit does -/
def unR (σ τ : am_S) : Prop := (TK σ τ ∧ pT τ = pT σ ∧ pF τ ≠ 0) ∨ ∃ k v : Int, pF σ = 0 ∧ (k = 0 ∨ k = 1 ∧ 0 ≤ v ∧ v ≤ 8) ∧ (-2147483648 ≤ v ∧ v < 2147483648) ∧ TK (emS σ k v) τ ∧ ADV (emS σ k v) τ
def sX12_unit : am_Sp := fun as n σ post => n = 92 ∧ sb_ok BB SH σ ∧ pC σ ≤ 839 ∧ as = [.ref 51] ∧ ∀ τ, unR σ τ → post none τ