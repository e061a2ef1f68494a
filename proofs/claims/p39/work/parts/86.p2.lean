/-! THE REFERENCE'S READER: codes. Printed from wip/am/chk/hand/ex.in. -/
theorem pC_b {σ : am_S} (h : sb_ok BB SH σ) : 0 ≤ pC σ ∧ pC σ ≤ 840 := h.2 51 12 37 rfl
theorem pW_b {σ : am_S} (h : sb_ok BB SH σ) : 0 ≤ pW σ ∧ pW σ ≤ 64 := h.2 51 12 41 rfl
def cd (σ : am_S) (i : Nat) : Int := (σ.1 74 i).toInt
def cI (σ : am_S) (i : Nat) : Int := (σ.1 75 i).toInt
def sw (σ : am_S) (i : Nat) : Int := (σ.1 76 i).toInt
/-- a code more -/
def emS (σ : am_S) (k v : Int) : am_S := am_pi (am_pi (am_pi σ 74 (pC σ).toNat (Int32.ofInt k)) 75 (pC σ).toNat (Int32.ofInt v)) 51 37 (Int32.ofInt (pC σ + 1))
def em_M : sa_M := [(74, 0, 840), (75, 0, 840), (51, 37, 37 + 1)]
theorem emS_ok {σ : am_S} {k v : Int} (h : sb_ok BB SH σ) (hk : 0 ≤ k ∧ k ≤ 5) (hc : pC σ ≤ 839) : sb_ok BB SH (emS σ k v) := by
  have hb := pC_b h
  have h0 : sI BB SH em_M σ σ := ⟨h, sb_fr_r _ _⟩
  have h1 : sI BB SH em_M σ (am_pi σ 74 (pC σ).toNat (Int32.ofInt k)) := sI_arr (q := (0, 840)) h0 rfl (by rw [sb_1 (q := (0, 5)) rfl, ii_t (by omega) (by omega)]; exact hk) ⟨_, List.mem_cons_self, rfl, Nat.zero_le _, by show (pC σ).toNat < 840; omega⟩
  have h2 : sI BB SH em_M σ (am_pi (am_pi σ 74 (pC σ).toNat (Int32.ofInt k)) 75 (pC σ).toNat (Int32.ofInt v)) := sI_arr (q := (0, 840)) h1 rfl (by
    have e : sb_a BB 75 (pC σ).toNat = (-2147483648, 2147483647) := sb_1 rfl
    rw [e]
    exact ⟨ii_lo _, by have := ii_hi (Int32.ofInt v); show _ ≤ (2147483647 : Int); omega⟩) ⟨_, List.mem_cons_of_mem _ List.mem_cons_self, rfl, Nat.zero_le _, by show (pC σ).toNat < 840; omega⟩
  have h3 := sI_fld (k := 37) (x := Int32.ofInt (pC σ + 1)) (ci := 12) h2 rfl (by rw [ii_t (by omega) (by omega)]; exact ⟨by show (0 : Int) ≤ _; omega, by show _ ≤ (840 : Int); omega⟩) ⟨_, List.mem_cons_of_mem _ (List.mem_cons_of_mem _ List.mem_cons_self), rfl, by decide, by decide⟩
  exact h3.1
theorem emS_o {σ : am_S} {k v : Int} {o i : Nat} (h1 : o ≠ 74) (h2 : o ≠ 75) (h3 : ¬ (o = 51 ∧ i = 37)) : (emS σ k v).1 o i = σ.1 o i := by
  unfold emS
  rw [pi_n _ _ _ _ h3, pi_n _ _ _ _ (fun z => h2 z.1), pi_n _ _ _ _ (fun z => h1 z.1)]
theorem emS_C {σ : am_S} {k v : Int} (h : 0 ≤ pC σ ∧ pC σ ≤ 839) : pC (emS σ k v) = pC σ + 1 := by
  unfold emS
  show ((am_pi _ 51 37 _).1 51 37).toInt = _
  rw [pi_s, ii_t (by omega) (by omega)]
theorem emS_c {σ : am_S} {k v : Int} (hk : 0 ≤ k ∧ k ≤ 5) (i : Nat) : cd (emS σ k v) i = if i = (pC σ).toNat then k else cd σ i := by
  unfold cd emS
  rw [pi_n _ _ _ _ (fun z => absurd z.1 (by decide)), pi_n _ _ _ _ (fun z => absurd z.1 (by decide))]
  by_cases q : i = (pC σ).toNat
  · rw [if_pos q, q, pi_s, ii_t (by omega) (by omega)]
  · rw [if_neg q, pi_n _ _ _ _ (fun z => q z.2)]
theorem emS_i {σ : am_S} {k v : Int} (hv : -2147483648 ≤ v ∧ v < 2147483648) (i : Nat) : cI (emS σ k v) i = if i = (pC σ).toNat then v else cI σ i := by
  unfold cI emS
  rw [pi_n _ _ _ _ (fun z => absurd z.1 (by decide))]
  by_cases q : i = (pC σ).toNat
  · rw [if_pos q, q, pi_s, ii_t hv.1 hv.2]
  · rw [if_neg q, pi_n _ _ _ _ (fun z => q z.2), pi_n _ _ _ _ (fun z => absurd z.1 (by decide))]
def sX12_emit : am_Sp := fun as n σ post => n = 92 ∧ sb_ok BB SH σ ∧ pC σ ≤ 839 ∧ ∃ k v : Int, (0 ≤ k ∧ k ≤ 5) ∧ (-2147483648 ≤ v ∧ v < 2147483648) ∧ as = [.ref 51, .int (Int32.ofInt k), .int (Int32.ofInt v)] ∧ post none (emS σ k v)
theorem dX12_emit_0 : decode cX12_emit 0 = .ok (.aload_n 0, 1) := dk_ok (by decide +kernel)
theorem dX12_emit_1 : decode cX12_emit 1 = .ok (.getfield 86, 3) := dk_ok (by decide +kernel)
theorem dX12_emit_4 : decode cX12_emit 4 = .ok (.aload_n 0, 1) := dk_ok (by decide +kernel)
theorem dX12_emit_5 : decode cX12_emit 5 = .ok (.getfield 233, 3) := dk_ok (by decide +kernel)
theorem dX12_emit_8 : decode cX12_emit 8 = .ok (.iload_n 1, 1) := dk_ok (by decide +kernel)
theorem dX12_emit_9 : decode cX12_emit 9 = .ok (.iastore, 1) := dk_ok (by decide +kernel)
theorem dX12_emit_10 : decode cX12_emit 10 = .ok (.aload_n 0, 1) := dk_ok (by decide +kernel)
theorem dX12_emit_11 : decode cX12_emit 11 = .ok (.getfield 89, 3) := dk_ok (by decide +kernel)
theorem dX12_emit_14 : decode cX12_emit 14 = .ok (.aload_n 0, 1) := dk_ok (by decide +kernel)
theorem dX12_emit_15 : decode cX12_emit 15 = .ok (.getfield 233, 3) := dk_ok (by decide +kernel)
theorem dX12_emit_18 : decode cX12_emit 18 = .ok (.iload_n 2, 1) := dk_ok (by decide +kernel)
theorem dX12_emit_19 : decode cX12_emit 19 = .ok (.iastore, 1) := dk_ok (by decide +kernel)
theorem dX12_emit_20 : decode cX12_emit 20 = .ok (.aload_n 0, 1) := dk_ok (by decide +kernel)
theorem dX12_emit_21 : decode cX12_emit 21 = .ok (.dup, 1) := dk_ok (by decide +kernel)
theorem dX12_emit_22 : decode cX12_emit 22 = .ok (.getfield 233, 3) := dk_ok (by decide +kernel)
theorem dX12_emit_25 : decode cX12_emit 25 = .ok (.iconst 1, 1) := dk_ok (by decide +kernel)
theorem dX12_emit_26 : decode cX12_emit 26 = .ok (.iadd, 1) := dk_ok (by decide +kernel)
theorem dX12_emit_27 : decode cX12_emit 27 = .ok (.putfield 233, 3) := dk_ok (by decide +kernel)
theorem dX12_emit_30 : decode cX12_emit 30 = .ok (.return_, 1) := dk_ok (by decide +kernel)
theorem dX12_unit_0 : decode cX12_unit 0 = .ok (.aload_n 0, 1) := dk_ok (by decide +kernel)
theorem dX12_unit_1 : decode cX12_unit 1 = .ok (.iconst 2, 1) := dk_ok (by decide +kernel)
theorem dX12_unit_2 : decode cX12_unit 2 = .ok (.invokevirtual 209, 3) := dk_ok (by decide +kernel)
theorem dX12_unit_5 : decode cX12_unit 5 = .ok (.ifCond .eq 24, 3) := dk_ok (by decide +kernel)
theorem dX12_unit_8 : decode cX12_unit 8 = .ok (.aload_n 0, 1) := dk_ok (by decide +kernel)
theorem dX12_unit_9 : decode cX12_unit 9 = .ok (.iconst 0, 1) := dk_ok (by decide +kernel)
theorem dX12_unit_10 : decode cX12_unit 10 = .ok (.aload_n 0, 1) := dk_ok (by decide +kernel)
theorem dX12_unit_11 : decode cX12_unit 11 = .ok (.getfield 27, 3) := dk_ok (by decide +kernel)
theorem dX12_unit_14 : decode cX12_unit 14 = .ok (.aload_n 0, 1) := dk_ok (by decide +kernel)
theorem dX12_unit_15 : decode cX12_unit 15 = .ok (.getfield 194, 3) := dk_ok (by decide +kernel)
theorem dX12_unit_18 : decode cX12_unit 18 = .ok (.iaload, 1) := dk_ok (by decide +kernel)
theorem dX12_unit_19 : decode cX12_unit 19 = .ok (.invokevirtual 278, 3) := dk_ok (by decide +kernel)
theorem dX12_unit_22 : decode cX12_unit 22 = .ok (.aload_n 0, 1) := dk_ok (by decide +kernel)
theorem dX12_unit_23 : decode cX12_unit 23 = .ok (.invokevirtual 212, 3) := dk_ok (by decide +kernel)
theorem dX12_unit_26 : decode cX12_unit 26 = .ok (.goto 67, 3) := dk_ok (by decide +kernel)
theorem dX12_unit_29 : decode cX12_unit 29 = .ok (.aload_n 0, 1) := dk_ok (by decide +kernel)
theorem dX12_unit_30 : decode cX12_unit 30 = .ok (.getfield 191, 3) := dk_ok (by decide +kernel)
theorem dX12_unit_33 : decode cX12_unit 33 = .ok (.ifCond .ne 55, 3) := dk_ok (by decide +kernel)
theorem dX12_unit_36 : decode cX12_unit 36 = .ok (.aload_n 0, 1) := dk_ok (by decide +kernel)
theorem dX12_unit_37 : decode cX12_unit 37 = .ok (.getfield 20, 3) := dk_ok (by decide +kernel)
theorem dX12_unit_40 : decode cX12_unit 40 = .ok (.aload_n 0, 1) := dk_ok (by decide +kernel)
theorem dX12_unit_41 : decode cX12_unit 41 = .ok (.getfield 194, 3) := dk_ok (by decide +kernel)
theorem dX12_unit_44 : decode cX12_unit 44 = .ok (.iaload, 1) := dk_ok (by decide +kernel)
theorem dX12_unit_45 : decode cX12_unit 45 = .ok (.bipush 30, 2) := dk_ok (by decide +kernel)
theorem dX12_unit_47 : decode cX12_unit 47 = .ok (.if_icmp .lt 41, 3) := dk_ok (by decide +kernel)
theorem dX12_unit_50 : decode cX12_unit 50 = .ok (.aload_n 0, 1) := dk_ok (by decide +kernel)
theorem dX12_unit_51 : decode cX12_unit 51 = .ok (.getfield 20, 3) := dk_ok (by decide +kernel)
theorem dX12_unit_54 : decode cX12_unit 54 = .ok (.aload_n 0, 1) := dk_ok (by decide +kernel)
theorem dX12_unit_55 : decode cX12_unit 55 = .ok (.getfield 194, 3) := dk_ok (by decide +kernel)
theorem dX12_unit_58 : decode cX12_unit 58 = .ok (.iaload, 1) := dk_ok (by decide +kernel)
theorem dX12_unit_59 : decode cX12_unit 59 = .ok (.bipush 38, 2) := dk_ok (by decide +kernel)
theorem dX12_unit_61 : decode cX12_unit 61 = .ok (.if_icmp .gt 27, 3) := dk_ok (by decide +kernel)
theorem dX12_unit_64 : decode cX12_unit 64 = .ok (.aload_n 0, 1) := dk_ok (by decide +kernel)
theorem dX12_unit_65 : decode cX12_unit 65 = .ok (.iconst 1, 1) := dk_ok (by decide +kernel)
theorem dX12_unit_66 : decode cX12_unit 66 = .ok (.aload_n 0, 1) := dk_ok (by decide +kernel)
theorem dX12_unit_67 : decode cX12_unit 67 = .ok (.getfield 20, 3) := dk_ok (by decide +kernel)
theorem dX12_unit_70 : decode cX12_unit 70 = .ok (.aload_n 0, 1) := dk_ok (by decide +kernel)
theorem dX12_unit_71 : decode cX12_unit 71 = .ok (.getfield 194, 3) := dk_ok (by decide +kernel)
theorem dX12_unit_74 : decode cX12_unit 74 = .ok (.iaload, 1) := dk_ok (by decide +kernel)
theorem dX12_unit_75 : decode cX12_unit 75 = .ok (.bipush 30, 2) := dk_ok (by decide +kernel)
theorem dX12_unit_77 : decode cX12_unit 77 = .ok (.isub, 1) := dk_ok (by decide +kernel)
theorem dX12_unit_78 : decode cX12_unit 78 = .ok (.invokevirtual 278, 3) := dk_ok (by decide +kernel)
theorem dX12_unit_81 : decode cX12_unit 81 = .ok (.aload_n 0, 1) := dk_ok (by decide +kernel)
theorem dX12_unit_82 : decode cX12_unit 82 = .ok (.invokevirtual 212, 3) := dk_ok (by decide +kernel)
theorem dX12_unit_85 : decode cX12_unit 85 = .ok (.goto 8, 3) := dk_ok (by decide +kernel)
theorem dX12_unit_88 : decode cX12_unit 88 = .ok (.aload_n 0, 1) := dk_ok (by decide +kernel)
theorem dX12_unit_89 : decode cX12_unit 89 = .ok (.iconst 1, 1) := dk_ok (by decide +kernel)
theorem dX12_unit_90 : decode cX12_unit 90 = .ok (.invokevirtual 206, 3) := dk_ok (by decide +kernel)
theorem dX12_unit_93 : decode cX12_unit 93 = .ok (.return_, 1) := dk_ok (by decide +kernel)
theorem dX12_comesOut_0 : decode cX12_comesOut 0 = .ok (.aload_n 0, 1) := dk_ok (by decide +kernel)
theorem dX12_comesOut_1 : decode cX12_comesOut 1 = .ok (.getfield 275, 3) := dk_ok (by decide +kernel)
theorem dX12_comesOut_4 : decode cX12_comesOut 4 = .ok (.ifCond .le 87, 3) := dk_ok (by decide +kernel)
theorem dX12_comesOut_7 : decode cX12_comesOut 7 = .ok (.aload_n 0, 1) := dk_ok (by decide +kernel)
theorem dX12_comesOut_8 : decode cX12_comesOut 8 = .ok (.getfield 92, 3) := dk_ok (by decide +kernel)
theorem dX12_comesOut_11 : decode cX12_comesOut 11 = .ok (.aload_n 0, 1) := dk_ok (by decide +kernel)
theorem dX12_comesOut_12 : decode cX12_comesOut 12 = .ok (.getfield 275, 3) := dk_ok (by decide +kernel)
theorem dX12_comesOut_15 : decode cX12_comesOut 15 = .ok (.iconst 1, 1) := dk_ok (by decide +kernel)
theorem dX12_comesOut_16 : decode cX12_comesOut 16 = .ok (.isub, 1) := dk_ok (by decide +kernel)
theorem dX12_comesOut_17 : decode cX12_comesOut 17 = .ok (.iaload, 1) := dk_ok (by decide +kernel)
theorem dX12_comesOut_18 : decode cX12_comesOut 18 = .ok (.istore_n 2, 1) := dk_ok (by decide +kernel)
theorem dX12_comesOut_19 : decode cX12_comesOut 19 = .ok (.iload_n 2, 1) := dk_ok (by decide +kernel)
theorem dX12_comesOut_20 : decode cX12_comesOut 20 = .ok (.bipush 6, 2) := dk_ok (by decide +kernel)
theorem dX12_comesOut_22 : decode cX12_comesOut 22 = .ok (.if_icmp .eq 19, 3) := dk_ok (by decide +kernel)
theorem dX12_comesOut_25 : decode cX12_comesOut 25 = .ok (.iload_n 1, 1) := dk_ok (by decide +kernel)
theorem dX12_comesOut_26 : decode cX12_comesOut 26 = .ok (.ifCond .eq 16, 3) := dk_ok (by decide +kernel)
theorem dX12_comesOut_29 : decode cX12_comesOut 29 = .ok (.iload_n 2, 1) := dk_ok (by decide +kernel)
theorem dX12_comesOut_30 : decode cX12_comesOut 30 = .ok (.bipush 8, 2) := dk_ok (by decide +kernel)
theorem dX12_comesOut_32 : decode cX12_comesOut 32 = .ok (.if_icmp .eq 9, 3) := dk_ok (by decide +kernel)
theorem dX12_comesOut_35 : decode cX12_comesOut 35 = .ok (.iload_n 2, 1) := dk_ok (by decide +kernel)
theorem dX12_comesOut_36 : decode cX12_comesOut 36 = .ok (.bipush 9, 2) := dk_ok (by decide +kernel)
theorem dX12_comesOut_38 : decode cX12_comesOut 38 = .ok (.if_icmp .ne 4, 3) := dk_ok (by decide +kernel)
theorem dX12_comesOut_41 : decode cX12_comesOut 41 = .ok (.return_, 1) := dk_ok (by decide +kernel)
theorem dX12_comesOut_42 : decode cX12_comesOut 42 = .ok (.aload_n 0, 1) := dk_ok (by decide +kernel)
theorem dX12_comesOut_43 : decode cX12_comesOut 43 = .ok (.dup, 1) := dk_ok (by decide +kernel)
theorem dX12_comesOut_44 : decode cX12_comesOut 44 = .ok (.getfield 275, 3) := dk_ok (by decide +kernel)
theorem dX12_comesOut_47 : decode cX12_comesOut 47 = .ok (.iconst 1, 1) := dk_ok (by decide +kernel)
theorem dX12_comesOut_48 : decode cX12_comesOut 48 = .ok (.isub, 1) := dk_ok (by decide +kernel)
theorem dX12_comesOut_49 : decode cX12_comesOut 49 = .ok (.putfield 275, 3) := dk_ok (by decide +kernel)
theorem dX12_comesOut_52 : decode cX12_comesOut 52 = .ok (.aload_n 0, 1) := dk_ok (by decide +kernel)
theorem dX12_comesOut_53 : decode cX12_comesOut 53 = .ok (.iload_n 2, 1) := dk_ok (by decide +kernel)
theorem dX12_comesOut_54 : decode cX12_comesOut 54 = .ok (.bipush 8, 2) := dk_ok (by decide +kernel)
theorem dX12_comesOut_56 : decode cX12_comesOut 56 = .ok (.if_icmp .ne 7, 3) := dk_ok (by decide +kernel)
theorem dX12_comesOut_59 : decode cX12_comesOut 59 = .ok (.iconst 2, 1) := dk_ok (by decide +kernel)
theorem dX12_comesOut_60 : decode cX12_comesOut 60 = .ok (.goto 24, 3) := dk_ok (by decide +kernel)
theorem dX12_comesOut_63 : decode cX12_comesOut 63 = .ok (.iload_n 2, 1) := dk_ok (by decide +kernel)
theorem dX12_comesOut_64 : decode cX12_comesOut 64 = .ok (.bipush 9, 2) := dk_ok (by decide +kernel)
theorem dX12_comesOut_66 : decode cX12_comesOut 66 = .ok (.if_icmp .ne 7, 3) := dk_ok (by decide +kernel)
theorem dX12_comesOut_69 : decode cX12_comesOut 69 = .ok (.iconst 3, 1) := dk_ok (by decide +kernel)
theorem dX12_comesOut_70 : decode cX12_comesOut 70 = .ok (.goto 14, 3) := dk_ok (by decide +kernel)
theorem dX12_comesOut_73 : decode cX12_comesOut 73 = .ok (.iload_n 2, 1) := dk_ok (by decide +kernel)
theorem dX12_comesOut_74 : decode cX12_comesOut 74 = .ok (.bipush 10, 2) := dk_ok (by decide +kernel)
theorem dX12_comesOut_76 : decode cX12_comesOut 76 = .ok (.if_icmp .ne 7, 3) := dk_ok (by decide +kernel)
theorem dX12_comesOut_79 : decode cX12_comesOut 79 = .ok (.iconst 4, 1) := dk_ok (by decide +kernel)
theorem dX12_comesOut_80 : decode cX12_comesOut 80 = .ok (.goto 4, 3) := dk_ok (by decide +kernel)
theorem dX12_comesOut_83 : decode cX12_comesOut 83 = .ok (.iconst 5, 1) := dk_ok (by decide +kernel)
theorem dX12_comesOut_84 : decode cX12_comesOut 84 = .ok (.iconst 0, 1) := dk_ok (by decide +kernel)
theorem dX12_comesOut_85 : decode cX12_comesOut 85 = .ok (.invokevirtual 278, 3) := dk_ok (by decide +kernel)
theorem dX12_comesOut_88 : decode cX12_comesOut 88 = .ok (.goto (-88), 3) := dk_ok (by decide +kernel)
theorem dX12_comesOut_91 : decode cX12_comesOut 91 = .ok (.return_, 1) := dk_ok (by decide +kernel)

def xX12_emit : am_X := (SH, KF, none, FT_X12, PT_X12, CT_X12, KT_X12, LT_X12, NT_X12, [])
theorem xX12_emit_SH : am_SH xX12_emit = SH := rfl
theorem xX12_emit_KF : am_KF xX12_emit = KF := rfl
theorem xX12_emit_rt : am_rt xX12_emit = none := rfl
theorem xX12_emit_FT : am_FT xX12_emit = FT_X12 := rfl
theorem xX12_emit_PT : am_PT xX12_emit = PT_X12 := rfl
theorem xX12_emit_CT : am_CT xX12_emit = CT_X12 := rfl
theorem xX12_emit_KT : am_KT xX12_emit = KT_X12 := rfl
theorem xX12_emit_LT : am_LT xX12_emit = LT_X12 := rfl
theorem xX12_emit_NT : am_NT xX12_emit = NT_X12 := rfl

theorem ptX12_emit : am_B cX12_emit xX12_emit 3 0 sX12_emit := by
  intro n0 as σ post AA hA h
  obtain ⟨rfl, hB, hc, k, v, hk, hv, rfl, h⟩ := h
  have c1 := pC_b hB
  unfold emS at h
  obtain ⟨c, ec⟩ : ∃ c, c = pC σ := ⟨_, rfl⟩
  rw [← ec] at hc c1 h
  have e1 : σ.1 51 37 = Int32.ofInt c := by rw [ec]; exact ii_of _
  refine ⟨by simp [am_sl, Value.category], ?_⟩
  show AA 0 [some (.ref 51), some (.int (Int32.ofInt k)), some (.int (Int32.ofInt v))] [] 92 σ
  refine hA [] 40 _ _ _ _ _ ?_
  try simp only [dX12_emit_0, dX12_emit_1, FT_X12_86, dX12_emit_4, dX12_emit_5, FT_X12_233, dX12_emit_8, dX12_emit_9, dX12_emit_10, dX12_emit_11, FT_X12_89, dX12_emit_14, dX12_emit_15, dX12_emit_18, dX12_emit_19, dX12_emit_20, dX12_emit_21, dX12_emit_22, dX12_emit_25, dX12_emit_26, dX12_emit_27, PT_X12_233, dX12_emit_30, xX12_emit_SH, xX12_emit_KF, xX12_emit_rt, xX12_emit_FT, xX12_emit_PT, xX12_emit_CT, xX12_emit_KT, xX12_emit_LT, xX12_emit_NT, o_aload_n, o_dup, o_getfield, o_iadd, o_iastore, o_iconst, o_iload_n, o_putfield, o_return_, SH_51, KF_51_37, KF_51_38, SH_74, KF_51_39, SH_75, am_ty, am_vc, am_opt, am_cl, am_find, am_ldi, am_ldl, am_lda, am_v, am_1, am_1l, am_1a, am_2, am_2l, am_ix, am_ri, am_arr, am_pf, am_rc, am_mask, am_lg, am_av, am_nat, fv_0, fv_1, fv_2, fv_3, fw_0, fw_1, List.getElem?_cons_zero, List.getElem?_cons_succ, List.set_cons_zero, List.set_cons_succ, List.length_cons, List.length_nil, List.take_succ_cons, List.take_zero, List.drop_succ_cons, List.drop_zero, List.reverse_cons, List.reverse_nil, List.nil_append, List.cons_append, List.append_nil, List.map_cons, List.map_nil, List.sum_cons, List.sum_nil, Value.category, Option.toList_some, Option.toList_none, Nat.reduceAdd, Nat.reduceLT, Nat.reduceLeDiff, Nat.reduceEqDiff, Nat.reduceSub, Nat.add_zero, Nat.le_refl, Nat.zero_le, Int.reduceNeg, Int.reduceLE, Int.reduceLT, true_and, and_true, and_self, if_true, if_false, ite_true, ite_false, eq_self_iff_true, reduceIte, reduceCtorEq, not_false_eq_true, not_true_eq_false, or_true, true_or, or_false, false_or, Nat.lt_irrefl, Nat.zero_lt_succ, e1]
  try simp (disch := omega) only [ii_0, ii_1, ii_t, ii_add, ii_sub, ii_mul, ii_lt, ii_le, ii_eq, ij_in, ii_c, Int.toNat_natCast, Int.toNat_zero, Int.reduceToNat, Int.reduceEq, Int.reduceNe, Int.reduceLE, Int.reduceLT, Int.reduceAdd, Int.reduceSub, Int.reduceMul, Int.reduceNeg, Nat.reduceLT, Nat.reduceAdd, Nat.reduceMul, not_false_eq_true, not_true_eq_false, true_and, and_true, and_self, false_and, and_false, true_implies, false_implies, implies_true, forall_const, if_true, if_false, ite_true, ite_false, reduceIte, eq_self_iff_true, Int.natCast_nonneg, Int.zero_add, Int.add_zero, pi_s, pi_n, e1]
  repeat' (first | exact h | refine And.intro ?_ ?_ | omega)
theorem mX12_emit (l : Launch) : am_M l TB NB vwCl SH KF yX12_emit cX12_emit 3 none 2 0 0 sX12_emit :=
  am_M.of xX12_emit (by decide +kernel) TB_good GF rfl rfl rfl (by decide) ⟨FT_X12_ok, PT_X12_ok _, CT_X12_ok, KT_X12_ok, LT_X12_ok, NT_X12_ok, fun _ h => absurd h List.not_mem_nil⟩ ptX12_emit
/-- what unit does -/
def unR (σ τ : am_S) : Prop := (TK σ τ ∧ pT τ = pT σ ∧ pF τ ≠ 0) ∨ ∃ k v : Int, pF σ = 0 ∧ (k = 0 ∨ k = 1 ∧ 0 ≤ v ∧ v ≤ 8) ∧ (-2147483648 ≤ v ∧ v < 2147483648) ∧ TK (emS σ k v) τ ∧ ADV (emS σ k v) τ
def sX12_unit : am_Sp := fun as n σ post => n = 92 ∧ sb_ok BB SH σ ∧ pC σ ≤ 839 ∧ as = [.ref 51] ∧ ∀ τ, unR σ τ → post none τ
/-! comesOut. Printed from wip/am/chk/hand/co.in. -/
def stop (st w : Int) : Prop := w = 6 ∨ st ≠ 0 ∧ (w = 8 ∨ w = 9)
/-- what comesOut does: j codes more, as many signs less -/
def coR (st : Int) (σ τ : am_S) : Prop := ∃ j : Nat, pW τ = pW σ - (j : Int) ∧ 0 ≤ pW τ ∧ pC τ = pC σ + (j : Int) ∧ (∀ i : Nat, pC σ ≤ (i : Int) → (i : Int) < pC τ → 2 ≤ cd τ i ∧ cd τ i ≤ 5) ∧ (∀ i : Nat, ((i : Int) < pC σ ∨ pC τ ≤ (i : Int)) → cd τ i = cd σ i ∧ cI τ i = cI σ i) ∧ (∀ i : Nat, pW τ ≤ (i : Int) → (i : Int) < pW σ → ¬ stop st (sw σ i)) ∧ (∀ o i, o ≠ 74 → o ≠ 75 → ¬ (o = 51 ∧ (i = 37 ∨ i = 41)) → τ.1 o i = σ.1 o i) ∧ τ.2 = σ.2
theorem coR_r {st : Int} {σ : am_S} (h : sb_ok BB SH σ) : coR st σ σ := ⟨0, by omega, (pW_b h).1, by omega, fun i h1 h2 => by omega, fun i _ => ⟨rfl, rfl⟩, fun i h1 h2 => by omega, fun _ _ _ _ _ => rfl, rfl⟩
theorem coR_sw {st : Int} {σ τ : am_S} (h : coR st σ τ) (i : Nat) : sw τ i = sw σ i := by
  obtain ⟨j, _, _, _, _, _, _, h7, _⟩ := h
  unfold sw
  rw [h7 _ _ (by decide) (by decide) (by rintro ⟨q, _⟩; exact absurd q (by decide))]
def wtS (σ : am_S) : am_S := am_pi σ 51 41 (Int32.ofInt (pW σ - 1))
theorem wtS_ok {σ : am_S} (h : sb_ok BB SH σ) (hw : 0 < pW σ) : sb_ok BB SH (wtS σ) := by
  have hb := pW_b h
  exact (sI_fld (M := [(51, 41, 41 + 1)]) (σ0 := σ) (k := 41) (x := Int32.ofInt (pW σ - 1)) (ci := 12) ⟨h, sb_fr_r _ _⟩ rfl (by rw [ii_t (by omega) (by omega)]; exact ⟨by show (0 : Int) ≤ _; omega, by show _ ≤ (64 : Int); omega⟩) ⟨_, List.mem_cons_self, rfl, by decide, by decide⟩).1
theorem wtS_C (σ : am_S) : pC (wtS σ) = pC σ := by
  unfold pC wtS
  rw [pi_n _ _ _ _ (by decide)]
theorem coR_step {st : Int} {σ τ : am_S} {k : Int} (h : coR st σ τ) (hσ : sb_ok BB SH σ) (hτ : sb_ok BB SH τ) (hw : 0 < pW τ) (hc : pC σ + pW σ ≤ 840) (hk : 2 ≤ k ∧ k ≤ 5) (hs : ¬ stop st (sw τ (pW τ - 1).toNat)) : coR st σ (emS (wtS τ) k 0) ∧ sb_ok BB SH (emS (wtS τ) k 0) ∧ pW (emS (wtS τ) k 0) = pW τ - 1 := by
  have hs' : ¬ stop st (sw σ (pW τ - 1).toNat) := by rw [← coR_sw h]; exact hs
  obtain ⟨j, h1, h2, h3, h4, h5, h6, h7, h8⟩ := h
  have cb := pC_b hτ
  have cb0 := pC_b hσ
  have wb := pW_b hτ
  have hC := wtS_C τ
  have hok := wtS_ok hτ hw
  have hlt : pC (wtS τ) ≤ 839 := by omega
  have eC : pC (emS (wtS τ) k 0) = pC τ + 1 := by rw [emS_C ⟨by omega, hlt⟩, hC]
  have eW : pW (emS (wtS τ) k 0) = pW τ - 1 := by
    show ((emS (wtS τ) k 0).1 51 41).toInt = _
    rw [emS_o (by decide) (by decide) (by decide)]
    unfold wtS
    rw [pi_s, ii_t (by omega) (by omega)]
  have ecd : ∀ i, cd (wtS τ) i = cd τ i := fun i => by unfold cd wtS; rw [pi_n _ _ _ _ (fun z => absurd z.1 (by decide))]
  have ecI : ∀ i, cI (wtS τ) i = cI τ i := fun i => by unfold cI wtS; rw [pi_n _ _ _ _ (fun z => absurd z.1 (by decide))]
  refine ⟨⟨j + 1, by omega, by omega, by omega, fun i g1 g2 => ?_, fun i g1 => ?_, fun i g1 g2 => ?_, fun o i n1 n2 n3 => ?_, ?_⟩, emS_ok hok ⟨by omega, by omega⟩ hlt, eW⟩
  · rw [emS_c ⟨by omega, by omega⟩, ecd, hC]
    by_cases q : i = (pC τ).toNat
    · rw [if_pos q]; exact hk
    · rw [if_neg q]; exact h4 i g1 (by omega)
  · rw [emS_c ⟨by omega, by omega⟩, emS_i ⟨by omega, by omega⟩, ecd, ecI, hC, if_neg (by omega), if_neg (by omega)]
    exact h5 i (by omega)
  · by_cases q : (i : Int) = pW τ - 1
    · have e : i = (pW τ - 1).toNat := by omega
      rw [e]; exact hs'
    · exact h6 i (by omega) g2
  · rw [emS_o n1 n2 (fun z => n3 ⟨z.1, Or.inl z.2⟩)]
    unfold wtS
    rw [pi_n _ _ _ _ (fun z => n3 ⟨z.1, Or.inr z.2⟩)]
    exact h7 o i n1 n2 n3
  · exact h8
def sX12_comesOut : am_Sp := fun as n σ post => n = 92 ∧ sb_ok BB SH σ ∧ pC σ + pW σ ≤ 840 ∧ ∃ s : Int, (0 ≤ s ∧ s ≤ 1) ∧ as = [.ref 51, .int (Int32.ofInt s)] ∧ ∀ τ, sb_ok BB SH τ → coR s σ τ → (pW τ = 0 ∨ 0 < pW τ ∧ stop s (sw τ (pW τ - 1).toNat)) → post none τ
/-! THE REFERENCE'S READER: a term. Printed from wip/am/chk/hand/xp.in. -/
/-- the signs that wait: how many are open, and what stands behind the last of these -/
def scan (σ : am_S) : Nat → Option (Nat × Nat)
  | 0 => some (0, 0)
  | n + 1 => match scan σ n with
    | none => none
    | some (o, l) => if sw σ n = 6 then some (o + 1, 0) else if sw σ n = 8 ∨ sw σ n = 9 then (if l = 0 then some (o, 1) else none) else if l ≤ 1 then some (o, l + 2) else none
theorem scan_of {σ τ : am_S} : ∀ {n : Nat}, (∀ i, i < n → sw τ i = sw σ i) → scan τ n = scan σ n
  | 0, _ => rfl
  | n + 1, h => by simp only [scan, scan_of (fun i hi => h i (Nat.lt_succ_of_lt hi)), h n (Nat.lt_succ_self n)]
theorem scan_s {σ : am_S} {n o l : Nat} (h : scan σ (n + 1) = some (o, l)) : ∃ o' l', scan σ n = some (o', l') ∧ ((sw σ n = 6 ∧ o = o' + 1 ∧ l = 0) ∨ (sw σ n ≠ 6 ∧ (sw σ n = 8 ∨ sw σ n = 9) ∧ l' = 0 ∧ o = o' ∧ l = 1) ∨ (sw σ n ≠ 6 ∧ ¬ (sw σ n = 8 ∨ sw σ n = 9) ∧ l' ≤ 1 ∧ o = o' ∧ l = l' + 2)) := by
  simp only [scan] at h
  split at h
  · cases h
  · rename_i o' l' he
    refine ⟨o', l', he, ?_⟩
    split at h
    · cases h; exact Or.inl ⟨(by assumption), rfl, rfl⟩
    · split at h
      · split at h
        · cases h; exact Or.inr (Or.inl ⟨(by assumption), (by assumption), (by assumption), rfl, rfl⟩)
        · cases h
      · split at h
        · cases h; exact Or.inr (Or.inr ⟨(by assumption), (by assumption), (by assumption), rfl, rfl⟩)
        · cases h
theorem scan_b {σ : am_S} : ∀ {n o l : Nat}, scan σ n = some (o, l) → o ≤ n ∧ n ≤ 3 * o + (l + 1) / 2 ∧ l ≤ 3
  | 0, o, l, h => by simp only [scan, Option.some.injEq, Prod.mk.injEq] at h; omega
  | n + 1, o, l, h => by
    obtain ⟨o', l', he, hh⟩ := scan_s h
    have := scan_b he
    omega
theorem scan_no {σ : am_S} : ∀ {n k o l : Nat}, scan σ n = some (o, l) → k ≤ n → (∀ i, k ≤ i → i < n → sw σ i ≠ 6) → ∃ l', scan σ k = some (o, l')
  | 0, k, o, l, h, hk, _ => ⟨l, by rw [show k = 0 by omega]; exact h⟩
  | n + 1, k, o, l, h, hk, hh => by
    by_cases e : k = n + 1
    · subst e; exact ⟨l, h⟩
    · obtain ⟨o', l', he, hc⟩ := scan_s h
      have h6 := hh n (by omega) (by omega)
      have eo : o = o' := by omega
      subst eo
      exact scan_no he (by omega) (fun i a b => hh i a (by omega))
theorem Jdep_cg {σ τ : am_S} {f : Nat} : ∀ {n : Nat}, (∀ i, f ≤ i → i < f + n → cd τ i = cd σ i) → Jdep τ f n = Jdep σ f n
  | 0, _ => rfl
  | n + 1, h => by
    have e : (τ.1 74 (f + n)).toInt = (σ.1 74 (f + n)).toInt := h (f + n) (by omega) (by omega)
    have e2 : Jdep τ f n = Jdep σ f n := Jdep_cg (fun i a b => h i a (by omega))
    simp only [Jdep]
    rw [e2, e]
theorem Jdep_down {σ : am_S} {f n d : Nat} (h : Jdep σ f n = some d) : ∀ j : Nat, j + 1 ≤ d → (∀ i, f + n ≤ i → i < f + n + j → 2 ≤ cd σ i) → Jdep σ f (n + j) = some (d - j)
  | 0, _, _ => h
  | j + 1, hj, hh => by
    have e : ¬ (σ.1 74 (f + (n + j))).toInt < 2 := by have := hh (f + n + j) (by omega) (by omega); unfold cd at this; rw [← Nat.add_assoc]; omega
    show Jdep σ f (n + j + 1) = _
    simp only [Jdep, Jdep_down h j (by omega) (fun i a b => hh i a (by omega)), if_neg e]
    rw [if_pos (by omega)]
    congr 1
def exK (i : Nat) : Bool := i == 37 || i == 41 || i == 12 || i == 11 || (decide (13 ≤ i) && decide (i < 13 + 4))
/-- what a term may change -/
abbrev exF (σ τ : am_S) : Prop := (∀ o i, o ≠ 74 → o ≠ 75 → o ≠ 76 → ¬ (o = 51 ∧ exK i = true) → τ.1 o i = σ.1 o i) ∧ (∀ o i, o ≠ 51 → τ.2 o i = σ.2 o i) ∧ (∀ i : Nat, ((i : Int) < pC σ ∨ pC τ ≤ (i : Int)) → cd τ i = cd σ i ∧ cI τ i = cI σ i) ∧ (∀ i : Nat, pC σ ≤ (i : Int) → (i : Int) < pC τ → cd τ i = 1 → 0 ≤ cI τ i ∧ cI τ i ≤ 8) ∧ (pC σ ≤ pC τ) ∧ (pT σ ≤ pT τ) ∧ (NZ σ τ)
theorem exF.f1 {σ τ : am_S} (h : exF σ τ) : ∀ o i, o ≠ 74 → o ≠ 75 → o ≠ 76 → ¬ (o = 51 ∧ exK i = true) → τ.1 o i = σ.1 o i := h.1
theorem exF.f2 {σ τ : am_S} (h : exF σ τ) : ∀ o i, o ≠ 51 → τ.2 o i = σ.2 o i := h.2.1
theorem exF.f3 {σ τ : am_S} (h : exF σ τ) : ∀ i : Nat, ((i : Int) < pC σ ∨ pC τ ≤ (i : Int)) → cd τ i = cd σ i ∧ cI τ i = cI σ i := h.2.2.1
theorem exF.f4 {σ τ : am_S} (h : exF σ τ) : ∀ i : Nat, pC σ ≤ (i : Int) → (i : Int) < pC τ → cd τ i = 1 → 0 ≤ cI τ i ∧ cI τ i ≤ 8 := h.2.2.2.1
theorem exF.f5 {σ τ : am_S} (h : exF σ τ) : pC σ ≤ pC τ := h.2.2.2.2.1
theorem exF.f6 {σ τ : am_S} (h : exF σ τ) : pT σ ≤ pT τ := h.2.2.2.2.2.1
theorem exF.f7 {σ τ : am_S} (h : exF σ τ) : NZ σ τ := h.2.2.2.2.2.2
theorem exF_r (σ : am_S) : exF σ σ := ⟨fun _ _ _ _ _ _ => rfl, fun _ _ _ => rfl, fun _ _ => ⟨rfl, rfl⟩, fun i a b => by omega, Int.le_refl _, Int.le_refl _, NZ_r σ⟩
theorem exF_t {σ τ υ : am_S} (h : exF σ τ) (g : exF τ υ) : exF σ υ := ⟨fun o i a b c d => (g.f1 o i a b c d).trans (h.f1 o i a b c d), fun o i a => (g.f2 o i a).trans (h.f2 o i a), fun i q => by
    have h5 := h.f5
    have g5 := g.f5
    have a := g.f3 i (by omega)
    have b := h.f3 i (by omega)
    exact ⟨a.1.trans b.1, a.2.trans b.2⟩, fun i a b c => by
    by_cases q : (i : Int) < pC τ
    · have e := g.f3 i (Or.inl q)
      rw [e.1] at c
      rw [e.2]
      exact h.f4 i a q c
    · exact g.f4 i (by omega) b c, Int.le_trans h.f5 g.f5, Int.le_trans h.f6 g.f6, NZ_t h.f7 g.f7⟩
theorem TK_k {σ τ : am_S} (h : TK σ τ) {i : Nat} (hn : ¬ (i = 11 ∨ 13 ≤ i ∧ i < 13 + 4)) : τ.1 51 i = σ.1 51 i := TK_o h (by omega)
theorem TK_C {σ τ : am_S} (h : TK σ τ) : pC τ = pC σ := by unfold pC; rw [TK_k h (by decide)]
theorem TK_W {σ τ : am_S} (h : TK σ τ) : pW τ = pW σ := by unfold pW; rw [TK_k h (by decide)]
theorem TK_O {σ τ : am_S} (h : TK σ τ) : pO τ = pO σ := by unfold pO; rw [TK_k h (by decide)]
theorem TK_c {σ τ : am_S} (h : TK σ τ) (i : Nat) : cd τ i = cd σ i := by unfold cd; rw [TK_o h (fun z => absurd z.1 (by decide))]
theorem TK_I {σ τ : am_S} (h : TK σ τ) (i : Nat) : cI τ i = cI σ i := by unfold cI; rw [TK_o h (fun z => absurd z.1 (by decide))]
theorem TK_s {σ τ : am_S} (h : TK σ τ) (i : Nat) : sw τ i = sw σ i := by unfold sw; rw [TK_o h (fun z => absurd z.1 (by decide))]
theorem exF_TK {σ τ : am_S} (h : TK σ τ) : exF σ τ := ⟨fun o i _ _ _ d => TK_o h (fun q => d ⟨q.1, by unfold exK; simp only [Bool.or_eq_true, beq_iff_eq, Bool.and_eq_true, decide_eq_true_eq]; omega⟩), fun o i a => TK_2 h a, fun i _ => ⟨TK_c h i, TK_I h i⟩, fun i a b => by rw [TK_C h] at b; omega, by rw [TK_C h]; exact Int.le_refl _, h.2.1, h.2.2⟩
/-- while a term is read: oo stands in open; o are open in the row, l behind the last; d: 1 when a number has come; e: what t has on the codes -/
abbrev exI (σ0 σ : am_S) (oo o l : Nat) (d e : Int) : Prop := (sb_ok BB SH σ) ∧ (pO σ = (oo : Int)) ∧ (scan σ (pW σ).toNat = some (o, l)) ∧ (∃ n : Nat, Jdep σ (pC σ0).toNat (pC σ - pC σ0).toNat = some n ∧ (n : Int) = pW σ - (o : Int) + d) ∧ ((pC σ - pC σ0) + (pW σ - (o : Int)) + e ≤ pT σ - pT σ0) ∧ (exF σ0 σ)
theorem exI.hB {σ0 σ : am_S} {oo o l : Nat} {d e : Int} (h : exI σ0 σ oo o l d e) : sb_ok BB SH σ := h.1
theorem exI.hO {σ0 σ : am_S} {oo o l : Nat} {d e : Int} (h : exI σ0 σ oo o l d e) : pO σ = (oo : Int) := h.2.1
theorem exI.hS {σ0 σ : am_S} {oo o l : Nat} {d e : Int} (h : exI σ0 σ oo o l d e) : scan σ (pW σ).toNat = some (o, l) := h.2.2.1
theorem exI.hD {σ0 σ : am_S} {oo o l : Nat} {d e : Int} (h : exI σ0 σ oo o l d e) : ∃ n : Nat, Jdep σ (pC σ0).toNat (pC σ - pC σ0).toNat = some n ∧ (n : Int) = pW σ - (o : Int) + d := h.2.2.2.1
theorem exI.hT {σ0 σ : am_S} {oo o l : Nat} {d e : Int} (h : exI σ0 σ oo o l d e) : (pC σ - pC σ0) + (pW σ - (o : Int)) + e ≤ pT σ - pT σ0 := h.2.2.2.2.1
theorem exI.hF {σ0 σ : am_S} {oo o l : Nat} {d e : Int} (h : exI σ0 σ oo o l d e) : exF σ0 σ := h.2.2.2.2.2
/-- behind a term -/
abbrev exR (σ τ : am_S) : Prop := (sb_ok BB SH τ) ∧ (exF σ τ) ∧ (pC τ - pC σ ≤ pT τ - pT σ + 1) ∧ (pF τ = 0 → pO τ = 0 ∧ pT σ < pT τ ∧ pC τ - pC σ ≤ pT τ - pT σ ∧ Jdep τ (pC σ).toNat (pC τ - pC σ).toNat = some 1)
theorem exR.r1 {σ τ : am_S} (h : exR σ τ) : sb_ok BB SH τ := h.1
theorem exR.r2 {σ τ : am_S} (h : exR σ τ) : exF σ τ := h.2.1
theorem exR.r3 {σ τ : am_S} (h : exR σ τ) : pC τ - pC σ ≤ pT τ - pT σ + 1 := h.2.2.1
theorem exR.r4 {σ τ : am_S} (h : exR σ τ) : pF τ = 0 → pO τ = 0 ∧ pT σ < pT τ ∧ pC τ - pC σ ≤ pT τ - pT σ ∧ Jdep τ (pC σ).toNat (pC τ - pC σ).toNat = some 1 := h.2.2.2
theorem exI_w {σ0 σ : am_S} {oo o l : Nat} {d e : Int} (h : exI σ0 σ oo o l d e) : (o : Int) ≤ pW σ ∧ pW σ ≤ 3 * (o : Int) + 2 ∧ 0 ≤ pW σ := by
  have hb := scan_b h.hS
  have := pW_b h.hB
  omega
theorem exI_fin {σ0 σ : am_S} {oo o l : Nat} {d e : Int} (h : exI σ0 σ oo o l d e) (he : -1 ≤ e) (hf : pF σ ≠ 0) : exR σ0 σ := by
  have := exI_w h
  have := h.hT
  exact ⟨h.hB, h.hF, by omega, fun q => absurd q hf⟩
theorem exI_m {σ0 σ : am_S} {oo o l : Nat} {d e e' : Int} (h : exI σ0 σ oo o l d e) (he : e' ≤ e) : exI σ0 σ oo o l d e' := ⟨h.hB, h.hO, h.hS, h.hD, by have := h.hT; omega, h.hF⟩
theorem exI_TK {σ0 σ τ : am_S} {oo o l : Nat} {d e : Int} (h : exI σ0 σ oo o l d e) (g : TK σ τ) : exI σ0 τ oo o l d (e + (pT τ - pT σ)) := by
  refine ⟨g.1.1, by rw [TK_O g]; exact h.hO, by rw [TK_W g, scan_of (fun i _ => TK_s g i)]; exact h.hS, ?_, by have := h.hT; rw [TK_C g, TK_W g]; omega, exF_t h.hF (exF_TK g)⟩
  obtain ⟨n, h1, h2⟩ := h.hD
  refine ⟨n, ?_, by rw [TK_W g]; exact h2⟩
  rw [TK_C g, Jdep_cg (fun i _ _ => TK_c g i)]
  exact h1
theorem emS_W {σ : am_S} {k v : Int} : pW (emS σ k v) = pW σ := by unfold pW; rw [emS_o (by decide) (by decide) (by decide)]
theorem emS_O {σ : am_S} {k v : Int} : pO (emS σ k v) = pO σ := by unfold pO; rw [emS_o (by decide) (by decide) (by decide)]
theorem emS_T {σ : am_S} {k v : Int} : pT (emS σ k v) = pT σ := by unfold pT; rw [emS_o (by decide) (by decide) (by decide)]
theorem emS_F {σ : am_S} {k v : Int} : pF (emS σ k v) = pF σ := by unfold pF; rw [emS_o (by decide) (by decide) (by decide)]
theorem emS_s {σ : am_S} {k v : Int} (i : Nat) : sw (emS σ k v) i = sw σ i := by unfold sw; rw [emS_o (by decide) (by decide) (fun z => absurd z.1 (by decide))]
theorem exF_em {σ : am_S} {k v : Int} (hB : sb_ok BB SH σ) (hc : pC σ ≤ 839) (hk : k = 0 ∨ k = 1 ∧ 0 ≤ v ∧ v ≤ 8) (hv : -2147483648 ≤ v ∧ v < 2147483648) : exF σ (emS σ k v) := by
  have c := pC_b hB
  refine ⟨fun o i a b _ d => emS_o a b (fun z => d ⟨z.1, by rw [z.2]; decide⟩), fun _ _ _ => rfl, fun i q => ?_, fun i a b q => ?_, by rw [emS_C ⟨c.1, hc⟩]; omega, by rw [emS_T]; exact Int.le_refl _, NZ_of (emS_o (by decide) (by decide) (by decide)) (emS_o (by decide) (by decide) (by decide))⟩
  · rw [emS_C ⟨c.1, hc⟩] at q
    rw [emS_c ⟨by omega, by omega⟩, emS_i hv, if_neg (by omega), if_neg (by omega)]
    exact ⟨rfl, rfl⟩
  · rw [emS_C ⟨c.1, hc⟩] at b
    rw [emS_c ⟨by omega, by omega⟩, if_pos (by omega)] at q
    rw [emS_i hv, if_pos (by omega)]
    omega
theorem exI_em {σ0 σ : am_S} {oo o l : Nat} {e k v : Int} (h : exI σ0 σ oo o l 0 e) (hc : pC σ ≤ 839) (h0 : 0 ≤ pC σ0) (hk : k = 0 ∨ k = 1 ∧ 0 ≤ v ∧ v ≤ 8) (hv : -2147483648 ≤ v ∧ v < 2147483648) : exI σ0 (emS σ k v) oo o l 1 (e - 1) := by
  have c := pC_b h.hB
  have f5 := h.hF.f5
  refine ⟨emS_ok h.hB ⟨by omega, by omega⟩ hc, by rw [emS_O]; exact h.hO, by rw [emS_W, scan_of (fun i _ => emS_s i)]; exact h.hS, ?_, by have := h.hT; rw [emS_C ⟨c.1, hc⟩, emS_W, emS_T]; omega, exF_t h.hF (exF_em h.hB hc hk hv)⟩
  obtain ⟨n, h1, h2⟩ := h.hD
  refine ⟨n + 1, ?_, by rw [emS_W]; omega⟩
  rw [emS_C ⟨c.1, hc⟩, show (pC σ + 1 - pC σ0).toNat = (pC σ - pC σ0).toNat + 1 by omega]
  have e0 : Jdep (emS σ k v) (pC σ0).toNat (pC σ - pC σ0).toNat = some n := by
    rw [Jdep_cg (σ := σ) (fun i a b => by rw [emS_c ⟨by omega, by omega⟩, if_neg (by omega)])]
    exact h1
  have e1 : ((emS σ k v).1 74 ((pC σ0).toNat + (pC σ - pC σ0).toNat)).toInt < 2 := by
    have := emS_c (σ := σ) (v := v) (k := k) ⟨by omega, by omega⟩ ((pC σ0).toNat + (pC σ - pC σ0).toNat)
    rw [if_pos (by omega)] at this
    unfold cd at this
    rw [this]; omega
  simp only [Jdep, e0, if_pos e1]
theorem exF_co {st : Int} {σ τ : am_S} (h : coR st σ τ) : exF σ τ := by
  obtain ⟨j, h1, h2, h3, h4, h5, h6, h7, h8⟩ := h
  refine ⟨fun o i a b _ d => h7 o i a b (fun z => d ⟨z.1, by rcases z.2 with q | q <;> (rw [q]; decide)⟩), fun o i _ => by rw [h8], h5, fun i a b c => by have := h4 i a b; omega, by omega, ?_, ?_⟩
  · unfold pT; rw [h7 _ _ (by decide) (by decide) (by decide)]; exact Int.le_refl _
  · exact NZ_of (h7 _ _ (by decide) (by decide) (by decide)) (h7 _ _ (by decide) (by decide) (by decide))
theorem exI_co {st : Int} {σ0 σ τ : am_S} {oo o l : Nat} {e : Int} (h : exI σ0 σ oo o l 1 e) (h0 : 0 ≤ pC σ0) (g : coR st σ τ) (hB : sb_ok BB SH τ) (hs : pW τ = 0 ∨ 0 < pW τ ∧ stop st (sw τ (pW τ - 1).toNat)) : ∃ l', exI σ0 τ oo o l' 1 e ∧ (st = 0 → l' = 0 ∧ (0 < pW τ → sw τ (pW τ - 1).toNat = 6)) ∧ l' ≤ 1 ∧ pF τ = pF σ ∧ pT τ = pT σ ∧ (∀ i, τ.1 54 i = σ.1 54 i) := by
  have hF := exF_co g
  have hsw := coR_sw g
  have f5 := h.hF.f5
  obtain ⟨j, h1, h2, h3, h4, h5, h6, h7, h8⟩ := g
  have hno : ∀ i, (pW τ).toNat ≤ i → i < (pW σ).toNat → sw σ i ≠ 6 := fun i a b q => h6 i (by omega) (by omega) (Or.inl q)
  obtain ⟨l', hl⟩ := scan_no h.hS (k := (pW τ).toNat) (by omega) hno
  have hsc : scan τ (pW τ).toNat = some (o, l') := by rw [scan_of (fun i _ => hsw i)]; exact hl
  have eO : pO τ = pO σ := by unfold pO; rw [h7 _ _ (by decide) (by decide) (by decide)]
  have eT : pT τ = pT σ := by unfold pT; rw [h7 _ _ (by decide) (by decide) (by decide)]
  have eF : pF τ = pF σ := by unfold pF; rw [h7 _ _ (by decide) (by decide) (by decide)]
  have hb := scan_b hsc
  have hb0 := scan_b h.hS
  have wb := pW_b h.hB
  have hl2 : (st = 0 → l' = 0 ∧ (0 < pW τ → sw τ (pW τ - 1).toNat = 6)) ∧ l' ≤ 1 := by
    rcases hs with hs | ⟨hs1, hs2⟩
    · rw [hs] at hsc
      have := hsc
      simp only [scan, Int.toNat_zero, Option.some.injEq, Prod.mk.injEq] at this
      exact ⟨fun _ => ⟨by omega, fun q => by omega⟩, by omega⟩
    · have e1 : (pW τ).toNat = (pW τ - 1).toNat + 1 := by omega
      rw [e1] at hsc
      obtain ⟨o', l2, _, hc⟩ := scan_s hsc
      rcases hs2 with q | ⟨q1, q2⟩
      · exact ⟨fun _ => ⟨by omega, fun _ => q⟩, by omega⟩
      · exact ⟨fun q => absurd q q1, by omega⟩
  refine ⟨l', ⟨hB, by rw [eO]; exact h.hO, hsc, ?_, by have := h.hT; rw [eT]; omega, exF_t h.hF hF⟩, hl2.1, hl2.2, eF, eT, fun i => h7 _ _ (by decide) (by decide) (fun z => absurd z.1 (by decide))⟩
  obtain ⟨n, d1, d2⟩ := h.hD
  refine ⟨n - j, ?_, by omega⟩
  rw [show (pC τ - pC σ0).toNat = (pC σ - pC σ0).toNat + j by omega]
  have cb := pC_b h.hB
  refine Jdep_down ?_ j (by omega) (fun i a b => (h4 i (by omega) (by omega)).1)
  rw [Jdep_cg (fun i a b => (h5 i (by omega)).1)]
  exact d1
theorem exF_fld {σ : am_S} {k : Nat} {x : Int32} (h : k = 12 ∨ k = 41) : exF σ (am_pi σ 51 k x) ∧ pC (am_pi σ 51 k x) = pC σ ∧ pT (am_pi σ 51 k x) = pT σ ∧ pF (am_pi σ 51 k x) = pF σ := by
  have eC : pC (am_pi σ 51 k x) = pC σ := by unfold pC; rw [pi_n _ _ _ _ (by omega)]
  have eT : pT (am_pi σ 51 k x) = pT σ := by unfold pT; rw [pi_n _ _ _ _ (by omega)]
  have eF : pF (am_pi σ 51 k x) = pF σ := by unfold pF; rw [pi_n _ _ _ _ (by omega)]
  refine ⟨⟨fun o i _ _ _ d => pi_n _ _ _ _ (fun z => d ⟨z.1, by rw [z.2]; rcases h with q | q <;> (rw [q]; decide)⟩), fun _ _ _ => rfl, fun i _ => ⟨?_, ?_⟩, fun i a b => by omega, by omega, by omega, NZ_of (pi_n _ _ _ _ (by omega)) (pi_n _ _ _ _ (by omega))⟩, eC, eT, eF⟩
  · unfold cd; rw [pi_n _ _ _ _ (fun z => absurd z.1 (by decide))]
  · unfold cI; rw [pi_n _ _ _ _ (fun z => absurd z.1 (by decide))]
theorem fld_ok {σ : am_S} {k : Nat} {x : Int} (h : sb_ok BB SH σ) (hk : k = 12 ∧ (0 ≤ x ∧ x ≤ 7) ∨ k = 41 ∧ (0 ≤ x ∧ x ≤ 64)) : sb_ok BB SH (am_pi σ 51 k (Int32.ofInt x)) := by
  rcases hk with ⟨rfl, hx⟩ | ⟨rfl, hx⟩
  · exact (sI_fld (M := [(51, 12, 12 + 1)]) (σ0 := σ) (k := 12) (x := Int32.ofInt x) (ci := 12) ⟨h, sb_fr_r _ _⟩ rfl (by rw [ii_t (by omega) (by omega)]; exact hx) ⟨_, List.mem_cons_self, rfl, by decide, by decide⟩).1
  · exact (sI_fld (M := [(51, 41, 41 + 1)]) (σ0 := σ) (k := 41) (x := Int32.ofInt x) (ci := 12) ⟨h, sb_fr_r _ _⟩ rfl (by rw [ii_t (by omega) (by omega)]; exact hx) ⟨_, List.mem_cons_self, rfl, by decide, by decide⟩).1
theorem exI_o {σ0 σ : am_S} {oo o l : Nat} {d e : Int} (h : exI σ0 σ oo o l d e) (x : Nat) (hx : x ≤ 7) : exI σ0 (am_pi σ 51 12 (Int32.ofInt (x : Int))) x o l d e := by
  obtain ⟨f, eC, eT, eF⟩ := exF_fld (σ := σ) (x := Int32.ofInt (x : Int)) (k := 12) (Or.inl rfl)
  have eW : pW (am_pi σ 51 12 (Int32.ofInt (x : Int))) = pW σ := by unfold pW; rw [pi_n _ _ _ _ (by decide)]
  refine ⟨fld_ok h.hB (Or.inl ⟨rfl, by omega, by omega⟩), by unfold pO; rw [pi_s, ii_t (by omega) (by omega)], ?_, ?_, by rw [eC, eT, eW]; exact h.hT, exF_t h.hF f⟩
  · rw [eW, scan_of (σ := σ) (fun i _ => by unfold sw; rw [pi_n _ _ _ _ (fun z => absurd z.1 (by decide))])]
    exact h.hS
  · obtain ⟨n, h1, h2⟩ := h.hD
    refine ⟨n, ?_, by rw [eW]; exact h2⟩
    rw [eC, Jdep_cg (σ := σ) (fun i _ _ => by unfold cd; rw [pi_n _ _ _ _ (fun z => absurd z.1 (by decide))])]
    exact h1
/-- a sign more that waits -/
def psS (σ : am_S) (k : Int) : am_S := am_pi (am_pi σ 76 (pW σ).toNat (Int32.ofInt k)) 51 41 (Int32.ofInt (pW σ + 1))
theorem exI_ps {σ0 σ : am_S} {oo o l o' l' : Nat} {d d' e e' k : Int} (h : exI σ0 σ oo o l d e) (ho : o ≤ 7) (hk : -2147483648 ≤ k ∧ k < 2147483648) (hc : (k = 6 ∧ o' = o + 1 ∧ l' = 0 ∧ d' = d ∧ e' = e) ∨ (k ≠ 6 ∧ (k = 8 ∨ k = 9) ∧ l = 0 ∧ o' = o ∧ l' = 1 ∧ d' = d - 1 ∧ e' = e - 1) ∨ (k ≠ 6 ∧ ¬ (k = 8 ∨ k = 9) ∧ l ≤ 1 ∧ o' = o ∧ l' = l + 2 ∧ d' = d - 1 ∧ e' = e - 1)) : exI σ0 (psS σ k) oo o' l' d' e' := by
  have w := exI_w h
  have wb := pW_b h.hB
  obtain ⟨σ1, e1⟩ : ∃ σ1, σ1 = am_pi σ 76 (pW σ).toNat (Int32.ofInt k) := ⟨_, rfl⟩
  have hB1 : sb_ok BB SH σ1 := by
    rw [e1]
    exact (sI_arr (M := [(76, 0, 64)]) (σ0 := σ) (q := (0, 64)) ⟨h.hB, sb_fr_r _ _⟩ rfl (by
      have e : sb_a BB 76 (pW σ).toNat = (-2147483648, 2147483647) := sb_1 rfl
      rw [e]
      exact ⟨ii_lo _, by have := ii_hi (Int32.ofInt k); show _ ≤ (2147483647 : Int); omega⟩) ⟨_, List.mem_cons_self, rfl, Nat.zero_le _, by show (pW σ).toNat < 64; omega⟩).1
  have f1 : exF σ σ1 := by
    rw [e1]
    exact ⟨fun o i _ _ c _ => pi_n _ _ _ _ (fun z => c z.1), fun _ _ _ => rfl, fun i _ => ⟨by unfold cd; rw [pi_n _ _ _ _ (fun z => absurd z.1 (by decide))], by unfold cI; rw [pi_n _ _ _ _ (fun z => absurd z.1 (by decide))]⟩, fun i a b => by
      have : pC (am_pi σ 76 (pW σ).toNat (Int32.ofInt k)) = pC σ := by unfold pC; rw [pi_n _ _ _ _ (fun z => absurd z.1 (by decide))]
      omega, by unfold pC; rw [pi_n _ _ _ _ (fun z => absurd z.1 (by decide))]; exact Int.le_refl _, by unfold pT; rw [pi_n _ _ _ _ (fun z => absurd z.1 (by decide))]; exact Int.le_refl _, NZ_of (pi_n _ _ _ _ (fun z => absurd z.1 (by decide))) (pi_n _ _ _ _ (fun z => absurd z.1 (by decide)))⟩
  have ef : ∀ i, σ1.1 51 i = σ.1 51 i := fun i => by rw [e1]; exact pi_n _ _ _ _ (fun z => absurd z.1 (by decide))
  have es : psS σ k = am_pi σ1 51 41 (Int32.ofInt (pW σ + 1)) := by unfold psS; rw [e1]
  obtain ⟨f, eC, eT, eF⟩ := exF_fld (σ := σ1) (x := Int32.ofInt (pW σ + 1)) (k := 41) (Or.inr rfl)
  rw [← es] at f eC eT eF
  have eC1 : pC σ1 = pC σ := by unfold pC; rw [ef]
  have eT1 : pT σ1 = pT σ := by unfold pT; rw [ef]
  have eW : pW (psS σ k) = pW σ + 1 := by rw [es]; unfold pW; rw [pi_s, ii_t (by unfold pW at *; omega) (by unfold pW at *; omega)]
  have esw : ∀ i, sw (psS σ k) i = if i = (pW σ).toNat then k else sw σ i := fun i => by
    rw [es]; unfold sw
    rw [pi_n _ _ _ _ (fun z => absurd z.1 (by decide)), e1]
    by_cases q : i = (pW σ).toNat
    · rw [if_pos q, q, pi_s, ii_t hk.1 hk.2]
    · rw [if_neg q, pi_n _ _ _ _ (fun z => q z.2)]
  have ecd : ∀ i, cd (psS σ k) i = cd σ i := fun i => by
    rw [es]; unfold cd
    rw [pi_n _ _ _ _ (fun z => absurd z.1 (by decide)), e1, pi_n _ _ _ _ (fun z => absurd z.1 (by decide))]
  have hb := scan_b h.hS
  refine ⟨by rw [es]; exact fld_ok hB1 (Or.inr ⟨rfl, by omega, by omega⟩), ?_, ?_, ?_, by have := h.hT; rw [eC, eT, eW, eC1, eT1]; omega, exF_t h.hF (exF_t f1 f)⟩
  · rw [es]; unfold pO; rw [pi_n _ _ _ _ (by decide), ef]; exact h.hO
  · rw [eW, show (pW σ + 1).toNat = (pW σ).toNat + 1 by omega]
    have e0 : scan (psS σ k) (pW σ).toNat = some (o, l) := by
      rw [scan_of (σ := σ) (fun i hi => by rw [esw, if_neg (by omega)])]
      exact h.hS
    simp only [scan, e0, esw, if_pos]
    rcases hc with ⟨a, b, c, _⟩ | ⟨a, b, c, q, r, _⟩ | ⟨a, b, c, q, r, _⟩
    · rw [if_pos a, b, c]
    · rw [if_neg a, if_pos b, if_pos c, q, r]
    · rw [if_neg a, if_neg b, if_pos c, q, r]
  · obtain ⟨n, h1, h2⟩ := h.hD
    refine ⟨n, ?_, by rw [eW]; omega⟩
    rw [eC, eC1, Jdep_cg (fun i _ _ => ecd i)]
    exact h1
theorem exI_po {σ0 σ : am_S} {oo o l : Nat} {d e : Int} (h : exI σ0 σ oo o l d e) (hw : 0 < pW σ) (h6 : sw σ (pW σ - 1).toNat = 6) : ∃ l' o', o = o' + 1 ∧ exI σ0 (wtS σ) oo o' l' d e := by
  have hs := h.hS
  rw [show (pW σ).toNat = (pW σ - 1).toNat + 1 by omega] at hs
  obtain ⟨o', l', he, hc⟩ := scan_s hs
  have eo : o = o' + 1 := by omega
  obtain ⟨f, eC, eT, eF⟩ := exF_fld (σ := σ) (x := Int32.ofInt (pW σ - 1)) (k := 41) (Or.inr rfl)
  have wb := pW_b h.hB
  have eW : pW (wtS σ) = pW σ - 1 := by
    show ((am_pi σ 51 41 (Int32.ofInt (pW σ - 1))).1 51 41).toInt = _
    rw [pi_s, ii_t (by omega) (by omega)]
  have eC : pC (wtS σ) = pC σ := eC
  have eT : pT (wtS σ) = pT σ := eT
  have f : exF σ (wtS σ) := f
  refine ⟨l', o', eo, ⟨wtS_ok h.hB hw, ?_, ?_, ?_, by have := h.hT; rw [eC, eT, eW]; omega, exF_t h.hF f⟩⟩
  · unfold pO wtS; rw [pi_n _ _ _ _ (by decide)]; exact h.hO
  · rw [eW, scan_of (σ := σ) (fun i _ => by unfold sw wtS; rw [pi_n _ _ _ _ (fun z => absurd z.1 (by decide))])]
    exact he
  · obtain ⟨n, h1, h2⟩ := h.hD
    refine ⟨n, ?_, by rw [eW]; omega⟩
    rw [eC, Jdep_cg (σ := σ) (fun i _ _ => by unfold cd wtS; rw [pi_n _ _ _ _ (fun z => absurd z.1 (by decide))])]
    exact h1
theorem exI_end {σ0 σ : am_S} {oo o l : Nat} {e : Int} (h : exI σ0 σ oo o l 1 e) (h0 : 0 ≤ pC σ0) (he : 0 ≤ e) (h6 : 0 < pW σ → sw σ (pW σ - 1).toNat = 6) (hz : pF σ = 0 → oo = o ∧ o = 0) : exR σ0 σ := by
  have w := exI_w h
  have := h.hT
  refine ⟨h.hB, h.hF, by omega, fun q => ?_⟩
  obtain ⟨z1, z2⟩ := hz q
  have hs := h.hS
  have w0 : pW σ = 0 := by
    apply Classical.byContradiction
    intro hn
    have h6 := h6 (by omega)
    rw [show (pW σ).toNat = (pW σ - 1).toNat + 1 by omega] at hs
    obtain ⟨o', l', _, hc⟩ := scan_s hs
    omega
  obtain ⟨n, d1, d2⟩ := h.hD
  have hn := Jdep_le d1
  have ho := h.hO
  have en : n = 1 := by omega
  exact ⟨by omega, by omega, by omega, by rw [← en]; exact d1⟩
/-! THE REFERENCE'S READER: a term's walk. Printed from wip/am/chk/hand/xw.in. -/
theorem dX12_expression_0 : decode cX12_expression 0 = .ok (.aload_n 0, 1) := dk_ok (by decide +kernel)
theorem dX12_expression_1 : decode cX12_expression 1 = .ok (.iconst 0, 1) := dk_ok (by decide +kernel)
theorem dX12_expression_2 : decode cX12_expression 2 = .ok (.putfield 275, 3) := dk_ok (by decide +kernel)
theorem dX12_expression_5 : decode cX12_expression 5 = .ok (.aload_n 0, 1) := dk_ok (by decide +kernel)
theorem dX12_expression_6 : decode cX12_expression 6 = .ok (.getfield 218, 3) := dk_ok (by decide +kernel)
theorem dX12_expression_9 : decode cX12_expression 9 = .ok (.istore_n 1, 1) := dk_ok (by decide +kernel)
theorem dX12_expression_10 : decode cX12_expression 10 = .ok (.iconst 1, 1) := dk_ok (by decide +kernel)
theorem dX12_expression_11 : decode cX12_expression 11 = .ok (.istore_n 2, 1) := dk_ok (by decide +kernel)
theorem dX12_expression_12 : decode cX12_expression 12 = .ok (.iload_n 2, 1) := dk_ok (by decide +kernel)
theorem dX12_expression_13 : decode cX12_expression 13 = .ok (.ifCond .eq 259, 3) := dk_ok (by decide +kernel)
theorem dX12_expression_16 : decode cX12_expression 16 = .ok (.aload_n 0, 1) := dk_ok (by decide +kernel)
theorem dX12_expression_17 : decode cX12_expression 17 = .ok (.getfield 191, 3) := dk_ok (by decide +kernel)
theorem dX12_expression_20 : decode cX12_expression 20 = .ok (.ifCond .ne 252, 3) := dk_ok (by decide +kernel)
theorem dX12_expression_23 : decode cX12_expression 23 = .ok (.aload_n 0, 1) := dk_ok (by decide +kernel)
theorem dX12_expression_24 : decode cX12_expression 24 = .ok (.bipush 6, 2) := dk_ok (by decide +kernel)
theorem dX12_expression_26 : decode cX12_expression 26 = .ok (.invokevirtual 209, 3) := dk_ok (by decide +kernel)
theorem dX12_expression_29 : decode cX12_expression 29 = .ok (.ifCond .eq 55, 3) := dk_ok (by decide +kernel)
theorem dX12_expression_32 : decode cX12_expression 32 = .ok (.aload_n 0, 1) := dk_ok (by decide +kernel)
theorem dX12_expression_33 : decode cX12_expression 33 = .ok (.getfield 218, 3) := dk_ok (by decide +kernel)
theorem dX12_expression_36 : decode cX12_expression 36 = .ok (.bipush 6, 2) := dk_ok (by decide +kernel)
theorem dX12_expression_38 : decode cX12_expression 38 = .ok (.if_icmp .ne 8, 3) := dk_ok (by decide +kernel)
theorem dX12_expression_41 : decode cX12_expression 41 = .ok (.aload_n 0, 1) := dk_ok (by decide +kernel)
theorem dX12_expression_42 : decode cX12_expression 42 = .ok (.iconst 2, 1) := dk_ok (by decide +kernel)
theorem dX12_expression_43 : decode cX12_expression 43 = .ok (.invokevirtual 206, 3) := dk_ok (by decide +kernel)
theorem dX12_expression_46 : decode cX12_expression 46 = .ok (.aload_n 0, 1) := dk_ok (by decide +kernel)
theorem dX12_expression_47 : decode cX12_expression 47 = .ok (.dup, 1) := dk_ok (by decide +kernel)
theorem dX12_expression_48 : decode cX12_expression 48 = .ok (.getfield 218, 3) := dk_ok (by decide +kernel)
theorem dX12_expression_51 : decode cX12_expression 51 = .ok (.iconst 1, 1) := dk_ok (by decide +kernel)
theorem dX12_expression_52 : decode cX12_expression 52 = .ok (.iadd, 1) := dk_ok (by decide +kernel)
theorem dX12_expression_53 : decode cX12_expression 53 = .ok (.putfield 218, 3) := dk_ok (by decide +kernel)
theorem dX12_expression_56 : decode cX12_expression 56 = .ok (.aload_n 0, 1) := dk_ok (by decide +kernel)
theorem dX12_expression_57 : decode cX12_expression 57 = .ok (.invokevirtual 212, 3) := dk_ok (by decide +kernel)
theorem dX12_expression_60 : decode cX12_expression 60 = .ok (.aload_n 0, 1) := dk_ok (by decide +kernel)
theorem dX12_expression_61 : decode cX12_expression 61 = .ok (.getfield 92, 3) := dk_ok (by decide +kernel)
theorem dX12_expression_64 : decode cX12_expression 64 = .ok (.aload_n 0, 1) := dk_ok (by decide +kernel)
theorem dX12_expression_65 : decode cX12_expression 65 = .ok (.getfield 275, 3) := dk_ok (by decide +kernel)
theorem dX12_expression_68 : decode cX12_expression 68 = .ok (.bipush 6, 2) := dk_ok (by decide +kernel)
theorem dX12_expression_70 : decode cX12_expression 70 = .ok (.iastore, 1) := dk_ok (by decide +kernel)
theorem dX12_expression_71 : decode cX12_expression 71 = .ok (.aload_n 0, 1) := dk_ok (by decide +kernel)
theorem dX12_expression_72 : decode cX12_expression 72 = .ok (.dup, 1) := dk_ok (by decide +kernel)
theorem dX12_expression_73 : decode cX12_expression 73 = .ok (.getfield 275, 3) := dk_ok (by decide +kernel)
theorem dX12_expression_76 : decode cX12_expression 76 = .ok (.iconst 1, 1) := dk_ok (by decide +kernel)
theorem dX12_expression_77 : decode cX12_expression 77 = .ok (.iadd, 1) := dk_ok (by decide +kernel)
theorem dX12_expression_78 : decode cX12_expression 78 = .ok (.putfield 275, 3) := dk_ok (by decide +kernel)
theorem dX12_expression_81 : decode cX12_expression 81 = .ok (.goto (-58), 3) := dk_ok (by decide +kernel)
theorem dX12_expression_84 : decode cX12_expression 84 = .ok (.aload_n 0, 1) := dk_ok (by decide +kernel)
theorem dX12_expression_85 : decode cX12_expression 85 = .ok (.invokevirtual 281, 3) := dk_ok (by decide +kernel)
theorem dX12_expression_88 : decode cX12_expression 88 = .ok (.aload_n 0, 1) := dk_ok (by decide +kernel)
theorem dX12_expression_89 : decode cX12_expression 89 = .ok (.getfield 191, 3) := dk_ok (by decide +kernel)
theorem dX12_expression_92 : decode cX12_expression 92 = .ok (.ifCond .le 4, 3) := dk_ok (by decide +kernel)
theorem dX12_expression_95 : decode cX12_expression 95 = .ok (.return_, 1) := dk_ok (by decide +kernel)
theorem dX12_expression_96 : decode cX12_expression 96 = .ok (.aload_n 0, 1) := dk_ok (by decide +kernel)
theorem dX12_expression_97 : decode cX12_expression 97 = .ok (.bipush 7, 2) := dk_ok (by decide +kernel)
theorem dX12_expression_99 : decode cX12_expression 99 = .ok (.invokevirtual 209, 3) := dk_ok (by decide +kernel)
theorem dX12_expression_102 : decode cX12_expression 102 = .ok (.ifCond .eq 43, 3) := dk_ok (by decide +kernel)
theorem dX12_expression_105 : decode cX12_expression 105 = .ok (.aload_n 0, 1) := dk_ok (by decide +kernel)
theorem dX12_expression_106 : decode cX12_expression 106 = .ok (.getfield 218, 3) := dk_ok (by decide +kernel)
theorem dX12_expression_109 : decode cX12_expression 109 = .ok (.iload_n 1, 1) := dk_ok (by decide +kernel)
theorem dX12_expression_110 : decode cX12_expression 110 = .ok (.if_icmp .le 35, 3) := dk_ok (by decide +kernel)
theorem dX12_expression_113 : decode cX12_expression 113 = .ok (.aload_n 0, 1) := dk_ok (by decide +kernel)
theorem dX12_expression_114 : decode cX12_expression 114 = .ok (.iconst 0, 1) := dk_ok (by decide +kernel)
theorem dX12_expression_115 : decode cX12_expression 115 = .ok (.invokevirtual 284, 3) := dk_ok (by decide +kernel)
theorem dX12_expression_118 : decode cX12_expression 118 = .ok (.aload_n 0, 1) := dk_ok (by decide +kernel)
theorem dX12_expression_119 : decode cX12_expression 119 = .ok (.dup, 1) := dk_ok (by decide +kernel)
theorem dX12_expression_120 : decode cX12_expression 120 = .ok (.getfield 275, 3) := dk_ok (by decide +kernel)
theorem dX12_expression_123 : decode cX12_expression 123 = .ok (.iconst 1, 1) := dk_ok (by decide +kernel)
theorem dX12_expression_124 : decode cX12_expression 124 = .ok (.isub, 1) := dk_ok (by decide +kernel)
theorem dX12_expression_125 : decode cX12_expression 125 = .ok (.putfield 275, 3) := dk_ok (by decide +kernel)
theorem dX12_expression_128 : decode cX12_expression 128 = .ok (.aload_n 0, 1) := dk_ok (by decide +kernel)
theorem dX12_expression_129 : decode cX12_expression 129 = .ok (.dup, 1) := dk_ok (by decide +kernel)
theorem dX12_expression_130 : decode cX12_expression 130 = .ok (.getfield 218, 3) := dk_ok (by decide +kernel)
theorem dX12_expression_133 : decode cX12_expression 133 = .ok (.iconst 1, 1) := dk_ok (by decide +kernel)
theorem dX12_expression_134 : decode cX12_expression 134 = .ok (.isub, 1) := dk_ok (by decide +kernel)
theorem dX12_expression_135 : decode cX12_expression 135 = .ok (.putfield 218, 3) := dk_ok (by decide +kernel)
theorem dX12_expression_138 : decode cX12_expression 138 = .ok (.aload_n 0, 1) := dk_ok (by decide +kernel)
theorem dX12_expression_139 : decode cX12_expression 139 = .ok (.invokevirtual 212, 3) := dk_ok (by decide +kernel)
theorem dX12_expression_142 : decode cX12_expression 142 = .ok (.goto (-46), 3) := dk_ok (by decide +kernel)
theorem dX12_expression_145 : decode cX12_expression 145 = .ok (.aload_n 0, 1) := dk_ok (by decide +kernel)
theorem dX12_expression_146 : decode cX12_expression 146 = .ok (.bipush 8, 2) := dk_ok (by decide +kernel)
theorem dX12_expression_148 : decode cX12_expression 148 = .ok (.invokevirtual 209, 3) := dk_ok (by decide +kernel)
theorem dX12_expression_151 : decode cX12_expression 151 = .ok (.ifCond .ne 30, 3) := dk_ok (by decide +kernel)
theorem dX12_expression_154 : decode cX12_expression 154 = .ok (.aload_n 0, 1) := dk_ok (by decide +kernel)
theorem dX12_expression_155 : decode cX12_expression 155 = .ok (.bipush 9, 2) := dk_ok (by decide +kernel)
theorem dX12_expression_157 : decode cX12_expression 157 = .ok (.invokevirtual 209, 3) := dk_ok (by decide +kernel)
theorem dX12_expression_160 : decode cX12_expression 160 = .ok (.ifCond .ne 21, 3) := dk_ok (by decide +kernel)
theorem dX12_expression_163 : decode cX12_expression 163 = .ok (.aload_n 0, 1) := dk_ok (by decide +kernel)
theorem dX12_expression_164 : decode cX12_expression 164 = .ok (.bipush 10, 2) := dk_ok (by decide +kernel)
theorem dX12_expression_166 : decode cX12_expression 166 = .ok (.invokevirtual 209, 3) := dk_ok (by decide +kernel)
theorem dX12_expression_169 : decode cX12_expression 169 = .ok (.ifCond .ne 12, 3) := dk_ok (by decide +kernel)
theorem dX12_expression_172 : decode cX12_expression 172 = .ok (.aload_n 0, 1) := dk_ok (by decide +kernel)
theorem dX12_expression_173 : decode cX12_expression 173 = .ok (.bipush 15, 2) := dk_ok (by decide +kernel)
theorem dX12_expression_175 : decode cX12_expression 175 = .ok (.invokevirtual 209, 3) := dk_ok (by decide +kernel)
theorem dX12_expression_178 : decode cX12_expression 178 = .ok (.ifCond .eq 7, 3) := dk_ok (by decide +kernel)
theorem dX12_expression_181 : decode cX12_expression 181 = .ok (.iconst 1, 1) := dk_ok (by decide +kernel)
theorem dX12_expression_182 : decode cX12_expression 182 = .ok (.goto 4, 3) := dk_ok (by decide +kernel)
theorem dX12_expression_185 : decode cX12_expression 185 = .ok (.iconst 0, 1) := dk_ok (by decide +kernel)
theorem dX12_expression_186 : decode cX12_expression 186 = .ok (.istore_n 2, 1) := dk_ok (by decide +kernel)
theorem dX12_expression_187 : decode cX12_expression 187 = .ok (.iload_n 2, 1) := dk_ok (by decide +kernel)
theorem dX12_expression_188 : decode cX12_expression 188 = .ok (.ifCond .ne 22, 3) := dk_ok (by decide +kernel)
theorem dX12_expression_191 : decode cX12_expression 191 = .ok (.aload_n 0, 1) := dk_ok (by decide +kernel)
theorem dX12_expression_192 : decode cX12_expression 192 = .ok (.getfield 218, 3) := dk_ok (by decide +kernel)
theorem dX12_expression_195 : decode cX12_expression 195 = .ok (.iload_n 1, 1) := dk_ok (by decide +kernel)
theorem dX12_expression_196 : decode cX12_expression 196 = .ok (.if_icmp .le 8, 3) := dk_ok (by decide +kernel)
theorem dX12_expression_199 : decode cX12_expression 199 = .ok (.aload_n 0, 1) := dk_ok (by decide +kernel)
theorem dX12_expression_200 : decode cX12_expression 200 = .ok (.iconst 1, 1) := dk_ok (by decide +kernel)
theorem dX12_expression_201 : decode cX12_expression 201 = .ok (.invokevirtual 206, 3) := dk_ok (by decide +kernel)
theorem dX12_expression_204 : decode cX12_expression 204 = .ok (.aload_n 0, 1) := dk_ok (by decide +kernel)
theorem dX12_expression_205 : decode cX12_expression 205 = .ok (.iconst 0, 1) := dk_ok (by decide +kernel)
theorem dX12_expression_206 : decode cX12_expression 206 = .ok (.invokevirtual 284, 3) := dk_ok (by decide +kernel)
theorem dX12_expression_209 : decode cX12_expression 209 = .ok (.return_, 1) := dk_ok (by decide +kernel)
theorem dX12_expression_210 : decode cX12_expression 210 = .ok (.aload_n 0, 1) := dk_ok (by decide +kernel)
theorem dX12_expression_211 : decode cX12_expression 211 = .ok (.aload_n 0, 1) := dk_ok (by decide +kernel)
theorem dX12_expression_212 : decode cX12_expression 212 = .ok (.bipush 10, 2) := dk_ok (by decide +kernel)
theorem dX12_expression_214 : decode cX12_expression 214 = .ok (.invokevirtual 209, 3) := dk_ok (by decide +kernel)
theorem dX12_expression_217 : decode cX12_expression 217 = .ok (.ifCond .ne 12, 3) := dk_ok (by decide +kernel)
theorem dX12_expression_220 : decode cX12_expression 220 = .ok (.aload_n 0, 1) := dk_ok (by decide +kernel)
theorem dX12_expression_221 : decode cX12_expression 221 = .ok (.bipush 15, 2) := dk_ok (by decide +kernel)
theorem dX12_expression_223 : decode cX12_expression 223 = .ok (.invokevirtual 209, 3) := dk_ok (by decide +kernel)
theorem dX12_expression_226 : decode cX12_expression 226 = .ok (.ifCond .eq 7, 3) := dk_ok (by decide +kernel)
theorem dX12_expression_229 : decode cX12_expression 229 = .ok (.iconst 1, 1) := dk_ok (by decide +kernel)
theorem dX12_expression_230 : decode cX12_expression 230 = .ok (.goto 4, 3) := dk_ok (by decide +kernel)
theorem dX12_expression_233 : decode cX12_expression 233 = .ok (.iconst 0, 1) := dk_ok (by decide +kernel)
theorem dX12_expression_234 : decode cX12_expression 234 = .ok (.invokevirtual 284, 3) := dk_ok (by decide +kernel)
theorem dX12_expression_237 : decode cX12_expression 237 = .ok (.aload_n 0, 1) := dk_ok (by decide +kernel)
theorem dX12_expression_238 : decode cX12_expression 238 = .ok (.getfield 92, 3) := dk_ok (by decide +kernel)
theorem dX12_expression_241 : decode cX12_expression 241 = .ok (.aload_n 0, 1) := dk_ok (by decide +kernel)
theorem dX12_expression_242 : decode cX12_expression 242 = .ok (.getfield 275, 3) := dk_ok (by decide +kernel)
theorem dX12_expression_245 : decode cX12_expression 245 = .ok (.aload_n 0, 1) := dk_ok (by decide +kernel)
theorem dX12_expression_246 : decode cX12_expression 246 = .ok (.getfield 20, 3) := dk_ok (by decide +kernel)
theorem dX12_expression_249 : decode cX12_expression 249 = .ok (.aload_n 0, 1) := dk_ok (by decide +kernel)
theorem dX12_expression_250 : decode cX12_expression 250 = .ok (.getfield 194, 3) := dk_ok (by decide +kernel)
theorem dX12_expression_253 : decode cX12_expression 253 = .ok (.iaload, 1) := dk_ok (by decide +kernel)
theorem dX12_expression_254 : decode cX12_expression 254 = .ok (.iastore, 1) := dk_ok (by decide +kernel)
theorem dX12_expression_255 : decode cX12_expression 255 = .ok (.aload_n 0, 1) := dk_ok (by decide +kernel)
theorem dX12_expression_256 : decode cX12_expression 256 = .ok (.dup, 1) := dk_ok (by decide +kernel)
theorem dX12_expression_257 : decode cX12_expression 257 = .ok (.getfield 275, 3) := dk_ok (by decide +kernel)
theorem dX12_expression_260 : decode cX12_expression 260 = .ok (.iconst 1, 1) := dk_ok (by decide +kernel)
theorem dX12_expression_261 : decode cX12_expression 261 = .ok (.iadd, 1) := dk_ok (by decide +kernel)
theorem dX12_expression_262 : decode cX12_expression 262 = .ok (.putfield 275, 3) := dk_ok (by decide +kernel)
theorem dX12_expression_265 : decode cX12_expression 265 = .ok (.aload_n 0, 1) := dk_ok (by decide +kernel)
theorem dX12_expression_266 : decode cX12_expression 266 = .ok (.invokevirtual 212, 3) := dk_ok (by decide +kernel)
theorem dX12_expression_269 : decode cX12_expression 269 = .ok (.goto (-257), 3) := dk_ok (by decide +kernel)
theorem dX12_expression_272 : decode cX12_expression 272 = .ok (.return_, 1) := dk_ok (by decide +kernel)

def sX12_expression : am_Sp := fun as n σ post => n = 92 ∧ sb_ok BB SH σ ∧ pC σ ≤ pT σ + 420 ∧ pO σ = 0 ∧ as = [.ref 51] ∧ ∀ τ, exR σ τ → post none τ
def Kd (σ : am_S) : Int := (σ.1 54 (pT σ).toNat).toInt
def mu (σ : am_S) : Nat := (2 * (400 - pT σ) + (if pF σ = 0 then 1 else 0)).toNat
theorem mu_ADV {σ τ : am_S} (h : sb_ok BB SH σ) (hf : pF σ = 0) (ha : ADV σ τ) (hB : sb_ok BB SH τ) : mu τ < mu σ := by
  have a := pT_b h
  have b := pT_b hB
  unfold mu
  rw [if_pos hf]
  rcases ha with ⟨h1, h2⟩ | ⟨h1, h2⟩
  · split <;> omega
  · rw [if_neg h2]; omega
def xl (z : Int) : List (Option Value) := [some (.ref 51), some (.int (Int32.ofInt 0)), some (.int (Int32.ofInt z))]
/-! THE REFERENCE'S READER: a term and where it lies. Printed from wip/am/chk/hand/tm.in. -/
theorem pB_b {σ : am_S} (h : sb_ok BB SH σ) : 0 ≤ pB σ ∧ pB σ ≤ 260 := h.2 51 12 31 rfl
def lwK (i : Nat) : Bool := exK i || i == 31
def lwA (o : Nat) : Bool := o == 69 || o == 70 || o == 71 || o == 72 || o == 73
/-- what the telling of a law may change -/
abbrev lwF (σ τ : am_S) : Prop := (∀ o i, o ≠ 74 → o ≠ 75 → o ≠ 76 → ¬ (o = 51 ∧ lwK i = true) → ¬ (lwA o = true ∧ pB σ ≤ (i : Int) ∧ (i : Int) ≤ pB τ) → τ.1 o i = σ.1 o i) ∧ (∀ o i, o ≠ 51 → τ.2 o i = σ.2 o i) ∧ (∀ i : Nat, ((i : Int) < pC σ ∨ pC τ ≤ (i : Int)) → cd τ i = cd σ i ∧ cI τ i = cI σ i) ∧ (∀ i : Nat, pC σ ≤ (i : Int) → (i : Int) < pC τ → cd τ i = 1 → 0 ≤ cI τ i ∧ cI τ i ≤ 8) ∧ pC σ ≤ pC τ ∧ pT σ ≤ pT τ ∧ NZ σ τ ∧ pB σ ≤ pB τ
theorem lwF_r (σ : am_S) : lwF σ σ := ⟨fun _ _ _ _ _ _ _ => rfl, fun _ _ _ => rfl, fun _ _ => ⟨rfl, rfl⟩, fun i a b => by omega, Int.le_refl _, Int.le_refl _, NZ_r σ, Int.le_refl _⟩
theorem lwF_t {σ τ υ : am_S} (h : lwF σ τ) (g : lwF τ υ) : lwF σ υ := by
  obtain ⟨h1, h2, h3, h4, h5, h6, h7, h8⟩ := h
  obtain ⟨g1, g2, g3, g4, g5, g6, g7, g8⟩ := g
  refine ⟨fun o i a b c d e => (g1 o i a b c d (fun z => e ⟨z.1, by omega, by omega⟩)).trans (h1 o i a b c d (fun z => e ⟨z.1, by omega, by omega⟩)), fun o i a => (g2 o i a).trans (h2 o i a), fun i q => ?_, fun i a b c => ?_, by omega, by omega, NZ_t h7 g7, by omega⟩
  · have a := g3 i (by omega)
    have b := h3 i (by omega)
    exact ⟨a.1.trans b.1, a.2.trans b.2⟩
  · by_cases q : (i : Int) < pC τ
    · have e := g3 i (Or.inl q)
      rw [e.1] at c
      rw [e.2]
      exact h4 i a q c
    · exact g4 i (by omega) b c
theorem exF_B {σ τ : am_S} (h : exF σ τ) : pB τ = pB σ := by unfold pB; rw [h.f1 _ _ (by decide) (by decide) (by decide) (by decide)]
theorem lwF_ex {σ τ : am_S} (h : exF σ τ) : lwF σ τ := ⟨fun o i a b c d _ => h.f1 o i a b c (fun z => d ⟨z.1, by unfold lwK; rw [z.2]; rfl⟩), h.f2, h.f3, h.f4, h.f5, h.f6, h.f7, by rw [exF_B h]; exact Int.le_refl _⟩
/-- a number more at the branch in hand -/
theorem lwF_at {σ : am_S} {o : Nat} {x : Int32} (ho : lwA o = true) (h0 : 0 ≤ pB σ) : lwF σ (am_pi σ o (pB σ).toNat x) ∧ (∀ k, (am_pi σ o (pB σ).toNat x).1 51 k = σ.1 51 k) ∧ (am_pi σ o (pB σ).toNat x).1 o (pB σ).toNat = x ∧ ∀ o' i, o' ≠ o → (am_pi σ o (pB σ).toNat x).1 o' i = σ.1 o' i := by
  have n : ∀ o', lwA o' = false → o' ≠ o := fun o' q z => by rw [z, ho] at q; cases q
  have ef : ∀ k, (am_pi σ o (pB σ).toNat x).1 51 k = σ.1 51 k := fun k => pi_n _ _ _ _ (fun z => n _ (by decide) z.1)
  have eB : pB (am_pi σ o (pB σ).toNat x) = pB σ := by unfold pB; rw [pi_n _ _ _ _ (fun z => n _ (by decide) z.1)]
  have eC : pC (am_pi σ o (pB σ).toNat x) = pC σ := by unfold pC; rw [ef]
  have eT : pT (am_pi σ o (pB σ).toNat x) = pT σ := by unfold pT; rw [ef]
  have eF : pF (am_pi σ o (pB σ).toNat x) = pF σ := by unfold pF; rw [ef]
  refine ⟨⟨fun o' i _ _ _ _ e => pi_n _ _ _ _ (fun z => ?_), fun _ _ _ => rfl, fun i _ => ⟨?_, ?_⟩, fun i a b => by omega, by omega, by omega, NZ_of (ef _) (ef _), by omega⟩, ef, pi_s _ _ _ _, fun o' i q => pi_n _ _ _ _ (fun z => q z.1)⟩
  · have b : i = (pB σ).toNat := z.2
    exact e ⟨by rw [z.1]; exact ho, by omega, by omega⟩
  · unfold cd; rw [pi_n _ _ _ _ (fun z => n _ (by decide) z.1)]
  · unfold cI; rw [pi_n _ _ _ _ (fun z => n _ (by decide) z.1)]
theorem lw_C {σ τ : am_S} (h : ∀ k, τ.1 51 k = σ.1 51 k) : pC τ = pC σ ∧ pT τ = pT σ ∧ pF τ = pF σ ∧ pO τ = pO σ ∧ pB τ = pB σ ∧ pW τ = pW σ := by
  unfold pC pT pF pO pB pW
  rw [h, h, h, h, h, h]
  exact ⟨rfl, rfl, rfl, rfl, rfl, rfl⟩
theorem at_ok {σ : am_S} {o : Nat} {x : Int} {q : Nat} {a b : Int} (h : sb_ok BB SH σ) (hb : pB σ ≤ 259) (hs : SH o = .inr (q, 260)) (hB : BB.1 o = [(a, b)]) (hx : a ≤ x ∧ x ≤ b) (hx2 : -2147483648 ≤ x ∧ x < 2147483648) : sb_ok BB SH (am_pi σ o (pB σ).toNat (Int32.ofInt x)) := by
  have b := pB_b h
  exact (sI_arr (M := [(o, 0, 260)]) (σ0 := σ) (q := (q, 260)) ⟨h, sb_fr_r _ _⟩ hs (by rw [sb_1 hB, ii_t hx2.1 hx2.2]; exact hx) ⟨_, List.mem_cons_self, rfl, Nat.zero_le _, by show (pB σ).toNat < 260; omega⟩).1
def tmS (σ : am_S) : am_S := am_pi (am_pi σ 73 (pB σ).toNat (Int32.ofInt (pC σ))) 51 31 (Int32.ofInt (pB σ + 1))
theorem tmS_ok {σ : am_S} (h : sb_ok BB SH σ) (hb : pB σ ≤ 259) : sb_ok BB SH (tmS σ) ∧ lwF σ (tmS σ) ∧ pB (tmS σ) = pB σ + 1 ∧ pC (tmS σ) = pC σ ∧ pT (tmS σ) = pT σ ∧ pF (tmS σ) = pF σ ∧ pO (tmS σ) = pO σ ∧ ((tmS σ).1 73 (pB σ).toNat).toInt = pC σ ∧ (∀ o i, o ≠ 73 → o ≠ 51 → (tmS σ).1 o i = σ.1 o i) ∧ (∀ i, cd (tmS σ) i = cd σ i) := by
  have b := pB_b h
  have c := pC_b h
  obtain ⟨σ1, e1⟩ : ∃ σ1, σ1 = am_pi σ 73 (pB σ).toNat (Int32.ofInt (pC σ)) := ⟨_, rfl⟩
  obtain ⟨l1, f1, c1, n1⟩ := lwF_at (σ := σ) (o := 73) (x := Int32.ofInt (pC σ)) rfl b.1
  rw [← e1] at l1 f1 c1 n1
  obtain ⟨eC, eT, eF, eO, eB, eW⟩ := lw_C f1
  have et : tmS σ = am_pi σ1 51 31 (Int32.ofInt (pB σ + 1)) := by unfold tmS; rw [e1]
  have hB1 : sb_ok BB SH σ1 := by
    rw [e1]
    exact at_ok (a := 0) (b := 840) (q := 0) h hb rfl rfl ⟨by omega, by omega⟩ (by omega)
  have ep : pB (tmS σ) = pB σ + 1 := by rw [et]; unfold pB; rw [pi_s, ii_t (by unfold pB at *; omega) (by unfold pB at *; omega)]
  have en : ∀ k, k ≠ 31 → (tmS σ).1 51 k = σ.1 51 k := fun k q => by rw [et, pi_n _ _ _ _ (fun z => q z.2), f1]
  have ec : pC (tmS σ) = pC σ := by unfold pC; rw [en _ (by decide)]
  have eT' : pT (tmS σ) = pT σ := by unfold pT; rw [en _ (by decide)]
  have eF' : pF (tmS σ) = pF σ := by unfold pF; rw [en _ (by decide)]
  have eO' : pO (tmS σ) = pO σ := by unfold pO; rw [en _ (by decide)]
  have ea : ∀ o i, o ≠ 73 → o ≠ 51 → (tmS σ).1 o i = σ.1 o i := fun o i q r => by rw [et, pi_n _ _ _ _ (fun z => r z.1), n1 o i q]
  have ecd : ∀ i, cd (tmS σ) i = cd σ i := fun i => by unfold cd; rw [ea _ _ (by decide) (by decide)]
  have ecI : ∀ i, cI (tmS σ) i = cI σ i := fun i => by unfold cI; rw [ea _ _ (by decide) (by decide)]
  refine ⟨by rw [et]; exact (sI_fld (M := [(51, 31, 31 + 1)]) (σ0 := σ1) (k := 31) (x := Int32.ofInt (pB σ + 1)) (ci := 12) ⟨hB1, sb_fr_r _ _⟩ rfl (by rw [ii_t (by omega) (by omega)]; exact ⟨by show (0 : Int) ≤ _; omega, by show _ ≤ (260 : Int); omega⟩) ⟨_, List.mem_cons_self, rfl, by decide, by decide⟩).1, ⟨fun o i a a2 a3 a4 a5 => ?_, fun _ _ _ => rfl, fun i _ => ⟨ecd i, ecI i⟩, fun i q1 q2 => by omega, by omega, by omega, NZ_of (en _ (by decide)) (en _ (by decide)), by omega⟩, ep, ec, eT', eF', eO', ?_, ea, ecd⟩
  · by_cases q : o = 51
    · subst q
      exact en i (fun z => a4 ⟨rfl, by rw [z]; decide⟩)
    · rw [et, pi_n _ _ _ _ (fun z => q z.1)]
      exact l1.1 o i a a2 a3 a4 (fun z => a5 ⟨z.1, by omega, by omega⟩)
  · rw [et, pi_n _ _ _ _ (fun z => absurd z.1 (by decide)), c1, ii_t (by omega) (by omega)]
/-- what term does -/
abbrev tmR (σ τ : am_S) : Prop := sb_ok BB SH τ ∧ lwF σ τ ∧ pB τ = pB σ + 1 ∧ (τ.1 72 (pB σ).toNat).toInt = pC σ ∧ (τ.1 73 (pB σ).toNat).toInt = pC τ ∧ (∀ o i, (o = 69 ∨ o = 70 ∨ o = 71) → τ.1 o i = σ.1 o i) ∧ (pF σ ≠ 0 → pC τ = pC σ) ∧ (pF σ = 0 → pC τ - pC σ ≤ pT τ - pT σ + 1) ∧ (pF τ = 0 → pO τ = 0 ∧ pT σ < pT τ ∧ pC τ - pC σ ≤ pT τ - pT σ ∧ Jdep τ (pC σ).toNat (pC τ - pC σ).toNat = some 1)
theorem dX12_term_0 : decode cX12_term 0 = .ok (.aload_n 0, 1) := dk_ok (by decide +kernel)
theorem dX12_term_1 : decode cX12_term 1 = .ok (.getfield 80, 3) := dk_ok (by decide +kernel)
theorem dX12_term_4 : decode cX12_term 4 = .ok (.aload_n 0, 1) := dk_ok (by decide +kernel)
theorem dX12_term_5 : decode cX12_term 5 = .ok (.getfield 230, 3) := dk_ok (by decide +kernel)
theorem dX12_term_8 : decode cX12_term 8 = .ok (.aload_n 0, 1) := dk_ok (by decide +kernel)
theorem dX12_term_9 : decode cX12_term 9 = .ok (.getfield 233, 3) := dk_ok (by decide +kernel)
theorem dX12_term_12 : decode cX12_term 12 = .ok (.iastore, 1) := dk_ok (by decide +kernel)
theorem dX12_term_13 : decode cX12_term 13 = .ok (.aload_n 0, 1) := dk_ok (by decide +kernel)
theorem dX12_term_14 : decode cX12_term 14 = .ok (.getfield 191, 3) := dk_ok (by decide +kernel)
theorem dX12_term_17 : decode cX12_term 17 = .ok (.ifCond .ne 7, 3) := dk_ok (by decide +kernel)
theorem dX12_term_20 : decode cX12_term 20 = .ok (.aload_n 0, 1) := dk_ok (by decide +kernel)
theorem dX12_term_21 : decode cX12_term 21 = .ok (.invokevirtual 269, 3) := dk_ok (by decide +kernel)
theorem dX12_term_24 : decode cX12_term 24 = .ok (.aload_n 0, 1) := dk_ok (by decide +kernel)
theorem dX12_term_25 : decode cX12_term 25 = .ok (.getfield 83, 3) := dk_ok (by decide +kernel)
theorem dX12_term_28 : decode cX12_term 28 = .ok (.aload_n 0, 1) := dk_ok (by decide +kernel)
theorem dX12_term_29 : decode cX12_term 29 = .ok (.getfield 230, 3) := dk_ok (by decide +kernel)
theorem dX12_term_32 : decode cX12_term 32 = .ok (.aload_n 0, 1) := dk_ok (by decide +kernel)
theorem dX12_term_33 : decode cX12_term 33 = .ok (.getfield 233, 3) := dk_ok (by decide +kernel)
theorem dX12_term_36 : decode cX12_term 36 = .ok (.iastore, 1) := dk_ok (by decide +kernel)
theorem dX12_term_37 : decode cX12_term 37 = .ok (.aload_n 0, 1) := dk_ok (by decide +kernel)
theorem dX12_term_38 : decode cX12_term 38 = .ok (.dup, 1) := dk_ok (by decide +kernel)
theorem dX12_term_39 : decode cX12_term 39 = .ok (.getfield 230, 3) := dk_ok (by decide +kernel)
theorem dX12_term_42 : decode cX12_term 42 = .ok (.iconst 1, 1) := dk_ok (by decide +kernel)
theorem dX12_term_43 : decode cX12_term 43 = .ok (.iadd, 1) := dk_ok (by decide +kernel)
theorem dX12_term_44 : decode cX12_term 44 = .ok (.putfield 230, 3) := dk_ok (by decide +kernel)
theorem dX12_term_47 : decode cX12_term 47 = .ok (.return_, 1) := dk_ok (by decide +kernel)

def sX12_term : am_Sp := fun as n σ post => n = 92 ∧ sb_ok BB SH σ ∧ pB σ ≤ 259 ∧ (pF σ = 0 → pO σ = 0 ∧ pC σ ≤ pT σ + 420) ∧ as = [.ref 51] ∧ ∀ τ, tmR σ τ → post none τ
/-! THE REFERENCE'S READER: a law. Printed from wip/am/chk/hand/lw2.in. -/
def pS (σ : am_S) : Int := (σ.1 51 19).toInt
theorem pS_b {σ : am_S} (h : sb_ok BB SH σ) : 0 ≤ pS σ ∧ pS σ ≤ 1 := h.2 51 12 19 rfl
theorem lwF_S {σ τ : am_S} (h : lwF σ τ) : pS τ = pS σ := by unfold pS; rw [h.1 _ _ (by decide) (by decide) (by decide) (by decide) (fun z => absurd z.1 (by decide))]
abbrev JbC (σ : am_S) (s : Int) (b : Nat) : Prop := Jbr σ s b ∧ (σ.1 73 b).toInt ≤ pC σ
theorem Jpost_lw {σ τ : am_S} {s a b : Int} (h : lwF σ τ) (hp : Jpost σ s a b) (hs : 0 ≤ s) (hb : b ≤ pC σ) : Jpost τ s a b := by
  obtain ⟨h1, h2, h3, h4, d, h5⟩ := hp
  exact ⟨h1, h2, h3, h4, d, by rw [Jdep_cg (σ := σ) (fun i x y => (h.2.2.1 i (Or.inl (by omega))).1)]; exact h5⟩
theorem lwF_b {σ τ : am_S} (h : lwF σ τ) {o b : Nat} (ho : lwA o = true) (hb : (b : Int) < pB σ) : τ.1 o b = σ.1 o b := h.1 o b (fun z => by rw [z] at ho; cases ho) (fun z => by rw [z] at ho; cases ho) (fun z => by rw [z] at ho; cases ho) (fun z => by rw [z.1] at ho; cases ho) (fun z => by omega)
theorem JbC_lw {σ τ : am_S} {s : Int} {b : Nat} (h : lwF σ τ) (hs : 0 ≤ s) (hb : (b : Int) < pB σ) (hj : JbC σ s b) : JbC τ s b := by
  obtain ⟨⟨g0, g1, g2⟩, g3⟩ := hj
  have e1 := lwF_b h (o := 69) rfl hb
  have e2 := lwF_b h (o := 70) rfl hb
  have e3 := lwF_b h (o := 71) rfl hb
  have e4 := lwF_b h (o := 72) rfl hb
  have e5 := lwF_b h (o := 73) rfl hb
  have f5 := h.2.2.2.2.1
  obtain ⟨_, a1, _⟩ := id g2
  refine ⟨⟨g0, fun hn => ?_, ?_⟩, by rw [e5]; omega⟩
  · rw [e1] at hn
    rw [e2, e3, e4]
    obtain ⟨q1, q2⟩ := g1 hn
    obtain ⟨_, a2, _⟩ := id q2
    exact ⟨Jpost_lw h q1 hs (by omega), Jpost_lw h q2 hs (by omega)⟩
  · rw [e4, e5]; exact Jpost_lw h g2 hs g3
/-- in the midst of a law: n branches stand, e tokens at least have gone -/
abbrev tq (σ0 σ : am_S) (s n e : Int) (X : am_S → Prop) : Prop := sb_ok BB SH σ ∧ lwF σ0 σ ∧ pB σ = pB σ0 + n ∧ pC σ - pC σ0 ≤ pT σ - pT σ0 + 1 ∧ (pF σ = 0 → pO σ = 0 ∧ pC σ - pC σ0 ≤ pT σ - pT σ0 ∧ e ≤ pT σ - pT σ0 ∧ (∀ b : Nat, pB σ0 ≤ (b : Int) → (b : Int) < pB σ → JbC σ s b) ∧ X σ)
theorem tq_TK {σ0 σ τ : am_S} {s n e : Int} {X : am_S → Prop} (h : tq σ0 σ s n e X) (hs : 0 ≤ s) (g : TK σ τ) (ga : ADV σ τ) (hX : X σ → lwF σ τ → pB τ = pB σ → pC τ = pC σ → (∀ o i, lwA o = true → τ.1 o i = σ.1 o i) → X τ) : tq σ0 τ s n (e + 1) X := by
  obtain ⟨h1, h2, h3, h4, h5⟩ := h
  have hl := lwF_ex (exF_TK g)
  have eC := TK_C g
  have eO := TK_O g
  have ht := g.2.1
  have eB := exF_B (exF_TK g)
  refine ⟨g.1.1, lwF_t h2 hl, by omega, by omega, fun z => ?_⟩
  rcases ga with ⟨a1, a2⟩ | ⟨a1, a2⟩
  · obtain ⟨q1, q2, q3, q4, q5⟩ := h5 (by omega)
    exact ⟨by omega, by omega, by omega, fun b x y => JbC_lw hl hs (by omega) (q4 b x (by omega)), hX q5 hl eB eC (fun o i ho => TK_o g (fun z => by rw [z.1] at ho; cases ho))⟩
  · exact absurd z a2
theorem tq_at {σ0 σ : am_S} {s n e : Int} {X Y : am_S → Prop} {o : Nat} {x : Int32} (h : tq σ0 σ s n e X) (hs : 0 ≤ s) (ho : lwA o = true) (hb : sb_ok BB SH (am_pi σ o (pB σ).toNat x)) (hX : X σ → Y (am_pi σ o (pB σ).toNat x)) : tq σ0 (am_pi σ o (pB σ).toNat x) s n e Y := by
  obtain ⟨h1, h2, h3, h4, h5⟩ := h
  have b0 := pB_b h1
  obtain ⟨l1, f1, _, _⟩ := lwF_at (σ := σ) (o := o) (x := x) ho b0.1
  obtain ⟨eC, eT, eF, eO, eB, eW⟩ := lw_C f1
  refine ⟨hb, lwF_t h2 l1, by omega, by omega, fun z => ?_⟩
  obtain ⟨q1, q2, q3, q4, q5⟩ := h5 (by omega)
  exact ⟨by omega, by omega, by omega, fun b x y => JbC_lw l1 hs (by omega) (q4 b x (by omega)), hX q5⟩
theorem tq_ex {σ0 σ τ : am_S} {s n e : Int} {X Y : am_S → Prop} (h : tq σ0 σ s n e X) (hs : 0 ≤ s) (hq : pC σ - pC σ0 ≤ pT σ - pT σ0) (h0 : 0 ≤ pT σ0) (hc : 420 * s ≤ pC σ0 ∧ pC σ0 ≤ pT σ0 + 420 * s) (hR : exR σ τ) (hX : X σ → lwF σ τ → pB τ = pB σ → (∀ o i, lwA o = true → τ.1 o i = σ.1 o i) → Jpost τ s (pC σ) (pC τ) → Y τ) : tq σ0 τ s n (e + 1) Y := by
  obtain ⟨h1, h2, h3, h4, h5⟩ := h
  have hl := lwF_ex hR.r2
  have eB := exF_B hR.r2
  have r3 := hR.r3
  have f5 := hR.r2.f5
  have f5' := h2.2.2.2.2.1
  have tb := pT_b hR.r1
  have ht := h2.2.2.2.2.2.1
  refine ⟨hR.r1, lwF_t h2 hl, by omega, by omega, fun z => ?_⟩
  have z0 : pF σ = 0 := Classical.byContradiction (fun q => hR.r2.f7.1 q z)
  obtain ⟨q1, q2, q3, q4, q5⟩ := h5 z0
  obtain ⟨r41, r42, r43, r44⟩ := hR.r4 z
  exact ⟨r41, by omega, by omega, fun b x y => JbC_lw hl hs (by omega) (q4 b x (by omega)), hX q5 hl eB (fun o i ho => hR.r2.f1 o i (fun z => by rw [z] at ho; cases ho) (fun z => by rw [z] at ho; cases ho) (fun z => by rw [z] at ho; cases ho) (fun z => by rw [z.1] at ho; cases ho)) ⟨by omega, f5, by omega, by omega, 0, r44⟩⟩
/-- the branch in hand can be closed -/
abbrev XT (s : Int) (σ : am_S) : Prop := σ.1 69 (pB σ).toNat = 0 ∨ (Jpost σ s (σ.1 70 (pB σ).toNat).toInt (σ.1 71 (pB σ).toNat).toInt ∧ Jpost σ s (σ.1 71 (pB σ).toNat).toInt (pC σ))
theorem tq_tm {σ0 σ τ : am_S} {s n e : Int} (h : tq σ0 σ s n e (XT s)) (hs : 0 ≤ s) (h0 : 0 ≤ pT σ0) (hc : 420 * s ≤ pC σ0 ∧ pC σ0 ≤ pT σ0 + 420 * s) (hb : 130 * s ≤ pB σ0 ∧ pB σ0 + n < 130 * s + 130) (hn : 0 ≤ n) (hR : tmR σ τ) : tq σ0 τ s (n + 1) (e + 1) (fun _ => True) := by
  obtain ⟨h1, h2, h3, h4, h5⟩ := h
  obtain ⟨r1, r2, r3, r4, r5, r6, r7, r8, r9⟩ := hR
  have f5 := r2.2.2.2.2.1
  have f5' := h2.2.2.2.2.1
  have f6 := r2.2.2.2.2.2.1
  have tb := pT_b r1
  have ht := h2.2.2.2.2.2.1
  refine ⟨r1, lwF_t h2 r2, by omega, ?_, fun z => ?_⟩
  · by_cases q : pF σ = 0
    · have := r8 q
      have := (h5 q).2.1
      omega
    · have := r7 q
      omega
  have z0 : pF σ = 0 := Classical.byContradiction (fun q => r2.2.2.2.2.2.2.1.1 q z)
  obtain ⟨q1, q2, q3, q4, q5⟩ := h5 z0
  obtain ⟨r91, r92, r93, r94⟩ := r9 z
  have bb := pB_b h1
  refine ⟨r91, by omega, by omega, fun b x y => ?_, trivial⟩
  by_cases qb : (b : Int) < pB σ
  · exact JbC_lw r2 hs qb (q4 b x qb)
  · have eb : b = (pB σ).toNat := by omega
    subst eb
    refine ⟨⟨⟨by omega, by omega⟩, fun hn => ?_, ?_⟩, by rw [r5]; exact Int.le_refl _⟩
    · have hn : ¬ τ.1 69 (pB σ).toNat = 0 := hn
      rw [r6 _ _ (Or.inl rfl)] at hn
      rcases q5 with q5 | ⟨q5, q6⟩
      · exact absurd q5 hn
      · obtain ⟨_, a2, _⟩ := id q6
        rw [r4, r6 _ _ (Or.inr (Or.inl rfl)), r6 _ _ (Or.inr (Or.inr rfl))]
        exact ⟨Jpost_lw r2 q5 hs a2, Jpost_lw r2 q6 hs (Int.le_refl _)⟩
    · rw [r4, r5]
      exact ⟨by omega, f5, by omega, by omega, 0, r94⟩
theorem tq_f {σ0 σ : am_S} {s n e e' : Int} {X Y : am_S → Prop} (h : tq σ0 σ s n e X) (hf : pF σ ≠ 0) : tq σ0 σ s n e' Y := ⟨h.1, h.2.1, h.2.2.1, h.2.2.2.1, fun z => absurd z hf⟩
theorem tq_m {σ0 σ : am_S} {s n e e' : Int} {X Y : am_S → Prop} (h : tq σ0 σ s n e X) (he : e' ≤ e) (hX : X σ → Y σ) : tq σ0 σ s n e' Y := ⟨h.1, h.2.1, h.2.2.1, h.2.2.2.1, fun z => by
  obtain ⟨q1, q2, q3, q4, q5⟩ := h.2.2.2.2 z
  exact ⟨q1, q2, by omega, q4, hX q5⟩⟩
def lwS (υ : am_S) (k f : Int) : am_S := am_pi (am_pi υ 67 (4 * pS υ + k).toNat (Int32.ofInt f)) 68 (4 * pS υ + k).toNat (Int32.ofInt (pB υ))
abbrev tlR (k : Int) (σ τ : am_S) : Prop := ∃ υ, sb_ok BB SH υ ∧ lwF σ υ ∧ pB υ ≤ pB σ + 5 ∧ pC υ - pC σ ≤ pT υ - pT σ + 1 ∧ ((pF υ ≠ 0 ∧ τ = υ) ∨ (pF υ = 0 ∧ pO υ = 0 ∧ pC υ - pC σ ≤ pT υ - pT σ ∧ 4 * (pB υ - pB σ) ≤ pT υ - pT σ + 1 ∧ (∀ b : Nat, pB σ ≤ (b : Int) → (b : Int) < pB υ → JbC υ (pS σ) b) ∧ τ = lwS υ k (pB σ)))
theorem dX12_tellLaw_0 : decode cX12_tellLaw 0 = .ok (.aload_n 0, 1) := dk_ok (by decide +kernel)
theorem dX12_tellLaw_1 : decode cX12_tellLaw 1 = .ok (.iconst 5, 1) := dk_ok (by decide +kernel)
theorem dX12_tellLaw_2 : decode cX12_tellLaw 2 = .ok (.invokevirtual 257, 3) := dk_ok (by decide +kernel)
theorem dX12_tellLaw_5 : decode cX12_tellLaw 5 = .ok (.aload_n 0, 1) := dk_ok (by decide +kernel)
theorem dX12_tellLaw_6 : decode cX12_tellLaw 6 = .ok (.getfield 230, 3) := dk_ok (by decide +kernel)
theorem dX12_tellLaw_9 : decode cX12_tellLaw 9 = .ok (.istore_n 2, 1) := dk_ok (by decide +kernel)
theorem dX12_tellLaw_10 : decode cX12_tellLaw 10 = .ok (.iconst 0, 1) := dk_ok (by decide +kernel)
theorem dX12_tellLaw_11 : decode cX12_tellLaw 11 = .ok (.istore_n 3, 1) := dk_ok (by decide +kernel)
theorem dX12_tellLaw_12 : decode cX12_tellLaw 12 = .ok (.aload_n 0, 1) := dk_ok (by decide +kernel)
theorem dX12_tellLaw_13 : decode cX12_tellLaw 13 = .ok (.getfield 191, 3) := dk_ok (by decide +kernel)
theorem dX12_tellLaw_16 : decode cX12_tellLaw 16 = .ok (.ifCond .ne 113, 3) := dk_ok (by decide +kernel)
theorem dX12_tellLaw_19 : decode cX12_tellLaw 19 = .ok (.aload_n 0, 1) := dk_ok (by decide +kernel)
theorem dX12_tellLaw_20 : decode cX12_tellLaw 20 = .ok (.bipush 27, 2) := dk_ok (by decide +kernel)
theorem dX12_tellLaw_22 : decode cX12_tellLaw 22 = .ok (.invokevirtual 209, 3) := dk_ok (by decide +kernel)
theorem dX12_tellLaw_25 : decode cX12_tellLaw 25 = .ok (.ifCond .eq 104, 3) := dk_ok (by decide +kernel)
theorem dX12_tellLaw_28 : decode cX12_tellLaw 28 = .ok (.iload_n 3, 1) := dk_ok (by decide +kernel)
theorem dX12_tellLaw_29 : decode cX12_tellLaw 29 = .ok (.iconst 4, 1) := dk_ok (by decide +kernel)
theorem dX12_tellLaw_30 : decode cX12_tellLaw 30 = .ok (.if_icmp .ne 8, 3) := dk_ok (by decide +kernel)
theorem dX12_tellLaw_33 : decode cX12_tellLaw 33 = .ok (.aload_n 0, 1) := dk_ok (by decide +kernel)
theorem dX12_tellLaw_34 : decode cX12_tellLaw 34 = .ok (.iconst 2, 1) := dk_ok (by decide +kernel)
theorem dX12_tellLaw_35 : decode cX12_tellLaw 35 = .ok (.invokevirtual 206, 3) := dk_ok (by decide +kernel)
theorem dX12_tellLaw_38 : decode cX12_tellLaw 38 = .ok (.aload_n 0, 1) := dk_ok (by decide +kernel)
theorem dX12_tellLaw_39 : decode cX12_tellLaw 39 = .ok (.getfield 191, 3) := dk_ok (by decide +kernel)
theorem dX12_tellLaw_42 : decode cX12_tellLaw 42 = .ok (.ifCond .le 4, 3) := dk_ok (by decide +kernel)
theorem dX12_tellLaw_45 : decode cX12_tellLaw 45 = .ok (.return_, 1) := dk_ok (by decide +kernel)
theorem dX12_tellLaw_46 : decode cX12_tellLaw 46 = .ok (.iinc 3 1, 3) := dk_ok (by decide +kernel)
theorem dX12_tellLaw_49 : decode cX12_tellLaw 49 = .ok (.aload_n 0, 1) := dk_ok (by decide +kernel)
theorem dX12_tellLaw_50 : decode cX12_tellLaw 50 = .ok (.invokevirtual 212, 3) := dk_ok (by decide +kernel)
theorem dX12_tellLaw_53 : decode cX12_tellLaw 53 = .ok (.aload_n 0, 1) := dk_ok (by decide +kernel)
theorem dX12_tellLaw_54 : decode cX12_tellLaw 54 = .ok (.getfield 70, 3) := dk_ok (by decide +kernel)
theorem dX12_tellLaw_57 : decode cX12_tellLaw 57 = .ok (.aload_n 0, 1) := dk_ok (by decide +kernel)
theorem dX12_tellLaw_58 : decode cX12_tellLaw 58 = .ok (.getfield 230, 3) := dk_ok (by decide +kernel)
theorem dX12_tellLaw_61 : decode cX12_tellLaw 61 = .ok (.iconst 1, 1) := dk_ok (by decide +kernel)
theorem dX12_tellLaw_62 : decode cX12_tellLaw 62 = .ok (.bastore, 1) := dk_ok (by decide +kernel)
theorem dX12_tellLaw_63 : decode cX12_tellLaw 63 = .ok (.aload_n 0, 1) := dk_ok (by decide +kernel)
theorem dX12_tellLaw_64 : decode cX12_tellLaw 64 = .ok (.getfield 74, 3) := dk_ok (by decide +kernel)
theorem dX12_tellLaw_67 : decode cX12_tellLaw 67 = .ok (.aload_n 0, 1) := dk_ok (by decide +kernel)
theorem dX12_tellLaw_68 : decode cX12_tellLaw 68 = .ok (.getfield 230, 3) := dk_ok (by decide +kernel)
theorem dX12_tellLaw_71 : decode cX12_tellLaw 71 = .ok (.aload_n 0, 1) := dk_ok (by decide +kernel)
theorem dX12_tellLaw_72 : decode cX12_tellLaw 72 = .ok (.getfield 233, 3) := dk_ok (by decide +kernel)
theorem dX12_tellLaw_75 : decode cX12_tellLaw 75 = .ok (.iastore, 1) := dk_ok (by decide +kernel)
theorem dX12_tellLaw_76 : decode cX12_tellLaw 76 = .ok (.aload_n 0, 1) := dk_ok (by decide +kernel)
theorem dX12_tellLaw_77 : decode cX12_tellLaw 77 = .ok (.invokevirtual 269, 3) := dk_ok (by decide +kernel)
theorem dX12_tellLaw_80 : decode cX12_tellLaw 80 = .ok (.aload_n 0, 1) := dk_ok (by decide +kernel)
theorem dX12_tellLaw_81 : decode cX12_tellLaw 81 = .ok (.bipush 13, 2) := dk_ok (by decide +kernel)
theorem dX12_tellLaw_83 : decode cX12_tellLaw 83 = .ok (.invokevirtual 257, 3) := dk_ok (by decide +kernel)
theorem dX12_tellLaw_86 : decode cX12_tellLaw 86 = .ok (.aload_n 0, 1) := dk_ok (by decide +kernel)
theorem dX12_tellLaw_87 : decode cX12_tellLaw 87 = .ok (.getfield 77, 3) := dk_ok (by decide +kernel)
theorem dX12_tellLaw_90 : decode cX12_tellLaw 90 = .ok (.aload_n 0, 1) := dk_ok (by decide +kernel)
theorem dX12_tellLaw_91 : decode cX12_tellLaw 91 = .ok (.getfield 230, 3) := dk_ok (by decide +kernel)
theorem dX12_tellLaw_94 : decode cX12_tellLaw 94 = .ok (.aload_n 0, 1) := dk_ok (by decide +kernel)
theorem dX12_tellLaw_95 : decode cX12_tellLaw 95 = .ok (.getfield 233, 3) := dk_ok (by decide +kernel)
theorem dX12_tellLaw_98 : decode cX12_tellLaw 98 = .ok (.iastore, 1) := dk_ok (by decide +kernel)
theorem dX12_tellLaw_99 : decode cX12_tellLaw 99 = .ok (.aload_n 0, 1) := dk_ok (by decide +kernel)
theorem dX12_tellLaw_100 : decode cX12_tellLaw 100 = .ok (.getfield 191, 3) := dk_ok (by decide +kernel)
theorem dX12_tellLaw_103 : decode cX12_tellLaw 103 = .ok (.ifCond .ne 7, 3) := dk_ok (by decide +kernel)
theorem dX12_tellLaw_106 : decode cX12_tellLaw 106 = .ok (.aload_n 0, 1) := dk_ok (by decide +kernel)
theorem dX12_tellLaw_107 : decode cX12_tellLaw 107 = .ok (.invokevirtual 269, 3) := dk_ok (by decide +kernel)
theorem dX12_tellLaw_110 : decode cX12_tellLaw 110 = .ok (.aload_n 0, 1) := dk_ok (by decide +kernel)
theorem dX12_tellLaw_111 : decode cX12_tellLaw 111 = .ok (.bipush 28, 2) := dk_ok (by decide +kernel)
theorem dX12_tellLaw_113 : decode cX12_tellLaw 113 = .ok (.invokevirtual 257, 3) := dk_ok (by decide +kernel)
theorem dX12_tellLaw_116 : decode cX12_tellLaw 116 = .ok (.aload_n 0, 1) := dk_ok (by decide +kernel)
theorem dX12_tellLaw_117 : decode cX12_tellLaw 117 = .ok (.invokevirtual 272, 3) := dk_ok (by decide +kernel)
theorem dX12_tellLaw_120 : decode cX12_tellLaw 120 = .ok (.aload_n 0, 1) := dk_ok (by decide +kernel)
theorem dX12_tellLaw_121 : decode cX12_tellLaw 121 = .ok (.bipush 29, 2) := dk_ok (by decide +kernel)
theorem dX12_tellLaw_123 : decode cX12_tellLaw 123 = .ok (.invokevirtual 257, 3) := dk_ok (by decide +kernel)
theorem dX12_tellLaw_126 : decode cX12_tellLaw 126 = .ok (.goto (-114), 3) := dk_ok (by decide +kernel)
theorem dX12_tellLaw_129 : decode cX12_tellLaw 129 = .ok (.aload_n 0, 1) := dk_ok (by decide +kernel)
theorem dX12_tellLaw_130 : decode cX12_tellLaw 130 = .ok (.getfield 70, 3) := dk_ok (by decide +kernel)
theorem dX12_tellLaw_133 : decode cX12_tellLaw 133 = .ok (.aload_n 0, 1) := dk_ok (by decide +kernel)
theorem dX12_tellLaw_134 : decode cX12_tellLaw 134 = .ok (.getfield 230, 3) := dk_ok (by decide +kernel)
theorem dX12_tellLaw_137 : decode cX12_tellLaw 137 = .ok (.iconst 0, 1) := dk_ok (by decide +kernel)
theorem dX12_tellLaw_138 : decode cX12_tellLaw 138 = .ok (.bastore, 1) := dk_ok (by decide +kernel)
theorem dX12_tellLaw_139 : decode cX12_tellLaw 139 = .ok (.aload_n 0, 1) := dk_ok (by decide +kernel)
theorem dX12_tellLaw_140 : decode cX12_tellLaw 140 = .ok (.invokevirtual 272, 3) := dk_ok (by decide +kernel)
theorem dX12_tellLaw_143 : decode cX12_tellLaw 143 = .ok (.aload_n 0, 1) := dk_ok (by decide +kernel)
theorem dX12_tellLaw_144 : decode cX12_tellLaw 144 = .ok (.iconst 4, 1) := dk_ok (by decide +kernel)
theorem dX12_tellLaw_145 : decode cX12_tellLaw 145 = .ok (.invokevirtual 257, 3) := dk_ok (by decide +kernel)
theorem dX12_tellLaw_148 : decode cX12_tellLaw 148 = .ok (.aload_n 0, 1) := dk_ok (by decide +kernel)
theorem dX12_tellLaw_149 : decode cX12_tellLaw 149 = .ok (.getfield 191, 3) := dk_ok (by decide +kernel)
theorem dX12_tellLaw_152 : decode cX12_tellLaw 152 = .ok (.ifCond .le 4, 3) := dk_ok (by decide +kernel)
theorem dX12_tellLaw_155 : decode cX12_tellLaw 155 = .ok (.return_, 1) := dk_ok (by decide +kernel)
theorem dX12_tellLaw_156 : decode cX12_tellLaw 156 = .ok (.aload_n 0, 1) := dk_ok (by decide +kernel)
theorem dX12_tellLaw_157 : decode cX12_tellLaw 157 = .ok (.getfield 64, 3) := dk_ok (by decide +kernel)
theorem dX12_tellLaw_160 : decode cX12_tellLaw 160 = .ok (.iconst 4, 1) := dk_ok (by decide +kernel)
theorem dX12_tellLaw_161 : decode cX12_tellLaw 161 = .ok (.aload_n 0, 1) := dk_ok (by decide +kernel)
theorem dX12_tellLaw_162 : decode cX12_tellLaw 162 = .ok (.getfield 224, 3) := dk_ok (by decide +kernel)
theorem dX12_tellLaw_165 : decode cX12_tellLaw 165 = .ok (.imul, 1) := dk_ok (by decide +kernel)
theorem dX12_tellLaw_166 : decode cX12_tellLaw 166 = .ok (.iload_n 1, 1) := dk_ok (by decide +kernel)
theorem dX12_tellLaw_167 : decode cX12_tellLaw 167 = .ok (.iadd, 1) := dk_ok (by decide +kernel)
theorem dX12_tellLaw_168 : decode cX12_tellLaw 168 = .ok (.iload_n 2, 1) := dk_ok (by decide +kernel)
theorem dX12_tellLaw_169 : decode cX12_tellLaw 169 = .ok (.iastore, 1) := dk_ok (by decide +kernel)
theorem dX12_tellLaw_170 : decode cX12_tellLaw 170 = .ok (.aload_n 0, 1) := dk_ok (by decide +kernel)
theorem dX12_tellLaw_171 : decode cX12_tellLaw 171 = .ok (.getfield 67, 3) := dk_ok (by decide +kernel)
theorem dX12_tellLaw_174 : decode cX12_tellLaw 174 = .ok (.iconst 4, 1) := dk_ok (by decide +kernel)
theorem dX12_tellLaw_175 : decode cX12_tellLaw 175 = .ok (.aload_n 0, 1) := dk_ok (by decide +kernel)
theorem dX12_tellLaw_176 : decode cX12_tellLaw 176 = .ok (.getfield 224, 3) := dk_ok (by decide +kernel)
theorem dX12_tellLaw_179 : decode cX12_tellLaw 179 = .ok (.imul, 1) := dk_ok (by decide +kernel)
theorem dX12_tellLaw_180 : decode cX12_tellLaw 180 = .ok (.iload_n 1, 1) := dk_ok (by decide +kernel)
theorem dX12_tellLaw_181 : decode cX12_tellLaw 181 = .ok (.iadd, 1) := dk_ok (by decide +kernel)
theorem dX12_tellLaw_182 : decode cX12_tellLaw 182 = .ok (.aload_n 0, 1) := dk_ok (by decide +kernel)
theorem dX12_tellLaw_183 : decode cX12_tellLaw 183 = .ok (.getfield 230, 3) := dk_ok (by decide +kernel)
theorem dX12_tellLaw_186 : decode cX12_tellLaw 186 = .ok (.iastore, 1) := dk_ok (by decide +kernel)
theorem dX12_tellLaw_187 : decode cX12_tellLaw 187 = .ok (.return_, 1) := dk_ok (by decide +kernel)

abbrev tlP (σ : am_S) : Prop := sb_ok BB SH σ ∧ pO σ = 0 ∧ (420 * pS σ ≤ pC σ ∧ pC σ ≤ pT σ + 420 * pS σ) ∧ (130 * pS σ ≤ pB σ ∧ pB σ ≤ 130 * pS σ + 120)
def sX12_tellLaw : am_Sp := fun as n σ post => n = 92 ∧ tlP σ ∧ ∃ k : Int, (0 ≤ k ∧ k ≤ 3) ∧ as = [.ref 51, .int (Int32.ofInt k)] ∧ ∀ τ, tlR k σ τ → post none τ
def tll (k f n : Int) : List (Option Value) := [some (.ref 51), some (.int (Int32.ofInt k)), some (.int (Int32.ofInt f)), some (.int (Int32.ofInt n))]
/-! THE REFERENCE'S READER: a person. Printed from wip/am/chk/hand/tp.in. -/
def pN (σ : am_S) : Int := (σ.1 51 20).toInt
def pP (σ : am_S) : Int := (σ.1 61 (pS σ).toNat).toInt
theorem pN_b {σ : am_S} (h : sb_ok BB SH σ) : 0 ≤ pN σ ∧ pN σ ≤ 5 := h.2 51 12 20 rfl
theorem pP_b {σ : am_S} (h : sb_ok BB SH σ) : 0 ≤ pP σ ∧ pP σ ≤ 5 := by
  have s := pS_b h
  have := h.1 61 (0, 2) (pS σ).toNat rfl (by show (pS σ).toNat < 2; omega)
  rw [sb_1 (q := (0, 5)) rfl] at this
  exact this
def tpM : sa_M := [(51, 11, 11 + 1), (51, 13, 13 + 4), (62, 0, 10), (63, 0, 10), (64, 0, 10), (65, 0, 10), (59, 0, 5), (51, 20, 20 + 1), (61, 0, 2)]
theorem fr_m {M M' : sa_M} (h : ∀ m ∈ M, m ∈ M') {σ τ : am_S} (g : sb_fr M σ τ) : sb_fr M' σ τ := fun o k q => g o k (fun m hm => q m (h m hm))
theorem TK_tp {σ0 σ τ : am_S} (h : sI BB SH tpM σ0 σ) (g : TK σ τ) : sI BB SH tpM σ0 τ := ⟨g.1.1, sb_fr_t h.2 (fr_m (by decide) g.1.2)⟩
theorem TK_N {σ τ : am_S} (h : TK σ τ) : pN τ = pN σ := by unfold pN; rw [TK_k h (by decide)]
theorem TK_S {σ τ : am_S} (h : TK σ τ) : pS τ = pS σ := by unfold pS; rw [TK_k h (by decide)]
theorem TK_P {σ τ : am_S} (h : TK σ τ) : pP τ = pP σ := by unfold pP; rw [TK_S h, TK_o h (fun z => absurd z.1 (by decide))]
/-- what is kept while a person is told -/
abbrev tpI (σ0 σ : am_S) : Prop := sI BB SH tpM σ0 σ ∧ pT σ0 ≤ pT σ ∧ NZ σ0 σ ∧ pN σ = pN σ0 ∧ pS σ = pS σ0 ∧ pP σ = pP σ0
theorem tpI_TK {σ0 σ τ : am_S} (h : tpI σ0 σ) (g : TK σ τ) : tpI σ0 τ := ⟨TK_tp h.1 g, Int.le_trans h.2.1 g.2.1, NZ_t h.2.2.1 g.2.2, (TK_N g).trans h.2.2.2.1, (TK_S g).trans h.2.2.2.2.1, (TK_P g).trans h.2.2.2.2.2⟩
theorem tpI_at {σ0 σ : am_S} {o k : Nat} {x : Int32} (h : tpI σ0 σ) (ho : o = 62 ∨ o = 63 ∨ o = 64 ∨ o = 65) (hk : k < 10) : tpI σ0 (am_pi σ o k x) := by
  have n1 : ∀ o' i, o' ≠ o → (am_pi σ o k x).1 o' i = σ.1 o' i := fun o' i q => pi_n _ _ _ _ (fun z => q z.1)
  have e1 : ∀ i, (am_pi σ o k x).1 51 i = σ.1 51 i := fun i => n1 _ _ (by rcases ho with q | q | q | q <;> (rw [q]; decide))
  have eS : pS (am_pi σ o k x) = pS σ := by unfold pS; rw [e1]
  refine ⟨?_, by unfold pT; rw [e1]; exact h.2.1, NZ_t h.2.2.1 (NZ_of (e1 _) (e1 _)), by unfold pN; rw [e1]; exact h.2.2.2.1, eS.trans h.2.2.2.2.1, ?_⟩
  · have fx := ii_lo x
    have fy := ii_hi x
    rcases ho with rfl | rfl | rfl | rfl
    all_goals
      refine sI_arr (q := (0, 10)) h.1 rfl ?_ ⟨(_, 0, 10), by decide, rfl, Nat.zero_le _, hk⟩
      rw [sb_1 (q := (-2147483648, 2147483647)) rfl]
      exact ⟨fx, by show _ ≤ (2147483647 : Int); omega⟩
  · unfold pP
    rw [eS, n1 _ _ (by rcases ho with q | q | q | q <;> (rw [q]; decide))]
    exact h.2.2.2.2.2
abbrev tpR (σ τ : am_S) : Prop := sI BB SH tpM σ τ ∧ pT σ ≤ pT τ ∧ NZ σ τ ∧ pS τ = pS σ ∧ ((pN τ = pN σ ∧ pP τ = pP σ ∧ pF τ ≠ 0) ∨ (pN τ = pN σ + 1 ∧ pP τ = pP σ + 1))
theorem dX12_tellPerson_0 : decode cX12_tellPerson 0 = .ok (.iconst 5, 1) := dk_ok (by decide +kernel)
theorem dX12_tellPerson_1 : decode cX12_tellPerson 1 = .ok (.aload_n 0, 1) := dk_ok (by decide +kernel)
theorem dX12_tellPerson_2 : decode cX12_tellPerson 2 = .ok (.getfield 224, 3) := dk_ok (by decide +kernel)
theorem dX12_tellPerson_5 : decode cX12_tellPerson 5 = .ok (.imul, 1) := dk_ok (by decide +kernel)
theorem dX12_tellPerson_6 : decode cX12_tellPerson 6 = .ok (.aload_n 0, 1) := dk_ok (by decide +kernel)
theorem dX12_tellPerson_7 : decode cX12_tellPerson 7 = .ok (.getfield 46, 3) := dk_ok (by decide +kernel)
theorem dX12_tellPerson_10 : decode cX12_tellPerson 10 = .ok (.aload_n 0, 1) := dk_ok (by decide +kernel)
theorem dX12_tellPerson_11 : decode cX12_tellPerson 11 = .ok (.getfield 224, 3) := dk_ok (by decide +kernel)
theorem dX12_tellPerson_14 : decode cX12_tellPerson 14 = .ok (.iaload, 1) := dk_ok (by decide +kernel)
theorem dX12_tellPerson_15 : decode cX12_tellPerson 15 = .ok (.iadd, 1) := dk_ok (by decide +kernel)
theorem dX12_tellPerson_16 : decode cX12_tellPerson 16 = .ok (.istore_n 1, 1) := dk_ok (by decide +kernel)
theorem dX12_tellPerson_17 : decode cX12_tellPerson 17 = .ok (.aload_n 0, 1) := dk_ok (by decide +kernel)
theorem dX12_tellPerson_18 : decode cX12_tellPerson 18 = .ok (.getfield 194, 3) := dk_ok (by decide +kernel)
theorem dX12_tellPerson_21 : decode cX12_tellPerson 21 = .ok (.istore_n 2, 1) := dk_ok (by decide +kernel)
theorem dX12_tellPerson_22 : decode cX12_tellPerson 22 = .ok (.aload_n 0, 1) := dk_ok (by decide +kernel)
theorem dX12_tellPerson_23 : decode cX12_tellPerson 23 = .ok (.iconst 1, 1) := dk_ok (by decide +kernel)
theorem dX12_tellPerson_24 : decode cX12_tellPerson 24 = .ok (.invokevirtual 257, 3) := dk_ok (by decide +kernel)
theorem dX12_tellPerson_27 : decode cX12_tellPerson 27 = .ok (.iconst 0, 1) := dk_ok (by decide +kernel)
theorem dX12_tellPerson_28 : decode cX12_tellPerson 28 = .ok (.istore_n 3, 1) := dk_ok (by decide +kernel)
theorem dX12_tellPerson_29 : decode cX12_tellPerson 29 = .ok (.iload_n 3, 1) := dk_ok (by decide +kernel)
theorem dX12_tellPerson_30 : decode cX12_tellPerson 30 = .ok (.aload_n 0, 1) := dk_ok (by decide +kernel)
theorem dX12_tellPerson_31 : decode cX12_tellPerson 31 = .ok (.getfield 227, 3) := dk_ok (by decide +kernel)
theorem dX12_tellPerson_34 : decode cX12_tellPerson 34 = .ok (.if_icmp .ge 38, 3) := dk_ok (by decide +kernel)
theorem dX12_tellPerson_37 : decode cX12_tellPerson 37 = .ok (.aload_n 0, 1) := dk_ok (by decide +kernel)
theorem dX12_tellPerson_38 : decode cX12_tellPerson 38 = .ok (.getfield 191, 3) := dk_ok (by decide +kernel)
theorem dX12_tellPerson_41 : decode cX12_tellPerson 41 = .ok (.ifCond .ne 31, 3) := dk_ok (by decide +kernel)
theorem dX12_tellPerson_44 : decode cX12_tellPerson 44 = .ok (.aload_n 0, 1) := dk_ok (by decide +kernel)
theorem dX12_tellPerson_45 : decode cX12_tellPerson 45 = .ok (.getfield 40, 3) := dk_ok (by decide +kernel)
theorem dX12_tellPerson_48 : decode cX12_tellPerson 48 = .ok (.iload_n 3, 1) := dk_ok (by decide +kernel)
theorem dX12_tellPerson_49 : decode cX12_tellPerson 49 = .ok (.laload, 1) := dk_ok (by decide +kernel)
theorem dX12_tellPerson_50 : decode cX12_tellPerson 50 = .ok (.aload_n 0, 1) := dk_ok (by decide +kernel)
theorem dX12_tellPerson_51 : decode cX12_tellPerson 51 = .ok (.getfield 30, 3) := dk_ok (by decide +kernel)
theorem dX12_tellPerson_54 : decode cX12_tellPerson 54 = .ok (.iload_n 2, 1) := dk_ok (by decide +kernel)
theorem dX12_tellPerson_55 : decode cX12_tellPerson 55 = .ok (.laload, 1) := dk_ok (by decide +kernel)
theorem dX12_tellPerson_56 : decode cX12_tellPerson 56 = .ok (.lcmp, 1) := dk_ok (by decide +kernel)
theorem dX12_tellPerson_57 : decode cX12_tellPerson 57 = .ok (.ifCond .ne 9, 3) := dk_ok (by decide +kernel)
theorem dX12_tellPerson_60 : decode cX12_tellPerson 60 = .ok (.aload_n 0, 1) := dk_ok (by decide +kernel)
theorem dX12_tellPerson_61 : decode cX12_tellPerson 61 = .ok (.iconst 3, 1) := dk_ok (by decide +kernel)
theorem dX12_tellPerson_62 : decode cX12_tellPerson 62 = .ok (.iload_n 2, 1) := dk_ok (by decide +kernel)
theorem dX12_tellPerson_63 : decode cX12_tellPerson 63 = .ok (.invokevirtual 243, 3) := dk_ok (by decide +kernel)
theorem dX12_tellPerson_66 : decode cX12_tellPerson 66 = .ok (.iinc 3 1, 3) := dk_ok (by decide +kernel)
theorem dX12_tellPerson_69 : decode cX12_tellPerson 69 = .ok (.goto (-40), 3) := dk_ok (by decide +kernel)
theorem dX12_tellPerson_72 : decode cX12_tellPerson 72 = .ok (.aload_n 0, 1) := dk_ok (by decide +kernel)
theorem dX12_tellPerson_73 : decode cX12_tellPerson 73 = .ok (.getfield 49, 3) := dk_ok (by decide +kernel)
theorem dX12_tellPerson_76 : decode cX12_tellPerson 76 = .ok (.iload_n 1, 1) := dk_ok (by decide +kernel)
theorem dX12_tellPerson_77 : decode cX12_tellPerson 77 = .ok (.aload_n 0, 1) := dk_ok (by decide +kernel)
theorem dX12_tellPerson_78 : decode cX12_tellPerson 78 = .ok (.iconst 0, 1) := dk_ok (by decide +kernel)
theorem dX12_tellPerson_79 : decode cX12_tellPerson 79 = .ok (.bipush 11, 2) := dk_ok (by decide +kernel)
theorem dX12_tellPerson_81 : decode cX12_tellPerson 81 = .ok (.invokevirtual 253, 3) := dk_ok (by decide +kernel)
theorem dX12_tellPerson_84 : decode cX12_tellPerson 84 = .ok (.iastore, 1) := dk_ok (by decide +kernel)
theorem dX12_tellPerson_85 : decode cX12_tellPerson 85 = .ok (.aload_n 0, 1) := dk_ok (by decide +kernel)
theorem dX12_tellPerson_86 : decode cX12_tellPerson 86 = .ok (.getfield 52, 3) := dk_ok (by decide +kernel)
theorem dX12_tellPerson_89 : decode cX12_tellPerson 89 = .ok (.iload_n 1, 1) := dk_ok (by decide +kernel)
theorem dX12_tellPerson_90 : decode cX12_tellPerson 90 = .ok (.aload_n 0, 1) := dk_ok (by decide +kernel)
theorem dX12_tellPerson_91 : decode cX12_tellPerson 91 = .ok (.iconst 1, 1) := dk_ok (by decide +kernel)
theorem dX12_tellPerson_92 : decode cX12_tellPerson 92 = .ok (.bipush 9, 2) := dk_ok (by decide +kernel)
theorem dX12_tellPerson_94 : decode cX12_tellPerson 94 = .ok (.invokevirtual 253, 3) := dk_ok (by decide +kernel)
theorem dX12_tellPerson_97 : decode cX12_tellPerson 97 = .ok (.iastore, 1) := dk_ok (by decide +kernel)
theorem dX12_tellPerson_98 : decode cX12_tellPerson 98 = .ok (.aload_n 0, 1) := dk_ok (by decide +kernel)
theorem dX12_tellPerson_99 : decode cX12_tellPerson 99 = .ok (.getfield 55, 3) := dk_ok (by decide +kernel)
theorem dX12_tellPerson_102 : decode cX12_tellPerson 102 = .ok (.iload_n 1, 1) := dk_ok (by decide +kernel)
theorem dX12_tellPerson_103 : decode cX12_tellPerson 103 = .ok (.aload_n 0, 1) := dk_ok (by decide +kernel)
theorem dX12_tellPerson_104 : decode cX12_tellPerson 104 = .ok (.iconst 0, 1) := dk_ok (by decide +kernel)
theorem dX12_tellPerson_105 : decode cX12_tellPerson 105 = .ok (.bipush 9, 2) := dk_ok (by decide +kernel)
theorem dX12_tellPerson_107 : decode cX12_tellPerson 107 = .ok (.invokevirtual 253, 3) := dk_ok (by decide +kernel)
theorem dX12_tellPerson_110 : decode cX12_tellPerson 110 = .ok (.iastore, 1) := dk_ok (by decide +kernel)
theorem dX12_tellPerson_111 : decode cX12_tellPerson 111 = .ok (.aload_n 0, 1) := dk_ok (by decide +kernel)
theorem dX12_tellPerson_112 : decode cX12_tellPerson 112 = .ok (.getfield 58, 3) := dk_ok (by decide +kernel)
theorem dX12_tellPerson_115 : decode cX12_tellPerson 115 = .ok (.iload_n 1, 1) := dk_ok (by decide +kernel)
theorem dX12_tellPerson_116 : decode cX12_tellPerson 116 = .ok (.aload_n 0, 1) := dk_ok (by decide +kernel)
theorem dX12_tellPerson_117 : decode cX12_tellPerson 117 = .ok (.iconst 0, 1) := dk_ok (by decide +kernel)
theorem dX12_tellPerson_118 : decode cX12_tellPerson 118 = .ok (.bipush 9, 2) := dk_ok (by decide +kernel)
theorem dX12_tellPerson_120 : decode cX12_tellPerson 120 = .ok (.invokevirtual 253, 3) := dk_ok (by decide +kernel)
theorem dX12_tellPerson_123 : decode cX12_tellPerson 123 = .ok (.iastore, 1) := dk_ok (by decide +kernel)
theorem dX12_tellPerson_124 : decode cX12_tellPerson 124 = .ok (.aload_n 0, 1) := dk_ok (by decide +kernel)
theorem dX12_tellPerson_125 : decode cX12_tellPerson 125 = .ok (.iconst 4, 1) := dk_ok (by decide +kernel)
theorem dX12_tellPerson_126 : decode cX12_tellPerson 126 = .ok (.invokevirtual 257, 3) := dk_ok (by decide +kernel)
theorem dX12_tellPerson_129 : decode cX12_tellPerson 129 = .ok (.aload_n 0, 1) := dk_ok (by decide +kernel)
theorem dX12_tellPerson_130 : decode cX12_tellPerson 130 = .ok (.getfield 191, 3) := dk_ok (by decide +kernel)
theorem dX12_tellPerson_133 : decode cX12_tellPerson 133 = .ok (.ifCond .le 4, 3) := dk_ok (by decide +kernel)
theorem dX12_tellPerson_136 : decode cX12_tellPerson 136 = .ok (.return_, 1) := dk_ok (by decide +kernel)
theorem dX12_tellPerson_137 : decode cX12_tellPerson 137 = .ok (.aload_n 0, 1) := dk_ok (by decide +kernel)
theorem dX12_tellPerson_138 : decode cX12_tellPerson 138 = .ok (.getfield 40, 3) := dk_ok (by decide +kernel)
theorem dX12_tellPerson_141 : decode cX12_tellPerson 141 = .ok (.aload_n 0, 1) := dk_ok (by decide +kernel)
theorem dX12_tellPerson_142 : decode cX12_tellPerson 142 = .ok (.getfield 227, 3) := dk_ok (by decide +kernel)
theorem dX12_tellPerson_145 : decode cX12_tellPerson 145 = .ok (.aload_n 0, 1) := dk_ok (by decide +kernel)
theorem dX12_tellPerson_146 : decode cX12_tellPerson 146 = .ok (.getfield 30, 3) := dk_ok (by decide +kernel)
theorem dX12_tellPerson_149 : decode cX12_tellPerson 149 = .ok (.iload_n 2, 1) := dk_ok (by decide +kernel)
theorem dX12_tellPerson_150 : decode cX12_tellPerson 150 = .ok (.laload, 1) := dk_ok (by decide +kernel)
theorem dX12_tellPerson_151 : decode cX12_tellPerson 151 = .ok (.lastore, 1) := dk_ok (by decide +kernel)
theorem dX12_tellPerson_152 : decode cX12_tellPerson 152 = .ok (.aload_n 0, 1) := dk_ok (by decide +kernel)
theorem dX12_tellPerson_153 : decode cX12_tellPerson 153 = .ok (.dup, 1) := dk_ok (by decide +kernel)
theorem dX12_tellPerson_154 : decode cX12_tellPerson 154 = .ok (.getfield 227, 3) := dk_ok (by decide +kernel)
theorem dX12_tellPerson_157 : decode cX12_tellPerson 157 = .ok (.iconst 1, 1) := dk_ok (by decide +kernel)
theorem dX12_tellPerson_158 : decode cX12_tellPerson 158 = .ok (.iadd, 1) := dk_ok (by decide +kernel)
theorem dX12_tellPerson_159 : decode cX12_tellPerson 159 = .ok (.putfield 227, 3) := dk_ok (by decide +kernel)
theorem dX12_tellPerson_162 : decode cX12_tellPerson 162 = .ok (.aload_n 0, 1) := dk_ok (by decide +kernel)
theorem dX12_tellPerson_163 : decode cX12_tellPerson 163 = .ok (.getfield 46, 3) := dk_ok (by decide +kernel)
theorem dX12_tellPerson_166 : decode cX12_tellPerson 166 = .ok (.aload_n 0, 1) := dk_ok (by decide +kernel)
theorem dX12_tellPerson_167 : decode cX12_tellPerson 167 = .ok (.getfield 224, 3) := dk_ok (by decide +kernel)
theorem dX12_tellPerson_170 : decode cX12_tellPerson 170 = .ok (.dup2, 1) := dk_ok (by decide +kernel)
theorem dX12_tellPerson_171 : decode cX12_tellPerson 171 = .ok (.iaload, 1) := dk_ok (by decide +kernel)
theorem dX12_tellPerson_172 : decode cX12_tellPerson 172 = .ok (.iconst 1, 1) := dk_ok (by decide +kernel)
theorem dX12_tellPerson_173 : decode cX12_tellPerson 173 = .ok (.iadd, 1) := dk_ok (by decide +kernel)
theorem dX12_tellPerson_174 : decode cX12_tellPerson 174 = .ok (.iastore, 1) := dk_ok (by decide +kernel)
theorem dX12_tellPerson_175 : decode cX12_tellPerson 175 = .ok (.return_, 1) := dk_ok (by decide +kernel)

def sX12_tellPerson : am_Sp := fun as n σ post => n = 92 ∧ sb_ok BB SH σ ∧ pN σ ≤ 4 ∧ pP σ ≤ 4 ∧ as = [.ref 51] ∧ ∀ τ, tpR σ τ → post none τ
def tpl (k t n : Int) : List (Option Value) := [some (.ref 51), some (.int (Int32.ofInt k)), some (.int (Int32.ofInt t)), some (.int (Int32.ofInt n))]
/-! THE REFERENCE'S READER: what stands between two sentences; a sentence. Printed from wip/am/chk/hand/to.in. -/
/-- the cells of the half that lives, and the class -/
abbrev kp (S : Int) (o i : Nat) : Prop := o < 51 ∨ (o = 51 ∧ i = 18) ∨ (o = 60 ∧ (i : Int) = 1 - S) ∨ ((o = 67 ∨ o = 68) ∧ 4 * (1 - S) ≤ (i : Int) ∧ (i : Int) < 4 * (1 - S) + 4) ∨ (69 ≤ o ∧ o ≤ 73 ∧ 130 * (1 - S) ≤ (i : Int) ∧ (i : Int) < 130 * (1 - S) + 130) ∨ ((o = 74 ∨ o = 75) ∧ 420 * (1 - S) ≤ (i : Int) ∧ (i : Int) < 420 * (1 - S) + 420)
def rK (S : Int) (σ τ : am_S) : Prop := ∀ o i, kp S o i → τ.1 o i = σ.1 o i ∧ (o < 51 → τ.2 o i = σ.2 o i)
theorem rK_t {S : Int} {σ τ υ : am_S} (h : rK S σ τ) (g : rK S τ υ) : rK S σ υ := fun o i q => ⟨(g o i q).1.trans (h o i q).1, fun z => ((g o i q).2 z).trans ((h o i q).2 z)⟩
theorem rK_fr {S : Int} {M : sa_M} {σ τ : am_S} (h : sb_fr M σ τ) (hM : ∀ o i, kp S o i → ∀ m ∈ M, ¬ (m.1 = o ∧ m.2.1 ≤ i ∧ i < m.2.2)) : rK S σ τ := fun o i q => ⟨(h o i (hM o i q)).1, fun _ => (h o i (hM o i q)).2⟩
/-- the laws told anew -/
def lwN (S : Int) (σ : am_S) : Prop := ∀ k : Nat, k < 4 → ∀ b : Nat, (σ.1 67 (4 * S.toNat + k)).toInt ≤ (b : Int) → (b : Int) < (σ.1 68 (4 * S.toNat + k)).toInt → (b : Int) < pB σ ∧ JbC σ S b
theorem JbC_eq {σ τ : am_S} {S : Int} {b : Nat} (h : ∀ o i, 69 ≤ o → o ≤ 75 → τ.1 o i = σ.1 o i) (hc : pC σ ≤ pC τ) (hj : JbC σ S b) : JbC τ S b := by
  obtain ⟨⟨g0, g1, g2⟩, g3⟩ := hj
  have ec : τ.1 74 = σ.1 74 := funext fun i => h _ i (by decide) (by decide)
  have e1 := h 69 b (by decide) (by decide)
  have e2 := h 70 b (by decide) (by decide)
  have e3 := h 71 b (by decide) (by decide)
  have e4 := h 72 b (by decide) (by decide)
  have e5 := h 73 b (by decide) (by decide)
  refine ⟨⟨g0, fun hn => ?_, ?_⟩, by rw [e5]; omega⟩
  · rw [e1] at hn
    rw [e2, e3, e4]
    exact ⟨Jpost_of ec (g1 hn).1, Jpost_of ec (g1 hn).2⟩
  · rw [e4, e5]; exact Jpost_of ec g2
abbrev rG (S : Int) (σ : am_S) : Prop := pF σ = 0 → pX σ = 0 → 1 ≤ (σ.1 60 S.toNat).toInt ∧ (σ.1 60 S.toNat).toInt ≤ 12
/-- between two sentences -/
abbrev rdI (S : Int) (σ0 σ : am_S) : Prop := sb_ok BB SH σ ∧ rK S σ0 σ ∧ Jcd σ ∧ lwN S σ ∧ (pS σ = S ∧ σ.1 51 2 = 0 ∧ pN σ = pP σ) ∧ (420 * S ≤ pC σ ∧ pC σ ≤ pT σ + 420 * S + 1) ∧ (130 * S ≤ pB σ ∧ pB σ ≤ 130 * S + 105) ∧ (pF σ = 0 → pO σ = 0 ∧ pC σ ≤ pT σ + 420 * S ∧ 4 * (pB σ - 130 * S) ≤ pT σ) ∧ rG S σ
def rdM (S : Int) : sa_M := tpM ++ [(60, S.toNat, S.toNat + 1), (66, 0, 2)]
theorem rdM_n {S : Int} {o i : Nat} (h1 : ¬ (o = 51 ∧ (i = 11 ∨ (13 ≤ i ∧ i < 13 + 4) ∨ i = 20))) (h2 : ¬ (62 ≤ o ∧ o ≤ 65) ∧ o ≠ 59 ∧ o ≠ 61 ∧ o ≠ 66) (h3 : ¬ (o = 60 ∧ i = S.toNat)) : ∀ m ∈ rdM S, ¬ (m.1 = o ∧ m.2.1 ≤ i ∧ i < m.2.2) := by
  intro m hm hh
  simp only [rdM, tpM, List.cons_append, List.nil_append, List.mem_cons, List.not_mem_nil, or_false] at hm
  rcases hm with rfl | rfl | rfl | rfl | rfl | rfl | rfl | rfl | rfl | rfl | rfl <;> simp only at hh <;> omega
theorem rdI_go {S : Int} {σ0 σ τ : am_S} (h : rdI S σ0 σ) (hS : 0 ≤ S ∧ S ≤ 1) (hB : sb_ok BB SH τ) (hf : sb_fr (rdM S) σ τ) (ht : pT σ ≤ pT τ) (hz : NZ σ τ) (hn : pN τ = pP τ) (hg : rG S τ) : rdI S σ0 τ := by
  obtain ⟨g1, g2, g3, g4, ⟨g5, g6, g7⟩, g8, g9, g10, g11⟩ := h
  have en : ∀ o i, 67 ≤ o → o ≤ 75 → τ.1 o i = σ.1 o i := fun o i q1 q2 => (hf o i (rdM_n (by omega) (by omega) (by omega))).1
  have ef : ∀ i, i ≠ 11 → ¬ (13 ≤ i ∧ i < 13 + 4) → i ≠ 20 → τ.1 51 i = σ.1 51 i := fun i q1 q2 q3 => (hf _ i (rdM_n (by omega) (by omega) (by omega))).1
  have eS : pS τ = pS σ := by unfold pS; rw [ef _ (by decide) (by decide) (by decide)]
  have eC : pC τ = pC σ := by unfold pC; rw [ef _ (by decide) (by decide) (by decide)]
  have eB : pB τ = pB σ := by unfold pB; rw [ef _ (by decide) (by decide) (by decide)]
  have eO : pO τ = pO σ := by unfold pO; rw [ef _ (by decide) (by decide) (by decide)]
  refine ⟨hB, rK_t g2 (rK_fr hf (fun o i q => rdM_n (by omega) (by omega) (by omega))), fun i hi hc => ?_, fun k hk b hb1 hb2 => ?_, ⟨by omega, by rw [ef _ (by decide) (by decide) (by decide)]; exact g6, hn⟩, by omega, by omega, fun z => ?_, hg⟩
  · rw [en _ _ (by decide) (by decide)] at hc
    rw [en _ _ (by decide) (by decide)]
    exact g3 i hi hc
  · rw [en _ _ (by decide) (by decide)] at hb1 hb2
    obtain ⟨q1, q2⟩ := g4 k hk b hb1 hb2
    exact ⟨by omega, JbC_eq (fun o i a c => en o i (by omega) c) (by omega) q2⟩
  · have z0 : pF σ = 0 := Classical.byContradiction (fun q => hz.1 q z)
    obtain ⟨q1, q2, q3⟩ := g10 z0
    omega
theorem rG_of {S : Int} {σ τ : am_S} (h : rG S σ) (hz : NZ σ τ) (e : τ.1 60 S.toNat = σ.1 60 S.toNat) : rG S τ := fun z1 z2 => by
  rw [e]
  exact h (Classical.byContradiction (fun q => hz.1 q z1)) (Classical.byContradiction (fun q => hz.2 q z2))
theorem rdI_TK {S : Int} {σ0 σ τ : am_S} (h : rdI S σ0 σ) (hS : 0 ≤ S ∧ S ≤ 1) (g : TK σ τ) : rdI S σ0 τ :=
  rdI_go h hS g.1.1 (fr_m (fun m hm => List.mem_append_left _ ((by decide : ∀ m ∈ TKm, m ∈ tpM) m hm)) g.1.2) g.2.1 g.2.2 (by rw [TK_N g, TK_P g]; exact h.2.2.2.2.1.2.2) (rG_of h.2.2.2.2.2.2.2.2 g.2.2 (TK_o g (fun z => absurd z.1 (by decide))))
theorem rdI_tp {S : Int} {σ0 σ τ : am_S} (h : rdI S σ0 σ) (hS : 0 ≤ S ∧ S ≤ 1) (g : tpR σ τ) : rdI S σ0 τ := by
  obtain ⟨a1, a2, a3, a4, a5⟩ := g
  have hn := h.2.2.2.2.1.2.2
  refine rdI_go h hS a1.1 (fr_m (fun m hm => List.mem_append_left _ hm) a1.2) a2 a3 (by omega) (rG_of h.2.2.2.2.2.2.2.2 a3 (a1.2 _ _ ?_).1)
  have q : ∀ m ∈ tpM, m.1 ≠ 60 := by decide
  exact fun m hm hh => q m hm hh.1
theorem rdI_at {S : Int} {σ0 σ : am_S} {o : Nat} {x : Int32} (h : rdI S σ0 σ) (hS : 0 ≤ S ∧ S ≤ 1) (ho : o = 60 ∧ (pF σ = 0 → pX σ = 0 → 1 ≤ x.toInt ∧ x.toInt ≤ 12) ∨ o = 66) : rdI S σ0 (am_pi σ o S.toNat x) ∧ pT (am_pi σ o S.toNat x) = pT σ ∧ pF (am_pi σ o S.toNat x) = pF σ := by
  have e : ∀ o' i, o' ≠ o → (am_pi σ o S.toNat x).1 o' i = σ.1 o' i := fun o' i q => pi_n _ _ _ _ (fun z => q z.1)
  have ho' : o = 60 ∨ o = 66 := by rcases ho with q | q; exact Or.inl q.1; exact Or.inr q
  have ef : ∀ i, (am_pi σ o S.toNat x).1 51 i = σ.1 51 i := fun i => e _ _ (by omega)
  have eT : pT (am_pi σ o S.toNat x) = pT σ := by unfold pT; rw [ef]
  have eF : pF (am_pi σ o S.toNat x) = pF σ := by unfold pF; rw [ef]
  have eX : pX (am_pi σ o S.toNat x) = pX σ := by unfold pX; rw [ef]
  have hI : sI BB SH (rdM S) σ (am_pi σ o S.toNat x) := by
    have x1 := ii_lo x
    have x2 := ii_hi x
    rcases ho' with rfl | rfl
    · refine sI_arr (q := (0, 2)) ⟨h.1, sb_fr_r _ _⟩ rfl (by rw [sb_1 (q := (-2147483648, 2147483647)) rfl]; exact ⟨x1, by show _ ≤ (2147483647 : Int); omega⟩) ⟨(_, S.toNat, S.toNat + 1), List.mem_append_right _ List.mem_cons_self, rfl, Nat.le_refl _, Nat.lt_succ_self _⟩
    · refine sI_arr (q := (0, 2)) ⟨h.1, sb_fr_r _ _⟩ rfl (by rw [sb_1 (q := (-2147483648, 2147483647)) rfl]; exact ⟨x1, by show _ ≤ (2147483647 : Int); omega⟩) ⟨(_, 0, 2), List.mem_append_right _ (List.mem_cons_of_mem _ List.mem_cons_self), rfl, Nat.zero_le _, by show S.toNat < 2; omega⟩
  refine ⟨rdI_go h hS hI.1 hI.2 (by omega) (NZ_of (ef _) (ef _)) ?_ ?_, eT, eF⟩
  · have : pP (am_pi σ o S.toNat x) = pP σ := by unfold pP pS; rw [ef, e _ _ (by omega)]
    rw [this]
    have : pN (am_pi σ o S.toNat x) = pN σ := by unfold pN; rw [ef]
    rw [this]
    exact h.2.2.2.2.1.2.2
  · rcases ho with ⟨rfl, q⟩ | rfl
    · intro z1 z2
      rw [pi_s]
      exact q (by omega) (by omega)
    · exact rG_of h.2.2.2.2.2.2.2.2 (NZ_of (ef _) (ef _)) (e _ _ (by decide))
theorem rdI_lwF {S : Int} {σ0 σ υ : am_S} (h : rdI S σ0 σ) (hS : 0 ≤ S ∧ S ≤ 1) (hl : lwF σ υ) (hB : sb_ok BB SH υ) (h1 : pB υ ≤ pB σ + 5) (h2 : pB σ ≤ 130 * S + 100) (h3 : pC υ ≤ pT υ + 420 * S + 1) (hF : pF υ = 0 → pO υ = 0 ∧ pC υ ≤ pT υ + 420 * S ∧ 4 * (pB υ - 130 * S) ≤ pT υ) : rdI S σ0 υ := by
  obtain ⟨g1, g2, g3, g4, ⟨g5, g6, g7⟩, g8, g9, g10, g11⟩ := h
  obtain ⟨l1, l2, l3, l4, l5, l6, l7, l8⟩ := id hl
  have tb := pT_b hB
  have hS' : S = 0 ∨ S = 1 := by omega
  have lA : ∀ o, lwA o = true ↔ (69 ≤ o ∧ o ≤ 73) := by
    intro o
    unfold lwA
    simp only [Bool.or_eq_true, beq_iff_eq]
    omega
  have en : ∀ o i, o ≠ 51 → ¬ (69 ≤ o ∧ o ≤ 76) → υ.1 o i = σ.1 o i := fun o i q1 q2 => l1 o i (by omega) (by omega) (by omega) (fun z => q1 z.1) (fun z => by have := (lA o).mp z.1; omega)
  have ef : ∀ i, lwK i = false → υ.1 51 i = σ.1 51 i := fun i q => l1 _ i (by decide) (by decide) (by decide) (fun z => by rw [q] at z; cases z.2) (fun z => absurd z.1 (by decide))
  have eS : pS υ = pS σ := lwF_S hl
  have ec : ∀ o i : Nat, (o = 74 ∨ o = 75) → ((i : Int) < pC σ ∨ pC υ ≤ (i : Int)) → υ.1 o i = σ.1 o i := by
    intro o i ho hi
    have q := l3 i hi
    rcases ho with rfl | rfl
    · exact Int32.toInt_inj.mp q.1
    · exact Int32.toInt_inj.mp q.2
  refine ⟨hB, rK_t g2 (fun o i q => ⟨?_, fun z => l2 o i (by omega)⟩), fun i hi hc => ?_, fun k hk b hb1 hb2 => ?_, ⟨by omega, by rw [ef _ (by decide)]; exact g6, ?_⟩, by omega, by omega, hF, rG_of g11 l7 (en _ _ (by decide) (by decide))⟩
  · rcases q with q | q | q | q | q | q
    · exact en o i (by omega) (by omega)
    · obtain ⟨rfl, rfl⟩ := q
      exact ef _ (by decide)
    · exact en o i (by omega) (by omega)
    · exact en o i (by omega) (by omega)
    · refine l1 o i (by omega) (by omega) (by omega) (fun z => by omega) (fun z => ?_)
      rcases hS' with rfl | rfl <;> omega
    · refine ec o i q.1 ?_
      rcases hS' with rfl | rfl <;> omega
  · by_cases q : (i : Int) < pC σ ∨ pC υ ≤ (i : Int)
    · rw [ec _ _ (Or.inl rfl) q] at hc
      rw [ec _ _ (Or.inr rfl) q]
      exact g3 i hi hc
    · exact l4 i (by omega) (by omega) hc
  · rw [en _ _ (by decide) (by decide)] at hb1 hb2
    obtain ⟨q1, q2⟩ := g4 k hk b hb1 hb2
    exact ⟨by omega, JbC_lw hl hS.1 q1 q2⟩
  · have a1 : pN υ = pN σ := by unfold pN; rw [ef _ (by decide)]
    have a2 : pP υ = pP σ := by unfold pP; rw [eS, en _ _ (by decide) (by decide)]
    omega
theorem lwS_o {υ : am_S} {k f : Int} {o i : Nat} (h : ¬ ((o = 67 ∨ o = 68) ∧ i = (4 * pS υ + k).toNat)) : (lwS υ k f).1 o i = υ.1 o i := by
  unfold lwS
  rw [pi_n _ _ _ _ (fun z => h ⟨Or.inr z.1, z.2⟩), pi_n _ _ _ _ (fun z => h ⟨Or.inl z.1, z.2⟩)]
theorem rdI_lwS {S : Int} {σ0 υ : am_S} {k f : Int} (h : rdI S σ0 υ) (hS : 0 ≤ S ∧ S ≤ 1) (hk : 0 ≤ k ∧ k ≤ 3) (hf : 0 ≤ f ∧ f ≤ pB υ) (hn : ∀ b : Nat, f ≤ (b : Int) → (b : Int) < pB υ → JbC υ S b) : rdI S σ0 (lwS υ k f) ∧ pT (lwS υ k f) = pT υ := by
  obtain ⟨g1, g2, g3, g4, ⟨g5, g6, g7⟩, g8, g9, g10, g11⟩ := h
  have bb := pB_b g1
  have hS' : S = 0 ∨ S = 1 := by omega
  have e : ∀ o i, o ≠ 67 → o ≠ 68 → (lwS υ k f).1 o i = υ.1 o i := fun o i q1 q2 => lwS_o (fun z => by omega)
  have eC : pC (lwS υ k f) = pC υ := by unfold pC; rw [e _ _ (by decide) (by decide)]
  have eB : pB (lwS υ k f) = pB υ := by unfold pB; rw [e _ _ (by decide) (by decide)]
  have eT : pT (lwS υ k f) = pT υ := by unfold pT; rw [e _ _ (by decide) (by decide)]
  have eF : pF (lwS υ k f) = pF υ := by unfold pF; rw [e _ _ (by decide) (by decide)]
  have eO : pO (lwS υ k f) = pO υ := by unfold pO; rw [e _ _ (by decide) (by decide)]
  have eS : pS (lwS υ k f) = pS υ := by unfold pS; rw [e _ _ (by decide) (by decide)]
  have eN : pN (lwS υ k f) = pN υ := by unfold pN; rw [e _ _ (by decide) (by decide)]
  have eP : pP (lwS υ k f) = pP υ := by unfold pP; rw [eS, e _ _ (by decide) (by decide)]
  have hI : sI BB SH [(67, 0, 8), (68, 0, 8)] υ (lwS υ k f) := by
    unfold lwS
    refine sI_arr (q := (0, 8)) (sI_arr (q := (0, 8)) ⟨g1, sb_fr_r _ _⟩ rfl ?_ ⟨_, List.mem_cons_self, rfl, Nat.zero_le _, ?_⟩) rfl ?_ ⟨_, List.mem_cons_of_mem _ List.mem_cons_self, rfl, Nat.zero_le _, ?_⟩
    · rw [sb_1 (q := (0, 260)) rfl, ii_t (by omega) (by omega)]; exact ⟨by show (0 : Int) ≤ _; omega, by show _ ≤ (260 : Int); omega⟩
    · show (4 * pS υ + k).toNat < 8; omega
    · rw [sb_1 (q := (0, 260)) rfl, ii_t (by omega) (by omega)]; exact ⟨by show (0 : Int) ≤ _; omega, by show _ ≤ (260 : Int); omega⟩
    · show (4 * pS υ + k).toNat < 8; omega
  refine ⟨⟨hI.1, rK_t g2 (fun o i q => ⟨lwS_o (fun z => ?_), fun _ => rfl⟩), fun i hi hc => ?_, fun k' hk' b hb1 hb2 => ?_, ⟨by omega, by rw [e _ _ (by decide) (by decide)]; exact g6, by omega⟩, by omega, by omega, fun z => ?_, rG_of g11 (NZ_of (e _ _ (by decide) (by decide)) (e _ _ (by decide) (by decide))) (e _ _ (by decide) (by decide))⟩, eT⟩
  · rcases hS' with rfl | rfl <;> omega
  · rw [e _ _ (by decide) (by decide)] at hc
    rw [e _ _ (by decide) (by decide)]
    exact g3 i hi hc
  · have tr : ∀ {b : Nat}, JbC υ S b → JbC (lwS υ k f) S b := fun q => JbC_eq (fun o i a c => e o i (by omega) (by omega)) (by omega) q
    by_cases q : k' = k.toNat
    · have ei : 4 * S.toNat + k' = (4 * pS υ + k).toNat := by omega
      rw [ei] at hb1 hb2
      have e1 : (lwS υ k f).1 67 (4 * pS υ + k).toNat = Int32.ofInt f := by unfold lwS; rw [pi_n _ _ _ _ (fun z => absurd z.1 (by decide)), pi_s]
      have e2 : (lwS υ k f).1 68 (4 * pS υ + k).toNat = Int32.ofInt (pB υ) := by unfold lwS; rw [pi_s]
      rw [e1, ii_t (by omega) (by omega)] at hb1
      rw [e2, ii_t (by omega) (by omega)] at hb2
      exact ⟨by omega, tr (hn b hb1 hb2)⟩
    · rw [lwS_o (fun z => by omega)] at hb1 hb2
      obtain ⟨q1, q2⟩ := g4 k' hk' b hb1 hb2
      exact ⟨by omega, tr q2⟩
  · rw [eF] at z
    obtain ⟨q1, q2, q3⟩ := g10 z
    omega
theorem rdI_law {S k : Int} {σ0 σ τ : am_S} (h : rdI S σ0 σ) (hS : 0 ≤ S ∧ S ≤ 1) (hk : 0 ≤ k ∧ k ≤ 3) (hC : pC σ ≤ pT σ + 420 * S) (hB4 : pB σ ≤ 130 * S + 100) (hB5 : pF σ = 0 → 4 * (pB σ - 130 * S) + 1 ≤ pT σ) (hR : tlR k σ τ) : rdI S σ0 τ ∧ pT σ ≤ pT τ ∧ NZ σ τ := by
  obtain ⟨υ, r1, r2, r3, r4, r5⟩ := hR
  have ht := r2.2.2.2.2.2.1
  have hz := r2.2.2.2.2.2.2.1
  have b0 := pB_b h.1
  have l8 := r2.2.2.2.2.2.2.2
  have hu : rdI S σ0 υ := rdI_lwF h hS r2 r1 r3 hB4 (by omega) (fun z => by
    have z0 : pF σ = 0 := Classical.byContradiction (fun q => hz.1 q z)
    have := hB5 z0
    rcases r5 with ⟨q, _⟩ | ⟨q1, q2, q3, q4, _⟩
    · exact absurd z q
    · exact ⟨q2, by omega, by omega⟩)
  rcases r5 with ⟨_, rfl⟩ | ⟨q1, q2, q3, q4, q5, rfl⟩
  · exact ⟨hu, ht, hz⟩
  · have eS : pS σ = S := h.2.2.2.2.1.1
    have w := rdI_lwS (k := k) (f := pB σ) hu hS hk (by omega) (by rw [eS] at q5; exact q5)
    exact ⟨w.1, by omega, NZ_t hz (NZ_of (lwS_o (fun z => by omega)) (lwS_o (fun z => by omega)))⟩
theorem dX12_tellOne_0 : decode cX12_tellOne 0 = .ok (.aload_n 0, 1) := dk_ok (by decide +kernel)
theorem dX12_tellOne_1 : decode cX12_tellOne 1 = .ok (.getfield 20, 3) := dk_ok (by decide +kernel)
theorem dX12_tellOne_4 : decode cX12_tellOne 4 = .ok (.aload_n 0, 1) := dk_ok (by decide +kernel)
theorem dX12_tellOne_5 : decode cX12_tellOne 5 = .ok (.getfield 194, 3) := dk_ok (by decide +kernel)
theorem dX12_tellOne_8 : decode cX12_tellOne 8 = .ok (.iaload, 1) := dk_ok (by decide +kernel)
theorem dX12_tellOne_9 : decode cX12_tellOne 9 = .ok (.lookupswitch 120 #[(20, 35), (21, 63), (26, 91)], 35) := dk_ok (by decide +kernel)
theorem dX12_tellOne_44 : decode cX12_tellOne 44 = .ok (.aload_n 0, 1) := dk_ok (by decide +kernel)
theorem dX12_tellOne_45 : decode cX12_tellOne 45 = .ok (.invokevirtual 212, 3) := dk_ok (by decide +kernel)
theorem dX12_tellOne_48 : decode cX12_tellOne 48 = .ok (.aload_n 0, 1) := dk_ok (by decide +kernel)
theorem dX12_tellOne_49 : decode cX12_tellOne 49 = .ok (.getfield 43, 3) := dk_ok (by decide +kernel)
theorem dX12_tellOne_52 : decode cX12_tellOne 52 = .ok (.aload_n 0, 1) := dk_ok (by decide +kernel)
theorem dX12_tellOne_53 : decode cX12_tellOne 53 = .ok (.getfield 224, 3) := dk_ok (by decide +kernel)
theorem dX12_tellOne_56 : decode cX12_tellOne 56 = .ok (.aload_n 0, 1) := dk_ok (by decide +kernel)
theorem dX12_tellOne_57 : decode cX12_tellOne 57 = .ok (.iconst 1, 1) := dk_ok (by decide +kernel)
theorem dX12_tellOne_58 : decode cX12_tellOne 58 = .ok (.bipush 12, 2) := dk_ok (by decide +kernel)
theorem dX12_tellOne_60 : decode cX12_tellOne 60 = .ok (.invokevirtual 253, 3) := dk_ok (by decide +kernel)
theorem dX12_tellOne_63 : decode cX12_tellOne 63 = .ok (.iastore, 1) := dk_ok (by decide +kernel)
theorem dX12_tellOne_64 : decode cX12_tellOne 64 = .ok (.aload_n 0, 1) := dk_ok (by decide +kernel)
theorem dX12_tellOne_65 : decode cX12_tellOne 65 = .ok (.iconst 4, 1) := dk_ok (by decide +kernel)
theorem dX12_tellOne_66 : decode cX12_tellOne 66 = .ok (.invokevirtual 257, 3) := dk_ok (by decide +kernel)
theorem dX12_tellOne_69 : decode cX12_tellOne 69 = .ok (.goto 113, 3) := dk_ok (by decide +kernel)
theorem dX12_tellOne_72 : decode cX12_tellOne 72 = .ok (.aload_n 0, 1) := dk_ok (by decide +kernel)
theorem dX12_tellOne_73 : decode cX12_tellOne 73 = .ok (.aload_n 0, 1) := dk_ok (by decide +kernel)
theorem dX12_tellOne_74 : decode cX12_tellOne 74 = .ok (.getfield 46, 3) := dk_ok (by decide +kernel)
theorem dX12_tellOne_77 : decode cX12_tellOne 77 = .ok (.aload_n 0, 1) := dk_ok (by decide +kernel)
theorem dX12_tellOne_78 : decode cX12_tellOne 78 = .ok (.getfield 224, 3) := dk_ok (by decide +kernel)
theorem dX12_tellOne_81 : decode cX12_tellOne 81 = .ok (.iaload, 1) := dk_ok (by decide +kernel)
theorem dX12_tellOne_82 : decode cX12_tellOne 82 = .ok (.iconst 5, 1) := dk_ok (by decide +kernel)
theorem dX12_tellOne_83 : decode cX12_tellOne 83 = .ok (.invokevirtual 260, 3) := dk_ok (by decide +kernel)
theorem dX12_tellOne_86 : decode cX12_tellOne 86 = .ok (.aload_n 0, 1) := dk_ok (by decide +kernel)
theorem dX12_tellOne_87 : decode cX12_tellOne 87 = .ok (.getfield 191, 3) := dk_ok (by decide +kernel)
theorem dX12_tellOne_90 : decode cX12_tellOne 90 = .ok (.ifCond .ne 92, 3) := dk_ok (by decide +kernel)
theorem dX12_tellOne_93 : decode cX12_tellOne 93 = .ok (.aload_n 0, 1) := dk_ok (by decide +kernel)
theorem dX12_tellOne_94 : decode cX12_tellOne 94 = .ok (.invokevirtual 263, 3) := dk_ok (by decide +kernel)
theorem dX12_tellOne_97 : decode cX12_tellOne 97 = .ok (.goto 85, 3) := dk_ok (by decide +kernel)
theorem dX12_tellOne_100 : decode cX12_tellOne 100 = .ok (.aload_n 0, 1) := dk_ok (by decide +kernel)
theorem dX12_tellOne_101 : decode cX12_tellOne 101 = .ok (.invokevirtual 212, 3) := dk_ok (by decide +kernel)
theorem dX12_tellOne_104 : decode cX12_tellOne 104 = .ok (.aload_n 0, 1) := dk_ok (by decide +kernel)
theorem dX12_tellOne_105 : decode cX12_tellOne 105 = .ok (.getfield 61, 3) := dk_ok (by decide +kernel)
theorem dX12_tellOne_108 : decode cX12_tellOne 108 = .ok (.aload_n 0, 1) := dk_ok (by decide +kernel)
theorem dX12_tellOne_109 : decode cX12_tellOne 109 = .ok (.getfield 224, 3) := dk_ok (by decide +kernel)
theorem dX12_tellOne_112 : decode cX12_tellOne 112 = .ok (.aload_n 0, 1) := dk_ok (by decide +kernel)
theorem dX12_tellOne_113 : decode cX12_tellOne 113 = .ok (.iconst 0, 1) := dk_ok (by decide +kernel)
theorem dX12_tellOne_114 : decode cX12_tellOne 114 = .ok (.sipush 9999, 3) := dk_ok (by decide +kernel)
theorem dX12_tellOne_117 : decode cX12_tellOne 117 = .ok (.invokevirtual 253, 3) := dk_ok (by decide +kernel)
theorem dX12_tellOne_120 : decode cX12_tellOne 120 = .ok (.iastore, 1) := dk_ok (by decide +kernel)
theorem dX12_tellOne_121 : decode cX12_tellOne 121 = .ok (.aload_n 0, 1) := dk_ok (by decide +kernel)
theorem dX12_tellOne_122 : decode cX12_tellOne 122 = .ok (.iconst 4, 1) := dk_ok (by decide +kernel)
theorem dX12_tellOne_123 : decode cX12_tellOne 123 = .ok (.invokevirtual 257, 3) := dk_ok (by decide +kernel)
theorem dX12_tellOne_126 : decode cX12_tellOne 126 = .ok (.goto 56, 3) := dk_ok (by decide +kernel)
theorem dX12_tellOne_129 : decode cX12_tellOne 129 = .ok (.aload_n 0, 1) := dk_ok (by decide +kernel)
theorem dX12_tellOne_130 : decode cX12_tellOne 130 = .ok (.getfield 20, 3) := dk_ok (by decide +kernel)
theorem dX12_tellOne_133 : decode cX12_tellOne 133 = .ok (.aload_n 0, 1) := dk_ok (by decide +kernel)
theorem dX12_tellOne_134 : decode cX12_tellOne 134 = .ok (.getfield 194, 3) := dk_ok (by decide +kernel)
theorem dX12_tellOne_137 : decode cX12_tellOne 137 = .ok (.iaload, 1) := dk_ok (by decide +kernel)
theorem dX12_tellOne_138 : decode cX12_tellOne 138 = .ok (.bipush 22, 2) := dk_ok (by decide +kernel)
theorem dX12_tellOne_140 : decode cX12_tellOne 140 = .ok (.isub, 1) := dk_ok (by decide +kernel)
theorem dX12_tellOne_141 : decode cX12_tellOne 141 = .ok (.istore_n 1, 1) := dk_ok (by decide +kernel)
theorem dX12_tellOne_142 : decode cX12_tellOne 142 = .ok (.iload_n 1, 1) := dk_ok (by decide +kernel)
theorem dX12_tellOne_143 : decode cX12_tellOne 143 = .ok (.ifCond .lt 17, 3) := dk_ok (by decide +kernel)
theorem dX12_tellOne_146 : decode cX12_tellOne 146 = .ok (.aload_n 0, 1) := dk_ok (by decide +kernel)
theorem dX12_tellOne_147 : decode cX12_tellOne 147 = .ok (.getfield 20, 3) := dk_ok (by decide +kernel)
theorem dX12_tellOne_150 : decode cX12_tellOne 150 = .ok (.aload_n 0, 1) := dk_ok (by decide +kernel)
theorem dX12_tellOne_151 : decode cX12_tellOne 151 = .ok (.getfield 194, 3) := dk_ok (by decide +kernel)
theorem dX12_tellOne_154 : decode cX12_tellOne 154 = .ok (.iaload, 1) := dk_ok (by decide +kernel)
theorem dX12_tellOne_155 : decode cX12_tellOne 155 = .ok (.bipush 25, 2) := dk_ok (by decide +kernel)
theorem dX12_tellOne_157 : decode cX12_tellOne 157 = .ok (.if_icmp .le 8, 3) := dk_ok (by decide +kernel)
theorem dX12_tellOne_160 : decode cX12_tellOne 160 = .ok (.aload_n 0, 1) := dk_ok (by decide +kernel)
theorem dX12_tellOne_161 : decode cX12_tellOne 161 = .ok (.iconst 1, 1) := dk_ok (by decide +kernel)
theorem dX12_tellOne_162 : decode cX12_tellOne 162 = .ok (.invokevirtual 206, 3) := dk_ok (by decide +kernel)
theorem dX12_tellOne_165 : decode cX12_tellOne 165 = .ok (.aload_n 0, 1) := dk_ok (by decide +kernel)
theorem dX12_tellOne_166 : decode cX12_tellOne 166 = .ok (.getfield 191, 3) := dk_ok (by decide +kernel)
theorem dX12_tellOne_169 : decode cX12_tellOne 169 = .ok (.ifCond .le 4, 3) := dk_ok (by decide +kernel)
theorem dX12_tellOne_172 : decode cX12_tellOne 172 = .ok (.return_, 1) := dk_ok (by decide +kernel)
theorem dX12_tellOne_173 : decode cX12_tellOne 173 = .ok (.aload_n 0, 1) := dk_ok (by decide +kernel)
theorem dX12_tellOne_174 : decode cX12_tellOne 174 = .ok (.invokevirtual 212, 3) := dk_ok (by decide +kernel)
theorem dX12_tellOne_177 : decode cX12_tellOne 177 = .ok (.aload_n 0, 1) := dk_ok (by decide +kernel)
theorem dX12_tellOne_178 : decode cX12_tellOne 178 = .ok (.iload_n 1, 1) := dk_ok (by decide +kernel)
theorem dX12_tellOne_179 : decode cX12_tellOne 179 = .ok (.invokevirtual 266, 3) := dk_ok (by decide +kernel)
theorem dX12_tellOne_182 : decode cX12_tellOne 182 = .ok (.return_, 1) := dk_ok (by decide +kernel)

def sX12_tellOne : am_Sp := fun as n σ post => n = 92 ∧ as = [.ref 51] ∧ ∃ (S : Int) (σ0 : am_S), (0 ≤ S ∧ S ≤ 1) ∧ rdI S σ0 σ ∧ pF σ = 0 ∧ ∀ τ, rdI S σ0 τ → (pT σ < pT τ ∨ pF τ ≠ 0) → post none τ