/-! THE CLASS'S SENTENCES: a person. Printed from wip/am/chk/hand/y3.in. -/
theorem dX5_readPerson_0 : decode cX5_readPerson 0 = .ok (.aload_n 0, 1) := dk_ok (by decide +kernel)
theorem dX5_readPerson_1 : decode cX5_readPerson 1 = .ok (.getfield 12, 3) := dk_ok (by decide +kernel)
theorem dX5_readPerson_4 : decode cX5_readPerson 4 = .ok (.getfield 105, 3) := dk_ok (by decide +kernel)
theorem dX5_readPerson_7 : decode cX5_readPerson 7 = .ok (.iconst 5, 1) := dk_ok (by decide +kernel)
theorem dX5_readPerson_8 : decode cX5_readPerson 8 = .ok (.if_icmp .lt 8, 3) := dk_ok (by decide +kernel)
theorem dX5_readPerson_11 : decode cX5_readPerson 11 = .ok (.aload_n 0, 1) := dk_ok (by decide +kernel)
theorem dX5_readPerson_12 : decode cX5_readPerson 12 = .ok (.iconst 2, 1) := dk_ok (by decide +kernel)
theorem dX5_readPerson_13 : decode cX5_readPerson 13 = .ok (.invokevirtual 81, 3) := dk_ok (by decide +kernel)
theorem dX5_readPerson_16 : decode cX5_readPerson 16 = .ok (.aload_n 0, 1) := dk_ok (by decide +kernel)
theorem dX5_readPerson_17 : decode cX5_readPerson 17 = .ok (.sipush 257, 3) := dk_ok (by decide +kernel)
theorem dX5_readPerson_20 : decode cX5_readPerson 20 = .ok (.invokevirtual 85, 3) := dk_ok (by decide +kernel)
theorem dX5_readPerson_23 : decode cX5_readPerson 23 = .ok (.pop, 1) := dk_ok (by decide +kernel)
theorem dX5_readPerson_24 : decode cX5_readPerson 24 = .ok (.aload_n 0, 1) := dk_ok (by decide +kernel)
theorem dX5_readPerson_25 : decode cX5_readPerson 25 = .ok (.invokevirtual 108, 3) := dk_ok (by decide +kernel)
theorem dX5_readPerson_28 : decode cX5_readPerson 28 = .ok (.aload_n 0, 1) := dk_ok (by decide +kernel)
theorem dX5_readPerson_29 : decode cX5_readPerson 29 = .ok (.iconst 0, 1) := dk_ok (by decide +kernel)
theorem dX5_readPerson_30 : decode cX5_readPerson 30 = .ok (.bipush 11, 2) := dk_ok (by decide +kernel)
theorem dX5_readPerson_32 : decode cX5_readPerson 32 = .ok (.invokevirtual 89, 3) := dk_ok (by decide +kernel)
theorem dX5_readPerson_35 : decode cX5_readPerson 35 = .ok (.istore_n 1, 1) := dk_ok (by decide +kernel)
theorem dX5_readPerson_36 : decode cX5_readPerson 36 = .ok (.aload_n 0, 1) := dk_ok (by decide +kernel)
theorem dX5_readPerson_37 : decode cX5_readPerson 37 = .ok (.iconst 1, 1) := dk_ok (by decide +kernel)
theorem dX5_readPerson_38 : decode cX5_readPerson 38 = .ok (.bipush 9, 2) := dk_ok (by decide +kernel)
theorem dX5_readPerson_40 : decode cX5_readPerson 40 = .ok (.invokevirtual 89, 3) := dk_ok (by decide +kernel)
theorem dX5_readPerson_43 : decode cX5_readPerson 43 = .ok (.istore_n 2, 1) := dk_ok (by decide +kernel)
theorem dX5_readPerson_44 : decode cX5_readPerson 44 = .ok (.aload_n 0, 1) := dk_ok (by decide +kernel)
theorem dX5_readPerson_45 : decode cX5_readPerson 45 = .ok (.iconst 0, 1) := dk_ok (by decide +kernel)
theorem dX5_readPerson_46 : decode cX5_readPerson 46 = .ok (.bipush 9, 2) := dk_ok (by decide +kernel)
theorem dX5_readPerson_48 : decode cX5_readPerson 48 = .ok (.invokevirtual 89, 3) := dk_ok (by decide +kernel)
theorem dX5_readPerson_51 : decode cX5_readPerson 51 = .ok (.istore_n 3, 1) := dk_ok (by decide +kernel)
theorem dX5_readPerson_52 : decode cX5_readPerson 52 = .ok (.aload_n 0, 1) := dk_ok (by decide +kernel)
theorem dX5_readPerson_53 : decode cX5_readPerson 53 = .ok (.iconst 0, 1) := dk_ok (by decide +kernel)
theorem dX5_readPerson_54 : decode cX5_readPerson 54 = .ok (.bipush 9, 2) := dk_ok (by decide +kernel)
theorem dX5_readPerson_56 : decode cX5_readPerson 56 = .ok (.invokevirtual 89, 3) := dk_ok (by decide +kernel)
theorem dX5_readPerson_59 : decode cX5_readPerson 59 = .ok (.istore 4, 2) := dk_ok (by decide +kernel)
theorem dX5_readPerson_61 : decode cX5_readPerson 61 = .ok (.aload_n 0, 1) := dk_ok (by decide +kernel)
theorem dX5_readPerson_62 : decode cX5_readPerson 62 = .ok (.getfield 12, 3) := dk_ok (by decide +kernel)
theorem dX5_readPerson_65 : decode cX5_readPerson 65 = .ok (.iload_n 1, 1) := dk_ok (by decide +kernel)
theorem dX5_readPerson_66 : decode cX5_readPerson 66 = .ok (.iload_n 2, 1) := dk_ok (by decide +kernel)
theorem dX5_readPerson_67 : decode cX5_readPerson 67 = .ok (.iload_n 3, 1) := dk_ok (by decide +kernel)
theorem dX5_readPerson_68 : decode cX5_readPerson 68 = .ok (.iload 4, 2) := dk_ok (by decide +kernel)
theorem dX5_readPerson_70 : decode cX5_readPerson 70 = .ok (.invokevirtual 111, 3) := dk_ok (by decide +kernel)
theorem dX5_readPerson_73 : decode cX5_readPerson 73 = .ok (.return_, 1) := dk_ok (by decide +kernel)

def pr0 : PR := (0, 0, 0, 0, 0)
/-- the people told so far -/
def cQ (σ : am_S) (ps : List PR) : Prop := σ.1 3 1 = Int32.ofInt (ps.length : Int) ∧ ps.length ≤ 5 ∧ ∀ i, i < ps.length → σ.2 19 i = (ps.getD i pr0).1 ∧ σ.1 10 i = Int32.ofInt (ps.getD i pr0).2.1 ∧ σ.1 11 i = Int32.ofInt (ps.getD i pr0).2.2.1 ∧ σ.1 12 i = Int32.ofInt (ps.getD i pr0).2.2.2.1 ∧ σ.1 13 i = Int32.ofInt (ps.getD i pr0).2.2.2.2
def apM : sa_M := [(3, 1, 1 + 1), (10, 0, 5), (11, 0, 5), (12, 0, 5), (13, 0, 5)]
def rpM : sa_M := rnM ++ apM
theorem spQ_b {b : Nat → Int} {Z : Nat} {x y : Int} (h : x ≤ y) (s : ST) (u : UT) : x ≤ (spQ b Z x y s u).2.2 ∧ (spQ b Z x y s u).2.2 ≤ y := by
  cases s with
  | inr q => exact ⟨Int.le_refl _, h⟩
  | inl t =>
    show x ≤ (if tK b Z t = 2 then _ else _ : ST × UT × Int).2.2 ∧ (if tK b Z t = 2 then _ else _ : ST × UT × Int).2.2 ≤ y
    by_cases k : tK b Z t = 2
    · rw [if_pos k]
      by_cases q : t = 400
      · rw [if_pos q]; exact ⟨Int.le_refl _, h⟩
      · rw [if_neg q]
        by_cases w : tV b Z t < x ∨ y < tV b Z t
        · simp only [if_pos w]; exact ⟨Int.le_refl _, h⟩
        · simp only [if_neg w]; omega
    · rw [if_neg k]; exact ⟨Int.le_refl _, h⟩
theorem spQ_l {b : Nat → Int} {Z : Nat} {x y : Int} {s : ST} {u : UT} {t' : Nat} (h : (spQ b Z x y s u).1 = .inl t') : ∃ t, s = .inl t := by
  cases s with
  | inr q => cases h
  | inl t => exact ⟨t, rfl⟩
theorem stT_l {b : Nat → Int} {Z : Nat} {k : Int} {s : ST} {t' : Nat} (h : stT b Z k s = .inl t') : ∃ t, s = .inl t := by
  cases s with
  | inr q => cases h
  | inl t => exact ⟨t, rfl⟩
theorem spN_l {b : Nat → Int} {Z : Nat} {ns : List Int64} {s : ST} {u : UT} {t' : Nat} (h : (spN b Z ns s u).1 = .inl t') : ∃ t, s = .inl t := by
  cases s with
  | inr q => cases h
  | inl t => exact ⟨t, rfl⟩
theorem map_gd {ps : List PR} {i : Nat} (h : i < ps.length) : (ps.map (fun p => p.1)).getD i 0 = (ps.getD i pr0).1 := by
  rw [List.getD_eq_getElem?_getD, List.getD_eq_getElem?_getD, List.getElem?_map, List.getElem?_eq_getElem h]
  rfl
theorem fr_1 {M : sa_M} {σ τ : am_S} (g : sI BB SH M σ τ) {o k : Nat} (hM : M.all (fun m => decide (m.1 ≠ o) || (decide (k < m.2.1) || decide (m.2.2 ≤ k))) = true) : τ.1 o k = σ.1 o k := (g.2 _ _ (fun m hm hh => by
  have q := List.all_eq_true.mp hM m hm
  simp only [Bool.or_eq_true, decide_eq_true_eq] at q
  rcases q with q | q | q
  · exact q hh.1
  · omega
  · omega)).1
theorem fr_o {M : sa_M} {σ τ : am_S} (g : sI BB SH M σ τ) {o : Nat} (hM : M.all (fun m => decide (m.1 ≠ o)) = true) (k : Nat) : τ.1 o k = σ.1 o k := (g.2 _ _ (fun m hm hh => by
  have q := List.all_eq_true.mp hM m hm
  simp only [decide_eq_true_eq] at q
  exact q hh.1)).1
theorem cQ_sI {M : sa_M} {σ τ : am_S} {ps : List PR} (h : cQ σ ps) (g : sI BB SH M σ τ) (hM : M.all (fun m => decide (m.1 ≠ 3) && (decide (m.1 ≠ 19) && (decide (m.1 ≠ 10) && (decide (m.1 ≠ 11) && (decide (m.1 ≠ 12) && decide (m.1 ≠ 13)))))) = true) : cQ τ ps := by
  have q : ∀ m ∈ M, m.1 ≠ 3 ∧ m.1 ≠ 19 ∧ m.1 ≠ 10 ∧ m.1 ≠ 11 ∧ m.1 ≠ 12 ∧ m.1 ≠ 13 := fun m hm => by
    have := List.all_eq_true.mp hM m hm
    simpa using this
  have e : ∀ o k, (o = 3 ∨ o = 19 ∨ o = 10 ∨ o = 11 ∨ o = 12 ∨ o = 13) → τ.1 o k = σ.1 o k ∧ τ.2 o k = σ.2 o k := fun o k ho => g.2 o k (fun m hm hh => by
    have := q m hm
    rcases ho with rfl | rfl | rfl | rfl | rfl | rfl
    · exact this.1 hh.1
    · exact this.2.1 hh.1
    · exact this.2.2.1 hh.1
    · exact this.2.2.2.1 hh.1
    · exact this.2.2.2.2.1 hh.1
    · exact this.2.2.2.2.2 hh.1)
  obtain ⟨h1, h2, h3⟩ := h
  refine ⟨by rw [(e _ _ (by decide)).1]; exact h1, h2, fun i hi => ?_⟩
  obtain ⟨a1, a2, a3, a4, a5⟩ := h3 i hi
  exact ⟨by rw [(e 19 i (by decide)).2]; exact a1, by rw [(e 10 i (by decide)).1]; exact a2, by rw [(e 11 i (by decide)).1]; exact a3, by rw [(e 12 i (by decide)).1]; exact a4, by rw [(e 13 i (by decide)).1]; exact a5⟩
def sX9_addPersonE : am_Sp := fun as n σ post => n = 92 ∧ sb_ok BB SH σ ∧ ∃ a1 a2 a3 a4 : Int, ((0 ≤ a1 ∧ a1 ≤ 11) ∧ (0 ≤ a2 ∧ a2 ≤ 11) ∧ (0 ≤ a3 ∧ a3 ≤ 11) ∧ (0 ≤ a4 ∧ a4 ≤ 11)) ∧ as = [.ref 3, .int (Int32.ofInt a1), .int (Int32.ofInt a2), .int (Int32.ofInt a3), .int (Int32.ofInt a4)] ∧ ∀ τ, sI BB SH apM σ τ → (∀ k : Nat, k < 5 → σ.1 3 1 = Int32.ofInt (k : Int) → τ.1 3 1 = Int32.ofInt ((k + 1 : Nat) : Int) ∧ ∀ i, τ.1 10 i = (if i = k then Int32.ofInt a1 else σ.1 10 i) ∧ τ.1 11 i = (if i = k then Int32.ofInt a2 else σ.1 11 i) ∧ τ.1 12 i = (if i = k then Int32.ofInt a3 else σ.1 12 i) ∧ τ.1 13 i = (if i = k then Int32.ofInt a4 else σ.1 13 i)) → post none τ
def xX9_addPersonE : am_X := (SH, KF, none, FT_X9, PT_X9, CT_X9, KT_X9, LT_X9, NT_X9, [])
theorem xX9_addPersonE_SH : am_SH xX9_addPersonE = SH := rfl
theorem xX9_addPersonE_KF : am_KF xX9_addPersonE = KF := rfl
theorem xX9_addPersonE_rt : am_rt xX9_addPersonE = none := rfl
theorem xX9_addPersonE_FT : am_FT xX9_addPersonE = FT_X9 := rfl
theorem xX9_addPersonE_PT : am_PT xX9_addPersonE = PT_X9 := rfl
theorem xX9_addPersonE_CT : am_CT xX9_addPersonE = CT_X9 := rfl
theorem xX9_addPersonE_KT : am_KT xX9_addPersonE = KT_X9 := rfl
theorem xX9_addPersonE_LT : am_LT xX9_addPersonE = LT_X9 := rfl
theorem xX9_addPersonE_NT : am_NT xX9_addPersonE = NT_X9 := rfl
theorem xX9_addPersonE_t4 (k : Nat → Prop) : am_tg 4 (62) k = k 66 := am_tg_eq (by decide)
theorem xX9_addPersonE_t12 (k : Nat → Prop) : am_tg 12 (54) k = k 66 := am_tg_eq (by decide)

set_option maxRecDepth 100000 in
theorem ptX9_addPersonE : am_B cX9_addPerson xX9_addPersonE 5 0 sX9_addPersonE := by
  intro n0 as σ post AA hA h
  obtain ⟨rfl, hB, a1, a2, a3, a4, ⟨hb1, hb2, hb3, hb4⟩, rfl, h⟩ := h
  refine ⟨by simp [am_sl, Value.category], ?_⟩
  show AA 0 [some (.ref 3), some (.int (Int32.ofInt a1)), some (.int (Int32.ofInt a2)), some (.int (Int32.ofInt a3)), some (.int (Int32.ofInt a4))] [] 92 σ
  obtain ⟨kv, ekv⟩ : ∃ kv, kv = (σ.1 3 1).toInt := ⟨_, rfl⟩
  have e1 : σ.1 3 1 = Int32.ofInt kv := by rw [ekv]; exact ii_of _
  have kb : 0 ≤ kv ∧ kv ≤ 5 := by rw [ekv]; exact hB.2 3 9 1 rfl
  by_cases q : kv < 5
  · obtain ⟨k, rfl⟩ : ∃ k : Nat, kv = (k : Int) := ⟨kv.toNat, by omega⟩
    have bd : ∀ {o : Nat} {x : Int}, (o = 10 ∨ o = 11 ∨ o = 12 ∨ o = 13) → 0 ≤ x ∧ x ≤ 11 → ∀ {τ : am_S}, sI BB SH apM σ τ → sI BB SH apM σ (am_pi τ o k (Int32.ofInt x)) := by
      intro o x ho hx τ g
      rcases ho with rfl | rfl | rfl | rfl
      · exact sI_arr (q := (0, 5)) g rfl (by rw [sb_1 (q := (-2147483648, 2147483646)) rfl, ii_t (by omega) (by omega)]; exact ⟨by show (-2147483648 : Int) ≤ x; omega, by show x ≤ (2147483646 : Int); omega⟩) ⟨(10, 0, 5), by decide, rfl, Nat.zero_le _, by show k < 5; omega⟩
      · exact sI_arr (q := (0, 5)) g rfl (by rw [sb_1 (q := (-2147483648, 2147483647)) rfl, ii_t (by omega) (by omega)]; exact ⟨by show (-2147483648 : Int) ≤ x; omega, by show x ≤ (2147483647 : Int); omega⟩) ⟨(11, 0, 5), by decide, rfl, Nat.zero_le _, by show k < 5; omega⟩
      · exact sI_arr (q := (0, 5)) g rfl (by rw [sb_1 (q := (-2147483648, 2147483647)) rfl, ii_t (by omega) (by omega)]; exact ⟨by show (-2147483648 : Int) ≤ x; omega, by show x ≤ (2147483647 : Int); omega⟩) ⟨(12, 0, 5), by decide, rfl, Nat.zero_le _, by show k < 5; omega⟩
      · exact sI_arr (q := (0, 5)) g rfl (by rw [sb_1 (q := (-2147483648, 2147483647)) rfl, ii_t (by omega) (by omega)]; exact ⟨by show (-2147483648 : Int) ≤ x; omega, by show x ≤ (2147483647 : Int); omega⟩) ⟨(13, 0, 5), by decide, rfl, Nat.zero_le _, by show k < 5; omega⟩
    have i1 := bd (o := 10) (Or.inl rfl) hb1 ⟨hB, sb_fr_r _ _⟩
    have i2 := bd (o := 11) (Or.inr (Or.inl rfl)) hb2 i1
    have i3 := bd (o := 12) (Or.inr (Or.inr (Or.inl rfl))) hb3 i2
    have i4 := bd (o := 13) (Or.inr (Or.inr (Or.inr rfl))) hb4 i3
    have i5 := sI_fld (o := 3) (k := 1) (x := Int32.ofInt ((k : Int) + 1)) (ci := 9) i4 rfl (by rw [ii_t (by omega) (by omega)]; exact ⟨by show (0 : Int) ≤ (k : Int) + 1; omega, by show (k : Int) + 1 ≤ (5 : Int); omega⟩) ⟨(3, 1, 1 + 1), by decide, rfl, by decide, by decide⟩
    have hP := h _ i5 (fun k' hk' e' => by
      rw [e1] at e'
      have e2 : (k : Int) = (k' : Int) := by
        have := congrArg Int32.toInt e'
        rw [ii_t (by omega) (by omega), ii_t (by omega) (by omega)] at this
        exact this
      have e3 : k' = k := by omega
      subst e3
      refine ⟨by rw [pi_s, Int.natCast_add]; rfl, fun i => ?_⟩
      have gz : ∀ {τ : am_S} {o : Nat} {x : Int32}, (am_pi τ o k' x).1 o i = if i = k' then x else τ.1 o i := by
        intro τ o x
        by_cases w : i = k'
        · rw [if_pos w, w, pi_s]
        · rw [if_neg w, pi_n _ _ _ _ (fun z => w z.2)]
      refine ⟨?_, ?_, ?_, ?_⟩
      · rw [pi_n _ _ _ _ (fun z => absurd z.1 (by decide)), pi_n _ _ _ _ (fun z => absurd z.1 (by decide)), pi_n _ _ _ _ (fun z => absurd z.1 (by decide)), pi_n _ _ _ _ (fun z => absurd z.1 (by decide)), gz]
      · rw [pi_n _ _ _ _ (fun z => absurd z.1 (by decide)), pi_n _ _ _ _ (fun z => absurd z.1 (by decide)), pi_n _ _ _ _ (fun z => absurd z.1 (by decide)), gz, pi_n _ _ _ _ (fun z => absurd z.1 (by decide))]
      · rw [pi_n _ _ _ _ (fun z => absurd z.1 (by decide)), pi_n _ _ _ _ (fun z => absurd z.1 (by decide)), gz, pi_n _ _ _ _ (fun z => absurd z.1 (by decide)), pi_n _ _ _ _ (fun z => absurd z.1 (by decide))]
      · rw [pi_n _ _ _ _ (fun z => absurd z.1 (by decide)), gz, pi_n _ _ _ _ (fun z => absurd z.1 (by decide)), pi_n _ _ _ _ (fun z => absurd z.1 (by decide)), pi_n _ _ _ _ (fun z => absurd z.1 (by decide))])
    refine hA [] 50 _ _ _ _ _ ?_
    try simp only [dX9_addPerson_0, dX9_addPerson_1, FT_X9_15, dX9_addPerson_4, xX9_addPersonE_t4, dX9_addPerson_7, dX9_addPerson_8, dX9_addPerson_11, dX9_addPerson_12, xX9_addPersonE_t12, dX9_addPerson_15, dX9_addPerson_16, FT_X9_28, dX9_addPerson_19, dX9_addPerson_20, dX9_addPerson_23, dX9_addPerson_24, dX9_addPerson_25, dX9_addPerson_26, FT_X9_32, dX9_addPerson_29, dX9_addPerson_30, dX9_addPerson_33, dX9_addPerson_34, dX9_addPerson_35, dX9_addPerson_36, FT_X9_35, dX9_addPerson_39, dX9_addPerson_40, dX9_addPerson_43, dX9_addPerson_44, dX9_addPerson_45, dX9_addPerson_46, FT_X9_38, dX9_addPerson_49, dX9_addPerson_50, dX9_addPerson_53, dX9_addPerson_55, dX9_addPerson_56, dX9_addPerson_57, dX9_addPerson_58, dX9_addPerson_61, dX9_addPerson_62, dX9_addPerson_63, PT_X9_15, dX9_addPerson_66, xX9_addPersonE_SH, xX9_addPersonE_KF, xX9_addPersonE_rt, xX9_addPersonE_FT, xX9_addPersonE_PT, xX9_addPersonE_CT, xX9_addPersonE_KT, xX9_addPersonE_LT, xX9_addPersonE_NT, o_aload_n, o_dup, o_getfield, o_iadd, o_iastore, o_iconst, o_ifCond_lt, o_if_icmp_ge, o_iload, o_iload_n, o_putfield, o_return_, SH_3, KF_3_1, KF_3_4, SH_10, KF_3_5, SH_11, KF_3_6, SH_12, KF_3_7, SH_13, SH_20, KF_20_1, KF_20_4, SH_27, KF_20_5, SH_28, KF_20_6, SH_29, KF_20_7, SH_30, am_ty, am_vc, am_opt, am_cl, am_find, am_ldi, am_ldl, am_lda, am_v, am_1, am_1l, am_1a, am_2, am_2l, am_ix, am_ri, am_arr, am_pf, am_rc, am_mask, am_lg, am_av, am_nat, fv_0, fv_1, fv_2, fv_3, fw_0, fw_1, List.getElem?_cons_zero, List.getElem?_cons_succ, List.set_cons_zero, List.set_cons_succ, List.length_cons, List.length_nil, List.take_succ_cons, List.take_zero, List.drop_succ_cons, List.drop_zero, List.reverse_cons, List.reverse_nil, List.nil_append, List.cons_append, List.append_nil, List.map_cons, List.map_nil, List.sum_cons, List.sum_nil, Value.category, Option.toList_some, Option.toList_none, Nat.reduceAdd, Nat.reduceLT, Nat.reduceLeDiff, Nat.reduceEqDiff, Nat.reduceSub, Nat.add_zero, Nat.le_refl, Nat.zero_le, Int.reduceNeg, Int.reduceLE, Int.reduceLT, true_and, and_true, and_self, if_true, if_false, ite_true, ite_false, eq_self_iff_true, reduceIte, reduceCtorEq, not_false_eq_true, not_true_eq_false, or_true, true_or, or_false, false_or, Nat.lt_irrefl, Nat.zero_lt_succ, e1]
    try simp (disch := omega) only [ii_0, ii_1, ii_t, ii_add, ii_sub, ii_mul, ii_lt, ii_le, ii_eq, ij_in, ii_c, Int.toNat_natCast, Int.toNat_zero, Int.reduceToNat, Int.reduceEq, Int.reduceNe, Int.reduceLE, Int.reduceLT, Int.reduceAdd, Int.reduceSub, Int.reduceMul, Int.reduceNeg, Nat.reduceLT, Nat.reduceAdd, Nat.reduceMul, not_false_eq_true, not_true_eq_false, true_and, and_true, and_self, false_and, and_false, true_implies, false_implies, implies_true, forall_const, if_true, if_false, ite_true, ite_false, reduceIte, eq_self_iff_true, Int.natCast_nonneg, Int.zero_add, Int.add_zero, pi_s, pi_n, on_2000, on_402, on_408, on_19, on_5, on_4, e1]
    first
    | exact hP
    | exact ⟨fun z => absurd z (by omega), fun _ => ⟨fun z => absurd z (by omega), fun _ => ⟨by omega, by omega, by omega, by omega, hP⟩⟩⟩
  · have hP := h σ ⟨hB, sb_fr_r _ _⟩ (fun k hk e' => by
      rw [e1] at e'
      have := congrArg Int32.toInt e'
      rw [ii_t (by omega) (by omega), ii_t (by omega) (by omega)] at this
      omega)
    refine hA [(15, 5)] 20 _ _ _ _ _ ?_
    try simp only [dX9_addPerson_0, dX9_addPerson_1, FT_X9_15, dX9_addPerson_4, xX9_addPersonE_t4, dX9_addPerson_7, dX9_addPerson_8, dX9_addPerson_11, dX9_addPerson_12, xX9_addPersonE_t12, dX9_addPerson_15, dX9_addPerson_16, FT_X9_28, dX9_addPerson_19, dX9_addPerson_20, dX9_addPerson_23, dX9_addPerson_24, dX9_addPerson_25, dX9_addPerson_26, FT_X9_32, dX9_addPerson_29, dX9_addPerson_30, dX9_addPerson_33, dX9_addPerson_34, dX9_addPerson_35, dX9_addPerson_36, FT_X9_35, dX9_addPerson_39, dX9_addPerson_40, dX9_addPerson_43, dX9_addPerson_44, dX9_addPerson_45, dX9_addPerson_46, FT_X9_38, dX9_addPerson_49, dX9_addPerson_50, dX9_addPerson_53, dX9_addPerson_55, dX9_addPerson_56, dX9_addPerson_57, dX9_addPerson_58, dX9_addPerson_61, dX9_addPerson_62, dX9_addPerson_63, PT_X9_15, dX9_addPerson_66, xX9_addPersonE_SH, xX9_addPersonE_KF, xX9_addPersonE_rt, xX9_addPersonE_FT, xX9_addPersonE_PT, xX9_addPersonE_CT, xX9_addPersonE_KT, xX9_addPersonE_LT, xX9_addPersonE_NT, o_aload_n, o_dup, o_getfield, o_iadd, o_iastore, o_iconst, o_ifCond_lt, o_if_icmp_ge, o_iload, o_iload_n, o_putfield, o_return_, SH_3, KF_3_1, KF_3_4, SH_10, KF_3_5, SH_11, KF_3_6, SH_12, KF_3_7, SH_13, SH_20, KF_20_1, KF_20_4, SH_27, KF_20_5, SH_28, KF_20_6, SH_29, KF_20_7, SH_30, am_ty, am_vc, am_opt, am_cl, am_find, am_ldi, am_ldl, am_lda, am_v, am_1, am_1l, am_1a, am_2, am_2l, am_ix, am_ri, am_arr, am_pf, am_rc, am_mask, am_lg, am_av, am_nat, fv_0, fv_1, fv_2, fv_3, fw_0, fw_1, List.getElem?_cons_zero, List.getElem?_cons_succ, List.set_cons_zero, List.set_cons_succ, List.length_cons, List.length_nil, List.take_succ_cons, List.take_zero, List.drop_succ_cons, List.drop_zero, List.reverse_cons, List.reverse_nil, List.nil_append, List.cons_append, List.append_nil, List.map_cons, List.map_nil, List.sum_cons, List.sum_nil, Value.category, Option.toList_some, Option.toList_none, Nat.reduceAdd, Nat.reduceLT, Nat.reduceLeDiff, Nat.reduceEqDiff, Nat.reduceSub, Nat.add_zero, Nat.le_refl, Nat.zero_le, Int.reduceNeg, Int.reduceLE, Int.reduceLT, true_and, and_true, and_self, if_true, if_false, ite_true, ite_false, eq_self_iff_true, reduceIte, reduceCtorEq, not_false_eq_true, not_true_eq_false, or_true, true_or, or_false, false_or, Nat.lt_irrefl, Nat.zero_lt_succ, e1]
    try simp (disch := omega) only [ii_0, ii_1, ii_t, ii_add, ii_sub, ii_mul, ii_lt, ii_le, ii_eq, ij_in, ii_c, Int.toNat_natCast, Int.toNat_zero, Int.reduceToNat, Int.reduceEq, Int.reduceNe, Int.reduceLE, Int.reduceLT, Int.reduceAdd, Int.reduceSub, Int.reduceMul, Int.reduceNeg, Nat.reduceLT, Nat.reduceAdd, Nat.reduceMul, not_false_eq_true, not_true_eq_false, true_and, and_true, and_self, false_and, and_false, true_implies, false_implies, implies_true, forall_const, if_true, if_false, ite_true, ite_false, reduceIte, eq_self_iff_true, Int.natCast_nonneg, Int.zero_add, Int.add_zero, pi_s, pi_n, on_2000, on_402, on_408, on_19, on_5, on_4, e1]
    first
    | exact hP
    | exact ⟨fun z => absurd z (by omega), fun _ => ⟨fun _ => hP, fun z => absurd z (by omega)⟩⟩
theorem mX9_addPersonE (l : Launch) : am_M l TB NB vwCl SH KF yX9_addPerson cX9_addPerson 5 none 2 0 0 sX9_addPersonE := by
  refine am_M.of xX9_addPersonE (by decide +kernel) TB_good GF rfl rfl rfl (by decide) ⟨FT_X9_ok, PT_X9_ok _, CT_X9_ok, KT_X9_ok, LT_X9_ok, NT_X9_ok, ?_⟩ ptX9_addPersonE
  exact fun _ h => absurd h List.not_mem_nil

def sX5_readPersonE : am_Sp := fun as n σ post => n = 92 ∧ sb_ok BB SH σ ∧ ∃ (b : Nat → Int) (Z t : Nat) (u : UT) (ps : List PR), cST b Z σ (.inl t) ∧ cU σ u ∧ cQ σ ps ∧ as = [.ref 2] ∧ ∀ τ, sI BB SH rpM σ τ → (ps.length = 5 → cST b Z τ (.inr (2, tP b Z t)) ∧ cU τ u) → (ps.length < 5 → cST b Z τ (spP b Z (ps.map (fun p => p.1)) (stT b Z 21 (.inl t)) u).1 ∧ cU τ (spP b Z (ps.map (fun p => p.1)) (stT b Z 21 (.inl t)) u).2.1 ∧ ∀ t', (spP b Z (ps.map (fun p => p.1)) (stT b Z 21 (.inl t)) u).1 = .inl t' → cQ τ (ps ++ [(spP b Z (ps.map (fun p => p.1)) (stT b Z 21 (.inl t)) u).2.2])) → post none τ
def xX5_readPersonE : am_X := (SH, KF, none, FT_X5, PT_X5, CT_X5, KT_X5, LT_X5, NT_X5, [(81, 0, 2, 5, 0, 0, sX5_failE), (85, 0, 2, 5, 0, 0, sX5_takeE), (89, 0, 3, 5, 0, 0, sX5_readIntE), (108, 0, 1, 5, 0, 0, sX5_readNameE), (111, 0, 5, 9, 0, 0, sX9_addPersonE)])
theorem xX5_readPersonE_SH : am_SH xX5_readPersonE = SH := rfl
theorem xX5_readPersonE_KF : am_KF xX5_readPersonE = KF := rfl
theorem xX5_readPersonE_rt : am_rt xX5_readPersonE = none := rfl
theorem xX5_readPersonE_FT : am_FT xX5_readPersonE = FT_X5 := rfl
theorem xX5_readPersonE_PT : am_PT xX5_readPersonE = PT_X5 := rfl
theorem xX5_readPersonE_CT : am_CT xX5_readPersonE = CT_X5 := rfl
theorem xX5_readPersonE_KT : am_KT xX5_readPersonE = KT_X5 := rfl
theorem xX5_readPersonE_LT : am_LT xX5_readPersonE = LT_X5 := rfl
theorem xX5_readPersonE_NT : am_NT xX5_readPersonE = NT_X5 := rfl
theorem xX5_readPersonE_c81 : am_find (am_ML xX5_readPersonE) 81 = some (0, 2, 5, 0, 0, sX5_failE) := rfl
theorem xX5_readPersonE_n81 : am_find NT_X5 81 = none := rfl
theorem xX5_readPersonE_c85 : am_find (am_ML xX5_readPersonE) 85 = some (0, 2, 5, 0, 0, sX5_takeE) := rfl
theorem xX5_readPersonE_n85 : am_find NT_X5 85 = none := rfl
theorem xX5_readPersonE_c89 : am_find (am_ML xX5_readPersonE) 89 = some (0, 3, 5, 0, 0, sX5_readIntE) := rfl
theorem xX5_readPersonE_n89 : am_find NT_X5 89 = none := rfl
theorem xX5_readPersonE_c108 : am_find (am_ML xX5_readPersonE) 108 = some (0, 1, 5, 0, 0, sX5_readNameE) := rfl
theorem xX5_readPersonE_n108 : am_find NT_X5 108 = none := rfl
theorem xX5_readPersonE_c111 : am_find (am_ML xX5_readPersonE) 111 = some (0, 5, 9, 0, 0, sX9_addPersonE) := rfl
theorem xX5_readPersonE_n111 : am_find NT_X5 111 = none := rfl
theorem xX5_readPersonE_t8 (k : Nat → Prop) : am_tg 8 (8) k = k 16 := am_tg_eq (by decide)

set_option maxRecDepth 100000 in
theorem rp_16 {post : Option Value → am_S → Prop} {AA : Nat → List (Option Value) → List Value → Nat → am_S → Prop} (hA : ∀ cuts f pc ls stk n τ, am_vc cX5_readPerson xX5_readPersonE (92 + 0) post AA cuts f pc ls stk n τ → AA pc ls stk n τ) {σ : am_S} {b : Nat → Int} {Z : Nat} {s : ST} {u : UT} {ps : List PR} (hB : sb_ok BB SH σ) (hs : cST b Z σ s) (hu : cU σ u) (hq : ∀ t, s = .inl t → cQ σ ps ∧ ps.length < 5) (h : ∀ τ, sI BB SH rpM σ τ → cST b Z τ (spP b Z (ps.map (fun p => p.1)) (stT b Z 21 s) u).1 → cU τ (spP b Z (ps.map (fun p => p.1)) (stT b Z 21 s) u).2.1 → (∀ t', (spP b Z (ps.map (fun p => p.1)) (stT b Z 21 s) u).1 = .inl t' → cQ τ (ps ++ [(spP b Z (ps.map (fun p => p.1)) (stT b Z 21 s) u).2.2])) → post none τ) : AA 16 [some (.ref 2), none, none, none, none] [] 92 σ := by
  refine hA [] 60 _ _ _ _ _ ?_
  try simp only [dX5_readPerson_0, dX5_readPerson_1, FT_X5_12, dX5_readPerson_4, FT_X5_105, dX5_readPerson_7, dX5_readPerson_8, xX5_readPersonE_t8, dX5_readPerson_11, dX5_readPerson_12, dX5_readPerson_13, xX5_readPersonE_c81, xX5_readPersonE_n81, dX5_readPerson_16, dX5_readPerson_17, dX5_readPerson_20, xX5_readPersonE_c85, xX5_readPersonE_n85, dX5_readPerson_23, dX5_readPerson_24, dX5_readPerson_25, xX5_readPersonE_c108, xX5_readPersonE_n108, dX5_readPerson_28, dX5_readPerson_29, dX5_readPerson_30, dX5_readPerson_32, xX5_readPersonE_c89, xX5_readPersonE_n89, dX5_readPerson_35, dX5_readPerson_36, dX5_readPerson_37, dX5_readPerson_38, dX5_readPerson_40, dX5_readPerson_43, dX5_readPerson_44, dX5_readPerson_45, dX5_readPerson_46, dX5_readPerson_48, dX5_readPerson_51, dX5_readPerson_52, dX5_readPerson_53, dX5_readPerson_54, dX5_readPerson_56, dX5_readPerson_59, dX5_readPerson_61, dX5_readPerson_62, dX5_readPerson_65, dX5_readPerson_66, dX5_readPerson_67, dX5_readPerson_68, dX5_readPerson_70, xX5_readPersonE_c111, xX5_readPersonE_n111, dX5_readPerson_73, xX5_readPersonE_SH, xX5_readPersonE_KF, xX5_readPersonE_rt, xX5_readPersonE_FT, xX5_readPersonE_PT, xX5_readPersonE_CT, xX5_readPersonE_KT, xX5_readPersonE_LT, xX5_readPersonE_NT, o_aload_n, o_bipush, o_getfield, o_iconst, o_if_icmp_lt, o_iload, o_iload_n, o_invokevirtual, o_istore, o_istore_n, o_pop, o_return_, o_sipush, SH_2, KF_2_0, SH_3, KF_3_1, SH_20, KF_20_1, am_ty, am_vc, am_opt, am_cl, am_find, am_ldi, am_ldl, am_lda, am_v, am_1, am_1l, am_1a, am_2, am_2l, am_ix, am_ri, am_arr, am_pf, am_rc, am_mask, am_lg, am_av, am_nat, fv_0, fv_1, fv_2, fv_3, fw_0, fw_1, List.getElem?_cons_zero, List.getElem?_cons_succ, List.set_cons_zero, List.set_cons_succ, List.length_cons, List.length_nil, List.take_succ_cons, List.take_zero, List.drop_succ_cons, List.drop_zero, List.reverse_cons, List.reverse_nil, List.nil_append, List.cons_append, List.append_nil, List.map_cons, List.map_nil, List.sum_cons, List.sum_nil, Value.category, Option.toList_some, Option.toList_none, Nat.reduceAdd, Nat.reduceLT, Nat.reduceLeDiff, Nat.reduceEqDiff, Nat.reduceSub, Nat.add_zero, Nat.le_refl, Nat.zero_le, Int.reduceNeg, Int.reduceLE, Int.reduceLT, true_and, and_true, and_self, if_true, if_false, ite_true, ite_false, eq_self_iff_true, reduceIte, reduceCtorEq, not_false_eq_true, not_true_eq_false, or_true, true_or, or_false, false_or, Nat.lt_irrefl, Nat.zero_lt_succ]
  refine ⟨rfl, hB, b, Z, s, 21, hs, ⟨⟨by decide, by decide⟩, by decide, by decide, by decide, by decide, by decide⟩, rfl, fun τ1 a1 a2 => ?_⟩
  try simp only [dX5_readPerson_0, dX5_readPerson_1, FT_X5_12, dX5_readPerson_4, FT_X5_105, dX5_readPerson_7, dX5_readPerson_8, xX5_readPersonE_t8, dX5_readPerson_11, dX5_readPerson_12, dX5_readPerson_13, xX5_readPersonE_c81, xX5_readPersonE_n81, dX5_readPerson_16, dX5_readPerson_17, dX5_readPerson_20, xX5_readPersonE_c85, xX5_readPersonE_n85, dX5_readPerson_23, dX5_readPerson_24, dX5_readPerson_25, xX5_readPersonE_c108, xX5_readPersonE_n108, dX5_readPerson_28, dX5_readPerson_29, dX5_readPerson_30, dX5_readPerson_32, xX5_readPersonE_c89, xX5_readPersonE_n89, dX5_readPerson_35, dX5_readPerson_36, dX5_readPerson_37, dX5_readPerson_38, dX5_readPerson_40, dX5_readPerson_43, dX5_readPerson_44, dX5_readPerson_45, dX5_readPerson_46, dX5_readPerson_48, dX5_readPerson_51, dX5_readPerson_52, dX5_readPerson_53, dX5_readPerson_54, dX5_readPerson_56, dX5_readPerson_59, dX5_readPerson_61, dX5_readPerson_62, dX5_readPerson_65, dX5_readPerson_66, dX5_readPerson_67, dX5_readPerson_68, dX5_readPerson_70, xX5_readPersonE_c111, xX5_readPersonE_n111, dX5_readPerson_73, xX5_readPersonE_SH, xX5_readPersonE_KF, xX5_readPersonE_rt, xX5_readPersonE_FT, xX5_readPersonE_PT, xX5_readPersonE_CT, xX5_readPersonE_KT, xX5_readPersonE_LT, xX5_readPersonE_NT, o_aload_n, o_bipush, o_getfield, o_iconst, o_if_icmp_lt, o_iload, o_iload_n, o_invokevirtual, o_istore, o_istore_n, o_pop, o_return_, o_sipush, SH_2, KF_2_0, SH_3, KF_3_1, SH_20, KF_20_1, am_ty, am_vc, am_opt, am_cl, am_find, am_ldi, am_ldl, am_lda, am_v, am_1, am_1l, am_1a, am_2, am_2l, am_ix, am_ri, am_arr, am_pf, am_rc, am_mask, am_lg, am_av, am_nat, fv_0, fv_1, fv_2, fv_3, fw_0, fw_1, List.getElem?_cons_zero, List.getElem?_cons_succ, List.set_cons_zero, List.set_cons_succ, List.length_cons, List.length_nil, List.take_succ_cons, List.take_zero, List.drop_succ_cons, List.drop_zero, List.reverse_cons, List.reverse_nil, List.nil_append, List.cons_append, List.append_nil, List.map_cons, List.map_nil, List.sum_cons, List.sum_nil, Value.category, Option.toList_some, Option.toList_none, Nat.reduceAdd, Nat.reduceLT, Nat.reduceLeDiff, Nat.reduceEqDiff, Nat.reduceSub, Nat.add_zero, Nat.le_refl, Nat.zero_le, Int.reduceNeg, Int.reduceLE, Int.reduceLT, true_and, and_true, and_self, if_true, if_false, ite_true, ite_false, eq_self_iff_true, reduceIte, reduceCtorEq, not_false_eq_true, not_true_eq_false, or_true, true_or, or_false, false_or, Nat.lt_irrefl, Nat.zero_lt_succ]
  have q1 : ∀ t, stT b Z 21 s = .inl t → cQ τ1 ps ∧ ps.length < 5 := fun t e => by
    obtain ⟨t0, e0⟩ := stT_l e
    exact ⟨cQ_sI (hq t0 e0).1 a1 (by decide), (hq t0 e0).2⟩
  refine ⟨rfl, a1.1, b, Z, _, u, ps.map (fun p => p.1), a2, cU_sI hu a1 (by decide), fun t e => ⟨⟨by rw [List.length_map]; exact (q1 t e).1.1, by rw [List.length_map]; exact (q1 t e).1.2.1, fun i hi => by rw [List.length_map] at hi; rw [map_gd hi]; exact ((q1 t e).1.2.2 i hi).1⟩, by rw [List.length_map]; exact (q1 t e).2⟩, rfl, fun τ2 b1 b2 b3 b4 => ?_⟩
  try simp only [dX5_readPerson_0, dX5_readPerson_1, FT_X5_12, dX5_readPerson_4, FT_X5_105, dX5_readPerson_7, dX5_readPerson_8, xX5_readPersonE_t8, dX5_readPerson_11, dX5_readPerson_12, dX5_readPerson_13, xX5_readPersonE_c81, xX5_readPersonE_n81, dX5_readPerson_16, dX5_readPerson_17, dX5_readPerson_20, xX5_readPersonE_c85, xX5_readPersonE_n85, dX5_readPerson_23, dX5_readPerson_24, dX5_readPerson_25, xX5_readPersonE_c108, xX5_readPersonE_n108, dX5_readPerson_28, dX5_readPerson_29, dX5_readPerson_30, dX5_readPerson_32, xX5_readPersonE_c89, xX5_readPersonE_n89, dX5_readPerson_35, dX5_readPerson_36, dX5_readPerson_37, dX5_readPerson_38, dX5_readPerson_40, dX5_readPerson_43, dX5_readPerson_44, dX5_readPerson_45, dX5_readPerson_46, dX5_readPerson_48, dX5_readPerson_51, dX5_readPerson_52, dX5_readPerson_53, dX5_readPerson_54, dX5_readPerson_56, dX5_readPerson_59, dX5_readPerson_61, dX5_readPerson_62, dX5_readPerson_65, dX5_readPerson_66, dX5_readPerson_67, dX5_readPerson_68, dX5_readPerson_70, xX5_readPersonE_c111, xX5_readPersonE_n111, dX5_readPerson_73, xX5_readPersonE_SH, xX5_readPersonE_KF, xX5_readPersonE_rt, xX5_readPersonE_FT, xX5_readPersonE_PT, xX5_readPersonE_CT, xX5_readPersonE_KT, xX5_readPersonE_LT, xX5_readPersonE_NT, o_aload_n, o_bipush, o_getfield, o_iconst, o_if_icmp_lt, o_iload, o_iload_n, o_invokevirtual, o_istore, o_istore_n, o_pop, o_return_, o_sipush, SH_2, KF_2_0, SH_3, KF_3_1, SH_20, KF_20_1, am_ty, am_vc, am_opt, am_cl, am_find, am_ldi, am_ldl, am_lda, am_v, am_1, am_1l, am_1a, am_2, am_2l, am_ix, am_ri, am_arr, am_pf, am_rc, am_mask, am_lg, am_av, am_nat, fv_0, fv_1, fv_2, fv_3, fw_0, fw_1, List.getElem?_cons_zero, List.getElem?_cons_succ, List.set_cons_zero, List.set_cons_succ, List.length_cons, List.length_nil, List.take_succ_cons, List.take_zero, List.drop_succ_cons, List.drop_zero, List.reverse_cons, List.reverse_nil, List.nil_append, List.cons_append, List.append_nil, List.map_cons, List.map_nil, List.sum_cons, List.sum_nil, Value.category, Option.toList_some, Option.toList_none, Nat.reduceAdd, Nat.reduceLT, Nat.reduceLeDiff, Nat.reduceEqDiff, Nat.reduceSub, Nat.add_zero, Nat.le_refl, Nat.zero_le, Int.reduceNeg, Int.reduceLE, Int.reduceLT, true_and, and_true, and_self, if_true, if_false, ite_true, ite_false, eq_self_iff_true, reduceIte, reduceCtorEq, not_false_eq_true, not_true_eq_false, or_true, true_or, or_false, false_or, Nat.lt_irrefl, Nat.zero_lt_succ]
  refine ⟨rfl, b1.1, b, Z, _, _, 0, 11, b2, b3, ⟨by decide, by decide, by decide⟩, rfl, fun τ3 c1 c2 c3 => ?_⟩
  try simp only [dX5_readPerson_0, dX5_readPerson_1, FT_X5_12, dX5_readPerson_4, FT_X5_105, dX5_readPerson_7, dX5_readPerson_8, xX5_readPersonE_t8, dX5_readPerson_11, dX5_readPerson_12, dX5_readPerson_13, xX5_readPersonE_c81, xX5_readPersonE_n81, dX5_readPerson_16, dX5_readPerson_17, dX5_readPerson_20, xX5_readPersonE_c85, xX5_readPersonE_n85, dX5_readPerson_23, dX5_readPerson_24, dX5_readPerson_25, xX5_readPersonE_c108, xX5_readPersonE_n108, dX5_readPerson_28, dX5_readPerson_29, dX5_readPerson_30, dX5_readPerson_32, xX5_readPersonE_c89, xX5_readPersonE_n89, dX5_readPerson_35, dX5_readPerson_36, dX5_readPerson_37, dX5_readPerson_38, dX5_readPerson_40, dX5_readPerson_43, dX5_readPerson_44, dX5_readPerson_45, dX5_readPerson_46, dX5_readPerson_48, dX5_readPerson_51, dX5_readPerson_52, dX5_readPerson_53, dX5_readPerson_54, dX5_readPerson_56, dX5_readPerson_59, dX5_readPerson_61, dX5_readPerson_62, dX5_readPerson_65, dX5_readPerson_66, dX5_readPerson_67, dX5_readPerson_68, dX5_readPerson_70, xX5_readPersonE_c111, xX5_readPersonE_n111, dX5_readPerson_73, xX5_readPersonE_SH, xX5_readPersonE_KF, xX5_readPersonE_rt, xX5_readPersonE_FT, xX5_readPersonE_PT, xX5_readPersonE_CT, xX5_readPersonE_KT, xX5_readPersonE_LT, xX5_readPersonE_NT, o_aload_n, o_bipush, o_getfield, o_iconst, o_if_icmp_lt, o_iload, o_iload_n, o_invokevirtual, o_istore, o_istore_n, o_pop, o_return_, o_sipush, SH_2, KF_2_0, SH_3, KF_3_1, SH_20, KF_20_1, am_ty, am_vc, am_opt, am_cl, am_find, am_ldi, am_ldl, am_lda, am_v, am_1, am_1l, am_1a, am_2, am_2l, am_ix, am_ri, am_arr, am_pf, am_rc, am_mask, am_lg, am_av, am_nat, fv_0, fv_1, fv_2, fv_3, fw_0, fw_1, List.getElem?_cons_zero, List.getElem?_cons_succ, List.set_cons_zero, List.set_cons_succ, List.length_cons, List.length_nil, List.take_succ_cons, List.take_zero, List.drop_succ_cons, List.drop_zero, List.reverse_cons, List.reverse_nil, List.nil_append, List.cons_append, List.append_nil, List.map_cons, List.map_nil, List.sum_cons, List.sum_nil, Value.category, Option.toList_some, Option.toList_none, Nat.reduceAdd, Nat.reduceLT, Nat.reduceLeDiff, Nat.reduceEqDiff, Nat.reduceSub, Nat.add_zero, Nat.le_refl, Nat.zero_le, Int.reduceNeg, Int.reduceLE, Int.reduceLT, true_and, and_true, and_self, if_true, if_false, ite_true, ite_false, eq_self_iff_true, reduceIte, reduceCtorEq, not_false_eq_true, not_true_eq_false, or_true, true_or, or_false, false_or, Nat.lt_irrefl, Nat.zero_lt_succ]
  refine ⟨rfl, c1.1, b, Z, _, _, 1, 9, c2, c3, ⟨by decide, by decide, by decide⟩, rfl, fun τ4 d1 d2 d3 => ?_⟩
  try simp only [dX5_readPerson_0, dX5_readPerson_1, FT_X5_12, dX5_readPerson_4, FT_X5_105, dX5_readPerson_7, dX5_readPerson_8, xX5_readPersonE_t8, dX5_readPerson_11, dX5_readPerson_12, dX5_readPerson_13, xX5_readPersonE_c81, xX5_readPersonE_n81, dX5_readPerson_16, dX5_readPerson_17, dX5_readPerson_20, xX5_readPersonE_c85, xX5_readPersonE_n85, dX5_readPerson_23, dX5_readPerson_24, dX5_readPerson_25, xX5_readPersonE_c108, xX5_readPersonE_n108, dX5_readPerson_28, dX5_readPerson_29, dX5_readPerson_30, dX5_readPerson_32, xX5_readPersonE_c89, xX5_readPersonE_n89, dX5_readPerson_35, dX5_readPerson_36, dX5_readPerson_37, dX5_readPerson_38, dX5_readPerson_40, dX5_readPerson_43, dX5_readPerson_44, dX5_readPerson_45, dX5_readPerson_46, dX5_readPerson_48, dX5_readPerson_51, dX5_readPerson_52, dX5_readPerson_53, dX5_readPerson_54, dX5_readPerson_56, dX5_readPerson_59, dX5_readPerson_61, dX5_readPerson_62, dX5_readPerson_65, dX5_readPerson_66, dX5_readPerson_67, dX5_readPerson_68, dX5_readPerson_70, xX5_readPersonE_c111, xX5_readPersonE_n111, dX5_readPerson_73, xX5_readPersonE_SH, xX5_readPersonE_KF, xX5_readPersonE_rt, xX5_readPersonE_FT, xX5_readPersonE_PT, xX5_readPersonE_CT, xX5_readPersonE_KT, xX5_readPersonE_LT, xX5_readPersonE_NT, o_aload_n, o_bipush, o_getfield, o_iconst, o_if_icmp_lt, o_iload, o_iload_n, o_invokevirtual, o_istore, o_istore_n, o_pop, o_return_, o_sipush, SH_2, KF_2_0, SH_3, KF_3_1, SH_20, KF_20_1, am_ty, am_vc, am_opt, am_cl, am_find, am_ldi, am_ldl, am_lda, am_v, am_1, am_1l, am_1a, am_2, am_2l, am_ix, am_ri, am_arr, am_pf, am_rc, am_mask, am_lg, am_av, am_nat, fv_0, fv_1, fv_2, fv_3, fw_0, fw_1, List.getElem?_cons_zero, List.getElem?_cons_succ, List.set_cons_zero, List.set_cons_succ, List.length_cons, List.length_nil, List.take_succ_cons, List.take_zero, List.drop_succ_cons, List.drop_zero, List.reverse_cons, List.reverse_nil, List.nil_append, List.cons_append, List.append_nil, List.map_cons, List.map_nil, List.sum_cons, List.sum_nil, Value.category, Option.toList_some, Option.toList_none, Nat.reduceAdd, Nat.reduceLT, Nat.reduceLeDiff, Nat.reduceEqDiff, Nat.reduceSub, Nat.add_zero, Nat.le_refl, Nat.zero_le, Int.reduceNeg, Int.reduceLE, Int.reduceLT, true_and, and_true, and_self, if_true, if_false, ite_true, ite_false, eq_self_iff_true, reduceIte, reduceCtorEq, not_false_eq_true, not_true_eq_false, or_true, true_or, or_false, false_or, Nat.lt_irrefl, Nat.zero_lt_succ]
  refine ⟨rfl, d1.1, b, Z, _, _, 0, 9, d2, d3, ⟨by decide, by decide, by decide⟩, rfl, fun τ5 e1 e2 e3 => ?_⟩
  try simp only [dX5_readPerson_0, dX5_readPerson_1, FT_X5_12, dX5_readPerson_4, FT_X5_105, dX5_readPerson_7, dX5_readPerson_8, xX5_readPersonE_t8, dX5_readPerson_11, dX5_readPerson_12, dX5_readPerson_13, xX5_readPersonE_c81, xX5_readPersonE_n81, dX5_readPerson_16, dX5_readPerson_17, dX5_readPerson_20, xX5_readPersonE_c85, xX5_readPersonE_n85, dX5_readPerson_23, dX5_readPerson_24, dX5_readPerson_25, xX5_readPersonE_c108, xX5_readPersonE_n108, dX5_readPerson_28, dX5_readPerson_29, dX5_readPerson_30, dX5_readPerson_32, xX5_readPersonE_c89, xX5_readPersonE_n89, dX5_readPerson_35, dX5_readPerson_36, dX5_readPerson_37, dX5_readPerson_38, dX5_readPerson_40, dX5_readPerson_43, dX5_readPerson_44, dX5_readPerson_45, dX5_readPerson_46, dX5_readPerson_48, dX5_readPerson_51, dX5_readPerson_52, dX5_readPerson_53, dX5_readPerson_54, dX5_readPerson_56, dX5_readPerson_59, dX5_readPerson_61, dX5_readPerson_62, dX5_readPerson_65, dX5_readPerson_66, dX5_readPerson_67, dX5_readPerson_68, dX5_readPerson_70, xX5_readPersonE_c111, xX5_readPersonE_n111, dX5_readPerson_73, xX5_readPersonE_SH, xX5_readPersonE_KF, xX5_readPersonE_rt, xX5_readPersonE_FT, xX5_readPersonE_PT, xX5_readPersonE_CT, xX5_readPersonE_KT, xX5_readPersonE_LT, xX5_readPersonE_NT, o_aload_n, o_bipush, o_getfield, o_iconst, o_if_icmp_lt, o_iload, o_iload_n, o_invokevirtual, o_istore, o_istore_n, o_pop, o_return_, o_sipush, SH_2, KF_2_0, SH_3, KF_3_1, SH_20, KF_20_1, am_ty, am_vc, am_opt, am_cl, am_find, am_ldi, am_ldl, am_lda, am_v, am_1, am_1l, am_1a, am_2, am_2l, am_ix, am_ri, am_arr, am_pf, am_rc, am_mask, am_lg, am_av, am_nat, fv_0, fv_1, fv_2, fv_3, fw_0, fw_1, List.getElem?_cons_zero, List.getElem?_cons_succ, List.set_cons_zero, List.set_cons_succ, List.length_cons, List.length_nil, List.take_succ_cons, List.take_zero, List.drop_succ_cons, List.drop_zero, List.reverse_cons, List.reverse_nil, List.nil_append, List.cons_append, List.append_nil, List.map_cons, List.map_nil, List.sum_cons, List.sum_nil, Value.category, Option.toList_some, Option.toList_none, Nat.reduceAdd, Nat.reduceLT, Nat.reduceLeDiff, Nat.reduceEqDiff, Nat.reduceSub, Nat.add_zero, Nat.le_refl, Nat.zero_le, Int.reduceNeg, Int.reduceLE, Int.reduceLT, true_and, and_true, and_self, if_true, if_false, ite_true, ite_false, eq_self_iff_true, reduceIte, reduceCtorEq, not_false_eq_true, not_true_eq_false, or_true, true_or, or_false, false_or, Nat.lt_irrefl, Nat.zero_lt_succ]
  refine ⟨rfl, e1.1, b, Z, _, _, 0, 9, e2, e3, ⟨by decide, by decide, by decide⟩, rfl, fun τ6 f1 f2 f3 => ?_⟩
  try simp only [dX5_readPerson_0, dX5_readPerson_1, FT_X5_12, dX5_readPerson_4, FT_X5_105, dX5_readPerson_7, dX5_readPerson_8, xX5_readPersonE_t8, dX5_readPerson_11, dX5_readPerson_12, dX5_readPerson_13, xX5_readPersonE_c81, xX5_readPersonE_n81, dX5_readPerson_16, dX5_readPerson_17, dX5_readPerson_20, xX5_readPersonE_c85, xX5_readPersonE_n85, dX5_readPerson_23, dX5_readPerson_24, dX5_readPerson_25, xX5_readPersonE_c108, xX5_readPersonE_n108, dX5_readPerson_28, dX5_readPerson_29, dX5_readPerson_30, dX5_readPerson_32, xX5_readPersonE_c89, xX5_readPersonE_n89, dX5_readPerson_35, dX5_readPerson_36, dX5_readPerson_37, dX5_readPerson_38, dX5_readPerson_40, dX5_readPerson_43, dX5_readPerson_44, dX5_readPerson_45, dX5_readPerson_46, dX5_readPerson_48, dX5_readPerson_51, dX5_readPerson_52, dX5_readPerson_53, dX5_readPerson_54, dX5_readPerson_56, dX5_readPerson_59, dX5_readPerson_61, dX5_readPerson_62, dX5_readPerson_65, dX5_readPerson_66, dX5_readPerson_67, dX5_readPerson_68, dX5_readPerson_70, xX5_readPersonE_c111, xX5_readPersonE_n111, dX5_readPerson_73, xX5_readPersonE_SH, xX5_readPersonE_KF, xX5_readPersonE_rt, xX5_readPersonE_FT, xX5_readPersonE_PT, xX5_readPersonE_CT, xX5_readPersonE_KT, xX5_readPersonE_LT, xX5_readPersonE_NT, o_aload_n, o_bipush, o_getfield, o_iconst, o_if_icmp_lt, o_iload, o_iload_n, o_invokevirtual, o_istore, o_istore_n, o_pop, o_return_, o_sipush, SH_2, KF_2_0, SH_3, KF_3_1, SH_20, KF_20_1, am_ty, am_vc, am_opt, am_cl, am_find, am_ldi, am_ldl, am_lda, am_v, am_1, am_1l, am_1a, am_2, am_2l, am_ix, am_ri, am_arr, am_pf, am_rc, am_mask, am_lg, am_av, am_nat, fv_0, fv_1, fv_2, fv_3, fw_0, fw_1, List.getElem?_cons_zero, List.getElem?_cons_succ, List.set_cons_zero, List.set_cons_succ, List.length_cons, List.length_nil, List.take_succ_cons, List.take_zero, List.drop_succ_cons, List.drop_zero, List.reverse_cons, List.reverse_nil, List.nil_append, List.cons_append, List.append_nil, List.map_cons, List.map_nil, List.sum_cons, List.sum_nil, Value.category, Option.toList_some, Option.toList_none, Nat.reduceAdd, Nat.reduceLT, Nat.reduceLeDiff, Nat.reduceEqDiff, Nat.reduceSub, Nat.add_zero, Nat.le_refl, Nat.zero_le, Int.reduceNeg, Int.reduceLE, Int.reduceLT, true_and, and_true, and_self, if_true, if_false, ite_true, ite_false, eq_self_iff_true, reduceIte, reduceCtorEq, not_false_eq_true, not_true_eq_false, or_true, true_or, or_false, false_or, Nat.lt_irrefl, Nat.zero_lt_succ]
  have l1 := spQ_b (b := b) (Z := Z) (x := 0) (y := 11) (by decide) (spN b Z (ps.map (fun p => p.1)) (stT b Z 21 s) u).1 (spN b Z (ps.map (fun p => p.1)) (stT b Z 21 s) u).2.1
  refine ⟨rfl, f1.1, _, _, _, _, ⟨l1, ?_, ?_, ?_⟩, rfl, fun τ7 g1 g2 => ?_⟩
  · have := spQ_b (b := b) (Z := Z) (x := 1) (y := 9) (by decide) (spQ b Z 0 11 (spN b Z (ps.map (fun p => p.1)) (stT b Z 21 s) u).1 (spN b Z (ps.map (fun p => p.1)) (stT b Z 21 s) u).2.1).1 (spQ b Z 0 11 (spN b Z (ps.map (fun p => p.1)) (stT b Z 21 s) u).1 (spN b Z (ps.map (fun p => p.1)) (stT b Z 21 s) u).2.1).2.1
    exact ⟨by have := this.1; omega, by have := this.2; omega⟩
  · exact ⟨(spQ_b (by decide) _ _).1, Int.le_trans (spQ_b (by decide) _ _).2 (by decide)⟩
  · exact ⟨(spQ_b (by decide) _ _).1, Int.le_trans (spQ_b (by decide) _ _).2 (by decide)⟩
  try simp only [dX5_readPerson_0, dX5_readPerson_1, FT_X5_12, dX5_readPerson_4, FT_X5_105, dX5_readPerson_7, dX5_readPerson_8, xX5_readPersonE_t8, dX5_readPerson_11, dX5_readPerson_12, dX5_readPerson_13, xX5_readPersonE_c81, xX5_readPersonE_n81, dX5_readPerson_16, dX5_readPerson_17, dX5_readPerson_20, xX5_readPersonE_c85, xX5_readPersonE_n85, dX5_readPerson_23, dX5_readPerson_24, dX5_readPerson_25, xX5_readPersonE_c108, xX5_readPersonE_n108, dX5_readPerson_28, dX5_readPerson_29, dX5_readPerson_30, dX5_readPerson_32, xX5_readPersonE_c89, xX5_readPersonE_n89, dX5_readPerson_35, dX5_readPerson_36, dX5_readPerson_37, dX5_readPerson_38, dX5_readPerson_40, dX5_readPerson_43, dX5_readPerson_44, dX5_readPerson_45, dX5_readPerson_46, dX5_readPerson_48, dX5_readPerson_51, dX5_readPerson_52, dX5_readPerson_53, dX5_readPerson_54, dX5_readPerson_56, dX5_readPerson_59, dX5_readPerson_61, dX5_readPerson_62, dX5_readPerson_65, dX5_readPerson_66, dX5_readPerson_67, dX5_readPerson_68, dX5_readPerson_70, xX5_readPersonE_c111, xX5_readPersonE_n111, dX5_readPerson_73, xX5_readPersonE_SH, xX5_readPersonE_KF, xX5_readPersonE_rt, xX5_readPersonE_FT, xX5_readPersonE_PT, xX5_readPersonE_CT, xX5_readPersonE_KT, xX5_readPersonE_LT, xX5_readPersonE_NT, o_aload_n, o_bipush, o_getfield, o_iconst, o_if_icmp_lt, o_iload, o_iload_n, o_invokevirtual, o_istore, o_istore_n, o_pop, o_return_, o_sipush, SH_2, KF_2_0, SH_3, KF_3_1, SH_20, KF_20_1, am_ty, am_vc, am_opt, am_cl, am_find, am_ldi, am_ldl, am_lda, am_v, am_1, am_1l, am_1a, am_2, am_2l, am_ix, am_ri, am_arr, am_pf, am_rc, am_mask, am_lg, am_av, am_nat, fv_0, fv_1, fv_2, fv_3, fw_0, fw_1, List.getElem?_cons_zero, List.getElem?_cons_succ, List.set_cons_zero, List.set_cons_succ, List.length_cons, List.length_nil, List.take_succ_cons, List.take_zero, List.drop_succ_cons, List.drop_zero, List.reverse_cons, List.reverse_nil, List.nil_append, List.cons_append, List.append_nil, List.map_cons, List.map_nil, List.sum_cons, List.sum_nil, Value.category, Option.toList_some, Option.toList_none, Nat.reduceAdd, Nat.reduceLT, Nat.reduceLeDiff, Nat.reduceEqDiff, Nat.reduceSub, Nat.add_zero, Nat.le_refl, Nat.zero_le, Int.reduceNeg, Int.reduceLE, Int.reduceLT, true_and, and_true, and_self, if_true, if_false, ite_true, ite_false, eq_self_iff_true, reduceIte, reduceCtorEq, not_false_eq_true, not_true_eq_false, or_true, true_or, or_false, false_or, Nat.lt_irrefl, Nat.zero_lt_succ]
  have i2 := sI_t (sI_m (M' := rpM) a1 (by decide)) (sI_m (M' := rpM) b1 (by decide))
  have c1' := sI_m (M' := rpM) c1 (by decide)
  have d1' := sI_m (M' := rpM) d1 (by decide)
  have e1' := sI_m (M' := rpM) e1 (by decide)
  have f1' := sI_m (M' := rpM) f1 (by decide)
  have j := sI_t (sI_t (sI_t c1 d1) e1) f1
  refine h τ7 (sI_t (sI_t (sI_t (sI_t (sI_t i2 c1') d1') e1') f1') (sI_m g1 (by decide))) (cST_sI f2 g1 (by decide) (by decide)) (cU_sI f3 g1 (by decide)) (fun t' et => ?_)
  obtain ⟨t4, w4⟩ := spQ_l et
  obtain ⟨t3, w3⟩ := spQ_l w4
  obtain ⟨t2, w2⟩ := spQ_l w3
  obtain ⟨t1, w1⟩ := spQ_l w2
  obtain ⟨t0, w0⟩ := spN_l w1
  obtain ⟨⟨x1, x2, x3⟩, x4⟩ := q1 t0 w0
  obtain ⟨y1, y2⟩ := b4 t1 w1
  rw [List.length_map] at y1 y2
  have z1 : τ6.1 3 1 = Int32.ofInt (ps.length : Int) := by rw [fr_1 j (by decide), fr_1 b1 (by decide)]; exact x1
  obtain ⟨p1, p2⟩ := g2 ps.length x4 z1
  refine ⟨by rw [p1, List.length_append]; rfl, by rw [List.length_append]; show ps.length + 1 ≤ 5; omega, fun i hi => ?_⟩
  rw [List.length_append] at hi
  have hi : i < ps.length + 1 := hi
  obtain ⟨r1, r2, r3, r4⟩ := p2 i
  rw [r1, r2, r3, r4, nm_fr g1 (by decide), nm_fr j (by decide)]
  by_cases w : i = ps.length
  · subst w
    rw [if_pos rfl, if_pos rfl, if_pos rfl, if_pos rfl, List.getD_eq_getElem?_getD, List.getElem?_append_right (Nat.le_refl _), Nat.sub_self]
    exact ⟨y1, rfl, rfl, rfl, rfl⟩
  · have hl : i < ps.length := by omega
    rw [if_neg w, if_neg w, if_neg w, if_neg w, List.getD_eq_getElem?_getD, List.getElem?_append_left hl, ← List.getD_eq_getElem?_getD, y2 i hl, map_gd hl, fr_o j (by decide), fr_o j (by decide), fr_o j (by decide), fr_o j (by decide), fr_o b1 (by decide), fr_o b1 (by decide), fr_o b1 (by decide), fr_o b1 (by decide)]
    exact ⟨rfl, (x3 i hl).2⟩
set_option maxRecDepth 100000 in
theorem ptX5_readPersonE : am_B cX5_readPerson xX5_readPersonE 5 0 sX5_readPersonE := by
  intro n0 as σ post AA hA h
  obtain ⟨rfl, hB, b, Z, t, u, ps, hs, hu, hq, rfl, h⟩ := h
  refine ⟨by simp [am_sl, Value.category], ?_⟩
  show AA 0 [some (.ref 2), none, none, none, none] [] 92 σ
  have c1 : ps.length < 5 → AA 16 [some (.ref 2), none, none, none, none] [] 92 σ := fun q => rp_16 hA hB hs hu (fun _ _ => ⟨hq, q⟩) (fun τ g1 g2 g3 g4 => h τ g1 (fun z => absurd z (by omega)) (fun _ => ⟨g2, g3, g4⟩))
  have c2 : ¬ ps.length < 5 → AA 11 [some (.ref 2), none, none, none, none] [] 92 σ := by
    intro q
    have q5 : ps.length = 5 := by have := hq.2.1; omega
    refine hA [(16, 5)] 5 _ _ _ _ _ ?_
    try simp only [dX5_readPerson_0, dX5_readPerson_1, FT_X5_12, dX5_readPerson_4, FT_X5_105, dX5_readPerson_7, dX5_readPerson_8, xX5_readPersonE_t8, dX5_readPerson_11, dX5_readPerson_12, dX5_readPerson_13, xX5_readPersonE_c81, xX5_readPersonE_n81, dX5_readPerson_16, dX5_readPerson_17, dX5_readPerson_20, xX5_readPersonE_c85, xX5_readPersonE_n85, dX5_readPerson_23, dX5_readPerson_24, dX5_readPerson_25, xX5_readPersonE_c108, xX5_readPersonE_n108, dX5_readPerson_28, dX5_readPerson_29, dX5_readPerson_30, dX5_readPerson_32, xX5_readPersonE_c89, xX5_readPersonE_n89, dX5_readPerson_35, dX5_readPerson_36, dX5_readPerson_37, dX5_readPerson_38, dX5_readPerson_40, dX5_readPerson_43, dX5_readPerson_44, dX5_readPerson_45, dX5_readPerson_46, dX5_readPerson_48, dX5_readPerson_51, dX5_readPerson_52, dX5_readPerson_53, dX5_readPerson_54, dX5_readPerson_56, dX5_readPerson_59, dX5_readPerson_61, dX5_readPerson_62, dX5_readPerson_65, dX5_readPerson_66, dX5_readPerson_67, dX5_readPerson_68, dX5_readPerson_70, xX5_readPersonE_c111, xX5_readPersonE_n111, dX5_readPerson_73, xX5_readPersonE_SH, xX5_readPersonE_KF, xX5_readPersonE_rt, xX5_readPersonE_FT, xX5_readPersonE_PT, xX5_readPersonE_CT, xX5_readPersonE_KT, xX5_readPersonE_LT, xX5_readPersonE_NT, o_aload_n, o_bipush, o_getfield, o_iconst, o_if_icmp_lt, o_iload, o_iload_n, o_invokevirtual, o_istore, o_istore_n, o_pop, o_return_, o_sipush, SH_2, KF_2_0, SH_3, KF_3_1, SH_20, KF_20_1, am_ty, am_vc, am_opt, am_cl, am_find, am_ldi, am_ldl, am_lda, am_v, am_1, am_1l, am_1a, am_2, am_2l, am_ix, am_ri, am_arr, am_pf, am_rc, am_mask, am_lg, am_av, am_nat, fv_0, fv_1, fv_2, fv_3, fw_0, fw_1, List.getElem?_cons_zero, List.getElem?_cons_succ, List.set_cons_zero, List.set_cons_succ, List.length_cons, List.length_nil, List.take_succ_cons, List.take_zero, List.drop_succ_cons, List.drop_zero, List.reverse_cons, List.reverse_nil, List.nil_append, List.cons_append, List.append_nil, List.map_cons, List.map_nil, List.sum_cons, List.sum_nil, Value.category, Option.toList_some, Option.toList_none, Nat.reduceAdd, Nat.reduceLT, Nat.reduceLeDiff, Nat.reduceEqDiff, Nat.reduceSub, Nat.add_zero, Nat.le_refl, Nat.zero_le, Int.reduceNeg, Int.reduceLE, Int.reduceLT, true_and, and_true, and_self, if_true, if_false, ite_true, ite_false, eq_self_iff_true, reduceIte, reduceCtorEq, not_false_eq_true, not_true_eq_false, or_true, true_or, or_false, false_or, Nat.lt_irrefl, Nat.zero_lt_succ]
    refine ⟨rfl, hB, b, Z, .inl t, 2, hs, ⟨by decide, by decide⟩, rfl, fun τ g1 g2 => ?_⟩
    try simp only [dX5_readPerson_0, dX5_readPerson_1, FT_X5_12, dX5_readPerson_4, FT_X5_105, dX5_readPerson_7, dX5_readPerson_8, xX5_readPersonE_t8, dX5_readPerson_11, dX5_readPerson_12, dX5_readPerson_13, xX5_readPersonE_c81, xX5_readPersonE_n81, dX5_readPerson_16, dX5_readPerson_17, dX5_readPerson_20, xX5_readPersonE_c85, xX5_readPersonE_n85, dX5_readPerson_23, dX5_readPerson_24, dX5_readPerson_25, xX5_readPersonE_c108, xX5_readPersonE_n108, dX5_readPerson_28, dX5_readPerson_29, dX5_readPerson_30, dX5_readPerson_32, xX5_readPersonE_c89, xX5_readPersonE_n89, dX5_readPerson_35, dX5_readPerson_36, dX5_readPerson_37, dX5_readPerson_38, dX5_readPerson_40, dX5_readPerson_43, dX5_readPerson_44, dX5_readPerson_45, dX5_readPerson_46, dX5_readPerson_48, dX5_readPerson_51, dX5_readPerson_52, dX5_readPerson_53, dX5_readPerson_54, dX5_readPerson_56, dX5_readPerson_59, dX5_readPerson_61, dX5_readPerson_62, dX5_readPerson_65, dX5_readPerson_66, dX5_readPerson_67, dX5_readPerson_68, dX5_readPerson_70, xX5_readPersonE_c111, xX5_readPersonE_n111, dX5_readPerson_73, xX5_readPersonE_SH, xX5_readPersonE_KF, xX5_readPersonE_rt, xX5_readPersonE_FT, xX5_readPersonE_PT, xX5_readPersonE_CT, xX5_readPersonE_KT, xX5_readPersonE_LT, xX5_readPersonE_NT, o_aload_n, o_bipush, o_getfield, o_iconst, o_if_icmp_lt, o_iload, o_iload_n, o_invokevirtual, o_istore, o_istore_n, o_pop, o_return_, o_sipush, SH_2, KF_2_0, SH_3, KF_3_1, SH_20, KF_20_1, am_ty, am_vc, am_opt, am_cl, am_find, am_ldi, am_ldl, am_lda, am_v, am_1, am_1l, am_1a, am_2, am_2l, am_ix, am_ri, am_arr, am_pf, am_rc, am_mask, am_lg, am_av, am_nat, fv_0, fv_1, fv_2, fv_3, fw_0, fw_1, List.getElem?_cons_zero, List.getElem?_cons_succ, List.set_cons_zero, List.set_cons_succ, List.length_cons, List.length_nil, List.take_succ_cons, List.take_zero, List.drop_succ_cons, List.drop_zero, List.reverse_cons, List.reverse_nil, List.nil_append, List.cons_append, List.append_nil, List.map_cons, List.map_nil, List.sum_cons, List.sum_nil, Value.category, Option.toList_some, Option.toList_none, Nat.reduceAdd, Nat.reduceLT, Nat.reduceLeDiff, Nat.reduceEqDiff, Nat.reduceSub, Nat.add_zero, Nat.le_refl, Nat.zero_le, Int.reduceNeg, Int.reduceLE, Int.reduceLT, true_and, and_true, and_self, if_true, if_false, ite_true, ite_false, eq_self_iff_true, reduceIte, reduceCtorEq, not_false_eq_true, not_true_eq_false, or_true, true_or, or_false, false_or, Nat.lt_irrefl, Nat.zero_lt_succ]
    exact rp_16 (ps := ps) hA g1.1 g2 (cU_sI hu g1 (by decide)) (fun t z => by cases z) (fun υ j1 j2 j3 _ => h υ (sI_t (sI_m (M' := rpM) g1 (by decide)) j1) (fun _ => ⟨j2, j3⟩) (fun z => absurd z (by omega)))
  have q2 := hq.2.1
  refine hA [(16, 5), (11, 5)] 8 _ _ _ _ _ ?_
  try simp only [dX5_readPerson_0, dX5_readPerson_1, FT_X5_12, dX5_readPerson_4, FT_X5_105, dX5_readPerson_7, dX5_readPerson_8, xX5_readPersonE_t8, dX5_readPerson_11, dX5_readPerson_12, dX5_readPerson_13, xX5_readPersonE_c81, xX5_readPersonE_n81, dX5_readPerson_16, dX5_readPerson_17, dX5_readPerson_20, xX5_readPersonE_c85, xX5_readPersonE_n85, dX5_readPerson_23, dX5_readPerson_24, dX5_readPerson_25, xX5_readPersonE_c108, xX5_readPersonE_n108, dX5_readPerson_28, dX5_readPerson_29, dX5_readPerson_30, dX5_readPerson_32, xX5_readPersonE_c89, xX5_readPersonE_n89, dX5_readPerson_35, dX5_readPerson_36, dX5_readPerson_37, dX5_readPerson_38, dX5_readPerson_40, dX5_readPerson_43, dX5_readPerson_44, dX5_readPerson_45, dX5_readPerson_46, dX5_readPerson_48, dX5_readPerson_51, dX5_readPerson_52, dX5_readPerson_53, dX5_readPerson_54, dX5_readPerson_56, dX5_readPerson_59, dX5_readPerson_61, dX5_readPerson_62, dX5_readPerson_65, dX5_readPerson_66, dX5_readPerson_67, dX5_readPerson_68, dX5_readPerson_70, xX5_readPersonE_c111, xX5_readPersonE_n111, dX5_readPerson_73, xX5_readPersonE_SH, xX5_readPersonE_KF, xX5_readPersonE_rt, xX5_readPersonE_FT, xX5_readPersonE_PT, xX5_readPersonE_CT, xX5_readPersonE_KT, xX5_readPersonE_LT, xX5_readPersonE_NT, o_aload_n, o_bipush, o_getfield, o_iconst, o_if_icmp_lt, o_iload, o_iload_n, o_invokevirtual, o_istore, o_istore_n, o_pop, o_return_, o_sipush, SH_2, KF_2_0, SH_3, KF_3_1, SH_20, KF_20_1, am_ty, am_vc, am_opt, am_cl, am_find, am_ldi, am_ldl, am_lda, am_v, am_1, am_1l, am_1a, am_2, am_2l, am_ix, am_ri, am_arr, am_pf, am_rc, am_mask, am_lg, am_av, am_nat, fv_0, fv_1, fv_2, fv_3, fw_0, fw_1, List.getElem?_cons_zero, List.getElem?_cons_succ, List.set_cons_zero, List.set_cons_succ, List.length_cons, List.length_nil, List.take_succ_cons, List.take_zero, List.drop_succ_cons, List.drop_zero, List.reverse_cons, List.reverse_nil, List.nil_append, List.cons_append, List.append_nil, List.map_cons, List.map_nil, List.sum_cons, List.sum_nil, Value.category, Option.toList_some, Option.toList_none, Nat.reduceAdd, Nat.reduceLT, Nat.reduceLeDiff, Nat.reduceEqDiff, Nat.reduceSub, Nat.add_zero, Nat.le_refl, Nat.zero_le, Int.reduceNeg, Int.reduceLE, Int.reduceLT, true_and, and_true, and_self, if_true, if_false, ite_true, ite_false, eq_self_iff_true, reduceIte, reduceCtorEq, not_false_eq_true, not_true_eq_false, or_true, true_or, or_false, false_or, Nat.lt_irrefl, Nat.zero_lt_succ, hq.1]
  try simp (disch := omega) only [ii_0, ii_1, ii_t, ii_add, ii_sub, ii_mul, ii_lt, ii_le, ii_eq, ij_in, ii_c, Int.toNat_natCast, Int.toNat_zero, Int.reduceToNat, Int.reduceEq, Int.reduceNe, Int.reduceLE, Int.reduceLT, Int.reduceAdd, Int.reduceSub, Int.reduceMul, Int.reduceNeg, Nat.reduceLT, Nat.reduceAdd, Nat.reduceMul, not_false_eq_true, not_true_eq_false, true_and, and_true, and_self, false_and, and_false, true_implies, false_implies, implies_true, forall_const, if_true, if_false, ite_true, ite_false, reduceIte, eq_self_iff_true, Int.natCast_nonneg, Int.zero_add, Int.add_zero, pi_s, pi_n, on_2000, on_402, on_408, on_19, on_5, on_4, hq.1]
  refine ⟨fun z => ?_, fun z => ?_⟩
  · first
    | exact c1 (by omega)
    | exact c2 (by omega)
  · first
    | exact c1 (by omega)
    | exact c2 (by omega)
theorem mX5_readPersonE (l : Launch) : am_M l TB NB vwCl SH KF yX5_readPerson cX5_readPerson 5 none 5 0 0 sX5_readPersonE := by
  refine am_M.of xX5_readPersonE (by decide +kernel) TB_good GF rfl rfl rfl (by decide) ⟨FT_X5_ok, PT_X5_ok _, CT_X5_ok, KT_X5_ok, LT_X5_ok, NT_X5_ok, ?_⟩ ptX5_readPersonE
  exact List.forall_mem_cons.mpr ⟨⟨yX5_fail, cX5_fail, 2, none, 2, 1, mX5_failE l, by decide, by decide, tk_607, tk_104, ⟨by decide +kernel, by decide +kernel, by decide +kernel⟩, rfl, tk_604, tk_606, ⟨(RX5, TX5, 11), rfl, tb_at 6 (by decide +kernel) (by decide +kernel)⟩⟩, List.forall_mem_cons.mpr ⟨⟨yX5_take, cX5_take, 2, (some .boolean), 3, 1, mX5_takeE l, by decide, by decide, tk_603, tk_104, ⟨by decide +kernel, by decide +kernel, by decide +kernel⟩, rfl, tk_600, tk_602, ⟨(RX5, TX5, 11), rfl, tb_at 5 (by decide +kernel) (by decide +kernel)⟩⟩, List.forall_mem_cons.mpr ⟨⟨yX5_readInt, cX5_readInt, 5, (some .int), 4, 2, mX5_readIntE l, by decide, by decide, tk_611, tk_104, ⟨by decide +kernel, by decide +kernel, by decide +kernel⟩, rfl, tk_608, tk_610, ⟨(RX5, TX5, 11), rfl, tb_at 7 (by decide +kernel) (by decide +kernel)⟩⟩, List.forall_mem_cons.mpr ⟨⟨yX5_readName, cX5_readName, 6, none, 4, 0, mX5_readNameE l, by decide, by decide, tk_623, tk_104, ⟨by decide +kernel, by decide +kernel, by decide +kernel⟩, rfl, tk_620, tk_622, ⟨(RX5, TX5, 11), rfl, tb_at 10 (by decide +kernel) (by decide +kernel)⟩⟩, List.forall_mem_cons.mpr ⟨⟨yX9_addPerson, cX9_addPerson, 5, none, 2, 4, mX9_addPersonE l, by decide, by decide, tk_627, tk_105, ⟨by decide +kernel, by decide +kernel, by decide +kernel⟩, rfl, tk_624, tk_625, ⟨(RX9, TX9, 8), rfl, tk_626⟩⟩, fun _ h => absurd h List.not_mem_nil⟩⟩⟩⟩⟩

/-! THE CLASS'S SENTENCES: what a law is made of. Printed from wip/am/chk/hand/y4.in. -/
theorem lA_add {σ τ : am_S} {x : Int32} {op arg : Int} (h0 : 0 ≤ lS σ) (h1 : lS σ ≤ 407) (h : 0 ≤ lS σ → lS σ ≤ 407 → (lS τ = lS σ + 1 ∧ x = Int32.ofInt (lS σ)) ∧ ∀ i : Nat, (τ.1 5 i = if i = (lS σ).toNat then Int32.ofInt op else σ.1 5 i) ∧ (τ.1 6 i = if i = (lS σ).toNat then Int32.ofInt arg else σ.1 6 i)) : lA σ τ [(op, arg)] ∧ x = Int32.ofInt (lS σ) := ⟨lA_one h0 (h h0 h1).1.1 (h h0 h1).2, (h h0 h1).1.2⟩
/-- a step that jumps, mended -/
theorem lA_jump {σ τ υ : am_S} {p r : List (Int × Int)} {k : Nat} {op w v : Int} (h : lA σ τ (p ++ (op, w) :: r)) (h0 : 0 ≤ lS σ) (hk : k = (lS σ).toNat + p.length) (h1 : lS υ = lS τ) (h2 : ∀ i : Nat, υ.1 5 i = τ.1 5 i ∧ υ.1 6 i = if i = k then Int32.ofInt v else τ.1 6 i) : lA σ υ (p ++ (op, v) :: r) := by
  obtain ⟨g1, g2, g3⟩ := h
  refine ⟨by rw [h1, g1, List.length_append, List.length_append]; rfl, fun i hi => ?_, fun i hi => ?_⟩
  · obtain ⟨a, b⟩ := g2 i hi
    obtain ⟨a', b'⟩ := h2 i
    rw [if_neg (by omega)] at b'
    exact ⟨a'.trans a, b'.trans b⟩
  · rw [List.length_append] at hi
    have hi' : i < (p ++ (op, w) :: r).length := by rw [List.length_append]; exact hi
    obtain ⟨a, b⟩ := g3 i hi'
    obtain ⟨a', b'⟩ := h2 ((lS σ).toNat + i)
    by_cases q : i = p.length
    · subst q
      rw [if_pos hk.symm] at b'
      have e : ∀ z : Int, (p ++ (op, z) :: r).getD p.length (0, 0) = (op, z) := fun z => by
        rw [List.getD_eq_getElem?_getD, List.getElem?_append_right (Nat.le_refl _), Nat.sub_self]
        rfl
      rw [e] at a ⊢
      exact ⟨a'.trans a, b'⟩
    · rw [if_neg (by omega)] at b'
      have e : (p ++ (op, v) :: r).getD i (0, 0) = (p ++ (op, w) :: r).getD i (0, 0) := by
        rw [List.getD_eq_getElem?_getD, List.getD_eq_getElem?_getD]
        by_cases z : i < p.length
        · rw [List.getElem?_append_left z, List.getElem?_append_left z]
        · rw [List.getElem?_append_right (by omega), List.getElem?_append_right (by omega)]
          obtain ⟨m, hm⟩ : ∃ m, i - p.length = m + 1 := ⟨i - p.length - 1, by omega⟩
          rw [hm]
          rfl
      rw [e]
      exact ⟨a'.trans a, b'.trans b⟩
/-- an expression behind a place -/
theorem ex_post {b : Nat → Int} {Z : Nat} {s s' : ST} {σ τ : am_S} (hs : cST b Z σ s) (g2 : cST b Z τ s') (g3 : ∀ q, s = .inr q → s' = s) (g4 : ∀ t, s = .inl t → ∃ c, eS (tK b Z) (tV b Z) (tP b Z) 0 t s' c ∧ ∀ t', s' = .inl t' → lA σ τ (c.map lc)) : s' = (spE b Z s).1 ∧ ∀ t', (spE b Z s).1 = .inl t' → ∃ t, s = .inl t ∧ (spE b Z s).2.length + t ≤ t' ∧ lA σ τ ((spE b Z s).2.map lc) := by
  cases s with
  | inr q => exact ⟨g3 q rfl, fun t' z => by cases z⟩
  | inl t =>
    obtain ⟨c, c1, c2⟩ := g4 t rfl
    have e := cST_expr c1 hs.2.1.1 (fun t' z => by subst z; exact g2.2.1.1)
    refine ⟨e.1, fun t' z => ⟨t, rfl, ?_, ?_⟩⟩
    · have e2 := e.2 t' (e.1.trans z)
      have e3 : s' = .inl t' := e.1.trans z
      rw [← e2]
      subst e3
      exact (eSi_len c1.1).2
    · have e2 := e.2 t' (e.1.trans z)
      rw [← e2]
      exact c2 t' (e.1.trans z)
def bgM : sa_M := [(7, 0, 4)]
def jhM : sa_M := [(6, 0, 408)]
def sX2_beginE : am_Sp := fun as n σ post => n = 92 ∧ sb_ok BB SH σ ∧ ∃ k : Nat, k < 4 ∧ as = [.ref 4, .int (Int32.ofInt (k : Int))] ∧ ∀ τ, sI BB SH bgM σ τ → (∀ i, τ.1 7 i = if i = k then Int32.ofInt (lS σ) else σ.1 7 i) → post none τ
def xX2_beginE : am_X := (SH, KF, none, FT_X2, PT_X2, CT_X2, KT_X2, LT_X2, NT_X2, [])
theorem xX2_beginE_SH : am_SH xX2_beginE = SH := rfl
theorem xX2_beginE_KF : am_KF xX2_beginE = KF := rfl
theorem xX2_beginE_rt : am_rt xX2_beginE = none := rfl
theorem xX2_beginE_FT : am_FT xX2_beginE = FT_X2 := rfl
theorem xX2_beginE_PT : am_PT xX2_beginE = PT_X2 := rfl
theorem xX2_beginE_CT : am_CT xX2_beginE = CT_X2 := rfl
theorem xX2_beginE_KT : am_KT xX2_beginE = KT_X2 := rfl
theorem xX2_beginE_LT : am_LT xX2_beginE = LT_X2 := rfl
theorem xX2_beginE_NT : am_NT xX2_beginE = NT_X2 := rfl
theorem xX2_beginE_t1 (k : Nat → Prop) : am_tg 1 (22) k = k 23 := am_tg_eq (by decide)
theorem xX2_beginE_t10 (k : Nat → Prop) : am_tg 10 (13) k = k 23 := am_tg_eq (by decide)

set_option maxRecDepth 100000 in
theorem ptX2_beginE : am_B cX2_begin xX2_beginE 2 0 sX2_beginE := by
  intro n0 as σ post AA hA h
  obtain ⟨rfl, hB, k, hk, rfl, h⟩ := h
  refine ⟨by simp [am_sl, Value.category], ?_⟩
  show AA 0 [some (.ref 4), some (.int (Int32.ofInt (k : Int)))] [] 92 σ
  have e1 : σ.1 4 5 = Int32.ofInt (lS σ) := ii_of _
  have y2 := ii_hi (Int32.ofInt (lS σ))
  have i1 : sI BB SH bgM σ (am_pi σ 7 k (Int32.ofInt (lS σ))) := sI_arr (q := (0, 4)) ⟨hB, sb_fr_r _ _⟩ rfl (by rw [sb_1 (q := (-2147483648, 2147483647)) rfl]; exact ⟨ii_lo _, by show _ ≤ (2147483647 : Int); omega⟩) ⟨(7, 0, 4), by decide, rfl, Nat.zero_le _, hk⟩
  have hP := h _ i1 (fun i => by
    by_cases w : i = k
    · rw [if_pos w, w, pi_s]
    · rw [if_neg w, pi_n _ _ _ _ (fun z => w z.2)])
  refine hA [] 20 _ _ _ _ _ ?_
  try simp only [dX2_begin_0, dX2_begin_1, xX2_beginE_t1, dX2_begin_4, dX2_begin_5, dX2_begin_6, FT_X2_18, dX2_begin_9, dX2_begin_10, xX2_beginE_t10, dX2_begin_13, dX2_begin_14, dX2_begin_17, dX2_begin_18, dX2_begin_19, FT_X2_27, dX2_begin_22, dX2_begin_23, xX2_beginE_SH, xX2_beginE_KF, xX2_beginE_rt, xX2_beginE_FT, xX2_beginE_PT, xX2_beginE_CT, xX2_beginE_KT, xX2_beginE_LT, xX2_beginE_NT, o_aload_n, o_arraylength, o_getfield, o_iastore, o_ifCond_lt, o_if_icmp_ge, o_iload_n, o_return_, SH_4, KF_4_2, SH_7, KF_4_5, SH_21, KF_21_2, SH_24, KF_21_5, am_ty, am_vc, am_opt, am_cl, am_find, am_ldi, am_ldl, am_lda, am_v, am_1, am_1l, am_1a, am_2, am_2l, am_ix, am_ri, am_arr, am_pf, am_rc, am_mask, am_lg, am_av, am_nat, fv_0, fv_1, fv_2, fv_3, fw_0, fw_1, List.getElem?_cons_zero, List.getElem?_cons_succ, List.set_cons_zero, List.set_cons_succ, List.length_cons, List.length_nil, List.take_succ_cons, List.take_zero, List.drop_succ_cons, List.drop_zero, List.reverse_cons, List.reverse_nil, List.nil_append, List.cons_append, List.append_nil, List.map_cons, List.map_nil, List.sum_cons, List.sum_nil, Value.category, Option.toList_some, Option.toList_none, Nat.reduceAdd, Nat.reduceLT, Nat.reduceLeDiff, Nat.reduceEqDiff, Nat.reduceSub, Nat.add_zero, Nat.le_refl, Nat.zero_le, Int.reduceNeg, Int.reduceLE, Int.reduceLT, true_and, and_true, and_self, if_true, if_false, ite_true, ite_false, eq_self_iff_true, reduceIte, reduceCtorEq, not_false_eq_true, not_true_eq_false, or_true, true_or, or_false, false_or, Nat.lt_irrefl, Nat.zero_lt_succ, e1]
  try simp (disch := omega) only [ii_0, ii_1, ii_t, ii_add, ii_sub, ii_mul, ii_lt, ii_le, ii_eq, ij_in, ii_c, Int.toNat_natCast, Int.toNat_zero, Int.reduceToNat, Int.reduceEq, Int.reduceNe, Int.reduceLE, Int.reduceLT, Int.reduceAdd, Int.reduceSub, Int.reduceMul, Int.reduceNeg, Nat.reduceLT, Nat.reduceAdd, Nat.reduceMul, not_false_eq_true, not_true_eq_false, true_and, and_true, and_self, false_and, and_false, true_implies, false_implies, implies_true, forall_const, if_true, if_false, ite_true, ite_false, reduceIte, eq_self_iff_true, Int.natCast_nonneg, Int.zero_add, Int.add_zero, pi_s, pi_n, on_2000, on_402, on_408, on_19, on_5, on_4, e1]
  first
  | exact hP
  | exact ⟨fun z => absurd z (by omega), fun _ => ⟨fun z => absurd z (by omega), fun _ => ⟨by omega, hP⟩⟩⟩
theorem mX2_beginE (l : Launch) : am_M l TB NB vwCl SH KF yX2_begin cX2_begin 2 none 2 0 0 sX2_beginE := by
  refine am_M.of xX2_beginE (by decide +kernel) TB_good GF rfl rfl rfl (by decide) ⟨FT_X2_ok, PT_X2_ok _, CT_X2_ok, KT_X2_ok, LT_X2_ok, NT_X2_ok, ?_⟩ ptX2_beginE
  exact fun _ h => absurd h List.not_mem_nil

def sX2_jumpHereE : am_Sp := fun as n σ post => n = 92 ∧ sb_ok BB SH σ ∧ ∃ x : Int32, as = [.ref 4, .int x] ∧ ∀ τ, sI BB SH jhM σ τ → (∀ k : Nat, k < 408 → x = Int32.ofInt (k : Int) → ∀ i, τ.1 6 i = if i = k then Int32.ofInt (lS σ) else σ.1 6 i) → post none τ
def xX2_jumpHereE : am_X := (SH, KF, none, FT_X2, PT_X2, CT_X2, KT_X2, LT_X2, NT_X2, [])
theorem xX2_jumpHereE_SH : am_SH xX2_jumpHereE = SH := rfl
theorem xX2_jumpHereE_KF : am_KF xX2_jumpHereE = KF := rfl
theorem xX2_jumpHereE_rt : am_rt xX2_jumpHereE = none := rfl
theorem xX2_jumpHereE_FT : am_FT xX2_jumpHereE = FT_X2 := rfl
theorem xX2_jumpHereE_PT : am_PT xX2_jumpHereE = PT_X2 := rfl
theorem xX2_jumpHereE_CT : am_CT xX2_jumpHereE = CT_X2 := rfl
theorem xX2_jumpHereE_KT : am_KT xX2_jumpHereE = KT_X2 := rfl
theorem xX2_jumpHereE_LT : am_LT xX2_jumpHereE = LT_X2 := rfl
theorem xX2_jumpHereE_NT : am_NT xX2_jumpHereE = NT_X2 := rfl
theorem xX2_jumpHereE_t1 (k : Nat → Prop) : am_tg 1 (22) k = k 23 := am_tg_eq (by decide)
theorem xX2_jumpHereE_t10 (k : Nat → Prop) : am_tg 10 (13) k = k 23 := am_tg_eq (by decide)

set_option maxRecDepth 100000 in
theorem ptX2_jumpHereE : am_B cX2_jumpHere xX2_jumpHereE 2 0 sX2_jumpHereE := by
  intro n0 as σ post AA hA h
  obtain ⟨rfl, hB, x, rfl, h⟩ := h
  obtain ⟨kv, ekv⟩ : ∃ kv, kv = x.toInt := ⟨_, rfl⟩
  have ex : x = Int32.ofInt kv := by rw [ekv]; exact ii_of _
  have k1 : -2147483648 ≤ kv := by rw [ekv]; exact ii_lo _
  have k2 : kv < 2147483648 := by rw [ekv]; exact ii_hi _
  subst ex
  refine ⟨by simp [am_sl, Value.category], ?_⟩
  show AA 0 [some (.ref 4), some (.int (Int32.ofInt kv))] [] 92 σ
  have e1 : σ.1 4 5 = Int32.ofInt (lS σ) := ii_of _
  have y2 := ii_hi (Int32.ofInt (lS σ))
  by_cases q : 0 ≤ kv ∧ kv < 408
  · obtain ⟨k, rfl⟩ : ∃ k : Nat, kv = (k : Int) := ⟨kv.toNat, by omega⟩
    have i1 : sI BB SH jhM σ (am_pi σ 6 k (Int32.ofInt (lS σ))) := sI_arr (q := (0, 408)) ⟨hB, sb_fr_r _ _⟩ rfl (by rw [sb_1 (q := (-2147483648, 2147483647)) rfl]; exact ⟨ii_lo _, by show _ ≤ (2147483647 : Int); omega⟩) ⟨(6, 0, 408), by decide, rfl, Nat.zero_le _, by show k < 408; omega⟩
    have hP := h _ i1 (fun k' hk' e' i => by
      have e2 : (k : Int) = (k' : Int) := by
        have := congrArg Int32.toInt e'
        rw [ii_t (by omega) (by omega), ii_t (by omega) (by omega)] at this
        exact this
      have e3 : k' = k := by omega
      subst e3
      by_cases w : i = k'
      · rw [if_pos w, w, pi_s]
      · rw [if_neg w, pi_n _ _ _ _ (fun z => w z.2)])
    refine hA [] 20 _ _ _ _ _ ?_
    try simp only [dX2_jumpHere_0, dX2_jumpHere_1, xX2_jumpHereE_t1, dX2_jumpHere_4, dX2_jumpHere_5, dX2_jumpHere_6, FT_X2_15, dX2_jumpHere_9, dX2_jumpHere_10, xX2_jumpHereE_t10, dX2_jumpHere_13, dX2_jumpHere_14, dX2_jumpHere_17, dX2_jumpHere_18, dX2_jumpHere_19, FT_X2_27, dX2_jumpHere_22, dX2_jumpHere_23, xX2_jumpHereE_SH, xX2_jumpHereE_KF, xX2_jumpHereE_rt, xX2_jumpHereE_FT, xX2_jumpHereE_PT, xX2_jumpHereE_CT, xX2_jumpHereE_KT, xX2_jumpHereE_LT, xX2_jumpHereE_NT, o_aload_n, o_arraylength, o_getfield, o_iastore, o_ifCond_lt, o_if_icmp_ge, o_iload_n, o_return_, SH_4, KF_4_1, SH_6, KF_4_5, SH_21, KF_21_1, SH_23, KF_21_5, am_ty, am_vc, am_opt, am_cl, am_find, am_ldi, am_ldl, am_lda, am_v, am_1, am_1l, am_1a, am_2, am_2l, am_ix, am_ri, am_arr, am_pf, am_rc, am_mask, am_lg, am_av, am_nat, fv_0, fv_1, fv_2, fv_3, fw_0, fw_1, List.getElem?_cons_zero, List.getElem?_cons_succ, List.set_cons_zero, List.set_cons_succ, List.length_cons, List.length_nil, List.take_succ_cons, List.take_zero, List.drop_succ_cons, List.drop_zero, List.reverse_cons, List.reverse_nil, List.nil_append, List.cons_append, List.append_nil, List.map_cons, List.map_nil, List.sum_cons, List.sum_nil, Value.category, Option.toList_some, Option.toList_none, Nat.reduceAdd, Nat.reduceLT, Nat.reduceLeDiff, Nat.reduceEqDiff, Nat.reduceSub, Nat.add_zero, Nat.le_refl, Nat.zero_le, Int.reduceNeg, Int.reduceLE, Int.reduceLT, true_and, and_true, and_self, if_true, if_false, ite_true, ite_false, eq_self_iff_true, reduceIte, reduceCtorEq, not_false_eq_true, not_true_eq_false, or_true, true_or, or_false, false_or, Nat.lt_irrefl, Nat.zero_lt_succ, e1]
    try simp (disch := omega) only [ii_0, ii_1, ii_t, ii_add, ii_sub, ii_mul, ii_lt, ii_le, ii_eq, ij_in, ii_c, Int.toNat_natCast, Int.toNat_zero, Int.reduceToNat, Int.reduceEq, Int.reduceNe, Int.reduceLE, Int.reduceLT, Int.reduceAdd, Int.reduceSub, Int.reduceMul, Int.reduceNeg, Nat.reduceLT, Nat.reduceAdd, Nat.reduceMul, not_false_eq_true, not_true_eq_false, true_and, and_true, and_self, false_and, and_false, true_implies, false_implies, implies_true, forall_const, if_true, if_false, ite_true, ite_false, reduceIte, eq_self_iff_true, Int.natCast_nonneg, Int.zero_add, Int.add_zero, pi_s, pi_n, on_2000, on_402, on_408, on_19, on_5, on_4, e1]
    first
    | exact hP
    | exact ⟨fun z => absurd z (by omega), fun _ => ⟨fun z => absurd z (by omega), fun _ => ⟨by omega, hP⟩⟩⟩
  · have hP := h σ ⟨hB, sb_fr_r _ _⟩ (fun k' hk' e' => by
      have := congrArg Int32.toInt e'
      rw [ii_t (by omega) (by omega), ii_t (by omega) (by omega)] at this
      omega)
    have at23 : ∀ ls, AA 23 ls [] 92 σ := fun ls => by
      refine hA [] 2 _ _ _ _ _ ?_
      try simp only [dX2_jumpHere_0, dX2_jumpHere_1, xX2_jumpHereE_t1, dX2_jumpHere_4, dX2_jumpHere_5, dX2_jumpHere_6, FT_X2_15, dX2_jumpHere_9, dX2_jumpHere_10, xX2_jumpHereE_t10, dX2_jumpHere_13, dX2_jumpHere_14, dX2_jumpHere_17, dX2_jumpHere_18, dX2_jumpHere_19, FT_X2_27, dX2_jumpHere_22, dX2_jumpHere_23, xX2_jumpHereE_SH, xX2_jumpHereE_KF, xX2_jumpHereE_rt, xX2_jumpHereE_FT, xX2_jumpHereE_PT, xX2_jumpHereE_CT, xX2_jumpHereE_KT, xX2_jumpHereE_LT, xX2_jumpHereE_NT, o_aload_n, o_arraylength, o_getfield, o_iastore, o_ifCond_lt, o_if_icmp_ge, o_iload_n, o_return_, SH_4, KF_4_1, SH_6, KF_4_5, SH_21, KF_21_1, SH_23, KF_21_5, am_ty, am_vc, am_opt, am_cl, am_find, am_ldi, am_ldl, am_lda, am_v, am_1, am_1l, am_1a, am_2, am_2l, am_ix, am_ri, am_arr, am_pf, am_rc, am_mask, am_lg, am_av, am_nat, fv_0, fv_1, fv_2, fv_3, fw_0, fw_1, List.getElem?_cons_zero, List.getElem?_cons_succ, List.set_cons_zero, List.set_cons_succ, List.length_cons, List.length_nil, List.take_succ_cons, List.take_zero, List.drop_succ_cons, List.drop_zero, List.reverse_cons, List.reverse_nil, List.nil_append, List.cons_append, List.append_nil, List.map_cons, List.map_nil, List.sum_cons, List.sum_nil, Value.category, Option.toList_some, Option.toList_none, Nat.reduceAdd, Nat.reduceLT, Nat.reduceLeDiff, Nat.reduceEqDiff, Nat.reduceSub, Nat.add_zero, Nat.le_refl, Nat.zero_le, Int.reduceNeg, Int.reduceLE, Int.reduceLT, true_and, and_true, and_self, if_true, if_false, ite_true, ite_false, eq_self_iff_true, reduceIte, reduceCtorEq, not_false_eq_true, not_true_eq_false, or_true, true_or, or_false, false_or, Nat.lt_irrefl, Nat.zero_lt_succ, e1]
      exact hP
    refine hA [(23, 2), (13, 2)] 8 _ _ _ _ _ ?_
    try simp only [dX2_jumpHere_0, dX2_jumpHere_1, xX2_jumpHereE_t1, dX2_jumpHere_4, dX2_jumpHere_5, dX2_jumpHere_6, FT_X2_15, dX2_jumpHere_9, dX2_jumpHere_10, xX2_jumpHereE_t10, dX2_jumpHere_13, dX2_jumpHere_14, dX2_jumpHere_17, dX2_jumpHere_18, dX2_jumpHere_19, FT_X2_27, dX2_jumpHere_22, dX2_jumpHere_23, xX2_jumpHereE_SH, xX2_jumpHereE_KF, xX2_jumpHereE_rt, xX2_jumpHereE_FT, xX2_jumpHereE_PT, xX2_jumpHereE_CT, xX2_jumpHereE_KT, xX2_jumpHereE_LT, xX2_jumpHereE_NT, o_aload_n, o_arraylength, o_getfield, o_iastore, o_ifCond_lt, o_if_icmp_ge, o_iload_n, o_return_, SH_4, KF_4_1, SH_6, KF_4_5, SH_21, KF_21_1, SH_23, KF_21_5, am_ty, am_vc, am_opt, am_cl, am_find, am_ldi, am_ldl, am_lda, am_v, am_1, am_1l, am_1a, am_2, am_2l, am_ix, am_ri, am_arr, am_pf, am_rc, am_mask, am_lg, am_av, am_nat, fv_0, fv_1, fv_2, fv_3, fw_0, fw_1, List.getElem?_cons_zero, List.getElem?_cons_succ, List.set_cons_zero, List.set_cons_succ, List.length_cons, List.length_nil, List.take_succ_cons, List.take_zero, List.drop_succ_cons, List.drop_zero, List.reverse_cons, List.reverse_nil, List.nil_append, List.cons_append, List.append_nil, List.map_cons, List.map_nil, List.sum_cons, List.sum_nil, Value.category, Option.toList_some, Option.toList_none, Nat.reduceAdd, Nat.reduceLT, Nat.reduceLeDiff, Nat.reduceEqDiff, Nat.reduceSub, Nat.add_zero, Nat.le_refl, Nat.zero_le, Int.reduceNeg, Int.reduceLE, Int.reduceLT, true_and, and_true, and_self, if_true, if_false, ite_true, ite_false, eq_self_iff_true, reduceIte, reduceCtorEq, not_false_eq_true, not_true_eq_false, or_true, true_or, or_false, false_or, Nat.lt_irrefl, Nat.zero_lt_succ, e1]
    try simp (disch := omega) only [ii_0, ii_1, ii_t, ii_add, ii_sub, ii_mul, ii_lt, ii_le, ii_eq, ij_in, ii_c, Int.toNat_natCast, Int.toNat_zero, Int.reduceToNat, Int.reduceEq, Int.reduceNe, Int.reduceLE, Int.reduceLT, Int.reduceAdd, Int.reduceSub, Int.reduceMul, Int.reduceNeg, Nat.reduceLT, Nat.reduceAdd, Nat.reduceMul, not_false_eq_true, not_true_eq_false, true_and, and_true, and_self, false_and, and_false, true_implies, false_implies, implies_true, forall_const, if_true, if_false, ite_true, ite_false, reduceIte, eq_self_iff_true, Int.natCast_nonneg, Int.zero_add, Int.add_zero, pi_s, pi_n, on_2000, on_402, on_408, on_19, on_5, on_4, e1]
    first
    | exact ⟨fun _ => at23 _, fun _ => ⟨fun _ => at23 _, fun z => absurd z (by omega)⟩⟩
    | exact ⟨fun _ => at23 _, fun _ => ⟨fun z => absurd z (by omega), fun _ => at23 _⟩⟩
theorem mX2_jumpHereE (l : Launch) : am_M l TB NB vwCl SH KF yX2_jumpHere cX2_jumpHere 2 none 2 0 0 sX2_jumpHereE := by
  refine am_M.of xX2_jumpHereE (by decide +kernel) TB_good GF rfl rfl rfl (by decide) ⟨FT_X2_ok, PT_X2_ok _, CT_X2_ok, KT_X2_ok, LT_X2_ok, NT_X2_ok, ?_⟩ ptX2_jumpHereE
  exact fun _ h => absurd h List.not_mem_nil

/-- a branch as the class writes it, from step L on -/
def cBr (L : Int) (br : BR) : List (Int × Int) := (br.1.map lc ++ br.2.1.map lc) ++ (3, L + ((br.1.length + br.2.1.length + 1 + br.2.2.length + 1 : Nat) : Int)) :: (br.2.2.map lc ++ [(0, 0)])
def cBs (L : Int) : List BR → List (Int × Int)
  | [] => []
  | br :: r => cBr L br ++ cBs (L + ((cBr L br).length : Int)) r
def cLw (L : Int) (w : LW) : List (Int × Int) := cBs L w.1 ++ (w.2.map lc ++ [(0, 0)])
theorem cBs_snoc (br : BR) : ∀ (a : List BR) (L : Int), cBs L (a ++ [br]) = cBs L a ++ cBr (L + ((cBs L a).length : Int)) br := by
  intro a
  induction a with
  | nil => intro L; show cBr L br ++ [] = [] ++ cBr (L + 0) br; rw [List.append_nil, List.nil_append, Int.add_zero]
  | cons x r ih =>
    intro L
    show cBr L x ++ cBs _ (r ++ [br]) = (cBr L x ++ cBs _ r) ++ _
    rw [ih, List.append_assoc]
    congr 2
    show cBr _ br = cBr (L + ((cBr L x ++ cBs _ r).length : Int)) br
    rw [List.length_append, Int.natCast_add, Int.add_assoc]
