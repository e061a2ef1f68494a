/-! THE CLASS'S EXPRESSIONS go the machine's way. Printed from wip/am/chk/hand/v3.in. -/
theorem dX5_readUnit_0 : decode cX5_readUnit 0 = .ok (.aload_n 0, 1) := dk_ok (by decide +kernel)
theorem dX5_readUnit_1 : decode cX5_readUnit 1 = .ok (.getfield 33, 3) := dk_ok (by decide +kernel)
theorem dX5_readUnit_4 : decode cX5_readUnit 4 = .ok (.iconst 3, 1) := dk_ok (by decide +kernel)
theorem dX5_readUnit_5 : decode cX5_readUnit 5 = .ok (.if_icmp .ne 32, 3) := dk_ok (by decide +kernel)
theorem dX5_readUnit_8 : decode cX5_readUnit 8 = .ok (.aload_n 0, 1) := dk_ok (by decide +kernel)
theorem dX5_readUnit_9 : decode cX5_readUnit 9 = .ok (.getfield 12, 3) := dk_ok (by decide +kernel)
theorem dX5_readUnit_12 : decode cX5_readUnit 12 = .ok (.getfield 115, 3) := dk_ok (by decide +kernel)
theorem dX5_readUnit_15 : decode cX5_readUnit 15 = .ok (.iconst 1, 1) := dk_ok (by decide +kernel)
theorem dX5_readUnit_16 : decode cX5_readUnit 16 = .ok (.aload_n 0, 1) := dk_ok (by decide +kernel)
theorem dX5_readUnit_17 : decode cX5_readUnit 17 = .ok (.getfield 39, 3) := dk_ok (by decide +kernel)
theorem dX5_readUnit_20 : decode cX5_readUnit 20 = .ok (.l2i, 1) := dk_ok (by decide +kernel)
theorem dX5_readUnit_21 : decode cX5_readUnit 21 = .ok (.invokevirtual 127, 3) := dk_ok (by decide +kernel)
theorem dX5_readUnit_24 : decode cX5_readUnit 24 = .ok (.pop, 1) := dk_ok (by decide +kernel)
theorem dX5_readUnit_25 : decode cX5_readUnit 25 = .ok (.aload_n 0, 1) := dk_ok (by decide +kernel)
theorem dX5_readUnit_26 : decode cX5_readUnit 26 = .ok (.aload_n 0, 1) := dk_ok (by decide +kernel)
theorem dX5_readUnit_27 : decode cX5_readUnit 27 = .ok (.getfield 33, 3) := dk_ok (by decide +kernel)
theorem dX5_readUnit_30 : decode cX5_readUnit 30 = .ok (.invokevirtual 85, 3) := dk_ok (by decide +kernel)
theorem dX5_readUnit_33 : decode cX5_readUnit 33 = .ok (.pop, 1) := dk_ok (by decide +kernel)
theorem dX5_readUnit_34 : decode cX5_readUnit 34 = .ok (.goto 97, 3) := dk_ok (by decide +kernel)
theorem dX5_readUnit_37 : decode cX5_readUnit 37 = .ok (.aload_n 0, 1) := dk_ok (by decide +kernel)
theorem dX5_readUnit_38 : decode cX5_readUnit 38 = .ok (.getfield 33, 3) := dk_ok (by decide +kernel)
theorem dX5_readUnit_41 : decode cX5_readUnit 41 = .ok (.sipush 266, 3) := dk_ok (by decide +kernel)
theorem dX5_readUnit_44 : decode cX5_readUnit 44 = .ok (.if_icmp .lt 35, 3) := dk_ok (by decide +kernel)
theorem dX5_readUnit_47 : decode cX5_readUnit 47 = .ok (.aload_n 0, 1) := dk_ok (by decide +kernel)
theorem dX5_readUnit_48 : decode cX5_readUnit 48 = .ok (.getfield 12, 3) := dk_ok (by decide +kernel)
theorem dX5_readUnit_51 : decode cX5_readUnit 51 = .ok (.getfield 115, 3) := dk_ok (by decide +kernel)
theorem dX5_readUnit_54 : decode cX5_readUnit 54 = .ok (.iconst 2, 1) := dk_ok (by decide +kernel)
theorem dX5_readUnit_55 : decode cX5_readUnit 55 = .ok (.aload_n 0, 1) := dk_ok (by decide +kernel)
theorem dX5_readUnit_56 : decode cX5_readUnit 56 = .ok (.getfield 33, 3) := dk_ok (by decide +kernel)
theorem dX5_readUnit_59 : decode cX5_readUnit 59 = .ok (.sipush 266, 3) := dk_ok (by decide +kernel)
theorem dX5_readUnit_62 : decode cX5_readUnit 62 = .ok (.isub, 1) := dk_ok (by decide +kernel)
theorem dX5_readUnit_63 : decode cX5_readUnit 63 = .ok (.invokevirtual 127, 3) := dk_ok (by decide +kernel)
theorem dX5_readUnit_66 : decode cX5_readUnit 66 = .ok (.pop, 1) := dk_ok (by decide +kernel)
theorem dX5_readUnit_67 : decode cX5_readUnit 67 = .ok (.aload_n 0, 1) := dk_ok (by decide +kernel)
theorem dX5_readUnit_68 : decode cX5_readUnit 68 = .ok (.aload_n 0, 1) := dk_ok (by decide +kernel)
theorem dX5_readUnit_69 : decode cX5_readUnit 69 = .ok (.getfield 33, 3) := dk_ok (by decide +kernel)
theorem dX5_readUnit_72 : decode cX5_readUnit 72 = .ok (.invokevirtual 85, 3) := dk_ok (by decide +kernel)
theorem dX5_readUnit_75 : decode cX5_readUnit 75 = .ok (.pop, 1) := dk_ok (by decide +kernel)
theorem dX5_readUnit_76 : decode cX5_readUnit 76 = .ok (.goto 55, 3) := dk_ok (by decide +kernel)
theorem dX5_readUnit_79 : decode cX5_readUnit 79 = .ok (.aload_n 0, 1) := dk_ok (by decide +kernel)
theorem dX5_readUnit_80 : decode cX5_readUnit 80 = .ok (.getfield 33, 3) := dk_ok (by decide +kernel)
theorem dX5_readUnit_83 : decode cX5_readUnit 83 = .ok (.bipush 40, 2) := dk_ok (by decide +kernel)
theorem dX5_readUnit_85 : decode cX5_readUnit 85 = .ok (.if_icmp .eq 11, 3) := dk_ok (by decide +kernel)
theorem dX5_readUnit_88 : decode cX5_readUnit 88 = .ok (.aload_n 0, 1) := dk_ok (by decide +kernel)
theorem dX5_readUnit_89 : decode cX5_readUnit 89 = .ok (.iconst 1, 1) := dk_ok (by decide +kernel)
theorem dX5_readUnit_90 : decode cX5_readUnit 90 = .ok (.invokevirtual 81, 3) := dk_ok (by decide +kernel)
theorem dX5_readUnit_93 : decode cX5_readUnit 93 = .ok (.goto 38, 3) := dk_ok (by decide +kernel)
theorem dX5_readUnit_96 : decode cX5_readUnit 96 = .ok (.iload_n 1, 1) := dk_ok (by decide +kernel)
theorem dX5_readUnit_97 : decode cX5_readUnit 97 = .ok (.bipush 6, 2) := dk_ok (by decide +kernel)
theorem dX5_readUnit_99 : decode cX5_readUnit 99 = .ok (.if_icmp .lt 11, 3) := dk_ok (by decide +kernel)
theorem dX5_readUnit_102 : decode cX5_readUnit 102 = .ok (.aload_n 0, 1) := dk_ok (by decide +kernel)
theorem dX5_readUnit_103 : decode cX5_readUnit 103 = .ok (.iconst 2, 1) := dk_ok (by decide +kernel)
theorem dX5_readUnit_104 : decode cX5_readUnit 104 = .ok (.invokevirtual 81, 3) := dk_ok (by decide +kernel)
theorem dX5_readUnit_107 : decode cX5_readUnit 107 = .ok (.goto 24, 3) := dk_ok (by decide +kernel)
theorem dX5_readUnit_110 : decode cX5_readUnit 110 = .ok (.aload_n 0, 1) := dk_ok (by decide +kernel)
theorem dX5_readUnit_111 : decode cX5_readUnit 111 = .ok (.bipush 40, 2) := dk_ok (by decide +kernel)
theorem dX5_readUnit_113 : decode cX5_readUnit 113 = .ok (.invokevirtual 85, 3) := dk_ok (by decide +kernel)
theorem dX5_readUnit_116 : decode cX5_readUnit 116 = .ok (.pop, 1) := dk_ok (by decide +kernel)
theorem dX5_readUnit_117 : decode cX5_readUnit 117 = .ok (.aload_n 0, 1) := dk_ok (by decide +kernel)
theorem dX5_readUnit_118 : decode cX5_readUnit 118 = .ok (.iload_n 1, 1) := dk_ok (by decide +kernel)
theorem dX5_readUnit_119 : decode cX5_readUnit 119 = .ok (.iconst 1, 1) := dk_ok (by decide +kernel)
theorem dX5_readUnit_120 : decode cX5_readUnit 120 = .ok (.iadd, 1) := dk_ok (by decide +kernel)
theorem dX5_readUnit_121 : decode cX5_readUnit 121 = .ok (.invokevirtual 124, 3) := dk_ok (by decide +kernel)
theorem dX5_readUnit_124 : decode cX5_readUnit 124 = .ok (.aload_n 0, 1) := dk_ok (by decide +kernel)
theorem dX5_readUnit_125 : decode cX5_readUnit 125 = .ok (.bipush 41, 2) := dk_ok (by decide +kernel)
theorem dX5_readUnit_127 : decode cX5_readUnit 127 = .ok (.invokevirtual 85, 3) := dk_ok (by decide +kernel)
theorem dX5_readUnit_130 : decode cX5_readUnit 130 = .ok (.pop, 1) := dk_ok (by decide +kernel)
theorem dX5_readUnit_131 : decode cX5_readUnit 131 = .ok (.return_, 1) := dk_ok (by decide +kernel)
theorem dX5_readProduct_0 : decode cX5_readProduct 0 = .ok (.aload_n 0, 1) := dk_ok (by decide +kernel)
theorem dX5_readProduct_1 : decode cX5_readProduct 1 = .ok (.iload_n 1, 1) := dk_ok (by decide +kernel)
theorem dX5_readProduct_2 : decode cX5_readProduct 2 = .ok (.invokevirtual 136, 3) := dk_ok (by decide +kernel)
theorem dX5_readProduct_5 : decode cX5_readProduct 5 = .ok (.iconst 0, 1) := dk_ok (by decide +kernel)
theorem dX5_readProduct_6 : decode cX5_readProduct 6 = .ok (.istore_n 2, 1) := dk_ok (by decide +kernel)
theorem dX5_readProduct_7 : decode cX5_readProduct 7 = .ok (.iload_n 2, 1) := dk_ok (by decide +kernel)
theorem dX5_readProduct_8 : decode cX5_readProduct 8 = .ok (.sipush 400, 3) := dk_ok (by decide +kernel)
theorem dX5_readProduct_11 : decode cX5_readProduct 11 = .ok (.if_icmp .ge 56, 3) := dk_ok (by decide +kernel)
theorem dX5_readProduct_14 : decode cX5_readProduct 14 = .ok (.aload_n 0, 1) := dk_ok (by decide +kernel)
theorem dX5_readProduct_15 : decode cX5_readProduct 15 = .ok (.getfield 33, 3) := dk_ok (by decide +kernel)
theorem dX5_readProduct_18 : decode cX5_readProduct 18 = .ok (.bipush 42, 2) := dk_ok (by decide +kernel)
theorem dX5_readProduct_20 : decode cX5_readProduct 20 = .ok (.if_icmp .eq 12, 3) := dk_ok (by decide +kernel)
theorem dX5_readProduct_23 : decode cX5_readProduct 23 = .ok (.aload_n 0, 1) := dk_ok (by decide +kernel)
theorem dX5_readProduct_24 : decode cX5_readProduct 24 = .ok (.getfield 33, 3) := dk_ok (by decide +kernel)
theorem dX5_readProduct_27 : decode cX5_readProduct 27 = .ok (.bipush 47, 2) := dk_ok (by decide +kernel)
theorem dX5_readProduct_29 : decode cX5_readProduct 29 = .ok (.if_icmp .ne 38, 3) := dk_ok (by decide +kernel)
theorem dX5_readProduct_32 : decode cX5_readProduct 32 = .ok (.aload_n 0, 1) := dk_ok (by decide +kernel)
theorem dX5_readProduct_33 : decode cX5_readProduct 33 = .ok (.getfield 33, 3) := dk_ok (by decide +kernel)
theorem dX5_readProduct_36 : decode cX5_readProduct 36 = .ok (.istore_n 3, 1) := dk_ok (by decide +kernel)
theorem dX5_readProduct_37 : decode cX5_readProduct 37 = .ok (.aload_n 0, 1) := dk_ok (by decide +kernel)
theorem dX5_readProduct_38 : decode cX5_readProduct 38 = .ok (.iload_n 3, 1) := dk_ok (by decide +kernel)
theorem dX5_readProduct_39 : decode cX5_readProduct 39 = .ok (.invokevirtual 85, 3) := dk_ok (by decide +kernel)
theorem dX5_readProduct_42 : decode cX5_readProduct 42 = .ok (.pop, 1) := dk_ok (by decide +kernel)
theorem dX5_readProduct_43 : decode cX5_readProduct 43 = .ok (.aload_n 0, 1) := dk_ok (by decide +kernel)
theorem dX5_readProduct_44 : decode cX5_readProduct 44 = .ok (.iload_n 1, 1) := dk_ok (by decide +kernel)
theorem dX5_readProduct_45 : decode cX5_readProduct 45 = .ok (.invokevirtual 136, 3) := dk_ok (by decide +kernel)
theorem dX5_readProduct_48 : decode cX5_readProduct 48 = .ok (.aload_n 0, 1) := dk_ok (by decide +kernel)
theorem dX5_readProduct_49 : decode cX5_readProduct 49 = .ok (.getfield 12, 3) := dk_ok (by decide +kernel)
theorem dX5_readProduct_52 : decode cX5_readProduct 52 = .ok (.getfield 115, 3) := dk_ok (by decide +kernel)
theorem dX5_readProduct_55 : decode cX5_readProduct 55 = .ok (.iload_n 3, 1) := dk_ok (by decide +kernel)
theorem dX5_readProduct_56 : decode cX5_readProduct 56 = .ok (.iconst 0, 1) := dk_ok (by decide +kernel)
theorem dX5_readProduct_57 : decode cX5_readProduct 57 = .ok (.invokevirtual 127, 3) := dk_ok (by decide +kernel)
theorem dX5_readProduct_60 : decode cX5_readProduct 60 = .ok (.pop, 1) := dk_ok (by decide +kernel)
theorem dX5_readProduct_61 : decode cX5_readProduct 61 = .ok (.iinc 2 1, 3) := dk_ok (by decide +kernel)
theorem dX5_readProduct_64 : decode cX5_readProduct 64 = .ok (.goto (-57), 3) := dk_ok (by decide +kernel)
theorem dX5_readProduct_67 : decode cX5_readProduct 67 = .ok (.return_, 1) := dk_ok (by decide +kernel)
theorem dX5_readSum_0 : decode cX5_readSum 0 = .ok (.aload_n 0, 1) := dk_ok (by decide +kernel)
theorem dX5_readSum_1 : decode cX5_readSum 1 = .ok (.iload_n 1, 1) := dk_ok (by decide +kernel)
theorem dX5_readSum_2 : decode cX5_readSum 2 = .ok (.invokevirtual 133, 3) := dk_ok (by decide +kernel)
theorem dX5_readSum_5 : decode cX5_readSum 5 = .ok (.iconst 0, 1) := dk_ok (by decide +kernel)
theorem dX5_readSum_6 : decode cX5_readSum 6 = .ok (.istore_n 2, 1) := dk_ok (by decide +kernel)
theorem dX5_readSum_7 : decode cX5_readSum 7 = .ok (.iload_n 2, 1) := dk_ok (by decide +kernel)
theorem dX5_readSum_8 : decode cX5_readSum 8 = .ok (.sipush 400, 3) := dk_ok (by decide +kernel)
theorem dX5_readSum_11 : decode cX5_readSum 11 = .ok (.if_icmp .ge 56, 3) := dk_ok (by decide +kernel)
theorem dX5_readSum_14 : decode cX5_readSum 14 = .ok (.aload_n 0, 1) := dk_ok (by decide +kernel)
theorem dX5_readSum_15 : decode cX5_readSum 15 = .ok (.getfield 33, 3) := dk_ok (by decide +kernel)
theorem dX5_readSum_18 : decode cX5_readSum 18 = .ok (.bipush 43, 2) := dk_ok (by decide +kernel)
theorem dX5_readSum_20 : decode cX5_readSum 20 = .ok (.if_icmp .eq 12, 3) := dk_ok (by decide +kernel)
theorem dX5_readSum_23 : decode cX5_readSum 23 = .ok (.aload_n 0, 1) := dk_ok (by decide +kernel)
theorem dX5_readSum_24 : decode cX5_readSum 24 = .ok (.getfield 33, 3) := dk_ok (by decide +kernel)
theorem dX5_readSum_27 : decode cX5_readSum 27 = .ok (.bipush 45, 2) := dk_ok (by decide +kernel)
theorem dX5_readSum_29 : decode cX5_readSum 29 = .ok (.if_icmp .ne 38, 3) := dk_ok (by decide +kernel)
theorem dX5_readSum_32 : decode cX5_readSum 32 = .ok (.aload_n 0, 1) := dk_ok (by decide +kernel)
theorem dX5_readSum_33 : decode cX5_readSum 33 = .ok (.getfield 33, 3) := dk_ok (by decide +kernel)
theorem dX5_readSum_36 : decode cX5_readSum 36 = .ok (.istore_n 3, 1) := dk_ok (by decide +kernel)
theorem dX5_readSum_37 : decode cX5_readSum 37 = .ok (.aload_n 0, 1) := dk_ok (by decide +kernel)
theorem dX5_readSum_38 : decode cX5_readSum 38 = .ok (.iload_n 3, 1) := dk_ok (by decide +kernel)
theorem dX5_readSum_39 : decode cX5_readSum 39 = .ok (.invokevirtual 85, 3) := dk_ok (by decide +kernel)
theorem dX5_readSum_42 : decode cX5_readSum 42 = .ok (.pop, 1) := dk_ok (by decide +kernel)
theorem dX5_readSum_43 : decode cX5_readSum 43 = .ok (.aload_n 0, 1) := dk_ok (by decide +kernel)
theorem dX5_readSum_44 : decode cX5_readSum 44 = .ok (.iload_n 1, 1) := dk_ok (by decide +kernel)
theorem dX5_readSum_45 : decode cX5_readSum 45 = .ok (.invokevirtual 133, 3) := dk_ok (by decide +kernel)
theorem dX5_readSum_48 : decode cX5_readSum 48 = .ok (.aload_n 0, 1) := dk_ok (by decide +kernel)
theorem dX5_readSum_49 : decode cX5_readSum 49 = .ok (.getfield 12, 3) := dk_ok (by decide +kernel)
theorem dX5_readSum_52 : decode cX5_readSum 52 = .ok (.getfield 115, 3) := dk_ok (by decide +kernel)
theorem dX5_readSum_55 : decode cX5_readSum 55 = .ok (.iload_n 3, 1) := dk_ok (by decide +kernel)
theorem dX5_readSum_56 : decode cX5_readSum 56 = .ok (.iconst 0, 1) := dk_ok (by decide +kernel)
theorem dX5_readSum_57 : decode cX5_readSum 57 = .ok (.invokevirtual 127, 3) := dk_ok (by decide +kernel)
theorem dX5_readSum_60 : decode cX5_readSum 60 = .ok (.pop, 1) := dk_ok (by decide +kernel)
theorem dX5_readSum_61 : decode cX5_readSum 61 = .ok (.iinc 2 1, 3) := dk_ok (by decide +kernel)
theorem dX5_readSum_64 : decode cX5_readSum 64 = .ok (.goto (-57), 3) := dk_ok (by decide +kernel)
theorem dX5_readSum_67 : decode cX5_readSum 67 = .ok (.return_, 1) := dk_ok (by decide +kernel)

/-- how many steps the draft's laws have -/
def lS (σ : am_S) : Int := (σ.1 4 5).toInt
def laM : sa_M := [(4, 5, 5 + 1), (5, 0, 408), (6, 0, 408)]
def ruM : sa_M := rkM ++ laM
/-- a code as the class writes it -/
def lc (q : Int × Int) : Int × Int := if q.1 = 0 then (1, q.2) else if q.1 = 1 then (2, q.2) else if q.1 = 2 then (43, 0) else if q.1 = 3 then (45, 0) else if q.1 = 4 then (42, 0) else (47, 0)
/-- steps more -/
def lA (σ τ : am_S) (c : List (Int × Int)) : Prop := lS τ = lS σ + (c.length : Int) ∧ (∀ i : Nat, (i : Int) < lS σ → τ.1 5 i = σ.1 5 i ∧ τ.1 6 i = σ.1 6 i) ∧ ∀ i : Nat, i < c.length → τ.1 5 ((lS σ).toNat + i) = Int32.ofInt (c.getD i (0, 0)).1 ∧ τ.1 6 ((lS σ).toNat + i) = Int32.ofInt (c.getD i (0, 0)).2
theorem lA_nil {σ τ : am_S} (h1 : lS τ = lS σ) (h2 : ∀ o i, o = 5 ∨ o = 6 → τ.1 o i = σ.1 o i) : lA σ τ [] := ⟨by rw [h1]; exact (Int.add_zero _).symm, fun i _ => ⟨h2 _ _ (Or.inl rfl), h2 _ _ (Or.inr rfl)⟩, fun i hi => absurd hi (Nat.not_lt_zero _)⟩
theorem lA_t {σ τ υ : am_S} {c d : List (Int × Int)} (h0 : 0 ≤ lS σ) (h : lA σ τ c) (g : lA τ υ d) : lA σ υ (c ++ d) := by
  obtain ⟨h1, h2, h3⟩ := h
  obtain ⟨g1, g2, g3⟩ := g
  refine ⟨by rw [g1, h1, List.length_append]; omega, fun i hi => ?_, fun i hi => ?_⟩
  · have a := g2 i (by omega)
    have b := h2 i hi
    exact ⟨a.1.trans b.1, a.2.trans b.2⟩
  · rw [List.length_append] at hi
    by_cases q : i < c.length
    · have a := g2 ((lS σ).toNat + i) (by omega)
      have b := h3 i q
      have e : (c ++ d).getD i (0, 0) = c.getD i (0, 0) := by
        rw [List.getD_eq_getElem?_getD, List.getD_eq_getElem?_getD, List.getElem?_append_left q]
      rw [e]
      exact ⟨a.1.trans b.1, a.2.trans b.2⟩
    · have a := g3 (i - c.length) (by omega)
      have e : (c ++ d).getD i (0, 0) = d.getD (i - c.length) (0, 0) := by
        rw [List.getD_eq_getElem?_getD, List.getD_eq_getElem?_getD, List.getElem?_append_right (by omega)]
      rw [e]
      have e2 : (lS τ).toNat + (i - c.length) = (lS σ).toNat + i := by omega
      rw [e2] at a
      exact a
theorem lA_k {σ τ υ : am_S} {c : List (Int × Int)} (h : lA σ τ c) (h1 : lS υ = lS τ) (h2 : ∀ o i, o = 5 ∨ o = 6 → υ.1 o i = τ.1 o i) : lA σ υ c := by
  obtain ⟨g1, g2, g3⟩ := h
  refine ⟨h1.trans g1, fun i hi => ?_, fun i hi => ?_⟩
  · rw [h2 _ _ (Or.inl rfl), h2 _ _ (Or.inr rfl)]; exact g2 i hi
  · rw [h2 _ _ (Or.inl rfl), h2 _ _ (Or.inr rfl)]; exact g3 i hi
def sX2_addE : am_Sp := fun as n σ post => n = 92 ∧ sb_ok BB SH σ ∧ ∃ op arg : Int, as = [.ref 4, .int (Int32.ofInt op), .int (Int32.ofInt arg)] ∧ ∀ (τ : am_S) (x : Int32), sI BB SH laM σ τ → (0 ≤ lS σ → lS σ ≤ 407 → (lS τ = lS σ + 1 ∧ x = Int32.ofInt (lS σ)) ∧ ∀ i : Nat, (τ.1 5 i = if i = (lS σ).toNat then Int32.ofInt op else σ.1 5 i) ∧ (τ.1 6 i = if i = (lS σ).toNat then Int32.ofInt arg else σ.1 6 i)) → post (some (.int x)) τ
def xX2_addE : am_X := (SH, KF, (some .int), FT_X2, PT_X2, CT_X2, KT_X2, LT_X2, NT_X2, [])
theorem xX2_addE_SH : am_SH xX2_addE = SH := rfl
theorem xX2_addE_KF : am_KF xX2_addE = KF := rfl
theorem xX2_addE_rt : am_rt xX2_addE = (some .int) := rfl
theorem xX2_addE_FT : am_FT xX2_addE = FT_X2 := rfl
theorem xX2_addE_PT : am_PT xX2_addE = PT_X2 := rfl
theorem xX2_addE_CT : am_CT xX2_addE = CT_X2 := rfl
theorem xX2_addE_KT : am_KT xX2_addE = KT_X2 := rfl
theorem xX2_addE_LT : am_LT xX2_addE = LT_X2 := rfl
theorem xX2_addE_NT : am_NT xX2_addE = NT_X2 := rfl
theorem xX2_addE_t4 (k : Nat → Prop) : am_tg 4 (57) k = k 61 := am_tg_eq (by decide)
theorem xX2_addE_t16 (k : Nat → Prop) : am_tg 16 (45) k = k 61 := am_tg_eq (by decide)
theorem xX2_addE_t28 (k : Nat → Prop) : am_tg 28 (33) k = k 61 := am_tg_eq (by decide)

set_option maxRecDepth 100000 in
theorem ptX2_addE : am_B cX2_add xX2_addE 3 0 sX2_addE := by
  intro n0 as σ post AA hA h
  obtain ⟨rfl, hB, op, arg, rfl, h⟩ := h
  obtain ⟨kv, ekv⟩ : ∃ kv, kv = lS σ := ⟨_, rfl⟩
  have e1 : σ.1 4 5 = Int32.ofInt kv := by rw [ekv]; exact ii_of _
  have k1 := ii_lo (σ.1 4 5)
  have k2 := ii_hi (σ.1 4 5)
  have k1 : -2147483648 ≤ kv := by rw [ekv]; exact k1
  have k2 : kv < 2147483648 := by rw [ekv]; exact k2
  rw [← ekv] at h
  have hno : ¬ (0 ≤ kv ∧ kv ≤ 407) → ∀ x, post (some (.int x)) σ := fun q x => h σ x ⟨hB, sb_fr_r _ _⟩ (fun a b => absurd ⟨a, b⟩ q)
  have fo := ii_hi (Int32.ofInt op)
  have fa := ii_hi (Int32.ofInt arg)
  have fs := ii_hi (Int32.ofInt (kv + 1))
  refine ⟨by simp [am_sl, Value.category], ?_⟩
  show AA 0 [some (.ref 4), some (.int (Int32.ofInt op)), some (.int (Int32.ofInt arg))] [] 92 σ
  by_cases q : 0 ≤ kv ∧ kv ≤ 407
  · have i1 : sI BB SH laM σ (am_pi σ 5 kv.toNat (Int32.ofInt op)) := sI_arr (q := (0, 408)) ⟨hB, sb_fr_r _ _⟩ rfl (by rw [sb_1 (q := (-2147483648, 2147483647)) rfl]; exact ⟨ii_lo _, by show _ ≤ (2147483647 : Int); omega⟩) ⟨(5, 0, 408), by decide, rfl, Nat.zero_le _, by show kv.toNat < 408; omega⟩
    have i2 := sI_arr (o := 6) (k := kv.toNat) (x := Int32.ofInt arg) (q := (0, 408)) i1 rfl (by rw [sb_1 (q := (-2147483648, 2147483647)) rfl]; exact ⟨ii_lo _, by show _ ≤ (2147483647 : Int); omega⟩) ⟨(6, 0, 408), by decide, rfl, Nat.zero_le _, by show kv.toNat < 408; omega⟩
    have i3 := sI_fld (o := 4) (k := 5) (x := Int32.ofInt (kv + 1)) (ci := 2) i2 rfl ⟨ii_lo _, by show _ ≤ (2147483647 : Int); omega⟩ ⟨(4, 5, 5 + 1), by decide, rfl, by decide, by decide⟩
    refine hA [] 60 _ _ _ _ _ ?_
    try simp only [dX2_add_0, dX2_add_1, FT_X2_27, dX2_add_4, xX2_addE_t4, dX2_add_7, dX2_add_8, dX2_add_11, dX2_add_12, FT_X2_11, dX2_add_15, dX2_add_16, xX2_addE_t16, dX2_add_19, dX2_add_20, dX2_add_23, dX2_add_24, FT_X2_15, dX2_add_27, dX2_add_28, xX2_addE_t28, dX2_add_31, dX2_add_32, dX2_add_35, dX2_add_36, dX2_add_39, dX2_add_40, dX2_add_41, dX2_add_42, dX2_add_45, dX2_add_46, dX2_add_49, dX2_add_50, dX2_add_51, dX2_add_52, dX2_add_53, dX2_add_56, dX2_add_57, dX2_add_58, PT_X2_27, dX2_add_61, dX2_add_62, dX2_add_65, dX2_add_66, dX2_add_67, xX2_addE_SH, xX2_addE_KF, xX2_addE_rt, xX2_addE_FT, xX2_addE_PT, xX2_addE_CT, xX2_addE_KT, xX2_addE_LT, xX2_addE_NT, o_aload_n, o_arraylength, o_dup, o_getfield, o_iadd, o_iastore, o_iconst, o_ifCond_lt, o_if_icmp_ge, o_iload_n, o_ireturn, o_isub, o_putfield, SH_4, KF_4_0, SH_5, KF_4_1, SH_6, KF_4_5, SH_21, KF_21_0, SH_22, KF_21_1, SH_23, KF_21_5, am_ty, am_vc, am_opt, am_cl, am_find, am_ldi, am_ldl, am_lda, am_v, am_1, am_1l, am_1a, am_2, am_2l, am_ix, am_ri, am_arr, am_pf, am_rc, am_mask, am_lg, am_av, am_nat, fv_0, fv_1, fv_2, fv_3, fw_0, fw_1, List.getElem?_cons_zero, List.getElem?_cons_succ, List.set_cons_zero, List.set_cons_succ, List.length_cons, List.length_nil, List.take_succ_cons, List.take_zero, List.drop_succ_cons, List.drop_zero, List.reverse_cons, List.reverse_nil, List.nil_append, List.cons_append, List.append_nil, List.map_cons, List.map_nil, List.sum_cons, List.sum_nil, Value.category, Option.toList_some, Option.toList_none, Nat.reduceAdd, Nat.reduceLT, Nat.reduceLeDiff, Nat.reduceEqDiff, Nat.reduceSub, Nat.add_zero, Nat.le_refl, Nat.zero_le, Int.reduceNeg, Int.reduceLE, Int.reduceLT, true_and, and_true, and_self, if_true, if_false, ite_true, ite_false, eq_self_iff_true, reduceIte, reduceCtorEq, not_false_eq_true, not_true_eq_false, or_true, true_or, or_false, false_or, Nat.lt_irrefl, Nat.zero_lt_succ, e1]
    try simp (disch := omega) only [ii_0, ii_1, ii_t, ii_add, ii_sub, ii_mul, ii_lt, ii_le, ii_eq, ij_in, ii_c, Int.toNat_natCast, Int.toNat_zero, Int.reduceToNat, Int.reduceEq, Int.reduceNe, Int.reduceLE, Int.reduceLT, Int.reduceAdd, Int.reduceSub, Int.reduceMul, Int.reduceNeg, Nat.reduceLT, Nat.reduceAdd, Nat.reduceMul, not_false_eq_true, not_true_eq_false, true_and, and_true, and_self, false_and, and_false, true_implies, false_implies, implies_true, forall_const, if_true, if_false, ite_true, ite_false, reduceIte, eq_self_iff_true, Int.natCast_nonneg, Int.zero_add, Int.add_zero, pi_s, pi_n, on_2000, on_402, on_408, on_19, on_5, on_4, e1]
    have hP := h _ (Int32.ofInt (kv + 1 - 1)) i3 (fun _ _ => ⟨⟨by unfold lS; rw [pi_s, ii_t (by omega) (by omega)], by rw [Int.add_sub_cancel]⟩, fun i => ⟨?_, ?_⟩⟩)
    · first
      | exact hP
      | exact ⟨fun z => absurd z (by omega), fun _ => ⟨fun z => absurd z (by omega), fun _ => ⟨fun z => absurd z (by omega), fun _ => ⟨⟨by omega, by omega⟩, ⟨by omega, by omega⟩, hP⟩⟩⟩⟩
    · rw [pi_n _ _ _ _ (fun z => absurd z.1 (by decide)), pi_n _ _ _ _ (fun z => absurd z.1 (by decide))]
      by_cases w : i = kv.toNat
      · rw [if_pos w, w, pi_s]
      · rw [if_neg w, pi_n _ _ _ _ (fun z => w z.2)]
    · rw [pi_n _ _ _ _ (fun z => absurd z.1 (by decide))]
      by_cases w : i = kv.toNat
      · rw [if_pos w, w, pi_s]
      · rw [if_neg w, pi_n _ _ _ _ (fun z => w z.2), pi_n _ _ _ _ (fun z => absurd z.1 (by decide))]
  · have hP := hno q
    by_cases q1 : kv < 0
    · refine hA [(61, 3)] 60 _ _ _ _ _ ?_
      try simp only [dX2_add_0, dX2_add_1, FT_X2_27, dX2_add_4, xX2_addE_t4, dX2_add_7, dX2_add_8, dX2_add_11, dX2_add_12, FT_X2_11, dX2_add_15, dX2_add_16, xX2_addE_t16, dX2_add_19, dX2_add_20, dX2_add_23, dX2_add_24, FT_X2_15, dX2_add_27, dX2_add_28, xX2_addE_t28, dX2_add_31, dX2_add_32, dX2_add_35, dX2_add_36, dX2_add_39, dX2_add_40, dX2_add_41, dX2_add_42, dX2_add_45, dX2_add_46, dX2_add_49, dX2_add_50, dX2_add_51, dX2_add_52, dX2_add_53, dX2_add_56, dX2_add_57, dX2_add_58, PT_X2_27, dX2_add_61, dX2_add_62, dX2_add_65, dX2_add_66, dX2_add_67, xX2_addE_SH, xX2_addE_KF, xX2_addE_rt, xX2_addE_FT, xX2_addE_PT, xX2_addE_CT, xX2_addE_KT, xX2_addE_LT, xX2_addE_NT, o_aload_n, o_arraylength, o_dup, o_getfield, o_iadd, o_iastore, o_iconst, o_ifCond_lt, o_if_icmp_ge, o_iload_n, o_ireturn, o_isub, o_putfield, SH_4, KF_4_0, SH_5, KF_4_1, SH_6, KF_4_5, SH_21, KF_21_0, SH_22, KF_21_1, SH_23, KF_21_5, am_ty, am_vc, am_opt, am_cl, am_find, am_ldi, am_ldl, am_lda, am_v, am_1, am_1l, am_1a, am_2, am_2l, am_ix, am_ri, am_arr, am_pf, am_rc, am_mask, am_lg, am_av, am_nat, fv_0, fv_1, fv_2, fv_3, fw_0, fw_1, List.getElem?_cons_zero, List.getElem?_cons_succ, List.set_cons_zero, List.set_cons_succ, List.length_cons, List.length_nil, List.take_succ_cons, List.take_zero, List.drop_succ_cons, List.drop_zero, List.reverse_cons, List.reverse_nil, List.nil_append, List.cons_append, List.append_nil, List.map_cons, List.map_nil, List.sum_cons, List.sum_nil, Value.category, Option.toList_some, Option.toList_none, Nat.reduceAdd, Nat.reduceLT, Nat.reduceLeDiff, Nat.reduceEqDiff, Nat.reduceSub, Nat.add_zero, Nat.le_refl, Nat.zero_le, Int.reduceNeg, Int.reduceLE, Int.reduceLT, true_and, and_true, and_self, if_true, if_false, ite_true, ite_false, eq_self_iff_true, reduceIte, reduceCtorEq, not_false_eq_true, not_true_eq_false, or_true, true_or, or_false, false_or, Nat.lt_irrefl, Nat.zero_lt_succ, e1]
      try simp (disch := omega) only [ii_0, ii_1, ii_t, ii_add, ii_sub, ii_mul, ii_lt, ii_le, ii_eq, ij_in, ii_c, Int.toNat_natCast, Int.toNat_zero, Int.reduceToNat, Int.reduceEq, Int.reduceNe, Int.reduceLE, Int.reduceLT, Int.reduceAdd, Int.reduceSub, Int.reduceMul, Int.reduceNeg, Nat.reduceLT, Nat.reduceAdd, Nat.reduceMul, not_false_eq_true, not_true_eq_false, true_and, and_true, and_self, false_and, and_false, true_implies, false_implies, implies_true, forall_const, if_true, if_false, ite_true, ite_false, reduceIte, eq_self_iff_true, Int.natCast_nonneg, Int.zero_add, Int.add_zero, pi_s, pi_n, on_2000, on_402, on_408, on_19, on_5, on_4, e1]
      refine ⟨fun _ => ?_, fun z => absurd z (by omega)⟩
      refine hA [] 6 _ _ _ _ _ ?_
      try simp only [dX2_add_0, dX2_add_1, FT_X2_27, dX2_add_4, xX2_addE_t4, dX2_add_7, dX2_add_8, dX2_add_11, dX2_add_12, FT_X2_11, dX2_add_15, dX2_add_16, xX2_addE_t16, dX2_add_19, dX2_add_20, dX2_add_23, dX2_add_24, FT_X2_15, dX2_add_27, dX2_add_28, xX2_addE_t28, dX2_add_31, dX2_add_32, dX2_add_35, dX2_add_36, dX2_add_39, dX2_add_40, dX2_add_41, dX2_add_42, dX2_add_45, dX2_add_46, dX2_add_49, dX2_add_50, dX2_add_51, dX2_add_52, dX2_add_53, dX2_add_56, dX2_add_57, dX2_add_58, PT_X2_27, dX2_add_61, dX2_add_62, dX2_add_65, dX2_add_66, dX2_add_67, xX2_addE_SH, xX2_addE_KF, xX2_addE_rt, xX2_addE_FT, xX2_addE_PT, xX2_addE_CT, xX2_addE_KT, xX2_addE_LT, xX2_addE_NT, o_aload_n, o_arraylength, o_dup, o_getfield, o_iadd, o_iastore, o_iconst, o_ifCond_lt, o_if_icmp_ge, o_iload_n, o_ireturn, o_isub, o_putfield, SH_4, KF_4_0, SH_5, KF_4_1, SH_6, KF_4_5, SH_21, KF_21_0, SH_22, KF_21_1, SH_23, KF_21_5, am_ty, am_vc, am_opt, am_cl, am_find, am_ldi, am_ldl, am_lda, am_v, am_1, am_1l, am_1a, am_2, am_2l, am_ix, am_ri, am_arr, am_pf, am_rc, am_mask, am_lg, am_av, am_nat, fv_0, fv_1, fv_2, fv_3, fw_0, fw_1, List.getElem?_cons_zero, List.getElem?_cons_succ, List.set_cons_zero, List.set_cons_succ, List.length_cons, List.length_nil, List.take_succ_cons, List.take_zero, List.drop_succ_cons, List.drop_zero, List.reverse_cons, List.reverse_nil, List.nil_append, List.cons_append, List.append_nil, List.map_cons, List.map_nil, List.sum_cons, List.sum_nil, Value.category, Option.toList_some, Option.toList_none, Nat.reduceAdd, Nat.reduceLT, Nat.reduceLeDiff, Nat.reduceEqDiff, Nat.reduceSub, Nat.add_zero, Nat.le_refl, Nat.zero_le, Int.reduceNeg, Int.reduceLE, Int.reduceLT, true_and, and_true, and_self, if_true, if_false, ite_true, ite_false, eq_self_iff_true, reduceIte, reduceCtorEq, not_false_eq_true, not_true_eq_false, or_true, true_or, or_false, false_or, Nat.lt_irrefl, Nat.zero_lt_succ, e1]
      exact hP _
    · refine hA [(61, 3), (19, 3)] 60 _ _ _ _ _ ?_
      try simp only [dX2_add_0, dX2_add_1, FT_X2_27, dX2_add_4, xX2_addE_t4, dX2_add_7, dX2_add_8, dX2_add_11, dX2_add_12, FT_X2_11, dX2_add_15, dX2_add_16, xX2_addE_t16, dX2_add_19, dX2_add_20, dX2_add_23, dX2_add_24, FT_X2_15, dX2_add_27, dX2_add_28, xX2_addE_t28, dX2_add_31, dX2_add_32, dX2_add_35, dX2_add_36, dX2_add_39, dX2_add_40, dX2_add_41, dX2_add_42, dX2_add_45, dX2_add_46, dX2_add_49, dX2_add_50, dX2_add_51, dX2_add_52, dX2_add_53, dX2_add_56, dX2_add_57, dX2_add_58, PT_X2_27, dX2_add_61, dX2_add_62, dX2_add_65, dX2_add_66, dX2_add_67, xX2_addE_SH, xX2_addE_KF, xX2_addE_rt, xX2_addE_FT, xX2_addE_PT, xX2_addE_CT, xX2_addE_KT, xX2_addE_LT, xX2_addE_NT, o_aload_n, o_arraylength, o_dup, o_getfield, o_iadd, o_iastore, o_iconst, o_ifCond_lt, o_if_icmp_ge, o_iload_n, o_ireturn, o_isub, o_putfield, SH_4, KF_4_0, SH_5, KF_4_1, SH_6, KF_4_5, SH_21, KF_21_0, SH_22, KF_21_1, SH_23, KF_21_5, am_ty, am_vc, am_opt, am_cl, am_find, am_ldi, am_ldl, am_lda, am_v, am_1, am_1l, am_1a, am_2, am_2l, am_ix, am_ri, am_arr, am_pf, am_rc, am_mask, am_lg, am_av, am_nat, fv_0, fv_1, fv_2, fv_3, fw_0, fw_1, List.getElem?_cons_zero, List.getElem?_cons_succ, List.set_cons_zero, List.set_cons_succ, List.length_cons, List.length_nil, List.take_succ_cons, List.take_zero, List.drop_succ_cons, List.drop_zero, List.reverse_cons, List.reverse_nil, List.nil_append, List.cons_append, List.append_nil, List.map_cons, List.map_nil, List.sum_cons, List.sum_nil, Value.category, Option.toList_some, Option.toList_none, Nat.reduceAdd, Nat.reduceLT, Nat.reduceLeDiff, Nat.reduceEqDiff, Nat.reduceSub, Nat.add_zero, Nat.le_refl, Nat.zero_le, Int.reduceNeg, Int.reduceLE, Int.reduceLT, true_and, and_true, and_self, if_true, if_false, ite_true, ite_false, eq_self_iff_true, reduceIte, reduceCtorEq, not_false_eq_true, not_true_eq_false, or_true, true_or, or_false, false_or, Nat.lt_irrefl, Nat.zero_lt_succ, e1]
      try simp (disch := omega) only [ii_0, ii_1, ii_t, ii_add, ii_sub, ii_mul, ii_lt, ii_le, ii_eq, ij_in, ii_c, Int.toNat_natCast, Int.toNat_zero, Int.reduceToNat, Int.reduceEq, Int.reduceNe, Int.reduceLE, Int.reduceLT, Int.reduceAdd, Int.reduceSub, Int.reduceMul, Int.reduceNeg, Nat.reduceLT, Nat.reduceAdd, Nat.reduceMul, not_false_eq_true, not_true_eq_false, true_and, and_true, and_self, false_and, and_false, true_implies, false_implies, implies_true, forall_const, if_true, if_false, ite_true, ite_false, reduceIte, eq_self_iff_true, Int.natCast_nonneg, Int.zero_add, Int.add_zero, pi_s, pi_n, on_2000, on_402, on_408, on_19, on_5, on_4, e1]
      refine ⟨fun z => absurd z (by omega), fun _ => ⟨fun _ => ?_, fun z => absurd z (by omega)⟩⟩
      refine hA [] 6 _ _ _ _ _ ?_
      try simp only [dX2_add_0, dX2_add_1, FT_X2_27, dX2_add_4, xX2_addE_t4, dX2_add_7, dX2_add_8, dX2_add_11, dX2_add_12, FT_X2_11, dX2_add_15, dX2_add_16, xX2_addE_t16, dX2_add_19, dX2_add_20, dX2_add_23, dX2_add_24, FT_X2_15, dX2_add_27, dX2_add_28, xX2_addE_t28, dX2_add_31, dX2_add_32, dX2_add_35, dX2_add_36, dX2_add_39, dX2_add_40, dX2_add_41, dX2_add_42, dX2_add_45, dX2_add_46, dX2_add_49, dX2_add_50, dX2_add_51, dX2_add_52, dX2_add_53, dX2_add_56, dX2_add_57, dX2_add_58, PT_X2_27, dX2_add_61, dX2_add_62, dX2_add_65, dX2_add_66, dX2_add_67, xX2_addE_SH, xX2_addE_KF, xX2_addE_rt, xX2_addE_FT, xX2_addE_PT, xX2_addE_CT, xX2_addE_KT, xX2_addE_LT, xX2_addE_NT, o_aload_n, o_arraylength, o_dup, o_getfield, o_iadd, o_iastore, o_iconst, o_ifCond_lt, o_if_icmp_ge, o_iload_n, o_ireturn, o_isub, o_putfield, SH_4, KF_4_0, SH_5, KF_4_1, SH_6, KF_4_5, SH_21, KF_21_0, SH_22, KF_21_1, SH_23, KF_21_5, am_ty, am_vc, am_opt, am_cl, am_find, am_ldi, am_ldl, am_lda, am_v, am_1, am_1l, am_1a, am_2, am_2l, am_ix, am_ri, am_arr, am_pf, am_rc, am_mask, am_lg, am_av, am_nat, fv_0, fv_1, fv_2, fv_3, fw_0, fw_1, List.getElem?_cons_zero, List.getElem?_cons_succ, List.set_cons_zero, List.set_cons_succ, List.length_cons, List.length_nil, List.take_succ_cons, List.take_zero, List.drop_succ_cons, List.drop_zero, List.reverse_cons, List.reverse_nil, List.nil_append, List.cons_append, List.append_nil, List.map_cons, List.map_nil, List.sum_cons, List.sum_nil, Value.category, Option.toList_some, Option.toList_none, Nat.reduceAdd, Nat.reduceLT, Nat.reduceLeDiff, Nat.reduceEqDiff, Nat.reduceSub, Nat.add_zero, Nat.le_refl, Nat.zero_le, Int.reduceNeg, Int.reduceLE, Int.reduceLT, true_and, and_true, and_self, if_true, if_false, ite_true, ite_false, eq_self_iff_true, reduceIte, reduceCtorEq, not_false_eq_true, not_true_eq_false, or_true, true_or, or_false, false_or, Nat.lt_irrefl, Nat.zero_lt_succ, e1]
      exact hP _
theorem mX2_addE (l : Launch) : am_M l TB NB vwCl SH KF yX2_add cX2_add 3 (some .int) 2 0 0 sX2_addE := by
  refine am_M.of xX2_addE (by decide +kernel) TB_good GF rfl rfl rfl (by decide) ⟨FT_X2_ok, PT_X2_ok _, CT_X2_ok, KT_X2_ok, LT_X2_ok, NT_X2_ok, ?_⟩ ptX2_addE
  exact fun _ h => absurd h List.not_mem_nil

/-- all that the class's token rows rest on stays -/
theorem cST_sI {b : Nat → Int} {Z : Nat} {s : ST} {M : sa_M} {σ τ : am_S} (h : cST b Z σ s) (g : sI BB SH M σ τ) (hM : M.all (fun m => decide (m.1 ≠ 14) && (decide (m.1 ≠ 16) && (decide (m.1 ≠ 17) && decide (m.1 ≠ 18)))) = true) (hM2 : M.all (fun m => decide (m.1 ≠ 2) || decide (8 < m.2.1)) = true) : cST b Z τ s := by
  have e : ∀ k, k ≤ 8 → τ.1 2 k = σ.1 2 k ∧ τ.2 2 k = σ.2 2 k := fun k hk => g.2 _ k (fun m hm hh => by
    have q := List.all_eq_true.mp hM2 m hm
    simp only [Bool.or_eq_true, decide_eq_true_eq] at q
    rcases q with q | q
    · exact q hh.1
    · omega)
  cases s with
  | inl t =>
    obtain ⟨v, h1, e3, e4, e5, e6, e7, e8⟩ := h
    exact ⟨wVC_sI v g hM, h1, by rw [(e _ (by decide)).1]; exact e3, by rw [(e _ (by decide)).1]; exact e4, by rw [(e _ (by decide)).1]; exact e5, fun q => by rw [(e _ (by decide)).2]; exact e6 q, fun q => by rw [(e _ (by decide)).2]; exact e7 q, by rw [(e _ (by decide)).1]; exact e8⟩
  | inr q =>
    obtain ⟨v, q1, q2, q3, q4⟩ := h
    exact ⟨wVC_sI v g hM, q1, by rw [(e _ (by decide)).1]; exact q2, by rw [(e _ (by decide)).1]; exact q3, by rw [(e _ (by decide)).1]; exact q4⟩
/-- the machine's way to a fault -/
def eF (K V P : Nat → Int) (q : Int × Int) (start : List Int → List (Int × Int) → SY) (ok : List Int → Prop) : Prop := ∃ (t' m : Nat), t' ≤ 400 ∧ q.2 = P t' ∧ (m = 4 ∧ q.1 = 1 ∨ m = 5 ∧ q.1 = 2) ∧ ∀ W a, ok W → syR K V (start W a) (m, t', [], 0, [])
def eU (K V P : Nat → Int) (o t : Nat) (s : ST) (c : List (Int × Int)) : Prop := match s with
  | .inl t' => (t < t' ∧ c.length + t ≤ t') ∧ ∀ W a, syR K V (0, t, W, o, a) (1, t', W, o, a ++ c)
  | .inr q => eF K V P q (fun W a => (0, t, W, o, a)) (fun _ => True)
def topP (W : List Int) : Prop := match W with
  | [] => True
  | w :: _ => w = 6 ∨ (w = 8 ∨ w = 9)
def topS (W : List Int) : Prop := match W with
  | [] => True
  | w :: _ => w = 6
def cm (w : Int) : Int × Int := (syO w, 0)
/-- in the midst of a product -/
def ePi (K V P : Nat → Int) (o t : Nat) (s : ST) (c : List (Int × Int)) : Prop := match s with
  | .inl t' => (t < t' ∧ c.length + t ≤ t') ∧ ∀ W a, topP W → ∃ Q a', (∀ w ∈ Q, w = 10 ∨ w = 15) ∧ a' ++ Q.map cm = a ++ c ∧ syR K V (0, t, W, o, a) (1, t', Q ++ W, o, a')
  | .inr q => eF K V P q (fun W a => (0, t, W, o, a)) topP
def eP (K V P : Nat → Int) (o t : Nat) (s : ST) (c : List (Int × Int)) : Prop := ePi K V P o t s c ∧ ∀ t', s = .inl t' → K t' ≠ 10 ∧ K t' ≠ 15
def eSi (K V P : Nat → Int) (o t : Nat) (s : ST) (c : List (Int × Int)) : Prop := match s with
  | .inl t' => ((t < t' ∧ c.length + t ≤ t') ∧ K t' ≠ 10 ∧ K t' ≠ 15) ∧ ∀ W a, topS W → ∃ Q a', (∀ w ∈ Q, w ≠ 6) ∧ a' ++ Q.map cm = a ++ c ∧ syR K V (0, t, W, o, a) (1, t', Q ++ W, o, a')
  | .inr q => eF K V P q (fun W a => (0, t, W, o, a)) topS
def eS (K V P : Nat → Int) (o t : Nat) (s : ST) (c : List (Int × Int)) : Prop := eSi K V P o t s c ∧ ∀ t', s = .inl t' → K t' ≠ 8 ∧ K t' ≠ 9
theorem topS_P {W : List Int} (h : topS W) : topP W := by
  cases W with
  | nil => trivial
  | cons w t => exact Or.inl h
/-- the first unit of a product -/
theorem ePi_U {K V P : Nat → Int} {o t : Nat} {s : ST} {c : List (Int × Int)} (h : eU K V P o t s c) : ePi K V P o t s c := by
  cases s with
  | inl t' =>
    obtain ⟨h1, h2⟩ := h
    exact ⟨h1, fun W a _ => ⟨[], a ++ c, fun w hw => absurd hw List.not_mem_nil, List.append_nil _, h2 W a⟩⟩
  | inr q =>
    obtain ⟨t', m, h1, h2, h3, h4⟩ := h
    exact ⟨t', m, h1, h2, h3, fun W a _ => h4 W a trivial⟩
theorem eSi_P {K V P : Nat → Int} {o t : Nat} {s : ST} {c : List (Int × Int)} (h : eP K V P o t s c) : eSi K V P o t s c := by
  cases s with
  | inl t' =>
    obtain ⟨⟨h1, h2⟩, h3⟩ := h
    refine ⟨⟨h1, h3 t' rfl⟩, fun W a hW => ?_⟩
    obtain ⟨Q, a', q1, q2, q3⟩ := h2 W a (topS_P hW)
    exact ⟨Q, a', fun w hw => by rcases q1 w hw with e | e <;> (rw [e]; decide), q2, q3⟩
  | inr q =>
    obtain ⟨⟨t', m, h1, h2, h3, h4⟩, _⟩ := h
    exact ⟨t', m, h1, h2, h3, fun W a hW => h4 W a (topS_P hW)⟩
/-- a sign of a product: the machine pushes it -/
theorem ePi_op {K V P : Nat → Int} {o t t' : Nat} {c : List (Int × Int)} (h : ePi K V P o t (.inl t') c) (hk : K t' = 10 ∨ K t' = 15) (ht : t' < 400) : ∀ W a, topP W → syR K V (0, t, W, o, a) (0, t' + 1, K t' :: W, o, a ++ c) := by
  intro W a hW
  obtain ⟨Q, a', q1, q2, q3⟩ := h.2 W a hW
  refine syR_t q3 (syR_s ?_)
  simp only [syS]
  rw [if_neg (by omega), if_pos (by omega), if_neg (by omega)]
  have ed : decide (K t' = 10 ∨ K t' = 15) = true := decide_eq_true hk
  rw [ed, syF_app true Q a' (fun w hw => by rcases q1 w hw with e | e <;> (rw [e]; decide)) W (by
    cases W with
    | nil => trivial
    | cons w T =>
      rcases hW with e | e
      · exact Or.inl e
      · exact Or.inr ⟨rfl, e⟩)]
  show (0, t' + 1, K t' :: W, o, a' ++ Q.map cm) = _
  rw [q2]
theorem ePi_opF {K V P : Nat → Int} {o t t' : Nat} {c : List (Int × Int)} (h : ePi K V P o t (.inl t') c) (hk : K t' = 10 ∨ K t' = 15) (ht : t' = 400) : ePi K V P o t (.inr (2, P t')) c := by
  refine ⟨t', 5, by omega, rfl, Or.inr ⟨rfl, rfl⟩, fun W a hW => ?_⟩
  obtain ⟨Q, a', q1, q2, q3⟩ := h.2 W a hW
  refine syR_t q3 (syR_s ?_)
  simp only [syS]
  rw [if_neg (by omega), if_pos (by omega), if_pos ht]
/-- then the next unit -/
theorem ePi_go {K V P : Nat → Int} {o t t' : Nat} {s : ST} {c d : List (Int × Int)} (h : ePi K V P o t (.inl t') c) (hk : K t' = 10 ∨ K t' = 15) (ht : t' < 400) (g : eU K V P o (t' + 1) s d) : ePi K V P o t s (c ++ d ++ [cm (K t')]) := by
  have w := ePi_op h hk ht
  have h1 := h.1
  cases s with
  | inl t2 =>
    obtain ⟨g1, g2⟩ := g
    refine ⟨⟨by omega, by simp only [List.length_append, List.length_cons, List.length_nil]; omega⟩, fun W a hW => ⟨[K t'], a ++ c ++ d, fun w hw => by rw [List.mem_singleton.mp hw]; exact hk, ?_, syR_t (w W a hW) (g2 (K t' :: W) (a ++ c))⟩⟩
    show a ++ c ++ d ++ [cm (K t')] = a ++ (c ++ d ++ [cm (K t')])
    simp only [List.append_assoc]
  | inr q =>
    obtain ⟨t2, m, g1, g2, g3, g4⟩ := g
    exact ⟨t2, m, g1, g2, g3, fun W a hW => syR_t (w W a hW) (g4 (K t' :: W) (a ++ c) trivial)⟩
theorem eSi_op {K V P : Nat → Int} {o t t' : Nat} {c : List (Int × Int)} (h : eSi K V P o t (.inl t') c) (hk : K t' = 8 ∨ K t' = 9) (ht : t' < 400) : ∀ W a, topS W → syR K V (0, t, W, o, a) (0, t' + 1, K t' :: W, o, a ++ c) := by
  intro W a hW
  obtain ⟨Q, a', q1, q2, q3⟩ := h.2 W a hW
  refine syR_t q3 (syR_s ?_)
  simp only [syS]
  rw [if_neg (by omega), if_pos (by omega), if_neg (by omega)]
  have ed : decide (K t' = 10 ∨ K t' = 15) = false := decide_eq_false (by omega)
  rw [ed, syF_app false Q a' (fun w hw => ⟨q1 w hw, fun z => by cases z⟩) W (by
    cases W with
    | nil => trivial
    | cons w T => exact Or.inl hW)]
  show (0, t' + 1, K t' :: W, o, a' ++ Q.map cm) = _
  rw [q2]
theorem eSi_opF {K V P : Nat → Int} {o t t' : Nat} {c : List (Int × Int)} (h : eSi K V P o t (.inl t') c) (hk : K t' = 8 ∨ K t' = 9) (ht : t' = 400) : eSi K V P o t (.inr (2, P t')) c := by
  refine ⟨t', 5, by omega, rfl, Or.inr ⟨rfl, rfl⟩, fun W a hW => ?_⟩
  obtain ⟨Q, a', q1, q2, q3⟩ := h.2 W a hW
  refine syR_t q3 (syR_s ?_)
  simp only [syS]
  rw [if_neg (by omega), if_pos (by omega), if_pos ht]
theorem eSi_go {K V P : Nat → Int} {o t t' : Nat} {s : ST} {c d : List (Int × Int)} (h : eSi K V P o t (.inl t') c) (hk : K t' = 8 ∨ K t' = 9) (ht : t' < 400) (g : eP K V P o (t' + 1) s d) : eSi K V P o t s (c ++ d ++ [cm (K t')]) := by
  have w := eSi_op h hk ht
  have h1 := h.1.1
  have tp : ∀ W, topP (K t' :: W) := fun W => Or.inr hk
  cases s with
  | inl t2 =>
    obtain ⟨⟨g1, g2⟩, g3⟩ := g
    refine ⟨⟨⟨by omega, by simp only [List.length_append, List.length_cons, List.length_nil]; omega⟩, g3 t2 rfl⟩, fun W a hW => ?_⟩
    obtain ⟨Q, a', q1, q2, q3⟩ := g2 (K t' :: W) (a ++ c) (tp W)
    refine ⟨Q ++ [K t'], a', fun w hw => ?_, ?_, ?_⟩
    · rcases List.mem_append.mp hw with hw | hw
      · rcases q1 w hw with e | e <;> (rw [e]; decide)
      · rw [List.mem_singleton.mp hw]; omega
    · rw [List.map_append, ← List.append_assoc, q2]
      show a ++ c ++ d ++ [cm (K t')] = a ++ (c ++ d ++ [cm (K t')])
      simp only [List.append_assoc]
    · have e : Q ++ [K t'] ++ W = Q ++ K t' :: W := by rw [List.append_assoc]; rfl
      rw [e]
      exact syR_t (w W a hW) q3
  | inr q =>
    obtain ⟨⟨t2, m, g1, g2, g3, g4⟩, _⟩ := g
    exact ⟨t2, m, g1, g2, g3, fun W a hW => syR_t (w W a hW) (g4 (K t' :: W) (a ++ c) (tp W))⟩
/-- a unit that is a number, a word, or nothing -/
theorem eU_int {K V P : Nat → Int} {o t : Nat} (hk : K t = 2) (ht : t ≤ 400) : (t < 400 → eU K V P o t (.inl (t + 1)) [(0, V t)]) ∧ (t = 400 → eU K V P o t (.inr (2, P t)) []) := by
  refine ⟨fun q => ⟨⟨by omega, by show 1 + t ≤ t + 1; omega⟩, fun W a => syR_s ?_⟩, fun q => ⟨t, 5, ht, rfl, Or.inr ⟨rfl, rfl⟩, fun W a _ => syR_s ?_⟩⟩
  · simp only [syS]
    rw [if_neg (by omega), if_pos hk, if_neg (by omega)]
  · simp only [syS]
    rw [if_neg (by omega), if_pos hk, if_pos q]
theorem eU_var {K V P : Nat → Int} {o t : Nat} (hk : 30 ≤ K t ∧ K t ≤ 38) (ht : t ≤ 400) : (t < 400 → eU K V P o t (.inl (t + 1)) [(1, K t - 30)]) ∧ (t = 400 → eU K V P o t (.inr (2, P t)) []) := by
  refine ⟨fun q => ⟨⟨by omega, by show 1 + t ≤ t + 1; omega⟩, fun W a => syR_s ?_⟩, fun q => ⟨t, 5, ht, rfl, Or.inr ⟨rfl, rfl⟩, fun W a _ => syR_s ?_⟩⟩
  · simp only [syS]
    rw [if_neg (by omega), if_neg (by omega), if_pos hk, if_neg (by omega)]
  · simp only [syS]
    rw [if_neg (by omega), if_neg (by omega), if_pos hk, if_pos q]
theorem eU_no {K V P : Nat → Int} {o t : Nat} (h6 : K t ≠ 6) (h2 : K t ≠ 2) (h3 : ¬ (30 ≤ K t ∧ K t ≤ 38)) (ht : t ≤ 400) : eU K V P o t (.inr (1, P t)) [] := by
  refine ⟨t, 4, ht, rfl, Or.inl ⟨rfl, rfl⟩, fun W a _ => syR_s ?_⟩
  simp only [syS]
  rw [if_neg h6, if_neg h2, if_neg h3]
theorem eU_full {K V P : Nat → Int} {o t : Nat} (h6 : K t = 6) (ho : o = 6 ∨ t = 400) (ht : t ≤ 400) : eU K V P o t (.inr (2, P t)) [] := by
  refine ⟨t, 5, ht, rfl, Or.inr ⟨rfl, rfl⟩, fun W a _ => syR_s ?_⟩
  simp only [syS]
  rw [if_pos h6, if_pos ho]
/-- what is in brackets -/
theorem eU_in {K V P : Nat → Int} {o t : Nat} (h6 : K t = 6) (ho : o < 6) (ht : t < 400) : ∀ W a, syR K V (0, t, W, o, a) (0, t + 1, 6 :: W, o + 1, a) := by
  intro W a
  refine syR_s ?_
  simp only [syS]
  rw [if_pos h6, if_neg (by omega)]
theorem eU_inF {K V P : Nat → Int} {o t : Nat} {q : Int × Int} {c : List (Int × Int)} (h6 : K t = 6) (ho : o < 6) (ht : t < 400) (h : eS K V P (o + 1) (t + 1) (.inr q) c) : eU K V P o t (.inr q) [] := by
  obtain ⟨⟨t', m, h1, h2, h3, h4⟩, _⟩ := h
  exact ⟨t', m, h1, h2, h3, fun W a _ => syR_t (eU_in (V := V) (P := P) h6 ho ht W a) (h4 (6 :: W) a rfl)⟩
theorem eU_br {K V P : Nat → Int} {o t t' : Nat} {c : List (Int × Int)} (h6 : K t = 6) (ho : o < 6) (ht : t < 400) (h : eS K V P (o + 1) (t + 1) (.inl t') c) (h4 : t' ≤ 400) : (K t' = 7 → t' < 400 → eU K V P o t (.inl (t' + 1)) c) ∧ (K t' = 7 → t' = 400 → eU K V P o t (.inr (2, P t')) []) ∧ (K t' ≠ 7 → eU K V P o t (.inr (1, P t')) []) := by
  obtain ⟨⟨⟨⟨h1, h2⟩, h3a, h3b⟩, h5⟩, h6'⟩ := h
  have h7 := h6' t' rfl
  have w := eU_in (V := V) (P := P) h6 ho ht
  refine ⟨fun k7 q => ⟨⟨by omega, by omega⟩, fun W a => ?_⟩, fun k7 q => ⟨t', 5, h4, rfl, Or.inr ⟨rfl, rfl⟩, fun W a _ => ?_⟩, fun k7 => ⟨t', 4, h4, rfl, Or.inl ⟨rfl, rfl⟩, fun W a _ => ?_⟩⟩
  · obtain ⟨Q, a', q1, q2, q3⟩ := h5 (6 :: W) a rfl
    refine syR_t (w W a) (syR_t q3 (syR_s ?_))
    simp only [syS]
    rw [if_pos ⟨k7, by omega⟩, if_neg (by omega), syF_app false Q a' (fun w hw => ⟨q1 w hw, fun z => by cases z⟩) (6 :: W) (Or.inl rfl)]
    show (1, t' + 1, W, o, a' ++ Q.map cm) = _
    rw [q2]
  · obtain ⟨Q, a', q1, q2, q3⟩ := h5 (6 :: W) a rfl
    refine syR_t (w W a) (syR_t q3 (syR_s ?_))
    simp only [syS]
    rw [if_pos ⟨k7, by omega⟩, if_pos q]
  · obtain ⟨Q, a', q1, q2, q3⟩ := h5 (6 :: W) a rfl
    refine syR_t (w W a) (syR_t q3 (syR_s ?_))
    simp only [syS]
    rw [if_neg (fun z => k7 z.1), if_neg (by omega), if_pos (by omega)]
/-- a whole expression: the machine is done -/
theorem eS_E {K V P : Nat → Int} {t : Nat} {s : ST} {c : List (Int × Int)} (h : eS K V P 0 t s c) (ht : t ≤ 400) : match s with
  | .inl t' => t' ≤ 400 → syE K V t = (2, t', [], 0, c)
  | .inr q => ∃ t' m : Nat, t' ≤ 400 ∧ q.2 = P t' ∧ (m = 4 ∧ q.1 = 1 ∨ m = 5 ∧ q.1 = 2) ∧ syE K V t = (m, t', [], 0, []) := by
  cases s with
  | inl t' =>
    obtain ⟨⟨⟨⟨h1, h2⟩, h3a, h3b⟩, h5⟩, h6⟩ := h
    have h7 := h6 t' rfl
    intro _
    obtain ⟨Q, a', q1, q2, q3⟩ := h5 [] [] trivial
    refine syE_of (syR_t q3 (syR_s ?_)) (Nat.le_refl _) ht
    simp only [syS]
    rw [if_neg (by omega), if_neg (by omega), if_neg (by omega), syF_app false Q a' (fun w hw => ⟨q1 w hw, fun z => by cases z⟩) [] trivial]
    show (2, t', [], 0, a' ++ Q.map cm) = _
    rw [q2]
    rfl
  | inr q =>
    obtain ⟨⟨t', m, h1, h2, h3, h4⟩, _⟩ := h
    exact ⟨t', m, h1, h2, h3, syE_of (h4 [] [] trivial) (by show 2 ≤ m; omega) ht⟩
