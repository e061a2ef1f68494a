/-! THE REFERENCE'S READER: a person. Printed from wip/am/chk/hand/tp.in. -/
def pN (σ : am_S) : Int := (σ.1 51 20).toInt
def pP (σ : am_S) : Int := (σ.1 61 (pS σ).toNat).toInt
theorem pN_b {σ : am_S} (h : sb_ok BB SH σ) : 0 ≤ pN σ ∧ pN σ ≤ 5 := h.2 51 12 20 rfl
theorem pP_b {σ : am_S} (h : sb_ok BB SH σ) : 0 ≤ pP σ ∧ pP σ ≤ 5 := by
  have s := pS_b h
  have := h.1 61 (0, 2) (pS σ).toNat rfl (by show (pS σ).toNat < 2; omega)
  rw [sb_1 (q := (0, 5)) rfl] at this
  exact this
def tpM : sa_M := [(51, 11, 11 + 1), (51, 13, 13 + 4), (62, 0, 10), (63, 0, 10), (64, 0, 10), (65, 0, 10), (59, 0, 5), (51, 20, 20 + 1), (61, 0, 2)]
theorem fr_m {M M' : sa_M} (h : ∀ m ∈ M, m ∈ M') {σ τ : am_S} (g : sb_fr M σ τ) : sb_fr M' σ τ := fun o k q => g o k (fun m hm => q m (h m hm))
theorem TK_tp {σ0 σ τ : am_S} (h : sI BB SH tpM σ0 σ) (g : TK σ τ) : sI BB SH tpM σ0 τ := ⟨g.1.1, sb_fr_t h.2 (fr_m (by decide) g.1.2)⟩
theorem TK_N {σ τ : am_S} (h : TK σ τ) : pN τ = pN σ := by unfold pN; rw [TK_k h (by decide)]
theorem TK_S {σ τ : am_S} (h : TK σ τ) : pS τ = pS σ := by unfold pS; rw [TK_k h (by decide)]
theorem TK_P {σ τ : am_S} (h : TK σ τ) : pP τ = pP σ := by unfold pP; rw [TK_S h, TK_o h (fun z => absurd z.1 (by decide))]
/-- what is kept while a person is told -/
abbrev tpI (σ0 σ : am_S) : Prop := sI BB SH tpM σ0 σ ∧ pT σ0 ≤ pT σ ∧ NZ σ0 σ ∧ pN σ = pN σ0 ∧ pS σ = pS σ0 ∧ pP σ = pP σ0
theorem tpI_TK {σ0 σ τ : am_S} (h : tpI σ0 σ) (g : TK σ τ) : tpI σ0 τ := ⟨TK_tp h.1 g, Int.le_trans h.2.1 g.2.1, NZ_t h.2.2.1 g.2.2, (TK_N g).trans h.2.2.2.1, (TK_S g).trans h.2.2.2.2.1, (TK_P g).trans h.2.2.2.2.2⟩
theorem tpI_at {σ0 σ : am_S} {o k : Nat} {x : Int32} (h : tpI σ0 σ) (ho : o = 62 ∨ o = 63 ∨ o = 64 ∨ o = 65) (hk : k < 10) : tpI σ0 (am_pi σ o k x) := by
  have n1 : ∀ o' i, o' ≠ o → (am_pi σ o k x).1 o' i = σ.1 o' i := fun o' i q => pi_n _ _ _ _ (fun z => q z.1)
  have e1 : ∀ i, (am_pi σ o k x).1 51 i = σ.1 51 i := fun i => n1 _ _ (by rcases ho with q | q | q | q <;> (rw [q]; decide))
  have eS : pS (am_pi σ o k x) = pS σ := by unfold pS; rw [e1]
  refine ⟨?_, by unfold pT; rw [e1]; exact h.2.1, NZ_t h.2.2.1 (NZ_of (e1 _) (e1 _)), by unfold pN; rw [e1]; exact h.2.2.2.1, eS.trans h.2.2.2.2.1, ?_⟩
  · have fx := ii_lo x
    have fy := ii_hi x
    rcases ho with rfl | rfl | rfl | rfl
    all_goals
      refine sI_arr (q := (0, 10)) h.1 rfl ?_ ⟨(_, 0, 10), by decide, rfl, Nat.zero_le _, hk⟩
      rw [sb_1 (q := (-2147483648, 2147483647)) rfl]
      exact ⟨fx, by show _ ≤ (2147483647 : Int); omega⟩
  · unfold pP
    rw [eS, n1 _ _ (by rcases ho with q | q | q | q <;> (rw [q]; decide))]
    exact h.2.2.2.2.2
abbrev tpR (σ τ : am_S) : Prop := sI BB SH tpM σ τ ∧ pT σ ≤ pT τ ∧ NZ σ τ ∧ pS τ = pS σ ∧ ((pN τ = pN σ ∧ pP τ = pP σ ∧ pF τ ≠ 0) ∨ (pN τ = pN σ + 1 ∧ pP τ = pP σ + 1))
theorem dX12_tellPerson_0 : decode cX12_tellPerson 0 = .ok (.iconst 5, 1) := dk_ok (by decide +kernel)
theorem dX12_tellPerson_1 : decode cX12_tellPerson 1 = .ok (.aload_n 0, 1) := dk_ok (by decide +kernel)
theorem dX12_tellPerson_2 : decode cX12_tellPerson 2 = .ok (.getfield 224, 3) := dk_ok (by decide +kernel)
theorem dX12_tellPerson_5 : decode cX12_tellPerson 5 = .ok (.imul, 1) := dk_ok (by decide +kernel)
theorem dX12_tellPerson_6 : decode cX12_tellPerson 6 = .ok (.aload_n 0, 1) := dk_ok (by decide +kernel)
theorem dX12_tellPerson_7 : decode cX12_tellPerson 7 = .ok (.getfield 46, 3) := dk_ok (by decide +kernel)
theorem dX12_tellPerson_10 : decode cX12_tellPerson 10 = .ok (.aload_n 0, 1) := dk_ok (by decide +kernel)
theorem dX12_tellPerson_11 : decode cX12_tellPerson 11 = .ok (.getfield 224, 3) := dk_ok (by decide +kernel)
theorem dX12_tellPerson_14 : decode cX12_tellPerson 14 = .ok (.iaload, 1) := dk_ok (by decide +kernel)
theorem dX12_tellPerson_15 : decode cX12_tellPerson 15 = .ok (.iadd, 1) := dk_ok (by decide +kernel)
theorem dX12_tellPerson_16 : decode cX12_tellPerson 16 = .ok (.istore_n 1, 1) := dk_ok (by decide +kernel)
theorem dX12_tellPerson_17 : decode cX12_tellPerson 17 = .ok (.aload_n 0, 1) := dk_ok (by decide +kernel)
theorem dX12_tellPerson_18 : decode cX12_tellPerson 18 = .ok (.getfield 194, 3) := dk_ok (by decide +kernel)
theorem dX12_tellPerson_21 : decode cX12_tellPerson 21 = .ok (.istore_n 2, 1) := dk_ok (by decide +kernel)
theorem dX12_tellPerson_22 : decode cX12_tellPerson 22 = .ok (.aload_n 0, 1) := dk_ok (by decide +kernel)
theorem dX12_tellPerson_23 : decode cX12_tellPerson 23 = .ok (.iconst 1, 1) := dk_ok (by decide +kernel)
theorem dX12_tellPerson_24 : decode cX12_tellPerson 24 = .ok (.invokevirtual 257, 3) := dk_ok (by decide +kernel)
theorem dX12_tellPerson_27 : decode cX12_tellPerson 27 = .ok (.iconst 0, 1) := dk_ok (by decide +kernel)
theorem dX12_tellPerson_28 : decode cX12_tellPerson 28 = .ok (.istore_n 3, 1) := dk_ok (by decide +kernel)
theorem dX12_tellPerson_29 : decode cX12_tellPerson 29 = .ok (.iload_n 3, 1) := dk_ok (by decide +kernel)
theorem dX12_tellPerson_30 : decode cX12_tellPerson 30 = .ok (.aload_n 0, 1) := dk_ok (by decide +kernel)
theorem dX12_tellPerson_31 : decode cX12_tellPerson 31 = .ok (.getfield 227, 3) := dk_ok (by decide +kernel)
theorem dX12_tellPerson_34 : decode cX12_tellPerson 34 = .ok (.if_icmp .ge 38, 3) := dk_ok (by decide +kernel)
theorem dX12_tellPerson_37 : decode cX12_tellPerson 37 = .ok (.aload_n 0, 1) := dk_ok (by decide +kernel)
theorem dX12_tellPerson_38 : decode cX12_tellPerson 38 = .ok (.getfield 191, 3) := dk_ok (by decide +kernel)
theorem dX12_tellPerson_41 : decode cX12_tellPerson 41 = .ok (.ifCond .ne 31, 3) := dk_ok (by decide +kernel)
theorem dX12_tellPerson_44 : decode cX12_tellPerson 44 = .ok (.aload_n 0, 1) := dk_ok (by decide +kernel)
theorem dX12_tellPerson_45 : decode cX12_tellPerson 45 = .ok (.getfield 40, 3) := dk_ok (by decide +kernel)
theorem dX12_tellPerson_48 : decode cX12_tellPerson 48 = .ok (.iload_n 3, 1) := dk_ok (by decide +kernel)
theorem dX12_tellPerson_49 : decode cX12_tellPerson 49 = .ok (.laload, 1) := dk_ok (by decide +kernel)
theorem dX12_tellPerson_50 : decode cX12_tellPerson 50 = .ok (.aload_n 0, 1) := dk_ok (by decide +kernel)
theorem dX12_tellPerson_51 : decode cX12_tellPerson 51 = .ok (.getfield 30, 3) := dk_ok (by decide +kernel)
theorem dX12_tellPerson_54 : decode cX12_tellPerson 54 = .ok (.iload_n 2, 1) := dk_ok (by decide +kernel)
theorem dX12_tellPerson_55 : decode cX12_tellPerson 55 = .ok (.laload, 1) := dk_ok (by decide +kernel)
theorem dX12_tellPerson_56 : decode cX12_tellPerson 56 = .ok (.lcmp, 1) := dk_ok (by decide +kernel)
theorem dX12_tellPerson_57 : decode cX12_tellPerson 57 = .ok (.ifCond .ne 9, 3) := dk_ok (by decide +kernel)
theorem dX12_tellPerson_60 : decode cX12_tellPerson 60 = .ok (.aload_n 0, 1) := dk_ok (by decide +kernel)
theorem dX12_tellPerson_61 : decode cX12_tellPerson 61 = .ok (.iconst 3, 1) := dk_ok (by decide +kernel)
theorem dX12_tellPerson_62 : decode cX12_tellPerson 62 = .ok (.iload_n 2, 1) := dk_ok (by decide +kernel)
theorem dX12_tellPerson_63 : decode cX12_tellPerson 63 = .ok (.invokevirtual 243, 3) := dk_ok (by decide +kernel)
theorem dX12_tellPerson_66 : decode cX12_tellPerson 66 = .ok (.iinc 3 1, 3) := dk_ok (by decide +kernel)
theorem dX12_tellPerson_69 : decode cX12_tellPerson 69 = .ok (.goto (-40), 3) := dk_ok (by decide +kernel)
theorem dX12_tellPerson_72 : decode cX12_tellPerson 72 = .ok (.aload_n 0, 1) := dk_ok (by decide +kernel)
theorem dX12_tellPerson_73 : decode cX12_tellPerson 73 = .ok (.getfield 49, 3) := dk_ok (by decide +kernel)
theorem dX12_tellPerson_76 : decode cX12_tellPerson 76 = .ok (.iload_n 1, 1) := dk_ok (by decide +kernel)
theorem dX12_tellPerson_77 : decode cX12_tellPerson 77 = .ok (.aload_n 0, 1) := dk_ok (by decide +kernel)
theorem dX12_tellPerson_78 : decode cX12_tellPerson 78 = .ok (.iconst 0, 1) := dk_ok (by decide +kernel)
theorem dX12_tellPerson_79 : decode cX12_tellPerson 79 = .ok (.bipush 11, 2) := dk_ok (by decide +kernel)
theorem dX12_tellPerson_81 : decode cX12_tellPerson 81 = .ok (.invokevirtual 253, 3) := dk_ok (by decide +kernel)
theorem dX12_tellPerson_84 : decode cX12_tellPerson 84 = .ok (.iastore, 1) := dk_ok (by decide +kernel)
theorem dX12_tellPerson_85 : decode cX12_tellPerson 85 = .ok (.aload_n 0, 1) := dk_ok (by decide +kernel)
theorem dX12_tellPerson_86 : decode cX12_tellPerson 86 = .ok (.getfield 52, 3) := dk_ok (by decide +kernel)
theorem dX12_tellPerson_89 : decode cX12_tellPerson 89 = .ok (.iload_n 1, 1) := dk_ok (by decide +kernel)
theorem dX12_tellPerson_90 : decode cX12_tellPerson 90 = .ok (.aload_n 0, 1) := dk_ok (by decide +kernel)
theorem dX12_tellPerson_91 : decode cX12_tellPerson 91 = .ok (.iconst 1, 1) := dk_ok (by decide +kernel)
theorem dX12_tellPerson_92 : decode cX12_tellPerson 92 = .ok (.bipush 9, 2) := dk_ok (by decide +kernel)
theorem dX12_tellPerson_94 : decode cX12_tellPerson 94 = .ok (.invokevirtual 253, 3) := dk_ok (by decide +kernel)
theorem dX12_tellPerson_97 : decode cX12_tellPerson 97 = .ok (.iastore, 1) := dk_ok (by decide +kernel)
theorem dX12_tellPerson_98 : decode cX12_tellPerson 98 = .ok (.aload_n 0, 1) := dk_ok (by decide +kernel)
theorem dX12_tellPerson_99 : decode cX12_tellPerson 99 = .ok (.getfield 55, 3) := dk_ok (by decide +kernel)
theorem dX12_tellPerson_102 : decode cX12_tellPerson 102 = .ok (.iload_n 1, 1) := dk_ok (by decide +kernel)
theorem dX12_tellPerson_103 : decode cX12_tellPerson 103 = .ok (.aload_n 0, 1) := dk_ok (by decide +kernel)
theorem dX12_tellPerson_104 : decode cX12_tellPerson 104 = .ok (.iconst 0, 1) := dk_ok (by decide +kernel)
theorem dX12_tellPerson_105 : decode cX12_tellPerson 105 = .ok (.bipush 9, 2) := dk_ok (by decide +kernel)
theorem dX12_tellPerson_107 : decode cX12_tellPerson 107 = .ok (.invokevirtual 253, 3) := dk_ok (by decide +kernel)
theorem dX12_tellPerson_110 : decode cX12_tellPerson 110 = .ok (.iastore, 1) := dk_ok (by decide +kernel)
theorem dX12_tellPerson_111 : decode cX12_tellPerson 111 = .ok (.aload_n 0, 1) := dk_ok (by decide +kernel)
theorem dX12_tellPerson_112 : decode cX12_tellPerson 112 = .ok (.getfield 58, 3) := dk_ok (by decide +kernel)
theorem dX12_tellPerson_115 : decode cX12_tellPerson 115 = .ok (.iload_n 1, 1) := dk_ok (by decide +kernel)
theorem dX12_tellPerson_116 : decode cX12_tellPerson 116 = .ok (.aload_n 0, 1) := dk_ok (by decide +kernel)
theorem dX12_tellPerson_117 : decode cX12_tellPerson 117 = .ok (.iconst 0, 1) := dk_ok (by decide +kernel)
theorem dX12_tellPerson_118 : decode cX12_tellPerson 118 = .ok (.bipush 9, 2) := dk_ok (by decide +kernel)
theorem dX12_tellPerson_120 : decode cX12_tellPerson 120 = .ok (.invokevirtual 253, 3) := dk_ok (by decide +kernel)
theorem dX12_tellPerson_123 : decode cX12_tellPerson 123 = .ok (.iastore, 1) := dk_ok (by decide +kernel)
theorem dX12_tellPerson_124 : decode cX12_tellPerson 124 = .ok (.aload_n 0, 1) := dk_ok (by decide +kernel)
theorem dX12_tellPerson_125 : decode cX12_tellPerson 125 = .ok (.iconst 4, 1) := dk_ok (by decide +kernel)
theorem dX12_tellPerson_126 : decode cX12_tellPerson 126 = .ok (.invokevirtual 257, 3) := dk_ok (by decide +kernel)
theorem dX12_tellPerson_129 : decode cX12_tellPerson 129 = .ok (.aload_n 0, 1) := dk_ok (by decide +kernel)
theorem dX12_tellPerson_130 : decode cX12_tellPerson 130 = .ok (.getfield 191, 3) := dk_ok (by decide +kernel)
theorem dX12_tellPerson_133 : decode cX12_tellPerson 133 = .ok (.ifCond .le 4, 3) := dk_ok (by decide +kernel)
theorem dX12_tellPerson_136 : decode cX12_tellPerson 136 = .ok (.return_, 1) := dk_ok (by decide +kernel)
theorem dX12_tellPerson_137 : decode cX12_tellPerson 137 = .ok (.aload_n 0, 1) := dk_ok (by decide +kernel)
theorem dX12_tellPerson_138 : decode cX12_tellPerson 138 = .ok (.getfield 40, 3) := dk_ok (by decide +kernel)
theorem dX12_tellPerson_141 : decode cX12_tellPerson 141 = .ok (.aload_n 0, 1) := dk_ok (by decide +kernel)
theorem dX12_tellPerson_142 : decode cX12_tellPerson 142 = .ok (.getfield 227, 3) := dk_ok (by decide +kernel)
theorem dX12_tellPerson_145 : decode cX12_tellPerson 145 = .ok (.aload_n 0, 1) := dk_ok (by decide +kernel)
theorem dX12_tellPerson_146 : decode cX12_tellPerson 146 = .ok (.getfield 30, 3) := dk_ok (by decide +kernel)
theorem dX12_tellPerson_149 : decode cX12_tellPerson 149 = .ok (.iload_n 2, 1) := dk_ok (by decide +kernel)
theorem dX12_tellPerson_150 : decode cX12_tellPerson 150 = .ok (.laload, 1) := dk_ok (by decide +kernel)
theorem dX12_tellPerson_151 : decode cX12_tellPerson 151 = .ok (.lastore, 1) := dk_ok (by decide +kernel)
theorem dX12_tellPerson_152 : decode cX12_tellPerson 152 = .ok (.aload_n 0, 1) := dk_ok (by decide +kernel)
theorem dX12_tellPerson_153 : decode cX12_tellPerson 153 = .ok (.dup, 1) := dk_ok (by decide +kernel)
theorem dX12_tellPerson_154 : decode cX12_tellPerson 154 = .ok (.getfield 227, 3) := dk_ok (by decide +kernel)
theorem dX12_tellPerson_157 : decode cX12_tellPerson 157 = .ok (.iconst 1, 1) := dk_ok (by decide +kernel)
theorem dX12_tellPerson_158 : decode cX12_tellPerson 158 = .ok (.iadd, 1) := dk_ok (by decide +kernel)
theorem dX12_tellPerson_159 : decode cX12_tellPerson 159 = .ok (.putfield 227, 3) := dk_ok (by decide +kernel)
theorem dX12_tellPerson_162 : decode cX12_tellPerson 162 = .ok (.aload_n 0, 1) := dk_ok (by decide +kernel)
theorem dX12_tellPerson_163 : decode cX12_tellPerson 163 = .ok (.getfield 46, 3) := dk_ok (by decide +kernel)
theorem dX12_tellPerson_166 : decode cX12_tellPerson 166 = .ok (.aload_n 0, 1) := dk_ok (by decide +kernel)
theorem dX12_tellPerson_167 : decode cX12_tellPerson 167 = .ok (.getfield 224, 3) := dk_ok (by decide +kernel)
theorem dX12_tellPerson_170 : decode cX12_tellPerson 170 = .ok (.dup2, 1) := dk_ok (by decide +kernel)
theorem dX12_tellPerson_171 : decode cX12_tellPerson 171 = .ok (.iaload, 1) := dk_ok (by decide +kernel)
theorem dX12_tellPerson_172 : decode cX12_tellPerson 172 = .ok (.iconst 1, 1) := dk_ok (by decide +kernel)
theorem dX12_tellPerson_173 : decode cX12_tellPerson 173 = .ok (.iadd, 1) := dk_ok (by decide +kernel)
theorem dX12_tellPerson_174 : decode cX12_tellPerson 174 = .ok (.iastore, 1) := dk_ok (by decide +kernel)
theorem dX12_tellPerson_175 : decode cX12_tellPerson 175 = .ok (.return_, 1) := dk_ok (by decide +kernel)

def sX12_tellPerson : am_Sp := fun as n σ post => n = 92 ∧ sb_ok BB SH σ ∧ pN σ ≤ 4 ∧ pP σ ≤ 4 ∧ as = [.ref 51] ∧ ∀ τ, tpR σ τ → post none τ
def tpl (k t n : Int) : List (Option Value) := [some (.ref 51), some (.int (Int32.ofInt k)), some (.int (Int32.ofInt t)), some (.int (Int32.ofInt n))]