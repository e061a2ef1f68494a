/-! THE CLASS'S SENTENCES: what is told. Printed from wip/am/chk/hand/y7.in. -/
theorem dX5_readTell_0 : decode cX5_readTell 0 = .ok (.aload_n 0, 1) := dk_ok (by decide +kernel)
theorem dX5_readTell_1 : decode cX5_readTell 1 = .ok (.getfield 33, 3) := dk_ok (by decide +kernel)
theorem dX5_readTell_4 : decode cX5_readTell 4 = .ok (.sipush 256, 3) := dk_ok (by decide +kernel)
theorem dX5_readTell_7 : decode cX5_readTell 7 = .ok (.if_icmp .ne 28, 3) := dk_ok (by decide +kernel)
theorem dX5_readTell_10 : decode cX5_readTell 10 = .ok (.aload_n 0, 1) := dk_ok (by decide +kernel)
theorem dX5_readTell_11 : decode cX5_readTell 11 = .ok (.sipush 256, 3) := dk_ok (by decide +kernel)
theorem dX5_readTell_14 : decode cX5_readTell 14 = .ok (.invokevirtual 85, 3) := dk_ok (by decide +kernel)
theorem dX5_readTell_17 : decode cX5_readTell 17 = .ok (.pop, 1) := dk_ok (by decide +kernel)
theorem dX5_readTell_18 : decode cX5_readTell 18 = .ok (.aload_n 0, 1) := dk_ok (by decide +kernel)
theorem dX5_readTell_19 : decode cX5_readTell 19 = .ok (.getfield 12, 3) := dk_ok (by decide +kernel)
theorem dX5_readTell_22 : decode cX5_readTell 22 = .ok (.aload_n 0, 1) := dk_ok (by decide +kernel)
theorem dX5_readTell_23 : decode cX5_readTell 23 = .ok (.iconst 1, 1) := dk_ok (by decide +kernel)
theorem dX5_readTell_24 : decode cX5_readTell 24 = .ok (.bipush 12, 2) := dk_ok (by decide +kernel)
theorem dX5_readTell_26 : decode cX5_readTell 26 = .ok (.invokevirtual 89, 3) := dk_ok (by decide +kernel)
theorem dX5_readTell_29 : decode cX5_readTell 29 = .ok (.putfield 93, 3) := dk_ok (by decide +kernel)
theorem dX5_readTell_32 : decode cX5_readTell 32 = .ok (.goto 96, 3) := dk_ok (by decide +kernel)
theorem dX5_readTell_35 : decode cX5_readTell 35 = .ok (.aload_n 0, 1) := dk_ok (by decide +kernel)
theorem dX5_readTell_36 : decode cX5_readTell 36 = .ok (.getfield 33, 3) := dk_ok (by decide +kernel)
theorem dX5_readTell_39 : decode cX5_readTell 39 = .ok (.sipush 257, 3) := dk_ok (by decide +kernel)
theorem dX5_readTell_42 : decode cX5_readTell 42 = .ok (.if_icmp .ne 10, 3) := dk_ok (by decide +kernel)
theorem dX5_readTell_45 : decode cX5_readTell 45 = .ok (.aload_n 0, 1) := dk_ok (by decide +kernel)
theorem dX5_readTell_46 : decode cX5_readTell 46 = .ok (.invokevirtual 96, 3) := dk_ok (by decide +kernel)
theorem dX5_readTell_49 : decode cX5_readTell 49 = .ok (.goto 79, 3) := dk_ok (by decide +kernel)
theorem dX5_readTell_52 : decode cX5_readTell 52 = .ok (.aload_n 0, 1) := dk_ok (by decide +kernel)
theorem dX5_readTell_53 : decode cX5_readTell 53 = .ok (.getfield 33, 3) := dk_ok (by decide +kernel)
theorem dX5_readTell_56 : decode cX5_readTell 56 = .ok (.sipush 258, 3) := dk_ok (by decide +kernel)
theorem dX5_readTell_59 : decode cX5_readTell 59 = .ok (.if_icmp .lt 28, 3) := dk_ok (by decide +kernel)
theorem dX5_readTell_62 : decode cX5_readTell 62 = .ok (.aload_n 0, 1) := dk_ok (by decide +kernel)
theorem dX5_readTell_63 : decode cX5_readTell 63 = .ok (.getfield 33, 3) := dk_ok (by decide +kernel)
theorem dX5_readTell_66 : decode cX5_readTell 66 = .ok (.sipush 261, 3) := dk_ok (by decide +kernel)
theorem dX5_readTell_69 : decode cX5_readTell 69 = .ok (.if_icmp .gt 18, 3) := dk_ok (by decide +kernel)
theorem dX5_readTell_72 : decode cX5_readTell 72 = .ok (.aload_n 0, 1) := dk_ok (by decide +kernel)
theorem dX5_readTell_73 : decode cX5_readTell 73 = .ok (.aload_n 0, 1) := dk_ok (by decide +kernel)
theorem dX5_readTell_74 : decode cX5_readTell 74 = .ok (.getfield 33, 3) := dk_ok (by decide +kernel)
theorem dX5_readTell_77 : decode cX5_readTell 77 = .ok (.sipush 258, 3) := dk_ok (by decide +kernel)
theorem dX5_readTell_80 : decode cX5_readTell 80 = .ok (.isub, 1) := dk_ok (by decide +kernel)
theorem dX5_readTell_81 : decode cX5_readTell 81 = .ok (.invokevirtual 99, 3) := dk_ok (by decide +kernel)
theorem dX5_readTell_84 : decode cX5_readTell 84 = .ok (.goto 44, 3) := dk_ok (by decide +kernel)
theorem dX5_readTell_87 : decode cX5_readTell 87 = .ok (.aload_n 0, 1) := dk_ok (by decide +kernel)
theorem dX5_readTell_88 : decode cX5_readTell 88 = .ok (.getfield 33, 3) := dk_ok (by decide +kernel)
theorem dX5_readTell_91 : decode cX5_readTell 91 = .ok (.sipush 262, 3) := dk_ok (by decide +kernel)
theorem dX5_readTell_94 : decode cX5_readTell 94 = .ok (.if_icmp .ne 29, 3) := dk_ok (by decide +kernel)
theorem dX5_readTell_97 : decode cX5_readTell 97 = .ok (.aload_n 0, 1) := dk_ok (by decide +kernel)
theorem dX5_readTell_98 : decode cX5_readTell 98 = .ok (.sipush 262, 3) := dk_ok (by decide +kernel)
theorem dX5_readTell_101 : decode cX5_readTell 101 = .ok (.invokevirtual 85, 3) := dk_ok (by decide +kernel)
theorem dX5_readTell_104 : decode cX5_readTell 104 = .ok (.pop, 1) := dk_ok (by decide +kernel)
theorem dX5_readTell_105 : decode cX5_readTell 105 = .ok (.aload_n 0, 1) := dk_ok (by decide +kernel)
theorem dX5_readTell_106 : decode cX5_readTell 106 = .ok (.getfield 12, 3) := dk_ok (by decide +kernel)
theorem dX5_readTell_109 : decode cX5_readTell 109 = .ok (.aload_n 0, 1) := dk_ok (by decide +kernel)
theorem dX5_readTell_110 : decode cX5_readTell 110 = .ok (.iconst 0, 1) := dk_ok (by decide +kernel)
theorem dX5_readTell_111 : decode cX5_readTell 111 = .ok (.sipush 9999, 3) := dk_ok (by decide +kernel)
theorem dX5_readTell_114 : decode cX5_readTell 114 = .ok (.invokevirtual 89, 3) := dk_ok (by decide +kernel)
theorem dX5_readTell_117 : decode cX5_readTell 117 = .ok (.putfield 102, 3) := dk_ok (by decide +kernel)
theorem dX5_readTell_120 : decode cX5_readTell 120 = .ok (.goto 8, 3) := dk_ok (by decide +kernel)
theorem dX5_readTell_123 : decode cX5_readTell 123 = .ok (.aload_n 0, 1) := dk_ok (by decide +kernel)
theorem dX5_readTell_124 : decode cX5_readTell 124 = .ok (.iconst 1, 1) := dk_ok (by decide +kernel)
theorem dX5_readTell_125 : decode cX5_readTell 125 = .ok (.invokevirtual 81, 3) := dk_ok (by decide +kernel)
theorem dX5_readTell_128 : decode cX5_readTell 128 = .ok (.aload_n 0, 1) := dk_ok (by decide +kernel)
theorem dX5_readTell_129 : decode cX5_readTell 129 = .ok (.bipush 59, 2) := dk_ok (by decide +kernel)
theorem dX5_readTell_131 : decode cX5_readTell 131 = .ok (.invokevirtual 85, 3) := dk_ok (by decide +kernel)
theorem dX5_readTell_134 : decode cX5_readTell 134 = .ok (.pop, 1) := dk_ok (by decide +kernel)
theorem dX5_readTell_135 : decode cX5_readTell 135 = .ok (.return_, 1) := dk_ok (by decide +kernel)

/-- a law's code, from step a on -/
def cK (σ : am_S) (a : Int) (c : List (Int × Int)) : Prop := (0 ≤ a ∧ a + (c.length : Int) ≤ lS σ) ∧ ∀ i : Nat, i < c.length → σ.1 5 (a.toNat + i) = Int32.ofInt (c.getD i (0, 0)).1 ∧ σ.1 6 (a.toNat + i) = Int32.ofInt (c.getD i (0, 0)).2
/-- the code of a law that isn't told -/
def dfl (k : Nat) : List (Int × Int) := if k = 0 then [(1, 9), (0, 0)] else if k = 2 then [(2, 5), (0, 0)] else [(1, 0), (0, 0)]
def cG (σ : am_S) (k : Nat) (l : Option LW) : Prop := ∃ a : Int, σ.1 7 k = Int32.ofInt a ∧ cK σ a (match l with | some w => cLw a w | none => dfl k)
/-- the draft, as it stands -/
def cD (σ : am_S) (d : DR) : Prop := (σ.1 3 0 = Int32.ofInt d.1 ∧ (1 ≤ d.1 ∧ d.1 ≤ 12)) ∧ (σ.1 3 2 = Int32.ofInt d.2.1 ∧ (0 ≤ d.2.1 ∧ d.2.1 ≤ 9999)) ∧ cQ σ d.2.2.1 ∧ (0 ≤ lS σ ∧ ∀ k, k < 4 → cG σ k (d.2.2.2 k))
theorem cK_lA {σ τ : am_S} {a : Int} {c e : List (Int × Int)} (h : cK σ a c) (g : lA σ τ e) : cK τ a c := by
  obtain ⟨⟨h1, h2⟩, h3⟩ := h
  obtain ⟨g1, g2, g3⟩ := g
  refine ⟨⟨h1, by omega⟩, fun i hi => ?_⟩
  obtain ⟨p, q⟩ := g2 (a.toNat + i) (by omega)
  rw [p, q]
  exact h3 i hi
theorem cG_lA {σ τ : am_S} {k : Nat} {l : Option LW} {e : List (Int × Int)} (h : cG σ k l) (g : lA σ τ e) (hs : τ.1 7 k = σ.1 7 k) : cG τ k l := by
  obtain ⟨a, h1, h2⟩ := h
  exact ⟨a, hs.trans h1, cK_lA h2 g⟩
theorem cK_new {σ τ : am_S} {c : List (Int × Int)} (h0 : 0 ≤ lS σ) (g : lA σ τ c) : cK τ (lS σ) c := by
  obtain ⟨g1, g2, g3⟩ := g
  exact ⟨⟨h0, by omega⟩, g3⟩
/-- what doesn't touch the laws -/
theorem nl_lA {M : sa_M} {σ τ : am_S} (g : sI BB SH M σ τ) (hM : M.all (fun m => decide (m.1 ≠ 4) && (decide (m.1 ≠ 5) && (decide (m.1 ≠ 6) && decide (m.1 ≠ 7)))) = true) : lA σ τ [] ∧ (∀ k, τ.1 7 k = σ.1 7 k) ∧ lS τ = lS σ := by
  have q : ∀ m ∈ M, m.1 ≠ 4 ∧ m.1 ≠ 5 ∧ m.1 ≠ 6 ∧ m.1 ≠ 7 := fun m hm => by
    have := List.all_eq_true.mp hM m hm
    simpa using this
  have e : ∀ o i, (o = 4 ∨ o = 5 ∨ o = 6 ∨ o = 7) → τ.1 o i = σ.1 o i := fun o i ho => (g.2 o i (fun m hm hh => by
    have := q m hm
    rcases ho with rfl | rfl | rfl | rfl
    · exact this.1 hh.1
    · exact this.2.1 hh.1
    · exact this.2.2.1 hh.1
    · exact this.2.2.2 hh.1)).1
  have el : lS τ = lS σ := by unfold lS; rw [e _ _ (Or.inl rfl)]
  exact ⟨lA_nil el (fun o i ho => e o i (by rcases ho with rfl | rfl; exact Or.inr (Or.inl rfl); exact Or.inr (Or.inr (Or.inl rfl)))), fun k => e _ k (Or.inr (Or.inr (Or.inr rfl))), el⟩
theorem cD_laws {M : sa_M} {σ τ : am_S} {ls : Nat → Option LW} (h : 0 ≤ lS σ ∧ ∀ k, k < 4 → cG σ k (ls k)) (g : sI BB SH M σ τ) (hM : M.all (fun m => decide (m.1 ≠ 4) && (decide (m.1 ≠ 5) && (decide (m.1 ≠ 6) && decide (m.1 ≠ 7)))) = true) : 0 ≤ lS τ ∧ ∀ k, k < 4 → cG τ k (ls k) := by
  obtain ⟨g1, g2, g3⟩ := nl_lA g hM
  exact ⟨by rw [g3]; exact h.1, fun k hk => cG_lA (h.2 k hk) g1 (g2 k)⟩
/-- what touches neither laws nor people nor the town -/
theorem cD_sI {M : sa_M} {σ τ : am_S} {d : DR} (h : cD σ d) (g : sI BB SH M σ τ) (hM : M.all (fun m => decide (m.1 ≠ 4) && (decide (m.1 ≠ 5) && (decide (m.1 ≠ 6) && decide (m.1 ≠ 7)))) = true) (hM2 : M.all (fun m => decide (m.1 ≠ 3) && (decide (m.1 ≠ 19) && (decide (m.1 ≠ 10) && (decide (m.1 ≠ 11) && (decide (m.1 ≠ 12) && decide (m.1 ≠ 13)))))) = true) : cD τ d := by
  obtain ⟨⟨h1, h2⟩, ⟨h3, h4⟩, h5, h6⟩ := h
  have q : ∀ k, τ.1 3 k = σ.1 3 k := fun k => fr_o g (by
    rw [List.all_eq_true] at hM2 ⊢
    intro m hm
    have := hM2 m hm
    simp only [Bool.and_eq_true] at this
    exact this.1) k
  exact ⟨⟨by rw [q]; exact h1, h2⟩, ⟨by rw [q]; exact h3, h4⟩, cQ_sI h5 g hM2, cD_laws h6 g hM⟩
def rtM : sa_M := rlM ++ rpM ++ [(3, 0, 0 + 1), (3, 2, 2 + 1)]
