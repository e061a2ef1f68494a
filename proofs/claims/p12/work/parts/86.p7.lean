/-! THE REFERENCE'S READER: a law. Printed from wip/am/chk/hand/lw2.in. -/
def pS (σ : am_S) : Int := (σ.1 51 19).toInt
theorem pS_b {σ : am_S} (h : sb_ok BB SH σ) : 0 ≤ pS σ ∧ pS σ ≤ 1 := h.2 51 12 19 rfl
theorem lwF_S {σ τ : am_S} (h : lwF σ τ) : pS τ = pS σ := by unfold pS; rw [h.1 _ _ (by decide) (by decide) (by decide) (by decide) (fun z => absurd z.1 (by decide))]
abbrev JbC (σ : am_S) (s : Int) (b : Nat) : Prop := Jbr σ s b ∧ (σ.1 73 b).toInt ≤ pC σ
theorem Jpost_lw {σ τ : am_S} {s a b : Int} (h : lwF σ τ) (hp : Jpost σ s a b) (hs : 0 ≤ s) (hb : b ≤ pC σ) : Jpost τ s a b := by
  obtain ⟨h1, h2, h3, h4, d, h5⟩ := hp
  exact ⟨h1, h2, h3, h4, d, by rw [Jdep_cg (σ := σ) (fun i x y => (h.2.2.1 i (Or.inl (by omega))).1)]; exact h5⟩
theorem lwF_b {σ τ : am_S} (h : lwF σ τ) {o b : Nat} (ho : lwA o = true) (hb : (b : Int) < pB σ) : τ.1 o b = σ.1 o b := h.1 o b (fun z => by rw [z] at ho; cases ho) (fun z => by rw [z] at ho; cases ho) (fun z => by rw [z] at ho; cases ho) (fun z => by rw [z.1] at ho; cases ho) (fun z => by omega)
theorem JbC_lw {σ τ : am_S} {s : Int} {b : Nat} (h : lwF σ τ) (hs : 0 ≤ s) (hb : (b : Int) < pB σ) (hj : JbC σ s b) : JbC τ s b := by
  obtain ⟨⟨g0, g1, g2⟩, g3⟩ := hj
  have e1 := lwF_b h (o := 69) rfl hb
  have e2 := lwF_b h (o := 70) rfl hb
  have e3 := lwF_b h (o := 71) rfl hb
  have e4 := lwF_b h (o := 72) rfl hb
  have e5 := lwF_b h (o := 73) rfl hb
  have f5 := h.2.2.2.2.1
  obtain ⟨_, a1, _⟩ := id g2
  refine ⟨⟨g0, fun hn => ?_, ?_⟩, by rw [e5]; omega⟩
  · rw [e1] at hn
    rw [e2, e3, e4]
    obtain ⟨q1, q2⟩ := g1 hn
    obtain ⟨_, a2, _⟩ := id q2
    exact ⟨Jpost_lw h q1 hs (by omega), Jpost_lw h q2 hs (by omega)⟩
  · rw [e4, e5]; exact Jpost_lw h g2 hs g3
/-- in the midst of a law: n branches stand, e tokens at least have gone -/
abbrev tq (σ0 σ : am_S) (s n e : Int) (X : am_S → Prop) : Prop := sb_ok BB SH σ ∧ lwF σ0 σ ∧ pB σ = pB σ0 + n ∧ pC σ - pC σ0 ≤ pT σ - pT σ0 + 1 ∧ (pF σ = 0 → pO σ = 0 ∧ pC σ - pC σ0 ≤ pT σ - pT σ0 ∧ e ≤ pT σ - pT σ0 ∧ (∀ b : Nat, pB σ0 ≤ (b : Int) → (b : Int) < pB σ → JbC σ s b) ∧ X σ)
theorem tq_TK {σ0 σ τ : am_S} {s n e : Int} {X : am_S → Prop} (h : tq σ0 σ s n e X) (hs : 0 ≤ s) (g : TK σ τ) (ga : ADV σ τ) (hX : X σ → lwF σ τ → pB τ = pB σ → pC τ = pC σ → (∀ o i, lwA o = true → τ.1 o i = σ.1 o i) → X τ) : tq σ0 τ s n (e + 1) X := by
  obtain ⟨h1, h2, h3, h4, h5⟩ := h
  have hl := lwF_ex (exF_TK g)
  have eC := TK_C g
  have eO := TK_O g
  have ht := g.2.1
  have eB := exF_B (exF_TK g)
  refine ⟨g.1.1, lwF_t h2 hl, by omega, by omega, fun z => ?_⟩
  rcases ga with ⟨a1, a2⟩ | ⟨a1, a2⟩
  · obtain ⟨q1, q2, q3, q4, q5⟩ := h5 (by omega)
    exact ⟨by omega, by omega, by omega, fun b x y => JbC_lw hl hs (by omega) (q4 b x (by omega)), hX q5 hl eB eC (fun o i ho => TK_o g (fun z => by rw [z.1] at ho; cases ho))⟩
  · exact absurd z a2
theorem tq_at {σ0 σ : am_S} {s n e : Int} {X Y : am_S → Prop} {o : Nat} {x : Int32} (h : tq σ0 σ s n e X) (hs : 0 ≤ s) (ho : lwA o = true) (hb : sb_ok BB SH (am_pi σ o (pB σ).toNat x)) (hX : X σ → Y (am_pi σ o (pB σ).toNat x)) : tq σ0 (am_pi σ o (pB σ).toNat x) s n e Y := by
  obtain ⟨h1, h2, h3, h4, h5⟩ := h
  have b0 := pB_b h1
  obtain ⟨l1, f1, _, _⟩ := lwF_at (σ := σ) (o := o) (x := x) ho b0.1
  obtain ⟨eC, eT, eF, eO, eB, eW⟩ := lw_C f1
  refine ⟨hb, lwF_t h2 l1, by omega, by omega, fun z => ?_⟩
  obtain ⟨q1, q2, q3, q4, q5⟩ := h5 (by omega)
  exact ⟨by omega, by omega, by omega, fun b x y => JbC_lw l1 hs (by omega) (q4 b x (by omega)), hX q5⟩
theorem tq_ex {σ0 σ τ : am_S} {s n e : Int} {X Y : am_S → Prop} (h : tq σ0 σ s n e X) (hs : 0 ≤ s) (hq : pC σ - pC σ0 ≤ pT σ - pT σ0) (h0 : 0 ≤ pT σ0) (hc : 420 * s ≤ pC σ0 ∧ pC σ0 ≤ pT σ0 + 420 * s) (hR : exR σ τ) (hX : X σ → lwF σ τ → pB τ = pB σ → (∀ o i, lwA o = true → τ.1 o i = σ.1 o i) → Jpost τ s (pC σ) (pC τ) → Y τ) : tq σ0 τ s n (e + 1) Y := by
  obtain ⟨h1, h2, h3, h4, h5⟩ := h
  have hl := lwF_ex hR.r2
  have eB := exF_B hR.r2
  have r3 := hR.r3
  have f5 := hR.r2.f5
  have f5' := h2.2.2.2.2.1
  have tb := pT_b hR.r1
  have ht := h2.2.2.2.2.2.1
  refine ⟨hR.r1, lwF_t h2 hl, by omega, by omega, fun z => ?_⟩
  have z0 : pF σ = 0 := Classical.byContradiction (fun q => hR.r2.f7.1 q z)
  obtain ⟨q1, q2, q3, q4, q5⟩ := h5 z0
  obtain ⟨r41, r42, r43, r44⟩ := hR.r4 z
  exact ⟨r41, by omega, by omega, fun b x y => JbC_lw hl hs (by omega) (q4 b x (by omega)), hX q5 hl eB (fun o i ho => hR.r2.f1 o i (fun z => by rw [z] at ho; cases ho) (fun z => by rw [z] at ho; cases ho) (fun z => by rw [z] at ho; cases ho) (fun z => by rw [z.1] at ho; cases ho)) ⟨by omega, f5, by omega, by omega, 0, r44⟩⟩
/-- the branch in hand can be closed -/
abbrev XT (s : Int) (σ : am_S) : Prop := σ.1 69 (pB σ).toNat = 0 ∨ (Jpost σ s (σ.1 70 (pB σ).toNat).toInt (σ.1 71 (pB σ).toNat).toInt ∧ Jpost σ s (σ.1 71 (pB σ).toNat).toInt (pC σ))
theorem tq_tm {σ0 σ τ : am_S} {s n e : Int} (h : tq σ0 σ s n e (XT s)) (hs : 0 ≤ s) (h0 : 0 ≤ pT σ0) (hc : 420 * s ≤ pC σ0 ∧ pC σ0 ≤ pT σ0 + 420 * s) (hb : 130 * s ≤ pB σ0 ∧ pB σ0 + n < 130 * s + 130) (hn : 0 ≤ n) (hR : tmR σ τ) : tq σ0 τ s (n + 1) (e + 1) (fun _ => True) := by
  obtain ⟨h1, h2, h3, h4, h5⟩ := h
  obtain ⟨r1, r2, r3, r4, r5, r6, r7, r8, r9⟩ := hR
  have f5 := r2.2.2.2.2.1
  have f5' := h2.2.2.2.2.1
  have f6 := r2.2.2.2.2.2.1
  have tb := pT_b r1
  have ht := h2.2.2.2.2.2.1
  refine ⟨r1, lwF_t h2 r2, by omega, ?_, fun z => ?_⟩
  · by_cases q : pF σ = 0
    · have := r8 q
      have := (h5 q).2.1
      omega
    · have := r7 q
      omega
  have z0 : pF σ = 0 := Classical.byContradiction (fun q => r2.2.2.2.2.2.2.1.1 q z)
  obtain ⟨q1, q2, q3, q4, q5⟩ := h5 z0
  obtain ⟨r91, r92, r93, r94⟩ := r9 z
  have bb := pB_b h1
  refine ⟨r91, by omega, by omega, fun b x y => ?_, trivial⟩
  by_cases qb : (b : Int) < pB σ
  · exact JbC_lw r2 hs qb (q4 b x qb)
  · have eb : b = (pB σ).toNat := by omega
    subst eb
    refine ⟨⟨⟨by omega, by omega⟩, fun hn => ?_, ?_⟩, by rw [r5]; exact Int.le_refl _⟩
    · have hn : ¬ τ.1 69 (pB σ).toNat = 0 := hn
      rw [r6 _ _ (Or.inl rfl)] at hn
      rcases q5 with q5 | ⟨q5, q6⟩
      · exact absurd q5 hn
      · obtain ⟨_, a2, _⟩ := id q6
        rw [r4, r6 _ _ (Or.inr (Or.inl rfl)), r6 _ _ (Or.inr (Or.inr rfl))]
        exact ⟨Jpost_lw r2 q5 hs a2, Jpost_lw r2 q6 hs (Int.le_refl _)⟩
    · rw [r4, r5]
      exact ⟨by omega, f5, by omega, by omega, 0, r94⟩
theorem tq_f {σ0 σ : am_S} {s n e e' : Int} {X Y : am_S → Prop} (h : tq σ0 σ s n e X) (hf : pF σ ≠ 0) : tq σ0 σ s n e' Y := ⟨h.1, h.2.1, h.2.2.1, h.2.2.2.1, fun z => absurd z hf⟩
theorem tq_m {σ0 σ : am_S} {s n e e' : Int} {X Y : am_S → Prop} (h : tq σ0 σ s n e X) (he : e' ≤ e) (hX : X σ → Y σ) : tq σ0 σ s n e' Y := ⟨h.1, h.2.1, h.2.2.1, h.2.2.2.1, fun z => by
  obtain ⟨q1, q2, q3, q4, q5⟩ := h.2.2.2.2 z
  exact ⟨q1, q2, by omega, q4, hX q5⟩⟩
def lwS (υ : am_S) (k f : Int) : am_S := am_pi (am_pi υ 67 (4 * pS υ + k).toNat (Int32.ofInt f)) 68 (4 * pS υ + k).toNat (Int32.ofInt (pB υ))
abbrev tlR (k : Int) (σ τ : am_S) : Prop := ∃ υ, sb_ok BB SH υ ∧ lwF σ υ ∧ pB υ ≤ pB σ + 5 ∧ pC υ - pC σ ≤ pT υ - pT σ + 1 ∧ ((pF υ ≠ 0 ∧ τ = υ) ∨ (pF υ = 0 ∧ pO υ = 0 ∧ pC υ - pC σ ≤ pT υ - pT σ ∧ 4 * (pB υ - pB σ) ≤ pT υ - pT σ + 1 ∧ (∀ b : Nat, pB σ ≤ (b : Int) → (b : Int) < pB υ → JbC υ (pS σ) b) ∧ τ = lwS υ k (pB σ)))
theorem dX12_tellLaw_0 : decode cX12_tellLaw 0 = .ok (.aload_n 0, 1) := dk_ok (by decide +kernel)
theorem dX12_tellLaw_1 : decode cX12_tellLaw 1 = .ok (.iconst 5, 1) := dk_ok (by decide +kernel)
theorem dX12_tellLaw_2 : decode cX12_tellLaw 2 = .ok (.invokevirtual 257, 3) := dk_ok (by decide +kernel)
theorem dX12_tellLaw_5 : decode cX12_tellLaw 5 = .ok (.aload_n 0, 1) := dk_ok (by decide +kernel)
theorem dX12_tellLaw_6 : decode cX12_tellLaw 6 = .ok (.getfield 230, 3) := dk_ok (by decide +kernel)
theorem dX12_tellLaw_9 : decode cX12_tellLaw 9 = .ok (.istore_n 2, 1) := dk_ok (by decide +kernel)
theorem dX12_tellLaw_10 : decode cX12_tellLaw 10 = .ok (.iconst 0, 1) := dk_ok (by decide +kernel)
theorem dX12_tellLaw_11 : decode cX12_tellLaw 11 = .ok (.istore_n 3, 1) := dk_ok (by decide +kernel)
theorem dX12_tellLaw_12 : decode cX12_tellLaw 12 = .ok (.aload_n 0, 1) := dk_ok (by decide +kernel)
theorem dX12_tellLaw_13 : decode cX12_tellLaw 13 = .ok (.getfield 191, 3) := dk_ok (by decide +kernel)
theorem dX12_tellLaw_16 : decode cX12_tellLaw 16 = .ok (.ifCond .ne 113, 3) := dk_ok (by decide +kernel)
theorem dX12_tellLaw_19 : decode cX12_tellLaw 19 = .ok (.aload_n 0, 1) := dk_ok (by decide +kernel)
theorem dX12_tellLaw_20 : decode cX12_tellLaw 20 = .ok (.bipush 27, 2) := dk_ok (by decide +kernel)
theorem dX12_tellLaw_22 : decode cX12_tellLaw 22 = .ok (.invokevirtual 209, 3) := dk_ok (by decide +kernel)
theorem dX12_tellLaw_25 : decode cX12_tellLaw 25 = .ok (.ifCond .eq 104, 3) := dk_ok (by decide +kernel)
theorem dX12_tellLaw_28 : decode cX12_tellLaw 28 = .ok (.iload_n 3, 1) := dk_ok (by decide +kernel)
theorem dX12_tellLaw_29 : decode cX12_tellLaw 29 = .ok (.iconst 4, 1) := dk_ok (by decide +kernel)
theorem dX12_tellLaw_30 : decode cX12_tellLaw 30 = .ok (.if_icmp .ne 8, 3) := dk_ok (by decide +kernel)
theorem dX12_tellLaw_33 : decode cX12_tellLaw 33 = .ok (.aload_n 0, 1) := dk_ok (by decide +kernel)
theorem dX12_tellLaw_34 : decode cX12_tellLaw 34 = .ok (.iconst 2, 1) := dk_ok (by decide +kernel)
theorem dX12_tellLaw_35 : decode cX12_tellLaw 35 = .ok (.invokevirtual 206, 3) := dk_ok (by decide +kernel)
theorem dX12_tellLaw_38 : decode cX12_tellLaw 38 = .ok (.aload_n 0, 1) := dk_ok (by decide +kernel)
theorem dX12_tellLaw_39 : decode cX12_tellLaw 39 = .ok (.getfield 191, 3) := dk_ok (by decide +kernel)
theorem dX12_tellLaw_42 : decode cX12_tellLaw 42 = .ok (.ifCond .le 4, 3) := dk_ok (by decide +kernel)
theorem dX12_tellLaw_45 : decode cX12_tellLaw 45 = .ok (.return_, 1) := dk_ok (by decide +kernel)
theorem dX12_tellLaw_46 : decode cX12_tellLaw 46 = .ok (.iinc 3 1, 3) := dk_ok (by decide +kernel)
theorem dX12_tellLaw_49 : decode cX12_tellLaw 49 = .ok (.aload_n 0, 1) := dk_ok (by decide +kernel)
theorem dX12_tellLaw_50 : decode cX12_tellLaw 50 = .ok (.invokevirtual 212, 3) := dk_ok (by decide +kernel)
theorem dX12_tellLaw_53 : decode cX12_tellLaw 53 = .ok (.aload_n 0, 1) := dk_ok (by decide +kernel)
theorem dX12_tellLaw_54 : decode cX12_tellLaw 54 = .ok (.getfield 70, 3) := dk_ok (by decide +kernel)
theorem dX12_tellLaw_57 : decode cX12_tellLaw 57 = .ok (.aload_n 0, 1) := dk_ok (by decide +kernel)
theorem dX12_tellLaw_58 : decode cX12_tellLaw 58 = .ok (.getfield 230, 3) := dk_ok (by decide +kernel)
theorem dX12_tellLaw_61 : decode cX12_tellLaw 61 = .ok (.iconst 1, 1) := dk_ok (by decide +kernel)
theorem dX12_tellLaw_62 : decode cX12_tellLaw 62 = .ok (.bastore, 1) := dk_ok (by decide +kernel)
theorem dX12_tellLaw_63 : decode cX12_tellLaw 63 = .ok (.aload_n 0, 1) := dk_ok (by decide +kernel)
theorem dX12_tellLaw_64 : decode cX12_tellLaw 64 = .ok (.getfield 74, 3) := dk_ok (by decide +kernel)
theorem dX12_tellLaw_67 : decode cX12_tellLaw 67 = .ok (.aload_n 0, 1) := dk_ok (by decide +kernel)
theorem dX12_tellLaw_68 : decode cX12_tellLaw 68 = .ok (.getfield 230, 3) := dk_ok (by decide +kernel)
theorem dX12_tellLaw_71 : decode cX12_tellLaw 71 = .ok (.aload_n 0, 1) := dk_ok (by decide +kernel)
theorem dX12_tellLaw_72 : decode cX12_tellLaw 72 = .ok (.getfield 233, 3) := dk_ok (by decide +kernel)
theorem dX12_tellLaw_75 : decode cX12_tellLaw 75 = .ok (.iastore, 1) := dk_ok (by decide +kernel)
theorem dX12_tellLaw_76 : decode cX12_tellLaw 76 = .ok (.aload_n 0, 1) := dk_ok (by decide +kernel)
theorem dX12_tellLaw_77 : decode cX12_tellLaw 77 = .ok (.invokevirtual 269, 3) := dk_ok (by decide +kernel)
theorem dX12_tellLaw_80 : decode cX12_tellLaw 80 = .ok (.aload_n 0, 1) := dk_ok (by decide +kernel)
theorem dX12_tellLaw_81 : decode cX12_tellLaw 81 = .ok (.bipush 13, 2) := dk_ok (by decide +kernel)
theorem dX12_tellLaw_83 : decode cX12_tellLaw 83 = .ok (.invokevirtual 257, 3) := dk_ok (by decide +kernel)
theorem dX12_tellLaw_86 : decode cX12_tellLaw 86 = .ok (.aload_n 0, 1) := dk_ok (by decide +kernel)
theorem dX12_tellLaw_87 : decode cX12_tellLaw 87 = .ok (.getfield 77, 3) := dk_ok (by decide +kernel)
theorem dX12_tellLaw_90 : decode cX12_tellLaw 90 = .ok (.aload_n 0, 1) := dk_ok (by decide +kernel)
theorem dX12_tellLaw_91 : decode cX12_tellLaw 91 = .ok (.getfield 230, 3) := dk_ok (by decide +kernel)
theorem dX12_tellLaw_94 : decode cX12_tellLaw 94 = .ok (.aload_n 0, 1) := dk_ok (by decide +kernel)
theorem dX12_tellLaw_95 : decode cX12_tellLaw 95 = .ok (.getfield 233, 3) := dk_ok (by decide +kernel)
theorem dX12_tellLaw_98 : decode cX12_tellLaw 98 = .ok (.iastore, 1) := dk_ok (by decide +kernel)
theorem dX12_tellLaw_99 : decode cX12_tellLaw 99 = .ok (.aload_n 0, 1) := dk_ok (by decide +kernel)
theorem dX12_tellLaw_100 : decode cX12_tellLaw 100 = .ok (.getfield 191, 3) := dk_ok (by decide +kernel)
theorem dX12_tellLaw_103 : decode cX12_tellLaw 103 = .ok (.ifCond .ne 7, 3) := dk_ok (by decide +kernel)
theorem dX12_tellLaw_106 : decode cX12_tellLaw 106 = .ok (.aload_n 0, 1) := dk_ok (by decide +kernel)
theorem dX12_tellLaw_107 : decode cX12_tellLaw 107 = .ok (.invokevirtual 269, 3) := dk_ok (by decide +kernel)
theorem dX12_tellLaw_110 : decode cX12_tellLaw 110 = .ok (.aload_n 0, 1) := dk_ok (by decide +kernel)
theorem dX12_tellLaw_111 : decode cX12_tellLaw 111 = .ok (.bipush 28, 2) := dk_ok (by decide +kernel)
theorem dX12_tellLaw_113 : decode cX12_tellLaw 113 = .ok (.invokevirtual 257, 3) := dk_ok (by decide +kernel)
theorem dX12_tellLaw_116 : decode cX12_tellLaw 116 = .ok (.aload_n 0, 1) := dk_ok (by decide +kernel)
theorem dX12_tellLaw_117 : decode cX12_tellLaw 117 = .ok (.invokevirtual 272, 3) := dk_ok (by decide +kernel)
theorem dX12_tellLaw_120 : decode cX12_tellLaw 120 = .ok (.aload_n 0, 1) := dk_ok (by decide +kernel)
theorem dX12_tellLaw_121 : decode cX12_tellLaw 121 = .ok (.bipush 29, 2) := dk_ok (by decide +kernel)
theorem dX12_tellLaw_123 : decode cX12_tellLaw 123 = .ok (.invokevirtual 257, 3) := dk_ok (by decide +kernel)
theorem dX12_tellLaw_126 : decode cX12_tellLaw 126 = .ok (.goto (-114), 3) := dk_ok (by decide +kernel)
theorem dX12_tellLaw_129 : decode cX12_tellLaw 129 = .ok (.aload_n 0, 1) := dk_ok (by decide +kernel)
theorem dX12_tellLaw_130 : decode cX12_tellLaw 130 = .ok (.getfield 70, 3) := dk_ok (by decide +kernel)
theorem dX12_tellLaw_133 : decode cX12_tellLaw 133 = .ok (.aload_n 0, 1) := dk_ok (by decide +kernel)
theorem dX12_tellLaw_134 : decode cX12_tellLaw 134 = .ok (.getfield 230, 3) := dk_ok (by decide +kernel)
theorem dX12_tellLaw_137 : decode cX12_tellLaw 137 = .ok (.iconst 0, 1) := dk_ok (by decide +kernel)
theorem dX12_tellLaw_138 : decode cX12_tellLaw 138 = .ok (.bastore, 1) := dk_ok (by decide +kernel)
theorem dX12_tellLaw_139 : decode cX12_tellLaw 139 = .ok (.aload_n 0, 1) := dk_ok (by decide +kernel)
theorem dX12_tellLaw_140 : decode cX12_tellLaw 140 = .ok (.invokevirtual 272, 3) := dk_ok (by decide +kernel)
theorem dX12_tellLaw_143 : decode cX12_tellLaw 143 = .ok (.aload_n 0, 1) := dk_ok (by decide +kernel)
theorem dX12_tellLaw_144 : decode cX12_tellLaw 144 = .ok (.iconst 4, 1) := dk_ok (by decide +kernel)
theorem dX12_tellLaw_145 : decode cX12_tellLaw 145 = .ok (.invokevirtual 257, 3) := dk_ok (by decide +kernel)
theorem dX12_tellLaw_148 : decode cX12_tellLaw 148 = .ok (.aload_n 0, 1) := dk_ok (by decide +kernel)
theorem dX12_tellLaw_149 : decode cX12_tellLaw 149 = .ok (.getfield 191, 3) := dk_ok (by decide +kernel)
theorem dX12_tellLaw_152 : decode cX12_tellLaw 152 = .ok (.ifCond .le 4, 3) := dk_ok (by decide +kernel)
theorem dX12_tellLaw_155 : decode cX12_tellLaw 155 = .ok (.return_, 1) := dk_ok (by decide +kernel)
theorem dX12_tellLaw_156 : decode cX12_tellLaw 156 = .ok (.aload_n 0, 1) := dk_ok (by decide +kernel)
theorem dX12_tellLaw_157 : decode cX12_tellLaw 157 = .ok (.getfield 64, 3) := dk_ok (by decide +kernel)
theorem dX12_tellLaw_160 : decode cX12_tellLaw 160 = .ok (.iconst 4, 1) := dk_ok (by decide +kernel)
theorem dX12_tellLaw_161 : decode cX12_tellLaw 161 = .ok (.aload_n 0, 1) := dk_ok (by decide +kernel)
theorem dX12_tellLaw_162 : decode cX12_tellLaw 162 = .ok (.getfield 224, 3) := dk_ok (by decide +kernel)
theorem dX12_tellLaw_165 : decode cX12_tellLaw 165 = .ok (.imul, 1) := dk_ok (by decide +kernel)
theorem dX12_tellLaw_166 : decode cX12_tellLaw 166 = .ok (.iload_n 1, 1) := dk_ok (by decide +kernel)
theorem dX12_tellLaw_167 : decode cX12_tellLaw 167 = .ok (.iadd, 1) := dk_ok (by decide +kernel)
theorem dX12_tellLaw_168 : decode cX12_tellLaw 168 = .ok (.iload_n 2, 1) := dk_ok (by decide +kernel)
theorem dX12_tellLaw_169 : decode cX12_tellLaw 169 = .ok (.iastore, 1) := dk_ok (by decide +kernel)
theorem dX12_tellLaw_170 : decode cX12_tellLaw 170 = .ok (.aload_n 0, 1) := dk_ok (by decide +kernel)
theorem dX12_tellLaw_171 : decode cX12_tellLaw 171 = .ok (.getfield 67, 3) := dk_ok (by decide +kernel)
theorem dX12_tellLaw_174 : decode cX12_tellLaw 174 = .ok (.iconst 4, 1) := dk_ok (by decide +kernel)
theorem dX12_tellLaw_175 : decode cX12_tellLaw 175 = .ok (.aload_n 0, 1) := dk_ok (by decide +kernel)
theorem dX12_tellLaw_176 : decode cX12_tellLaw 176 = .ok (.getfield 224, 3) := dk_ok (by decide +kernel)
theorem dX12_tellLaw_179 : decode cX12_tellLaw 179 = .ok (.imul, 1) := dk_ok (by decide +kernel)
theorem dX12_tellLaw_180 : decode cX12_tellLaw 180 = .ok (.iload_n 1, 1) := dk_ok (by decide +kernel)
theorem dX12_tellLaw_181 : decode cX12_tellLaw 181 = .ok (.iadd, 1) := dk_ok (by decide +kernel)
theorem dX12_tellLaw_182 : decode cX12_tellLaw 182 = .ok (.aload_n 0, 1) := dk_ok (by decide +kernel)
theorem dX12_tellLaw_183 : decode cX12_tellLaw 183 = .ok (.getfield 230, 3) := dk_ok (by decide +kernel)
theorem dX12_tellLaw_186 : decode cX12_tellLaw 186 = .ok (.iastore, 1) := dk_ok (by decide +kernel)
theorem dX12_tellLaw_187 : decode cX12_tellLaw 187 = .ok (.return_, 1) := dk_ok (by decide +kernel)

abbrev tlP (σ : am_S) : Prop := sb_ok BB SH σ ∧ pO σ = 0 ∧ (420 * pS σ ≤ pC σ ∧ pC σ ≤ pT σ + 420 * pS σ) ∧ (130 * pS σ ≤ pB σ ∧ pB σ ≤ 130 * pS σ + 120)
def sX12_tellLaw : am_Sp := fun as n σ post => n = 92 ∧ tlP σ ∧ ∃ k : Int, (0 ≤ k ∧ k ≤ 3) ∧ as = [.ref 51, .int (Int32.ofInt k)] ∧ ∀ τ, tlR k σ τ → post none τ
def tll (k f n : Int) : List (Option Value) := [some (.ref 51), some (.int (Int32.ofInt k)), some (.int (Int32.ofInt f)), some (.int (Int32.ofInt n))]