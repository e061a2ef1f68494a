/-! THE CLASS'S READER: how tokens go up; its end. Printed from wip/am/chk/hand/z5.in. -/
theorem dX5_end_0 : decode cX5_end 0 = .ok (.aload_n 0, 1) := dk_ok (by decide +kernel)
theorem dX5_end_1 : decode cX5_end 1 = .ok (.getfield 43, 3) := dk_ok (by decide +kernel)
theorem dX5_end_4 : decode cX5_end 4 = .ok (.ifCond .ne 30, 3) := dk_ok (by decide +kernel)
theorem dX5_end_7 : decode cX5_end 7 = .ok (.aload_n 0, 1) := dk_ok (by decide +kernel)
theorem dX5_end_8 : decode cX5_end 8 = .ok (.getfield 49, 3) := dk_ok (by decide +kernel)
theorem dX5_end_11 : decode cX5_end 11 = .ok (.ifCond .ne 23, 3) := dk_ok (by decide +kernel)
theorem dX5_end_14 : decode cX5_end 14 = .ok (.aload_n 0, 1) := dk_ok (by decide +kernel)
theorem dX5_end_15 : decode cX5_end 15 = .ok (.getfield 12, 3) := dk_ok (by decide +kernel)
theorem dX5_end_18 : decode cX5_end 18 = .ok (.invokevirtual 73, 3) := dk_ok (by decide +kernel)
theorem dX5_end_21 : decode cX5_end 21 = .ok (.ifCond .ne 13, 3) := dk_ok (by decide +kernel)
theorem dX5_end_24 : decode cX5_end 24 = .ok (.aload_n 0, 1) := dk_ok (by decide +kernel)
theorem dX5_end_25 : decode cX5_end 25 = .ok (.bipush 6, 2) := dk_ok (by decide +kernel)
theorem dX5_end_27 : decode cX5_end 27 = .ok (.aload_n 0, 1) := dk_ok (by decide +kernel)
theorem dX5_end_28 : decode cX5_end 28 = .ok (.getfield 36, 3) := dk_ok (by decide +kernel)
theorem dX5_end_31 : decode cX5_end 31 = .ok (.invokevirtual 77, 3) := dk_ok (by decide +kernel)
theorem dX5_end_34 : decode cX5_end 34 = .ok (.aload_n 0, 1) := dk_ok (by decide +kernel)
theorem dX5_end_35 : decode cX5_end 35 = .ok (.getfield 43, 3) := dk_ok (by decide +kernel)
theorem dX5_end_38 : decode cX5_end 38 = .ok (.ifCond .ne 19, 3) := dk_ok (by decide +kernel)
theorem dX5_end_41 : decode cX5_end 41 = .ok (.aload_n 0, 1) := dk_ok (by decide +kernel)
theorem dX5_end_42 : decode cX5_end 42 = .ok (.aload_n 0, 1) := dk_ok (by decide +kernel)
theorem dX5_end_43 : decode cX5_end 43 = .ok (.getfield 49, 3) := dk_ok (by decide +kernel)
theorem dX5_end_46 : decode cX5_end 46 = .ok (.putfield 43, 3) := dk_ok (by decide +kernel)
theorem dX5_end_49 : decode cX5_end 49 = .ok (.aload_n 0, 1) := dk_ok (by decide +kernel)
theorem dX5_end_50 : decode cX5_end 50 = .ok (.aload_n 0, 1) := dk_ok (by decide +kernel)
theorem dX5_end_51 : decode cX5_end 51 = .ok (.getfield 52, 3) := dk_ok (by decide +kernel)
theorem dX5_end_54 : decode cX5_end 54 = .ok (.putfield 46, 3) := dk_ok (by decide +kernel)
theorem dX5_end_57 : decode cX5_end 57 = .ok (.aload_n 0, 1) := dk_ok (by decide +kernel)
theorem dX5_end_58 : decode cX5_end 58 = .ok (.getfield 43, 3) := dk_ok (by decide +kernel)
theorem dX5_end_61 : decode cX5_end 61 = .ok (.ireturn, 1) := dk_ok (by decide +kernel)

theorem syS_ge {K V : Nat → Int} {q : SY} : q.2.1 ≤ (syS K V q).2.1 := by
  obtain ⟨m, t, W, d, c⟩ := q
  match m with
  | 0 =>
    simp only [syS]
    repeat' split
    all_goals first
    | exact Nat.le_refl _
    | exact Nat.le_succ _
  | 1 =>
    simp only [syS]
    repeat' split
    all_goals first
    | exact Nat.le_refl _
    | exact Nat.le_succ _
  | m + 2 => exact Nat.le_refl _
theorem syI_ge {K V : Nat → Int} : ∀ (n : Nat) (q : SY), q.2.1 ≤ (syI K V n q).2.1
  | 0, q => Nat.le_refl _
  | n + 1, q => Nat.le_trans syS_ge (syI_ge n (syS K V q))
theorem syE_ge {K V : Nat → Int} {t : Nat} : t ≤ (syE K V t).2.1 := by
  unfold syE
  generalize 900 = n
  exact syI_ge n (0, t, [], 0, [])
theorem spE_le {b : Nat → Int} {Z : Nat} {s : ST} {t' : Nat} (h : (spE b Z s).1 = .inl t') : ∃ t, s = .inl t ∧ t ≤ t' := by
  cases s with
  | inr q => cases h
  | inl t =>
    have g : t ≤ (syE (tK b Z) (tV b Z) t).2.1 := syE_ge
    rw [spE_l] at h
    refine ⟨t, rfl, ?_⟩
    split at h
    · have h2 : (syE (tK b Z) (tV b Z) t).2.1 = t' := Sum.inl.inj h
      rw [← h2]
      exact g
    · cases h
theorem spB_le {b : Nat → Int} {Z : Nat} {s : ST} {t' : Nat} (h : (spB b Z s).1 = .inl t') : ∃ t, s = .inl t ∧ t ≤ t' := by
  obtain ⟨t1, e1, h1⟩ := stT_s h
  obtain ⟨t2, e2, h2⟩ := spE_le e1
  obtain ⟨t3, e3, h3⟩ := stT_s e2
  obtain ⟨t4, e4, h4⟩ := spE_le e3
  obtain ⟨t5, e5, h5⟩ := stT_s e4
  obtain ⟨t6, e6, h6⟩ := spE_le e5
  obtain ⟨t7, e7, h7⟩ := stT_s e6
  exact ⟨t7, e7, by omega⟩
theorem spL_le {b : Nat → Int} {Z : Nat} : ∀ (n : Nat) (s : ST) (a : List BR) (t' : Nat), (spL b Z n s a).1 = .inl t' → ∃ t, s = .inl t ∧ t ≤ t'
  | n, .inr q, a, t', h => by
    cases n <;> cases h
  | 0, .inl t, a, t', h => by
    have h : (if tK b Z t = 27 then ((.inr (2, tP b Z t) : ST), ((a, []) : LW)) else ((spE b Z (.inl t)).1, (a, (spE b Z (.inl t)).2))).1 = .inl t' := h
    by_cases q : tK b Z t = 27
    · rw [if_pos q] at h; cases h
    · rw [if_neg q] at h
      simp only at h
      exact spE_le h
  | n + 1, .inl t, a, t', h => by
    have h : (if tK b Z t = 27 then spL b Z n (spB b Z (.inl t)).1 (a ++ [(spB b Z (.inl t)).2]) else ((spE b Z (.inl t)).1, (a, (spE b Z (.inl t)).2))).1 = .inl t' := h
    by_cases q : tK b Z t = 27
    · rw [if_pos q] at h
      obtain ⟨t1, e1, h1⟩ := spL_le n _ _ t' h
      obtain ⟨t2, e2, h2⟩ := spB_le e1
      exact ⟨t2, e2, by omega⟩
    · rw [if_neg q] at h
      simp only at h
      exact spE_le h
theorem spW_le {b : Nat → Int} {Z : Nat} {s : ST} {t' : Nat} (h : (spW b Z s).1 = .inl t') : ∃ t, s = .inl t ∧ t ≤ t' := by
  obtain ⟨t1, e1, h1⟩ := spL_le _ _ _ _ h
  obtain ⟨t2, e2, h2⟩ := stT_s e1
  exact ⟨t2, e2, by omega⟩
theorem spP_le {b : Nat → Int} {Z : Nat} {ns : List Int64} {s : ST} {u : UT} {t' : Nat} (e : (spP b Z ns s u).1 = .inl t') : ∃ t, s = .inl t ∧ t ≤ t' := by
  obtain ⟨t4, w4⟩ := spQ_l e
  obtain ⟨t3, w3⟩ := spQ_l w4
  obtain ⟨t2, w2⟩ := spQ_l w3
  obtain ⟨t1, w1⟩ := spQ_l w2
  obtain ⟨t0, w0⟩ := spN_l w1
  have m1 := spQ_le e w4
  have m2 := spQ_le w4 w3
  have m3 := spQ_le w3 w2
  have m4 := spQ_le w2 w1
  have m5 := spN_le w1 w0
  exact ⟨t0, w0, by omega⟩
theorem spO_lt {b : Nat → Int} {Z t t' : Nat} {u : UT} {d : DR} (h : (spO b Z t u d).1 = .inl t') : t < t' := by
  have key : ∀ {s : ST}, stT b Z 4 s = .inl t' → (∀ t1, s = .inl t1 → t ≤ t1) → t < t' := fun h1 h2 => by
    obtain ⟨t1, e1, h3⟩ := stT_s h1
    have := h2 t1 e1
    omega
  have tk : ∀ {k : Int} {t1 : Nat}, stT b Z k (.inl t) = .inl t1 → t ≤ t1 := fun h1 => by
    obtain ⟨t2, e2, h3⟩ := stT_s h1
    injection e2 with e2
    omega
  by_cases k1 : tK b Z t = 20
  · rw [spO, if_pos k1] at h
    refine key h (fun t1 e1 => ?_)
    obtain ⟨t2, e2⟩ := spQ_l e1
    have := spQ_le e1 e2
    have := tk e2
    omega
  · by_cases k2 : tK b Z t = 21
    · rw [spO, if_neg k1, if_pos k2] at h
      by_cases k5 : d.2.2.1.length = 5
      · rw [if_pos k5] at h; cases h
      · rw [if_neg k5] at h
        refine key h (fun t1 e1 => ?_)
        obtain ⟨t2, e2, h2⟩ := spP_le e1
        have := tk e2
        omega
    · by_cases k3 : 22 ≤ tK b Z t ∧ tK b Z t ≤ 25
      · rw [spO, if_neg k1, if_neg k2, if_pos k3] at h
        refine key h (fun t1 e1 => ?_)
        obtain ⟨t2, e2, h2⟩ := spW_le e1
        have := tk e2
        omega
      · by_cases k4 : tK b Z t = 26
        · rw [spO, if_neg k1, if_neg k2, if_neg k3, if_pos k4] at h
          refine key h (fun t1 e1 => ?_)
          obtain ⟨t2, e2⟩ := spQ_l e1
          have := spQ_le e1 e2
          have := tk e2
          omega
        · rw [spO, if_neg k1, if_neg k2, if_neg k3, if_neg k4] at h
          cases h
/-- what is wrong stands with its place; nothing wrong, no place -/
def uO (u : UT) : Prop := u.1 = 0 → u.2 = -1
theorem uO_nt {u : UT} {k p : Int} (h : uO u) (hk : k ≠ 0) : uO (nt u k p) := by
  unfold nt
  split
  · exact fun z => absurd z hk
  · exact h
theorem uO_Q {b : Nat → Int} {Z : Nat} {x y : Int} {s : ST} {u : UT} (h : uO u) : uO (spQ b Z x y s u).2.1 := by
  cases s with
  | inr q => exact h
  | inl t =>
    show uO (if tK b Z t = 2 then (if t = 400 then _ else _) else _ : ST × UT × Int).2.1
    split
    · split
      · exact h
      · show uO (if tV b Z t < x ∨ y < tV b Z t then nt u 5 (tP b Z t) else u)
        split
        · exact uO_nt h (by decide)
        · exact h
    · exact h
theorem uO_N {b : Nat → Int} {Z : Nat} {ns : List Int64} {s : ST} {u : UT} (h : uO u) : uO (spN b Z ns s u).2.1 := by
  cases s with
  | inr q => exact h
  | inl t =>
    show uO (if tK b Z t = 1 then (if t = 400 then _ else _) else _ : ST × UT × Int64).2.1
    split
    · split
      · exact h
      · show uO (if tN b Z t ∈ ns then nt u 3 (tP b Z t) else u)
        split
        · exact uO_nt h (by decide)
        · exact h
    · exact h
theorem uO_P {b : Nat → Int} {Z : Nat} {ns : List Int64} {s : ST} {u : UT} (h : uO u) : uO (spP b Z ns s u).2.1 := uO_Q (uO_Q (uO_Q (uO_Q (uO_N h))))
/-- the people's starts -/
def dO (d : DR) : Prop := ∀ i, i < d.2.2.1.length → 0 ≤ (d.2.2.1.getD i pr0).2.1 ∧ (d.2.2.1.getD i pr0).2.1 ≤ 11
theorem uO_O {b : Nat → Int} {Z t : Nat} {u : UT} {d : DR} (h : uO u) (hd : dO d) : uO (spO b Z t u d).2.1 ∧ dO (spO b Z t u d).2.2 := by
  by_cases k1 : tK b Z t = 20
  · rw [spO, if_pos k1]
    exact ⟨uO_Q h, hd⟩
  · by_cases k2 : tK b Z t = 21
    · rw [spO, if_neg k1, if_pos k2]
      by_cases k5 : d.2.2.1.length = 5
      · rw [if_pos k5]; exact ⟨h, hd⟩
      · rw [if_neg k5]
        refine ⟨uO_P h, fun i hi => ?_⟩
        have hi : i < (d.2.2.1 ++ [(spP b Z (d.2.2.1.map (fun p => p.1)) (stT b Z 21 (.inl t)) u).2.2]).length := hi
        show 0 ≤ ((d.2.2.1 ++ [(spP b Z (d.2.2.1.map (fun p => p.1)) (stT b Z 21 (.inl t)) u).2.2]).getD i pr0).2.1 ∧ ((d.2.2.1 ++ [(spP b Z (d.2.2.1.map (fun p => p.1)) (stT b Z 21 (.inl t)) u).2.2]).getD i pr0).2.1 ≤ 11
        rw [List.length_append] at hi
        have hi : i < d.2.2.1.length + 1 := hi
        by_cases w : i = d.2.2.1.length
        · subst w
          rw [List.getD_eq_getElem?_getD, List.getElem?_append_right (Nat.le_refl _), Nat.sub_self]
          exact spQ_b (by decide) _ _
        · have hl : i < d.2.2.1.length := by omega
          rw [List.getD_eq_getElem?_getD, List.getElem?_append_left hl, ← List.getD_eq_getElem?_getD]
          exact hd i hl
    · by_cases k3 : 22 ≤ tK b Z t ∧ tK b Z t ≤ 25
      · rw [spO, if_neg k1, if_neg k2, if_pos k3]
        exact ⟨h, hd⟩
      · by_cases k4 : tK b Z t = 26
        · rw [spO, if_neg k1, if_neg k2, if_neg k3, if_pos k4]
          exact ⟨uO_Q h, hd⟩
        · rw [spO, if_neg k1, if_neg k2, if_neg k3, if_neg k4]
          exact ⟨h, hd⟩
theorem spA_0 {b : Nat → Int} {Z n t : Nat} {u : UT} {d : DR} (h : tK b Z t = 0) : spA b Z (n + 1) (.inl t) u d = (.inl t, u, d) := by rw [spA, if_pos h]
theorem spA_s {b : Nat → Int} {Z n t : Nat} {u : UT} {d : DR} (h : tK b Z t ≠ 0) : spA b Z (n + 1) (.inl t) u d = spA b Z n (spO b Z t u d).1 (spO b Z t u d).2.1 (spO b Z t u d).2.2 := by rw [spA, if_neg h]
theorem spA_r {b : Nat → Int} {Z n : Nat} {q : Int × Int} {u : UT} {d : DR} : spA b Z n (.inr q) u d = (.inr q, u, d) := by cases n <;> rfl
/-- what stands at the end -/
def enR (b : Nat → Int) (Z : Nat) (s : ST) (u : UT) (d : DR) : Int × Int := match s with
  | .inr q => q
  | .inl t => if u.1 ≠ 0 then u else if d.2.2.1.all (fun p => decide (p.2.1 < d.1)) = true then (0, -1) else (6, tP b Z t)
theorem spR_e {b : Nat → Int} {Z : Nat} {s : ST} {u : UT} {d : DR} (h : spA b Z 402 (.inl 0) (0, -1) dr0 = (s, u, d)) : (spR b Z).1 = (enR b Z s u d).1 ∧ (spR b Z).2.1 = (enR b Z s u d).2 ∧ (spR b Z).2.2 = d := by
  unfold spR
  rw [h]
  cases s with
  | inr q => exact ⟨rfl, rfl, rfl⟩
  | inl t =>
    show (if u.1 ≠ 0 then (u.1, u.2, d) else if d.2.2.1.all (fun p => decide (p.2.1 < d.1)) = true then (0, -1, d) else (6, tP b Z t, d) : Int × Int × DR).1 = _ ∧ _ ∧ _
    unfold enR
    by_cases q : u.1 ≠ 0
    · simp only [if_pos q]; first | exact ⟨rfl, rfl, rfl⟩ | exact ⟨trivial, trivial, rfl⟩ | trivial
    · simp only [if_neg q]
      by_cases w : d.2.2.1.all (fun p => decide (p.2.1 < d.1)) = true
      · simp only [if_pos w]; first | exact ⟨rfl, rfl, rfl⟩ | exact ⟨trivial, trivial, rfl⟩ | trivial
      · simp only [if_neg w]; first | exact ⟨rfl, rfl, rfl⟩ | exact ⟨trivial, trivial, rfl⟩ | trivial
theorem sI_sub {M M' : sa_M} {σ τ : am_S} (h : sI BB SH M σ τ) (hm : M.all (fun m => M'.any (fun m' => decide (m.1 = m'.1 ∧ m'.2.1 ≤ m.2.1 ∧ m.2.2 ≤ m'.2.2))) = true) : sI BB SH M' σ τ := ⟨h.1, fun o k hn => h.2 o k (fun m hm' hh => by
  obtain ⟨m', h1, h2⟩ := List.any_eq_true.mp (List.all_eq_true.mp hm m hm')
  have h2 := of_decide_eq_true h2
  exact hn m' h1 ⟨h2.1.symm.trans hh.1, by omega, by omega⟩)⟩
def sX5_endE : am_Sp := fun as n σ post => n = 92 ∧ sb_ok BB SH σ ∧ ∃ (b : Nat → Int) (Z : Nat) (s : ST) (u : UT) (d : DR), cST b Z σ s ∧ cU σ u ∧ uO u ∧ (∀ t, s = .inl t → cD σ d ∧ dO d) ∧ as = [.ref 2] ∧ ∀ τ, sI BB SH x5M σ τ → τ.1 2 8 = Int32.ofInt (enR b Z s u d).2 → post (some (.int (Int32.ofInt (enR b Z s u d).1))) τ
def xX5_endE : am_X := (SH, KF, (some .int), FT_X5, PT_X5, CT_X5, KT_X5, LT_X5, NT_X5, [(73, 0, 1, 9, 0, 0, sX9_hasAllRungsToldE), (77, 0, 3, 5, 0, 0, sX5_noteE)])
theorem xX5_endE_SH : am_SH xX5_endE = SH := rfl
theorem xX5_endE_KF : am_KF xX5_endE = KF := rfl
theorem xX5_endE_rt : am_rt xX5_endE = (some .int) := rfl
theorem xX5_endE_FT : am_FT xX5_endE = FT_X5 := rfl
theorem xX5_endE_PT : am_PT xX5_endE = PT_X5 := rfl
theorem xX5_endE_CT : am_CT xX5_endE = CT_X5 := rfl
theorem xX5_endE_KT : am_KT xX5_endE = KT_X5 := rfl
theorem xX5_endE_LT : am_LT xX5_endE = LT_X5 := rfl
theorem xX5_endE_NT : am_NT xX5_endE = NT_X5 := rfl
theorem xX5_endE_c73 : am_find (am_ML xX5_endE) 73 = some (0, 1, 9, 0, 0, sX9_hasAllRungsToldE) := rfl
theorem xX5_endE_n73 : am_find NT_X5 73 = none := rfl
theorem xX5_endE_c77 : am_find (am_ML xX5_endE) 77 = some (0, 3, 5, 0, 0, sX5_noteE) := rfl
theorem xX5_endE_n77 : am_find NT_X5 77 = none := rfl
theorem xX5_endE_t4 (k : Nat → Prop) : am_tg 4 (30) k = k 34 := am_tg_eq (by decide)
theorem xX5_endE_t11 (k : Nat → Prop) : am_tg 11 (23) k = k 34 := am_tg_eq (by decide)
theorem xX5_endE_t21 (k : Nat → Prop) : am_tg 21 (13) k = k 34 := am_tg_eq (by decide)
theorem xX5_endE_t38 (k : Nat → Prop) : am_tg 38 (19) k = k 57 := am_tg_eq (by decide)

section
variable {post : Option Value → am_S → Prop} {AA : Nat → List (Option Value) → List Value → Nat → am_S → Prop}
set_option maxRecDepth 100000 in
theorem en_41 (hA : ∀ cuts f pc ls stk n τ, am_vc cX5_end xX5_endE (92 + 0) post AA cuts f pc ls stk n τ → AA pc ls stk n τ) {σ0 σ : am_S} {f p : Int} (g : sI BB SH x5M σ0 σ) (e0 : σ.1 2 9 = Int32.ofInt f) (e1 : σ.1 2 10 = Int32.ofInt p) (h : ∀ τ, sI BB SH x5M σ0 τ → τ.1 2 8 = Int32.ofInt p → post (some (.int (Int32.ofInt f))) τ) : AA 41 [some (.ref 2)] [] 92 σ := by
  have put : ∀ {τ : am_S} (k : Nat) (x : Int32), k < 11 → sI BB SH x5M σ0 τ → (∀ k, k < 11 → BB.2 2 k = (-2147483648, 2147483647)) → sI BB SH x5M σ0 (am_pi τ 2 k x) := fun k x h2 g hb => sI_fld (ci := 5) g rfl (by rw [hb k h2]; exact ⟨ii_lo _, by have := ii_hi x; show _ ≤ (2147483647 : Int); omega⟩) ⟨_, List.mem_cons_self, rfl, Nat.zero_le _, h2⟩
  have hbb : ∀ k, k < 11 → BB.2 2 k = (-2147483648, 2147483647) := by decide
  have i1 := put 7 (Int32.ofInt f) (by decide) g hbb
  have i2 := put 8 (Int32.ofInt p) (by decide) i1 hbb
  have f1 : (am_pi (am_pi σ 2 7 (Int32.ofInt f)) 2 8 (Int32.ofInt p)).1 2 7 = Int32.ofInt f := by
    rw [pi_n _ _ _ _ (fun z => absurd z.2 (by decide)), pi_s]
  have f2 : (am_pi (am_pi σ 2 7 (Int32.ofInt f)) 2 8 (Int32.ofInt p)).1 2 8 = Int32.ofInt p := pi_s _ _ _ _
  have e1' : (am_pi σ 2 7 (Int32.ofInt f)).1 2 10 = Int32.ofInt p := by
    rw [pi_n _ _ _ _ (fun z => absurd z.2 (by decide))]; exact e1
  refine hA [(57, 1)] 20 _ _ _ _ _ ?_
  try simp only [dX5_end_0, dX5_end_1, FT_X5_43, dX5_end_4, xX5_endE_t4, dX5_end_7, dX5_end_8, FT_X5_49, dX5_end_11, xX5_endE_t11, dX5_end_14, dX5_end_15, FT_X5_12, dX5_end_18, xX5_endE_c73, xX5_endE_n73, dX5_end_21, xX5_endE_t21, dX5_end_24, dX5_end_25, dX5_end_27, dX5_end_28, FT_X5_36, dX5_end_31, xX5_endE_c77, xX5_endE_n77, dX5_end_34, dX5_end_35, dX5_end_38, xX5_endE_t38, dX5_end_41, dX5_end_42, dX5_end_43, dX5_end_46, PT_X5_43, dX5_end_49, dX5_end_50, dX5_end_51, FT_X5_52, dX5_end_54, PT_X5_46, dX5_end_57, dX5_end_58, dX5_end_61, xX5_endE_SH, xX5_endE_KF, xX5_endE_rt, xX5_endE_FT, xX5_endE_PT, xX5_endE_CT, xX5_endE_KT, xX5_endE_LT, xX5_endE_NT, o_aload_n, o_bipush, o_getfield, o_ifCond_ne, o_invokevirtual, o_ireturn, o_putfield, SH_2, KF_2_0, SH_3, KF_2_10, KF_2_5, KF_2_7, KF_2_8, KF_2_9, SH_20, am_ty, am_vc, am_opt, am_cl, am_find, am_ldi, am_ldl, am_lda, am_v, am_1, am_1l, am_1a, am_2, am_2l, am_ix, am_ri, am_arr, am_pf, am_rc, am_mask, am_lg, am_av, am_nat, fv_0, fv_1, fv_2, fv_3, fw_0, fw_1, List.getElem?_cons_zero, List.getElem?_cons_succ, List.set_cons_zero, List.set_cons_succ, List.length_cons, List.length_nil, List.take_succ_cons, List.take_zero, List.drop_succ_cons, List.drop_zero, List.reverse_cons, List.reverse_nil, List.nil_append, List.cons_append, List.append_nil, List.map_cons, List.map_nil, List.sum_cons, List.sum_nil, Value.category, Option.toList_some, Option.toList_none, Nat.reduceAdd, Nat.reduceLT, Nat.reduceLeDiff, Nat.reduceEqDiff, Nat.reduceSub, Nat.add_zero, Nat.le_refl, Nat.zero_le, Int.reduceNeg, Int.reduceLE, Int.reduceLT, true_and, and_true, and_self, if_true, if_false, ite_true, ite_false, eq_self_iff_true, reduceIte, reduceCtorEq, not_false_eq_true, not_true_eq_false, or_true, true_or, or_false, false_or, Nat.lt_irrefl, Nat.zero_lt_succ, e0, e1']
  have hP := h _ i2 f2
  revert hP
  revert f1
  generalize am_pi (am_pi σ 2 7 (Int32.ofInt f)) 2 8 (Int32.ofInt p) = τ at *
  intro f1 hP
  refine hA [] 4 _ _ _ _ _ ?_
  try simp only [dX5_end_0, dX5_end_1, FT_X5_43, dX5_end_4, xX5_endE_t4, dX5_end_7, dX5_end_8, FT_X5_49, dX5_end_11, xX5_endE_t11, dX5_end_14, dX5_end_15, FT_X5_12, dX5_end_18, xX5_endE_c73, xX5_endE_n73, dX5_end_21, xX5_endE_t21, dX5_end_24, dX5_end_25, dX5_end_27, dX5_end_28, FT_X5_36, dX5_end_31, xX5_endE_c77, xX5_endE_n77, dX5_end_34, dX5_end_35, dX5_end_38, xX5_endE_t38, dX5_end_41, dX5_end_42, dX5_end_43, dX5_end_46, PT_X5_43, dX5_end_49, dX5_end_50, dX5_end_51, FT_X5_52, dX5_end_54, PT_X5_46, dX5_end_57, dX5_end_58, dX5_end_61, xX5_endE_SH, xX5_endE_KF, xX5_endE_rt, xX5_endE_FT, xX5_endE_PT, xX5_endE_CT, xX5_endE_KT, xX5_endE_LT, xX5_endE_NT, o_aload_n, o_bipush, o_getfield, o_ifCond_ne, o_invokevirtual, o_ireturn, o_putfield, SH_2, KF_2_0, SH_3, KF_2_10, KF_2_5, KF_2_7, KF_2_8, KF_2_9, SH_20, am_ty, am_vc, am_opt, am_cl, am_find, am_ldi, am_ldl, am_lda, am_v, am_1, am_1l, am_1a, am_2, am_2l, am_ix, am_ri, am_arr, am_pf, am_rc, am_mask, am_lg, am_av, am_nat, fv_0, fv_1, fv_2, fv_3, fw_0, fw_1, List.getElem?_cons_zero, List.getElem?_cons_succ, List.set_cons_zero, List.set_cons_succ, List.length_cons, List.length_nil, List.take_succ_cons, List.take_zero, List.drop_succ_cons, List.drop_zero, List.reverse_cons, List.reverse_nil, List.nil_append, List.cons_append, List.append_nil, List.map_cons, List.map_nil, List.sum_cons, List.sum_nil, Value.category, Option.toList_some, Option.toList_none, Nat.reduceAdd, Nat.reduceLT, Nat.reduceLeDiff, Nat.reduceEqDiff, Nat.reduceSub, Nat.add_zero, Nat.le_refl, Nat.zero_le, Int.reduceNeg, Int.reduceLE, Int.reduceLT, true_and, and_true, and_self, if_true, if_false, ite_true, ite_false, eq_self_iff_true, reduceIte, reduceCtorEq, not_false_eq_true, not_true_eq_false, or_true, true_or, or_false, false_or, Nat.lt_irrefl, Nat.zero_lt_succ, f1]
  exact hP
set_option maxRecDepth 100000 in
theorem ptX5_endE : am_B cX5_end xX5_endE 1 0 sX5_endE := by
  intro n0 as σ post AA hA h
  obtain ⟨rfl, hB, b, Z, s, u, d, hs, hu, huO, hd, rfl, h⟩ := h
  refine ⟨by simp [am_sl, Value.category], ?_⟩
  show AA 0 [some (.ref 2)] [] 92 σ
  have i0 : sI BB SH x5M σ σ := ⟨hB, sb_fr_r _ _⟩
  cases s with
  | inr q =>
    obtain ⟨v, q1, q2, q3, q4⟩ := hs
    obtain ⟨fv, efv⟩ : ∃ fv, fv = q.1 := ⟨_, rfl⟩
    have hP : post (some (.int (Int32.ofInt q.1))) σ := h σ i0 q3
    rw [← efv] at q1 q2 hP
    have c57 : AA 57 [some (.ref 2)] [] 92 σ := by
      refine hA [] 4 _ _ _ _ _ ?_
      try simp only [dX5_end_0, dX5_end_1, FT_X5_43, dX5_end_4, xX5_endE_t4, dX5_end_7, dX5_end_8, FT_X5_49, dX5_end_11, xX5_endE_t11, dX5_end_14, dX5_end_15, FT_X5_12, dX5_end_18, xX5_endE_c73, xX5_endE_n73, dX5_end_21, xX5_endE_t21, dX5_end_24, dX5_end_25, dX5_end_27, dX5_end_28, FT_X5_36, dX5_end_31, xX5_endE_c77, xX5_endE_n77, dX5_end_34, dX5_end_35, dX5_end_38, xX5_endE_t38, dX5_end_41, dX5_end_42, dX5_end_43, dX5_end_46, PT_X5_43, dX5_end_49, dX5_end_50, dX5_end_51, FT_X5_52, dX5_end_54, PT_X5_46, dX5_end_57, dX5_end_58, dX5_end_61, xX5_endE_SH, xX5_endE_KF, xX5_endE_rt, xX5_endE_FT, xX5_endE_PT, xX5_endE_CT, xX5_endE_KT, xX5_endE_LT, xX5_endE_NT, o_aload_n, o_bipush, o_getfield, o_ifCond_ne, o_invokevirtual, o_ireturn, o_putfield, SH_2, KF_2_0, SH_3, KF_2_10, KF_2_5, KF_2_7, KF_2_8, KF_2_9, SH_20, am_ty, am_vc, am_opt, am_cl, am_find, am_ldi, am_ldl, am_lda, am_v, am_1, am_1l, am_1a, am_2, am_2l, am_ix, am_ri, am_arr, am_pf, am_rc, am_mask, am_lg, am_av, am_nat, fv_0, fv_1, fv_2, fv_3, fw_0, fw_1, List.getElem?_cons_zero, List.getElem?_cons_succ, List.set_cons_zero, List.set_cons_succ, List.length_cons, List.length_nil, List.take_succ_cons, List.take_zero, List.drop_succ_cons, List.drop_zero, List.reverse_cons, List.reverse_nil, List.nil_append, List.cons_append, List.append_nil, List.map_cons, List.map_nil, List.sum_cons, List.sum_nil, Value.category, Option.toList_some, Option.toList_none, Nat.reduceAdd, Nat.reduceLT, Nat.reduceLeDiff, Nat.reduceEqDiff, Nat.reduceSub, Nat.add_zero, Nat.le_refl, Nat.zero_le, Int.reduceNeg, Int.reduceLE, Int.reduceLT, true_and, and_true, and_self, if_true, if_false, ite_true, ite_false, eq_self_iff_true, reduceIte, reduceCtorEq, not_false_eq_true, not_true_eq_false, or_true, true_or, or_false, false_or, Nat.lt_irrefl, Nat.zero_lt_succ, q2]
      exact hP
    have c34 : AA 34 [some (.ref 2)] [] 92 σ := by
      refine hA [(57, 1), (41, 1)] 6 _ _ _ _ _ ?_
      try simp only [dX5_end_0, dX5_end_1, FT_X5_43, dX5_end_4, xX5_endE_t4, dX5_end_7, dX5_end_8, FT_X5_49, dX5_end_11, xX5_endE_t11, dX5_end_14, dX5_end_15, FT_X5_12, dX5_end_18, xX5_endE_c73, xX5_endE_n73, dX5_end_21, xX5_endE_t21, dX5_end_24, dX5_end_25, dX5_end_27, dX5_end_28, FT_X5_36, dX5_end_31, xX5_endE_c77, xX5_endE_n77, dX5_end_34, dX5_end_35, dX5_end_38, xX5_endE_t38, dX5_end_41, dX5_end_42, dX5_end_43, dX5_end_46, PT_X5_43, dX5_end_49, dX5_end_50, dX5_end_51, FT_X5_52, dX5_end_54, PT_X5_46, dX5_end_57, dX5_end_58, dX5_end_61, xX5_endE_SH, xX5_endE_KF, xX5_endE_rt, xX5_endE_FT, xX5_endE_PT, xX5_endE_CT, xX5_endE_KT, xX5_endE_LT, xX5_endE_NT, o_aload_n, o_bipush, o_getfield, o_ifCond_ne, o_invokevirtual, o_ireturn, o_putfield, SH_2, KF_2_0, SH_3, KF_2_10, KF_2_5, KF_2_7, KF_2_8, KF_2_9, SH_20, am_ty, am_vc, am_opt, am_cl, am_find, am_ldi, am_ldl, am_lda, am_v, am_1, am_1l, am_1a, am_2, am_2l, am_ix, am_ri, am_arr, am_pf, am_rc, am_mask, am_lg, am_av, am_nat, fv_0, fv_1, fv_2, fv_3, fw_0, fw_1, List.getElem?_cons_zero, List.getElem?_cons_succ, List.set_cons_zero, List.set_cons_succ, List.length_cons, List.length_nil, List.take_succ_cons, List.take_zero, List.drop_succ_cons, List.drop_zero, List.reverse_cons, List.reverse_nil, List.nil_append, List.cons_append, List.append_nil, List.map_cons, List.map_nil, List.sum_cons, List.sum_nil, Value.category, Option.toList_some, Option.toList_none, Nat.reduceAdd, Nat.reduceLT, Nat.reduceLeDiff, Nat.reduceEqDiff, Nat.reduceSub, Nat.add_zero, Nat.le_refl, Nat.zero_le, Int.reduceNeg, Int.reduceLE, Int.reduceLT, true_and, and_true, and_self, if_true, if_false, ite_true, ite_false, eq_self_iff_true, reduceIte, reduceCtorEq, not_false_eq_true, not_true_eq_false, or_true, true_or, or_false, false_or, Nat.lt_irrefl, Nat.zero_lt_succ, q2]
      try simp (disch := omega) only [ii_0, ii_1, ii_t, ii_add, ii_sub, ii_mul, ii_lt, ii_le, ii_eq, ij_in, ii_c, Int.toNat_natCast, Int.toNat_zero, Int.reduceToNat, Int.reduceEq, Int.reduceNe, Int.reduceLE, Int.reduceLT, Int.reduceAdd, Int.reduceSub, Int.reduceMul, Int.reduceNeg, Nat.reduceLT, Nat.reduceAdd, Nat.reduceMul, not_false_eq_true, not_true_eq_false, true_and, and_true, and_self, false_and, and_false, true_implies, false_implies, implies_true, forall_const, if_true, if_false, ite_true, ite_false, reduceIte, eq_self_iff_true, Int.natCast_nonneg, Int.zero_add, Int.add_zero, pi_s, pi_n, on_2000, on_402, on_408, on_19, on_5, on_4, q2]
      first
      | exact c57
      | exact ⟨fun z => absurd z (by omega), fun _ => c57⟩
      | exact ⟨fun _ => c57, fun z => absurd z (by omega)⟩
    refine hA [(34, 1), (7, 1)] 6 _ _ _ _ _ ?_
    try simp only [dX5_end_0, dX5_end_1, FT_X5_43, dX5_end_4, xX5_endE_t4, dX5_end_7, dX5_end_8, FT_X5_49, dX5_end_11, xX5_endE_t11, dX5_end_14, dX5_end_15, FT_X5_12, dX5_end_18, xX5_endE_c73, xX5_endE_n73, dX5_end_21, xX5_endE_t21, dX5_end_24, dX5_end_25, dX5_end_27, dX5_end_28, FT_X5_36, dX5_end_31, xX5_endE_c77, xX5_endE_n77, dX5_end_34, dX5_end_35, dX5_end_38, xX5_endE_t38, dX5_end_41, dX5_end_42, dX5_end_43, dX5_end_46, PT_X5_43, dX5_end_49, dX5_end_50, dX5_end_51, FT_X5_52, dX5_end_54, PT_X5_46, dX5_end_57, dX5_end_58, dX5_end_61, xX5_endE_SH, xX5_endE_KF, xX5_endE_rt, xX5_endE_FT, xX5_endE_PT, xX5_endE_CT, xX5_endE_KT, xX5_endE_LT, xX5_endE_NT, o_aload_n, o_bipush, o_getfield, o_ifCond_ne, o_invokevirtual, o_ireturn, o_putfield, SH_2, KF_2_0, SH_3, KF_2_10, KF_2_5, KF_2_7, KF_2_8, KF_2_9, SH_20, am_ty, am_vc, am_opt, am_cl, am_find, am_ldi, am_ldl, am_lda, am_v, am_1, am_1l, am_1a, am_2, am_2l, am_ix, am_ri, am_arr, am_pf, am_rc, am_mask, am_lg, am_av, am_nat, fv_0, fv_1, fv_2, fv_3, fw_0, fw_1, List.getElem?_cons_zero, List.getElem?_cons_succ, List.set_cons_zero, List.set_cons_succ, List.length_cons, List.length_nil, List.take_succ_cons, List.take_zero, List.drop_succ_cons, List.drop_zero, List.reverse_cons, List.reverse_nil, List.nil_append, List.cons_append, List.append_nil, List.map_cons, List.map_nil, List.sum_cons, List.sum_nil, Value.category, Option.toList_some, Option.toList_none, Nat.reduceAdd, Nat.reduceLT, Nat.reduceLeDiff, Nat.reduceEqDiff, Nat.reduceSub, Nat.add_zero, Nat.le_refl, Nat.zero_le, Int.reduceNeg, Int.reduceLE, Int.reduceLT, true_and, and_true, and_self, if_true, if_false, ite_true, ite_false, eq_self_iff_true, reduceIte, reduceCtorEq, not_false_eq_true, not_true_eq_false, or_true, true_or, or_false, false_or, Nat.lt_irrefl, Nat.zero_lt_succ, q2]
    try simp (disch := omega) only [ii_0, ii_1, ii_t, ii_add, ii_sub, ii_mul, ii_lt, ii_le, ii_eq, ij_in, ii_c, Int.toNat_natCast, Int.toNat_zero, Int.reduceToNat, Int.reduceEq, Int.reduceNe, Int.reduceLE, Int.reduceLT, Int.reduceAdd, Int.reduceSub, Int.reduceMul, Int.reduceNeg, Nat.reduceLT, Nat.reduceAdd, Nat.reduceMul, not_false_eq_true, not_true_eq_false, true_and, and_true, and_self, false_and, and_false, true_implies, false_implies, implies_true, forall_const, if_true, if_false, ite_true, ite_false, reduceIte, eq_self_iff_true, Int.natCast_nonneg, Int.zero_add, Int.add_zero, pi_s, pi_n, on_2000, on_402, on_408, on_19, on_5, on_4, q2]
    first
    | exact c34
    | exact ⟨fun z => absurd z (by omega), fun _ => c34⟩
    | exact ⟨fun _ => c34, fun z => absurd z (by omega)⟩
  | inl t =>
    have f0 := hs.2.2.2.2.2.2.2
    have ep := hs.2.2.2.2.1
    obtain ⟨D, dB⟩ := hd t rfl
    have hu1 := hu.1
    have hu2 := hu.2.1
    have hu3 := hu.2.2
    obtain ⟨uv, euv⟩ : ∃ uv, uv = u.1 := ⟨_, rfl⟩
    have c34 : ∀ {τ : am_S} {u' : UT}, sI BB SH x5M σ τ → τ.1 2 7 = Int32.ofInt 0 → cU τ u' → enR b Z (.inl t) u d = u' → AA 34 [some (.ref 2)] [] 92 τ := by
      intro τ u' g e0 e1 e2
      have c41 : AA 41 [some (.ref 2)] [] 92 τ := en_41 hA g e1.1 e1.2.1 (fun υ j1 j2 => by rw [e2] at h; exact h υ j1 j2)
      refine hA [(57, 1), (41, 1)] 6 _ _ _ _ _ ?_
      try simp only [dX5_end_0, dX5_end_1, FT_X5_43, dX5_end_4, xX5_endE_t4, dX5_end_7, dX5_end_8, FT_X5_49, dX5_end_11, xX5_endE_t11, dX5_end_14, dX5_end_15, FT_X5_12, dX5_end_18, xX5_endE_c73, xX5_endE_n73, dX5_end_21, xX5_endE_t21, dX5_end_24, dX5_end_25, dX5_end_27, dX5_end_28, FT_X5_36, dX5_end_31, xX5_endE_c77, xX5_endE_n77, dX5_end_34, dX5_end_35, dX5_end_38, xX5_endE_t38, dX5_end_41, dX5_end_42, dX5_end_43, dX5_end_46, PT_X5_43, dX5_end_49, dX5_end_50, dX5_end_51, FT_X5_52, dX5_end_54, PT_X5_46, dX5_end_57, dX5_end_58, dX5_end_61, xX5_endE_SH, xX5_endE_KF, xX5_endE_rt, xX5_endE_FT, xX5_endE_PT, xX5_endE_CT, xX5_endE_KT, xX5_endE_LT, xX5_endE_NT, o_aload_n, o_bipush, o_getfield, o_ifCond_ne, o_invokevirtual, o_ireturn, o_putfield, SH_2, KF_2_0, SH_3, KF_2_10, KF_2_5, KF_2_7, KF_2_8, KF_2_9, SH_20, am_ty, am_vc, am_opt, am_cl, am_find, am_ldi, am_ldl, am_lda, am_v, am_1, am_1l, am_1a, am_2, am_2l, am_ix, am_ri, am_arr, am_pf, am_rc, am_mask, am_lg, am_av, am_nat, fv_0, fv_1, fv_2, fv_3, fw_0, fw_1, List.getElem?_cons_zero, List.getElem?_cons_succ, List.set_cons_zero, List.set_cons_succ, List.length_cons, List.length_nil, List.take_succ_cons, List.take_zero, List.drop_succ_cons, List.drop_zero, List.reverse_cons, List.reverse_nil, List.nil_append, List.cons_append, List.append_nil, List.map_cons, List.map_nil, List.sum_cons, List.sum_nil, Value.category, Option.toList_some, Option.toList_none, Nat.reduceAdd, Nat.reduceLT, Nat.reduceLeDiff, Nat.reduceEqDiff, Nat.reduceSub, Nat.add_zero, Nat.le_refl, Nat.zero_le, Int.reduceNeg, Int.reduceLE, Int.reduceLT, true_and, and_true, and_self, if_true, if_false, ite_true, ite_false, eq_self_iff_true, reduceIte, reduceCtorEq, not_false_eq_true, not_true_eq_false, or_true, true_or, or_false, false_or, Nat.lt_irrefl, Nat.zero_lt_succ, e0]
      try simp (disch := omega) only [ii_0, ii_1, ii_t, ii_add, ii_sub, ii_mul, ii_lt, ii_le, ii_eq, ij_in, ii_c, Int.toNat_natCast, Int.toNat_zero, Int.reduceToNat, Int.reduceEq, Int.reduceNe, Int.reduceLE, Int.reduceLT, Int.reduceAdd, Int.reduceSub, Int.reduceMul, Int.reduceNeg, Nat.reduceLT, Nat.reduceAdd, Nat.reduceMul, not_false_eq_true, not_true_eq_false, true_and, and_true, and_self, false_and, and_false, true_implies, false_implies, implies_true, forall_const, if_true, if_false, ite_true, ite_false, reduceIte, eq_self_iff_true, Int.natCast_nonneg, Int.zero_add, Int.add_zero, pi_s, pi_n, on_2000, on_402, on_408, on_19, on_5, on_4, e0]
      first
      | exact c41
      | exact ⟨fun _ => c41, fun z => absurd z (by omega)⟩
      | exact ⟨fun z => absurd z (by omega), fun _ => c41⟩
    have c14 : u.1 = 0 → AA 14 [some (.ref 2)] [] 92 σ := by
      intro uz
      refine hA [(34, 1), (24, 1)] 10 _ _ _ _ _ ?_
      try simp only [dX5_end_0, dX5_end_1, FT_X5_43, dX5_end_4, xX5_endE_t4, dX5_end_7, dX5_end_8, FT_X5_49, dX5_end_11, xX5_endE_t11, dX5_end_14, dX5_end_15, FT_X5_12, dX5_end_18, xX5_endE_c73, xX5_endE_n73, dX5_end_21, xX5_endE_t21, dX5_end_24, dX5_end_25, dX5_end_27, dX5_end_28, FT_X5_36, dX5_end_31, xX5_endE_c77, xX5_endE_n77, dX5_end_34, dX5_end_35, dX5_end_38, xX5_endE_t38, dX5_end_41, dX5_end_42, dX5_end_43, dX5_end_46, PT_X5_43, dX5_end_49, dX5_end_50, dX5_end_51, FT_X5_52, dX5_end_54, PT_X5_46, dX5_end_57, dX5_end_58, dX5_end_61, xX5_endE_SH, xX5_endE_KF, xX5_endE_rt, xX5_endE_FT, xX5_endE_PT, xX5_endE_CT, xX5_endE_KT, xX5_endE_LT, xX5_endE_NT, o_aload_n, o_bipush, o_getfield, o_ifCond_ne, o_invokevirtual, o_ireturn, o_putfield, SH_2, KF_2_0, SH_3, KF_2_10, KF_2_5, KF_2_7, KF_2_8, KF_2_9, SH_20, am_ty, am_vc, am_opt, am_cl, am_find, am_ldi, am_ldl, am_lda, am_v, am_1, am_1l, am_1a, am_2, am_2l, am_ix, am_ri, am_arr, am_pf, am_rc, am_mask, am_lg, am_av, am_nat, fv_0, fv_1, fv_2, fv_3, fw_0, fw_1, List.getElem?_cons_zero, List.getElem?_cons_succ, List.set_cons_zero, List.set_cons_succ, List.length_cons, List.length_nil, List.take_succ_cons, List.take_zero, List.drop_succ_cons, List.drop_zero, List.reverse_cons, List.reverse_nil, List.nil_append, List.cons_append, List.append_nil, List.map_cons, List.map_nil, List.sum_cons, List.sum_nil, Value.category, Option.toList_some, Option.toList_none, Nat.reduceAdd, Nat.reduceLT, Nat.reduceLeDiff, Nat.reduceEqDiff, Nat.reduceSub, Nat.add_zero, Nat.le_refl, Nat.zero_le, Int.reduceNeg, Int.reduceLE, Int.reduceLT, true_and, and_true, and_self, if_true, if_false, ite_true, ite_false, eq_self_iff_true, reduceIte, reduceCtorEq, not_false_eq_true, not_true_eq_false, or_true, true_or, or_false, false_or, Nat.lt_irrefl, Nat.zero_lt_succ]
      refine ⟨rfl, d.1, d.2.2.1, D.1.2, D.1.1, D.2.2.1, dB, rfl, ?_⟩
      by_cases w : d.2.2.1.all (fun p => decide (p.2.1 < d.1)) = true
      · rw [if_pos w]
        have k34 := c34 (τ := σ) (u' := u) i0 f0 hu (by unfold enR; simp only [if_neg (show ¬ u.1 ≠ 0 by omega), if_pos w]; exact Prod.ext uz.symm (huO uz).symm)
        try simp only [dX5_end_0, dX5_end_1, FT_X5_43, dX5_end_4, xX5_endE_t4, dX5_end_7, dX5_end_8, FT_X5_49, dX5_end_11, xX5_endE_t11, dX5_end_14, dX5_end_15, FT_X5_12, dX5_end_18, xX5_endE_c73, xX5_endE_n73, dX5_end_21, xX5_endE_t21, dX5_end_24, dX5_end_25, dX5_end_27, dX5_end_28, FT_X5_36, dX5_end_31, xX5_endE_c77, xX5_endE_n77, dX5_end_34, dX5_end_35, dX5_end_38, xX5_endE_t38, dX5_end_41, dX5_end_42, dX5_end_43, dX5_end_46, PT_X5_43, dX5_end_49, dX5_end_50, dX5_end_51, FT_X5_52, dX5_end_54, PT_X5_46, dX5_end_57, dX5_end_58, dX5_end_61, xX5_endE_SH, xX5_endE_KF, xX5_endE_rt, xX5_endE_FT, xX5_endE_PT, xX5_endE_CT, xX5_endE_KT, xX5_endE_LT, xX5_endE_NT, o_aload_n, o_bipush, o_getfield, o_ifCond_ne, o_invokevirtual, o_ireturn, o_putfield, SH_2, KF_2_0, SH_3, KF_2_10, KF_2_5, KF_2_7, KF_2_8, KF_2_9, SH_20, am_ty, am_vc, am_opt, am_cl, am_find, am_ldi, am_ldl, am_lda, am_v, am_1, am_1l, am_1a, am_2, am_2l, am_ix, am_ri, am_arr, am_pf, am_rc, am_mask, am_lg, am_av, am_nat, fv_0, fv_1, fv_2, fv_3, fw_0, fw_1, List.getElem?_cons_zero, List.getElem?_cons_succ, List.set_cons_zero, List.set_cons_succ, List.length_cons, List.length_nil, List.take_succ_cons, List.take_zero, List.drop_succ_cons, List.drop_zero, List.reverse_cons, List.reverse_nil, List.nil_append, List.cons_append, List.append_nil, List.map_cons, List.map_nil, List.sum_cons, List.sum_nil, Value.category, Option.toList_some, Option.toList_none, Nat.reduceAdd, Nat.reduceLT, Nat.reduceLeDiff, Nat.reduceEqDiff, Nat.reduceSub, Nat.add_zero, Nat.le_refl, Nat.zero_le, Int.reduceNeg, Int.reduceLE, Int.reduceLT, true_and, and_true, and_self, if_true, if_false, ite_true, ite_false, eq_self_iff_true, reduceIte, reduceCtorEq, not_false_eq_true, not_true_eq_false, or_true, true_or, or_false, false_or, Nat.lt_irrefl, Nat.zero_lt_succ]
        try simp (disch := omega) only [ii_0, ii_1, ii_t, ii_add, ii_sub, ii_mul, ii_lt, ii_le, ii_eq, ij_in, ii_c, Int.toNat_natCast, Int.toNat_zero, Int.reduceToNat, Int.reduceEq, Int.reduceNe, Int.reduceLE, Int.reduceLT, Int.reduceAdd, Int.reduceSub, Int.reduceMul, Int.reduceNeg, Nat.reduceLT, Nat.reduceAdd, Nat.reduceMul, not_false_eq_true, not_true_eq_false, true_and, and_true, and_self, false_and, and_false, true_implies, false_implies, implies_true, forall_const, if_true, if_false, ite_true, ite_false, reduceIte, eq_self_iff_true, Int.natCast_nonneg, Int.zero_add, Int.add_zero, pi_s, pi_n, on_2000, on_402, on_408, on_19, on_5, on_4]
        first
        | exact k34
        | exact ⟨fun _ => k34, fun z => absurd z (by omega)⟩
        | exact ⟨fun z => absurd z (by omega), fun _ => k34⟩
      · rw [if_neg w]
        have k24 : AA 24 [some (.ref 2)] [] 92 σ := by
          refine hA [(34, 1)] 8 _ _ _ _ _ ?_
          try simp only [dX5_end_0, dX5_end_1, FT_X5_43, dX5_end_4, xX5_endE_t4, dX5_end_7, dX5_end_8, FT_X5_49, dX5_end_11, xX5_endE_t11, dX5_end_14, dX5_end_15, FT_X5_12, dX5_end_18, xX5_endE_c73, xX5_endE_n73, dX5_end_21, xX5_endE_t21, dX5_end_24, dX5_end_25, dX5_end_27, dX5_end_28, FT_X5_36, dX5_end_31, xX5_endE_c77, xX5_endE_n77, dX5_end_34, dX5_end_35, dX5_end_38, xX5_endE_t38, dX5_end_41, dX5_end_42, dX5_end_43, dX5_end_46, PT_X5_43, dX5_end_49, dX5_end_50, dX5_end_51, FT_X5_52, dX5_end_54, PT_X5_46, dX5_end_57, dX5_end_58, dX5_end_61, xX5_endE_SH, xX5_endE_KF, xX5_endE_rt, xX5_endE_FT, xX5_endE_PT, xX5_endE_CT, xX5_endE_KT, xX5_endE_LT, xX5_endE_NT, o_aload_n, o_bipush, o_getfield, o_ifCond_ne, o_invokevirtual, o_ireturn, o_putfield, SH_2, KF_2_0, SH_3, KF_2_10, KF_2_5, KF_2_7, KF_2_8, KF_2_9, SH_20, am_ty, am_vc, am_opt, am_cl, am_find, am_ldi, am_ldl, am_lda, am_v, am_1, am_1l, am_1a, am_2, am_2l, am_ix, am_ri, am_arr, am_pf, am_rc, am_mask, am_lg, am_av, am_nat, fv_0, fv_1, fv_2, fv_3, fw_0, fw_1, List.getElem?_cons_zero, List.getElem?_cons_succ, List.set_cons_zero, List.set_cons_succ, List.length_cons, List.length_nil, List.take_succ_cons, List.take_zero, List.drop_succ_cons, List.drop_zero, List.reverse_cons, List.reverse_nil, List.nil_append, List.cons_append, List.append_nil, List.map_cons, List.map_nil, List.sum_cons, List.sum_nil, Value.category, Option.toList_some, Option.toList_none, Nat.reduceAdd, Nat.reduceLT, Nat.reduceLeDiff, Nat.reduceEqDiff, Nat.reduceSub, Nat.add_zero, Nat.le_refl, Nat.zero_le, Int.reduceNeg, Int.reduceLE, Int.reduceLT, true_and, and_true, and_self, if_true, if_false, ite_true, ite_false, eq_self_iff_true, reduceIte, reduceCtorEq, not_false_eq_true, not_true_eq_false, or_true, true_or, or_false, false_or, Nat.lt_irrefl, Nat.zero_lt_succ, ep]
          refine ⟨rfl, hB, u, 6, tP b Z t, hu, ⟨by decide, by decide⟩, rfl, fun τ g1 g2 => ?_⟩
          try simp only [dX5_end_0, dX5_end_1, FT_X5_43, dX5_end_4, xX5_endE_t4, dX5_end_7, dX5_end_8, FT_X5_49, dX5_end_11, xX5_endE_t11, dX5_end_14, dX5_end_15, FT_X5_12, dX5_end_18, xX5_endE_c73, xX5_endE_n73, dX5_end_21, xX5_endE_t21, dX5_end_24, dX5_end_25, dX5_end_27, dX5_end_28, FT_X5_36, dX5_end_31, xX5_endE_c77, xX5_endE_n77, dX5_end_34, dX5_end_35, dX5_end_38, xX5_endE_t38, dX5_end_41, dX5_end_42, dX5_end_43, dX5_end_46, PT_X5_43, dX5_end_49, dX5_end_50, dX5_end_51, FT_X5_52, dX5_end_54, PT_X5_46, dX5_end_57, dX5_end_58, dX5_end_61, xX5_endE_SH, xX5_endE_KF, xX5_endE_rt, xX5_endE_FT, xX5_endE_PT, xX5_endE_CT, xX5_endE_KT, xX5_endE_LT, xX5_endE_NT, o_aload_n, o_bipush, o_getfield, o_ifCond_ne, o_invokevirtual, o_ireturn, o_putfield, SH_2, KF_2_0, SH_3, KF_2_10, KF_2_5, KF_2_7, KF_2_8, KF_2_9, SH_20, am_ty, am_vc, am_opt, am_cl, am_find, am_ldi, am_ldl, am_lda, am_v, am_1, am_1l, am_1a, am_2, am_2l, am_ix, am_ri, am_arr, am_pf, am_rc, am_mask, am_lg, am_av, am_nat, fv_0, fv_1, fv_2, fv_3, fw_0, fw_1, List.getElem?_cons_zero, List.getElem?_cons_succ, List.set_cons_zero, List.set_cons_succ, List.length_cons, List.length_nil, List.take_succ_cons, List.take_zero, List.drop_succ_cons, List.drop_zero, List.reverse_cons, List.reverse_nil, List.nil_append, List.cons_append, List.append_nil, List.map_cons, List.map_nil, List.sum_cons, List.sum_nil, Value.category, Option.toList_some, Option.toList_none, Nat.reduceAdd, Nat.reduceLT, Nat.reduceLeDiff, Nat.reduceEqDiff, Nat.reduceSub, Nat.add_zero, Nat.le_refl, Nat.zero_le, Int.reduceNeg, Int.reduceLE, Int.reduceLT, true_and, and_true, and_self, if_true, if_false, ite_true, ite_false, eq_self_iff_true, reduceIte, reduceCtorEq, not_false_eq_true, not_true_eq_false, or_true, true_or, or_false, false_or, Nat.lt_irrefl, Nat.zero_lt_succ]
          refine c34 (sI_sub g1 (by decide)) (by rw [fr_1 g1 (by decide)]; exact f0) g2 ?_
          unfold enR nt
          simp only [if_neg (show ¬ u.1 ≠ 0 by omega), if_neg w, if_pos uz]
        try simp only [dX5_end_0, dX5_end_1, FT_X5_43, dX5_end_4, xX5_endE_t4, dX5_end_7, dX5_end_8, FT_X5_49, dX5_end_11, xX5_endE_t11, dX5_end_14, dX5_end_15, FT_X5_12, dX5_end_18, xX5_endE_c73, xX5_endE_n73, dX5_end_21, xX5_endE_t21, dX5_end_24, dX5_end_25, dX5_end_27, dX5_end_28, FT_X5_36, dX5_end_31, xX5_endE_c77, xX5_endE_n77, dX5_end_34, dX5_end_35, dX5_end_38, xX5_endE_t38, dX5_end_41, dX5_end_42, dX5_end_43, dX5_end_46, PT_X5_43, dX5_end_49, dX5_end_50, dX5_end_51, FT_X5_52, dX5_end_54, PT_X5_46, dX5_end_57, dX5_end_58, dX5_end_61, xX5_endE_SH, xX5_endE_KF, xX5_endE_rt, xX5_endE_FT, xX5_endE_PT, xX5_endE_CT, xX5_endE_KT, xX5_endE_LT, xX5_endE_NT, o_aload_n, o_bipush, o_getfield, o_ifCond_ne, o_invokevirtual, o_ireturn, o_putfield, SH_2, KF_2_0, SH_3, KF_2_10, KF_2_5, KF_2_7, KF_2_8, KF_2_9, SH_20, am_ty, am_vc, am_opt, am_cl, am_find, am_ldi, am_ldl, am_lda, am_v, am_1, am_1l, am_1a, am_2, am_2l, am_ix, am_ri, am_arr, am_pf, am_rc, am_mask, am_lg, am_av, am_nat, fv_0, fv_1, fv_2, fv_3, fw_0, fw_1, List.getElem?_cons_zero, List.getElem?_cons_succ, List.set_cons_zero, List.set_cons_succ, List.length_cons, List.length_nil, List.take_succ_cons, List.take_zero, List.drop_succ_cons, List.drop_zero, List.reverse_cons, List.reverse_nil, List.nil_append, List.cons_append, List.append_nil, List.map_cons, List.map_nil, List.sum_cons, List.sum_nil, Value.category, Option.toList_some, Option.toList_none, Nat.reduceAdd, Nat.reduceLT, Nat.reduceLeDiff, Nat.reduceEqDiff, Nat.reduceSub, Nat.add_zero, Nat.le_refl, Nat.zero_le, Int.reduceNeg, Int.reduceLE, Int.reduceLT, true_and, and_true, and_self, if_true, if_false, ite_true, ite_false, eq_self_iff_true, reduceIte, reduceCtorEq, not_false_eq_true, not_true_eq_false, or_true, true_or, or_false, false_or, Nat.lt_irrefl, Nat.zero_lt_succ]
        try simp (disch := omega) only [ii_0, ii_1, ii_t, ii_add, ii_sub, ii_mul, ii_lt, ii_le, ii_eq, ij_in, ii_c, Int.toNat_natCast, Int.toNat_zero, Int.reduceToNat, Int.reduceEq, Int.reduceNe, Int.reduceLE, Int.reduceLT, Int.reduceAdd, Int.reduceSub, Int.reduceMul, Int.reduceNeg, Nat.reduceLT, Nat.reduceAdd, Nat.reduceMul, not_false_eq_true, not_true_eq_false, true_and, and_true, and_self, false_and, and_false, true_implies, false_implies, implies_true, forall_const, if_true, if_false, ite_true, ite_false, reduceIte, eq_self_iff_true, Int.natCast_nonneg, Int.zero_add, Int.add_zero, pi_s, pi_n, on_2000, on_402, on_408, on_19, on_5, on_4]
        first
        | exact k24
        | exact ⟨fun _ => k24, fun z => absurd z (by omega)⟩
        | exact ⟨fun z => absurd z (by omega), fun _ => k24⟩
    have k34u : ¬ u.1 = 0 → AA 34 [some (.ref 2)] [] 92 σ := fun z => c34 i0 f0 hu (by unfold enR; simp only [if_pos (show u.1 ≠ 0 from z)])
    have k7 : AA 7 [some (.ref 2)] [] 92 σ := by
      rw [← euv] at hu1 hu3 c14 k34u
      refine hA [(34, 1), (14, 1)] 6 _ _ _ _ _ ?_
      try simp only [dX5_end_0, dX5_end_1, FT_X5_43, dX5_end_4, xX5_endE_t4, dX5_end_7, dX5_end_8, FT_X5_49, dX5_end_11, xX5_endE_t11, dX5_end_14, dX5_end_15, FT_X5_12, dX5_end_18, xX5_endE_c73, xX5_endE_n73, dX5_end_21, xX5_endE_t21, dX5_end_24, dX5_end_25, dX5_end_27, dX5_end_28, FT_X5_36, dX5_end_31, xX5_endE_c77, xX5_endE_n77, dX5_end_34, dX5_end_35, dX5_end_38, xX5_endE_t38, dX5_end_41, dX5_end_42, dX5_end_43, dX5_end_46, PT_X5_43, dX5_end_49, dX5_end_50, dX5_end_51, FT_X5_52, dX5_end_54, PT_X5_46, dX5_end_57, dX5_end_58, dX5_end_61, xX5_endE_SH, xX5_endE_KF, xX5_endE_rt, xX5_endE_FT, xX5_endE_PT, xX5_endE_CT, xX5_endE_KT, xX5_endE_LT, xX5_endE_NT, o_aload_n, o_bipush, o_getfield, o_ifCond_ne, o_invokevirtual, o_ireturn, o_putfield, SH_2, KF_2_0, SH_3, KF_2_10, KF_2_5, KF_2_7, KF_2_8, KF_2_9, SH_20, am_ty, am_vc, am_opt, am_cl, am_find, am_ldi, am_ldl, am_lda, am_v, am_1, am_1l, am_1a, am_2, am_2l, am_ix, am_ri, am_arr, am_pf, am_rc, am_mask, am_lg, am_av, am_nat, fv_0, fv_1, fv_2, fv_3, fw_0, fw_1, List.getElem?_cons_zero, List.getElem?_cons_succ, List.set_cons_zero, List.set_cons_succ, List.length_cons, List.length_nil, List.take_succ_cons, List.take_zero, List.drop_succ_cons, List.drop_zero, List.reverse_cons, List.reverse_nil, List.nil_append, List.cons_append, List.append_nil, List.map_cons, List.map_nil, List.sum_cons, List.sum_nil, Value.category, Option.toList_some, Option.toList_none, Nat.reduceAdd, Nat.reduceLT, Nat.reduceLeDiff, Nat.reduceEqDiff, Nat.reduceSub, Nat.add_zero, Nat.le_refl, Nat.zero_le, Int.reduceNeg, Int.reduceLE, Int.reduceLT, true_and, and_true, and_self, if_true, if_false, ite_true, ite_false, eq_self_iff_true, reduceIte, reduceCtorEq, not_false_eq_true, not_true_eq_false, or_true, true_or, or_false, false_or, Nat.lt_irrefl, Nat.zero_lt_succ, hu1]
      try simp (disch := omega) only [ii_0, ii_1, ii_t, ii_add, ii_sub, ii_mul, ii_lt, ii_le, ii_eq, ij_in, ii_c, Int.toNat_natCast, Int.toNat_zero, Int.reduceToNat, Int.reduceEq, Int.reduceNe, Int.reduceLE, Int.reduceLT, Int.reduceAdd, Int.reduceSub, Int.reduceMul, Int.reduceNeg, Nat.reduceLT, Nat.reduceAdd, Nat.reduceMul, not_false_eq_true, not_true_eq_false, true_and, and_true, and_self, false_and, and_false, true_implies, false_implies, implies_true, forall_const, if_true, if_false, ite_true, ite_false, reduceIte, eq_self_iff_true, Int.natCast_nonneg, Int.zero_add, Int.add_zero, pi_s, pi_n, on_2000, on_402, on_408, on_19, on_5, on_4, hu1]
      first
      | exact ⟨c14, k34u⟩
      | exact ⟨k34u, c14⟩
    refine hA [(34, 1), (7, 1)] 6 _ _ _ _ _ ?_
    try simp only [dX5_end_0, dX5_end_1, FT_X5_43, dX5_end_4, xX5_endE_t4, dX5_end_7, dX5_end_8, FT_X5_49, dX5_end_11, xX5_endE_t11, dX5_end_14, dX5_end_15, FT_X5_12, dX5_end_18, xX5_endE_c73, xX5_endE_n73, dX5_end_21, xX5_endE_t21, dX5_end_24, dX5_end_25, dX5_end_27, dX5_end_28, FT_X5_36, dX5_end_31, xX5_endE_c77, xX5_endE_n77, dX5_end_34, dX5_end_35, dX5_end_38, xX5_endE_t38, dX5_end_41, dX5_end_42, dX5_end_43, dX5_end_46, PT_X5_43, dX5_end_49, dX5_end_50, dX5_end_51, FT_X5_52, dX5_end_54, PT_X5_46, dX5_end_57, dX5_end_58, dX5_end_61, xX5_endE_SH, xX5_endE_KF, xX5_endE_rt, xX5_endE_FT, xX5_endE_PT, xX5_endE_CT, xX5_endE_KT, xX5_endE_LT, xX5_endE_NT, o_aload_n, o_bipush, o_getfield, o_ifCond_ne, o_invokevirtual, o_ireturn, o_putfield, SH_2, KF_2_0, SH_3, KF_2_10, KF_2_5, KF_2_7, KF_2_8, KF_2_9, SH_20, am_ty, am_vc, am_opt, am_cl, am_find, am_ldi, am_ldl, am_lda, am_v, am_1, am_1l, am_1a, am_2, am_2l, am_ix, am_ri, am_arr, am_pf, am_rc, am_mask, am_lg, am_av, am_nat, fv_0, fv_1, fv_2, fv_3, fw_0, fw_1, List.getElem?_cons_zero, List.getElem?_cons_succ, List.set_cons_zero, List.set_cons_succ, List.length_cons, List.length_nil, List.take_succ_cons, List.take_zero, List.drop_succ_cons, List.drop_zero, List.reverse_cons, List.reverse_nil, List.nil_append, List.cons_append, List.append_nil, List.map_cons, List.map_nil, List.sum_cons, List.sum_nil, Value.category, Option.toList_some, Option.toList_none, Nat.reduceAdd, Nat.reduceLT, Nat.reduceLeDiff, Nat.reduceEqDiff, Nat.reduceSub, Nat.add_zero, Nat.le_refl, Nat.zero_le, Int.reduceNeg, Int.reduceLE, Int.reduceLT, true_and, and_true, and_self, if_true, if_false, ite_true, ite_false, eq_self_iff_true, reduceIte, reduceCtorEq, not_false_eq_true, not_true_eq_false, or_true, true_or, or_false, false_or, Nat.lt_irrefl, Nat.zero_lt_succ, f0]
    try simp (disch := omega) only [ii_0, ii_1, ii_t, ii_add, ii_sub, ii_mul, ii_lt, ii_le, ii_eq, ij_in, ii_c, Int.toNat_natCast, Int.toNat_zero, Int.reduceToNat, Int.reduceEq, Int.reduceNe, Int.reduceLE, Int.reduceLT, Int.reduceAdd, Int.reduceSub, Int.reduceMul, Int.reduceNeg, Nat.reduceLT, Nat.reduceAdd, Nat.reduceMul, not_false_eq_true, not_true_eq_false, true_and, and_true, and_self, false_and, and_false, true_implies, false_implies, implies_true, forall_const, if_true, if_false, ite_true, ite_false, reduceIte, eq_self_iff_true, Int.natCast_nonneg, Int.zero_add, Int.add_zero, pi_s, pi_n, on_2000, on_402, on_408, on_19, on_5, on_4, f0]
    first
    | exact k7
    | exact ⟨fun _ => k7, fun z => absurd z (by omega)⟩
    | exact ⟨fun z => absurd z (by omega), fun _ => k7⟩
end
theorem mX5_endE (l : Launch) : am_M l TB NB vwCl SH KF yX5_end cX5_end 1 (some .int) 5 0 0 sX5_endE := by
  refine am_M.of xX5_endE (by decide +kernel) TB_good GF rfl rfl rfl (by decide) ⟨FT_X5_ok, PT_X5_ok _, CT_X5_ok, KT_X5_ok, LT_X5_ok, NT_X5_ok, ?_⟩ ptX5_endE
  exact List.forall_mem_cons.mpr ⟨⟨yX9_hasAllRungsTold, cX9_hasAllRungsTold, 2, (some .boolean), 4, 0, mX9_hasAllRungsToldE l, by decide, by decide, tk_657, tk_105, ⟨by decide +kernel, by decide +kernel, by decide +kernel⟩, rfl, tk_654, tk_655, ⟨(RX9, TX9, 8), rfl, tk_656⟩⟩, List.forall_mem_cons.mpr ⟨⟨yX5_note, cX5_note, 3, none, 2, 2, mX5_noteE l, by decide, by decide, tk_615, tk_104, ⟨by decide +kernel, by decide +kernel, by decide +kernel⟩, rfl, tk_612, tk_614, ⟨(RX5, TX5, 11), rfl, tb_at 8 (by decide +kernel) (by decide +kernel)⟩⟩, fun _ h => absurd h List.not_mem_nil⟩⟩

