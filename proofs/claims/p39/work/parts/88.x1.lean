/-! WHAT IS TOLD: sentences as functions of where a reader stands. Printed from wip/am/chk/hand/x1.in. -/
/-- an expression: where it ends, its codes -/
def spE (b : Nat → Int) (Z : Nat) (s : ST) : ST × List (Int × Int) := match s with
  | .inl t => if (syE (tK b Z) (tV b Z) t).1 = 2 then (.inl (syE (tK b Z) (tV b Z) t).2.1, (syE (tK b Z) (tV b Z) t).2.2.2.2) else (.inr (((syE (tK b Z) (tV b Z) t).1 : Int) - 3, tP b Z (syE (tK b Z) (tV b Z) t).2.1), [])
  | .inr q => (.inr q, [])
theorem spE_l (b : Nat → Int) (Z t : Nat) : spE b Z (.inl t) = if (syE (tK b Z) (tV b Z) t).1 = 2 then (.inl (syE (tK b Z) (tV b Z) t).2.1, (syE (tK b Z) (tV b Z) t).2.2.2.2) else (.inr (((syE (tK b Z) (tV b Z) t).1 : Int) - 3, tP b Z (syE (tK b Z) (tV b Z) t).2.1), []) := rfl
theorem rST_expr {b : Nat → Int} {Z : Nat} {σ τ : am_S} {s : ST} {as : List Value} {v : Option Value} (h : xExpr as σ v τ) (hs : rST b Z σ s) : rST b Z τ (spE b Z s).1 ∧ ∀ t', (spE b Z s).1 = .inl t' → CL τ (pC σ).toNat = (spE b Z s).2 := by
  obtain ⟨h1, h2⟩ := h
  cases s with
  | inl t =>
    obtain ⟨v, h3⟩ := h1.2 b Z t hs
    rw [spE_l]
    rcases h3 with ⟨t', r, e⟩ | ⟨t', m, e1, e2, e3, e4⟩
    · rw [e, if_pos rfl]
      exact ⟨⟨v, r⟩, fun _ _ => rfl⟩
    · rw [e4]
      have hm : ¬ m = 2 := by omega
      rw [if_neg hm]
      refine ⟨⟨v, ⟨?_, ?_⟩, ?_, e3⟩, fun _ z => by cases z⟩
      · show 1 ≤ (m : Int) - 3; omega
      · show (m : Int) - 3 ≤ 2; omega
      · show pF τ = (m : Int) - 3; omega
  | inr q =>
    obtain ⟨v, h3, h4, h5⟩ := hs
    obtain ⟨g1, g2, g3⟩ := h2 (by omega)
    exact ⟨⟨wVR_tks v g1, h3, g2.trans h4, g3.trans h5⟩, fun _ z => by cases z⟩
theorem wX_expr {σ τ : am_S} {as : List Value} {v : Option Value} (h : xExpr as σ v τ) : wX σ τ := h.1.1
theorem cST_expr {b : Nat → Int} {Z t : Nat} {s' : ST} {c : List (Int × Int)} (h : eS (tK b Z) (tV b Z) (tP b Z) 0 t s' c) (ht : t ≤ 400) (hs : ∀ t', s' = .inl t' → t' ≤ 400) : s' = (spE b Z (.inl t)).1 ∧ ∀ t', s' = .inl t' → c = (spE b Z (.inl t)).2 := by
  have e := eS_E h ht
  rw [spE_l]
  cases s' with
  | inl t' =>
    have e := e (hs t' rfl)
    rw [e, if_pos rfl]
    exact ⟨rfl, fun _ _ => rfl⟩
  | inr q =>
    obtain ⟨t', m, e1, e2, e3, e4⟩ := e
    rw [e4]
    have hm : ¬ m = 2 := by omega
    rw [if_neg hm]
    refine ⟨?_, fun _ z => by cases z⟩
    show (.inr q : ST) = .inr ((m : Int) - 3, tP b Z t')
    have : q = ((m : Int) - 3, tP b Z t') := Prod.ext (by show q.1 = (m : Int) - 3; omega) e2
    rw [this]
/-- what is wrongly told: the first counts -/
abbrev UT : Type := Int × Int
def nt (u : UT) (k p : Int) : UT := if u.1 = 0 then (k, p) else u
/-- a number within bounds: where it ends, what is wrong, the number -/
def spQ (b : Nat → Int) (Z : Nat) (least most : Int) (s : ST) (u : UT) : ST × UT × Int := match s with
  | .inl t => if tK b Z t = 2 then (if t = 400 then (.inr (2, tP b Z t), u, least) else (.inl (t + 1), (if tV b Z t < least ∨ most < tV b Z t then nt u 5 (tP b Z t) else u), (if tV b Z t < least ∨ most < tV b Z t then least else tV b Z t))) else (.inr (1, tP b Z t), u, least)
  | .inr q => (.inr q, u, least)
/-- a law's branches and its last term -/
abbrev BR : Type := List (Int × Int) × List (Int × Int) × List (Int × Int)
abbrev LW : Type := List BR × List (Int × Int)
/-- a branch, from its if on -/
def spB (b : Nat → Int) (Z : Nat) (s : ST) : ST × BR :=
  let x := spE b Z (stT b Z 27 s)
  let y := spE b Z (stT b Z 13 x.1)
  let z := spE b Z (stT b Z 28 y.1)
  (stT b Z 29 z.1, (x.2, y.2, z.2))
/-- the branches, n more at most, then the last term -/
def spL (b : Nat → Int) (Z : Nat) : Nat → ST → List BR → ST × LW
  | _, .inr q, a => (.inr q, (a, []))
  | 0, .inl t, a => if tK b Z t = 27 then (.inr (2, tP b Z t), (a, [])) else ((spE b Z (.inl t)).1, (a, (spE b Z (.inl t)).2))
  | n + 1, .inl t, a => if tK b Z t = 27 then spL b Z n (spB b Z (.inl t)).1 (a ++ [(spB b Z (.inl t)).2]) else ((spE b Z (.inl t)).1, (a, (spE b Z (.inl t)).2))
/-- a law, behind its word -/
def spW (b : Nat → Int) (Z : Nat) (s : ST) : ST × LW := spL b Z 4 (stT b Z 5 s) []
/-- a person: name, start, width, temper, thirst -/
abbrev PR : Type := Int64 × Int × Int × Int × Int
def spN (b : Nat → Int) (Z : Nat) (ns : List Int64) (s : ST) (u : UT) : ST × UT × Int64 := match s with
  | .inl t => if tK b Z t = 1 then (if t = 400 then (.inr (2, tP b Z t), u, 0) else (.inl (t + 1), (if tN b Z t ∈ ns then nt u 3 (tP b Z t) else u), tN b Z t)) else (.inr (1, tP b Z t), u, 0)
  | .inr q => (.inr q, u, 0)
/-- a person, behind the word -/
def spP (b : Nat → Int) (Z : Nat) (ns : List Int64) (s : ST) (u : UT) : ST × UT × PR :=
  let x := spN b Z ns s u
  let y := spQ b Z 0 11 x.1 x.2.1
  let z := spQ b Z 1 9 y.1 y.2.1
  let v := spQ b Z 0 9 z.1 z.2.1
  let w := spQ b Z 0 9 v.1 v.2.1
  (w.1, w.2.1, (x.2.2, y.2.2, z.2.2, v.2.2, w.2.2))
/-- what is told: rungs, seed, people, laws -/
abbrev DR : Type := Int × Int × List PR × (Nat → Option LW)
def dr0 : DR := (8, 0, [], fun _ => none)
/-- a sentence -/
def spO (b : Nat → Int) (Z : Nat) (t : Nat) (u : UT) (d : DR) : ST × UT × DR :=
  if tK b Z t = 20 then
    let x := spQ b Z 1 12 (stT b Z 20 (.inl t)) u
    (stT b Z 4 x.1, x.2.1, (x.2.2, d.2))
  else if tK b Z t = 21 then
    (if d.2.2.1.length = 5 then (.inr (2, tP b Z t), u, d) else
      let x := spP b Z (d.2.2.1.map (fun p => p.1)) (stT b Z 21 (.inl t)) u
      (stT b Z 4 x.1, x.2.1, (d.1, d.2.1, d.2.2.1 ++ [x.2.2], d.2.2.2)))
  else if 22 ≤ tK b Z t ∧ tK b Z t ≤ 25 then
    let x := spW b Z (stT b Z (tK b Z t) (.inl t))
    (stT b Z 4 x.1, u, (d.1, d.2.1, d.2.2.1, fun k => if (k : Int) = tK b Z t - 22 then some x.2 else d.2.2.2 k))
  else if tK b Z t = 26 then
    let x := spQ b Z 0 9999 (stT b Z 26 (.inl t)) u
    (stT b Z 4 x.1, x.2.1, (d.1, x.2.2, d.2.2))
  else (.inr (1, tP b Z t), u, d)
/-- all sentences, n at most -/
def spA (b : Nat → Int) (Z : Nat) : Nat → ST → UT → DR → ST × UT × DR
  | 0, s, u, d => (s, u, d)
  | _ + 1, .inr q, u, d => (.inr q, u, d)
  | n + 1, .inl t, u, d => if tK b Z t = 0 then (.inl t, u, d) else spA b Z n (spO b Z t u d).1 (spO b Z t u d).2.1 (spO b Z t u d).2.2
/-- the reading: the answer, the place, the draft -/
def spR (b : Nat → Int) (Z : Nat) : Int × Int × DR :=
  let x := spA b Z 402 (.inl 0) (0, -1) dr0
  match x.1 with
  | .inr q => (q.1, q.2, x.2.2)
  | .inl t => if x.2.1.1 ≠ 0 then (x.2.1.1, x.2.1.2, x.2.2) else if x.2.2.2.2.1.all (fun p => decide (p.2.1 < x.2.2.1)) then (0, -1, x.2.2) else (6, tP b Z t, x.2.2)
/-! THE CLASS'S SENTENCES: numbers and names. Printed from wip/am/chk/hand/y1.in. -/
theorem dX5_readInt_0 : decode cX5_readInt 0 = .ok (.aload_n 0, 1) := dk_ok (by decide +kernel)
theorem dX5_readInt_1 : decode cX5_readInt 1 = .ok (.getfield 39, 3) := dk_ok (by decide +kernel)
theorem dX5_readInt_4 : decode cX5_readInt 4 = .ok (.l2i, 1) := dk_ok (by decide +kernel)
theorem dX5_readInt_5 : decode cX5_readInt 5 = .ok (.istore_n 3, 1) := dk_ok (by decide +kernel)
theorem dX5_readInt_6 : decode cX5_readInt 6 = .ok (.aload_n 0, 1) := dk_ok (by decide +kernel)
theorem dX5_readInt_7 : decode cX5_readInt 7 = .ok (.getfield 36, 3) := dk_ok (by decide +kernel)
theorem dX5_readInt_10 : decode cX5_readInt 10 = .ok (.istore 4, 2) := dk_ok (by decide +kernel)
theorem dX5_readInt_12 : decode cX5_readInt 12 = .ok (.aload_n 0, 1) := dk_ok (by decide +kernel)
theorem dX5_readInt_13 : decode cX5_readInt 13 = .ok (.iconst 3, 1) := dk_ok (by decide +kernel)
theorem dX5_readInt_14 : decode cX5_readInt 14 = .ok (.invokevirtual 85, 3) := dk_ok (by decide +kernel)
theorem dX5_readInt_17 : decode cX5_readInt 17 = .ok (.ifCond .ne 5, 3) := dk_ok (by decide +kernel)
theorem dX5_readInt_20 : decode cX5_readInt 20 = .ok (.iload_n 1, 1) := dk_ok (by decide +kernel)
theorem dX5_readInt_21 : decode cX5_readInt 21 = .ok (.ireturn, 1) := dk_ok (by decide +kernel)
theorem dX5_readInt_22 : decode cX5_readInt 22 = .ok (.iload_n 3, 1) := dk_ok (by decide +kernel)
theorem dX5_readInt_23 : decode cX5_readInt 23 = .ok (.iload_n 1, 1) := dk_ok (by decide +kernel)
theorem dX5_readInt_24 : decode cX5_readInt 24 = .ok (.if_icmp .lt 8, 3) := dk_ok (by decide +kernel)
theorem dX5_readInt_27 : decode cX5_readInt 27 = .ok (.iload_n 3, 1) := dk_ok (by decide +kernel)
theorem dX5_readInt_28 : decode cX5_readInt 28 = .ok (.iload_n 2, 1) := dk_ok (by decide +kernel)
theorem dX5_readInt_29 : decode cX5_readInt 29 = .ok (.if_icmp .le 12, 3) := dk_ok (by decide +kernel)
theorem dX5_readInt_32 : decode cX5_readInt 32 = .ok (.aload_n 0, 1) := dk_ok (by decide +kernel)
theorem dX5_readInt_33 : decode cX5_readInt 33 = .ok (.iconst 5, 1) := dk_ok (by decide +kernel)
theorem dX5_readInt_34 : decode cX5_readInt 34 = .ok (.iload 4, 2) := dk_ok (by decide +kernel)
theorem dX5_readInt_36 : decode cX5_readInt 36 = .ok (.invokevirtual 77, 3) := dk_ok (by decide +kernel)
theorem dX5_readInt_39 : decode cX5_readInt 39 = .ok (.iload_n 1, 1) := dk_ok (by decide +kernel)
theorem dX5_readInt_40 : decode cX5_readInt 40 = .ok (.ireturn, 1) := dk_ok (by decide +kernel)
theorem dX5_readInt_41 : decode cX5_readInt 41 = .ok (.iload_n 3, 1) := dk_ok (by decide +kernel)
theorem dX5_readInt_42 : decode cX5_readInt 42 = .ok (.ireturn, 1) := dk_ok (by decide +kernel)

/-- what it holds for wrongly told -/
def cU (σ : am_S) (u : UT) : Prop := σ.1 2 9 = Int32.ofInt u.1 ∧ σ.1 2 10 = Int32.ofInt u.2 ∧ (0 ≤ u.1 ∧ u.1 ≤ 9)
def cuM : sa_M := [(2, 9, 10 + 1)]
def riM : sa_M := rkM ++ cuM
theorem cU_sI {u : UT} {M : sa_M} {σ τ : am_S} (h : cU σ u) (g : sI BB SH M σ τ) (hM : M.all (fun m => decide (m.1 ≠ 2) || (decide (m.2.2 ≤ 9) || decide (10 < m.2.1))) = true) : cU τ u := by
  have e : ∀ k, 9 ≤ k → k ≤ 10 → τ.1 2 k = σ.1 2 k := fun k h1 h2 => (g.2 _ k (fun m hm hh => by
    have q := List.all_eq_true.mp hM m hm
    simp only [Bool.or_eq_true, decide_eq_true_eq] at q
    rcases q with q | q | q
    · exact q hh.1
    · omega
    · omega)).1
  exact ⟨by rw [e _ (by decide) (by decide)]; exact h.1, by rw [e _ (by decide) (by decide)]; exact h.2.1, h.2.2⟩
def sX5_noteE : am_Sp := fun as n σ post => n = 92 ∧ sb_ok BB SH σ ∧ ∃ (u : UT) (k p : Int), cU σ u ∧ (1 ≤ k ∧ k ≤ 9) ∧ as = [.ref 2, .int (Int32.ofInt k), .int (Int32.ofInt p)] ∧ ∀ τ, sI BB SH cuM σ τ → cU τ (nt u k p) → post none τ
def xX5_noteE : am_X := (SH, KF, none, FT_X5, PT_X5, CT_X5, KT_X5, LT_X5, NT_X5, [])
theorem xX5_noteE_SH : am_SH xX5_noteE = SH := rfl
theorem xX5_noteE_KF : am_KF xX5_noteE = KF := rfl
theorem xX5_noteE_rt : am_rt xX5_noteE = none := rfl
theorem xX5_noteE_FT : am_FT xX5_noteE = FT_X5 := rfl
theorem xX5_noteE_PT : am_PT xX5_noteE = PT_X5 := rfl
theorem xX5_noteE_CT : am_CT xX5_noteE = CT_X5 := rfl
theorem xX5_noteE_KT : am_KT xX5_noteE = KT_X5 := rfl
theorem xX5_noteE_LT : am_LT xX5_noteE = LT_X5 := rfl
theorem xX5_noteE_NT : am_NT xX5_noteE = NT_X5 := rfl
theorem xX5_noteE_t4 (k : Nat → Prop) : am_tg 4 (13) k = k 17 := am_tg_eq (by decide)

set_option maxRecDepth 100000 in
theorem ptX5_noteE : am_B cX5_note xX5_noteE 3 0 sX5_noteE := by
  intro n0 as σ post AA hA h
  obtain ⟨rfl, hB, u, k, p, ⟨u1, u2, u3⟩, hk, rfl, h⟩ := h
  obtain ⟨wv, ewv⟩ : ∃ wv, wv = u.1 := ⟨_, rfl⟩
  rw [← ewv] at u1 u3
  have x1 := ii_hi (Int32.ofInt k)
  have x2 := ii_hi (Int32.ofInt p)
  refine ⟨by simp [am_sl, Value.category], ?_⟩
  show AA 0 [some (.ref 2), some (.int (Int32.ofInt k)), some (.int (Int32.ofInt p))] [] 92 σ
  have i1 : sI BB SH cuM σ (am_pi σ 2 9 (Int32.ofInt k)) := sI_fld (ci := 5) ⟨hB, sb_fr_r _ _⟩ rfl ⟨ii_lo _, by show _ ≤ (2147483647 : Int); omega⟩ ⟨_, List.mem_cons_self, rfl, by decide, by decide⟩
  have i2 := sI_fld (o := 2) (k := 10) (x := Int32.ofInt p) (ci := 5) i1 rfl ⟨ii_lo _, by show _ ≤ (2147483647 : Int); omega⟩ ⟨_, List.mem_cons_self, rfl, by decide, by decide⟩
  refine hA [] 20 _ _ _ _ _ ?_
  try simp only [dX5_note_0, dX5_note_1, FT_X5_49, dX5_note_4, xX5_noteE_t4, dX5_note_7, dX5_note_8, dX5_note_9, PT_X5_49, dX5_note_12, dX5_note_13, dX5_note_14, PT_X5_52, dX5_note_17, xX5_noteE_SH, xX5_noteE_KF, xX5_noteE_rt, xX5_noteE_FT, xX5_noteE_PT, xX5_noteE_CT, xX5_noteE_KT, xX5_noteE_LT, xX5_noteE_NT, o_aload_n, o_getfield, o_ifCond_ne, o_iload_n, o_putfield, o_return_, SH_2, KF_2_10, KF_2_9, am_ty, am_vc, am_opt, am_cl, am_find, am_ldi, am_ldl, am_lda, am_v, am_1, am_1l, am_1a, am_2, am_2l, am_ix, am_ri, am_arr, am_pf, am_rc, am_mask, am_lg, am_av, am_nat, fv_0, fv_1, fv_2, fv_3, fw_0, fw_1, List.getElem?_cons_zero, List.getElem?_cons_succ, List.set_cons_zero, List.set_cons_succ, List.length_cons, List.length_nil, List.take_succ_cons, List.take_zero, List.drop_succ_cons, List.drop_zero, List.reverse_cons, List.reverse_nil, List.nil_append, List.cons_append, List.append_nil, List.map_cons, List.map_nil, List.sum_cons, List.sum_nil, Value.category, Option.toList_some, Option.toList_none, Nat.reduceAdd, Nat.reduceLT, Nat.reduceLeDiff, Nat.reduceEqDiff, Nat.reduceSub, Nat.add_zero, Nat.le_refl, Nat.zero_le, Int.reduceNeg, Int.reduceLE, Int.reduceLT, true_and, and_true, and_self, if_true, if_false, ite_true, ite_false, eq_self_iff_true, reduceIte, reduceCtorEq, not_false_eq_true, not_true_eq_false, or_true, true_or, or_false, false_or, Nat.lt_irrefl, Nat.zero_lt_succ, u1]
  try simp (disch := omega) only [ii_0, ii_1, ii_t, ii_add, ii_sub, ii_mul, ii_lt, ii_le, ii_eq, ij_in, ii_c, Int.toNat_natCast, Int.toNat_zero, Int.reduceToNat, Int.reduceEq, Int.reduceNe, Int.reduceLE, Int.reduceLT, Int.reduceAdd, Int.reduceSub, Int.reduceMul, Int.reduceNeg, Nat.reduceLT, Nat.reduceAdd, Nat.reduceMul, not_false_eq_true, not_true_eq_false, true_and, and_true, and_self, false_and, and_false, true_implies, false_implies, implies_true, forall_const, if_true, if_false, ite_true, ite_false, reduceIte, eq_self_iff_true, Int.natCast_nonneg, Int.zero_add, Int.add_zero, pi_s, pi_n, on_2000, on_402, on_408, on_19, on_5, on_4, u1]
  refine ⟨fun q => h σ ⟨hB, sb_fr_r _ _⟩ ?_, fun q => h _ i2 ?_⟩
  · unfold nt
    rw [if_neg (by omega)]
    exact ⟨by rw [← ewv]; exact u1, u2, by rw [← ewv]; exact u3⟩
  · unfold nt
    rw [if_pos (by omega)]
    exact ⟨by rw [pi_n _ _ _ _ (fun z => absurd z.2 (by decide)), pi_s], by rw [pi_s], by show 0 ≤ k; omega, by show k ≤ 9; omega⟩
theorem mX5_noteE (l : Launch) : am_M l TB NB vwCl SH KF yX5_note cX5_note 3 none 2 0 0 sX5_noteE := by
  refine am_M.of xX5_noteE (by decide +kernel) TB_good GF rfl rfl rfl (by decide) ⟨FT_X5_ok, PT_X5_ok _, CT_X5_ok, KT_X5_ok, LT_X5_ok, NT_X5_ok, ?_⟩ ptX5_noteE
  exact fun _ h => absurd h List.not_mem_nil

def sX5_readIntE : am_Sp := fun as n σ post => n = 92 ∧ sb_ok BB SH σ ∧ ∃ (b : Nat → Int) (Z : Nat) (s : ST) (u : UT) (x y : Int), cST b Z σ s ∧ cU σ u ∧ (0 ≤ x ∧ x ≤ y ∧ y ≤ 9999) ∧ as = [.ref 2, .int (Int32.ofInt x), .int (Int32.ofInt y)] ∧ ∀ τ, sI BB SH riM σ τ → cST b Z τ (spQ b Z x y s u).1 → cU τ (spQ b Z x y s u).2.1 → post (some (.int (Int32.ofInt (spQ b Z x y s u).2.2))) τ
def xX5_readIntE : am_X := (SH, KF, (some .int), FT_X5, PT_X5, CT_X5, KT_X5, LT_X5, NT_X5, [(77, 0, 3, 5, 0, 0, sX5_noteE), (85, 0, 2, 5, 0, 0, sX5_takeE)])
theorem xX5_readIntE_SH : am_SH xX5_readIntE = SH := rfl
theorem xX5_readIntE_KF : am_KF xX5_readIntE = KF := rfl
theorem xX5_readIntE_rt : am_rt xX5_readIntE = (some .int) := rfl
theorem xX5_readIntE_FT : am_FT xX5_readIntE = FT_X5 := rfl
theorem xX5_readIntE_PT : am_PT xX5_readIntE = PT_X5 := rfl
theorem xX5_readIntE_CT : am_CT xX5_readIntE = CT_X5 := rfl
theorem xX5_readIntE_KT : am_KT xX5_readIntE = KT_X5 := rfl
theorem xX5_readIntE_LT : am_LT xX5_readIntE = LT_X5 := rfl
theorem xX5_readIntE_NT : am_NT xX5_readIntE = NT_X5 := rfl
theorem xX5_readIntE_c77 : am_find (am_ML xX5_readIntE) 77 = some (0, 3, 5, 0, 0, sX5_noteE) := rfl
theorem xX5_readIntE_n77 : am_find NT_X5 77 = none := rfl
theorem xX5_readIntE_c85 : am_find (am_ML xX5_readIntE) 85 = some (0, 2, 5, 0, 0, sX5_takeE) := rfl
theorem xX5_readIntE_n85 : am_find NT_X5 85 = none := rfl
theorem xX5_readIntE_t17 (k : Nat → Prop) : am_tg 17 (5) k = k 22 := am_tg_eq (by decide)
theorem xX5_readIntE_t24 (k : Nat → Prop) : am_tg 24 (8) k = k 32 := am_tg_eq (by decide)
theorem xX5_readIntE_t29 (k : Nat → Prop) : am_tg 29 (12) k = k 41 := am_tg_eq (by decide)

set_option maxRecDepth 100000 in
theorem ptX5_readIntE : am_B cX5_readInt xX5_readIntE 5 0 sX5_readIntE := by
  intro n0 as σ post AA hA h
  obtain ⟨rfl, hB, b, Z, s, u, x, y, hs, hu, hxy, rfl, h⟩ := h
  refine ⟨by simp [am_sl, Value.category], ?_⟩
  show AA 0 [some (.ref 2), some (.int (Int32.ofInt x)), some (.int (Int32.ofInt y)), none, none] [] 92 σ
  refine hA [] 10 _ _ _ _ _ ?_
  try simp only [dX5_readInt_0, dX5_readInt_1, FT_X5_39, dX5_readInt_4, dX5_readInt_5, dX5_readInt_6, dX5_readInt_7, FT_X5_36, dX5_readInt_10, dX5_readInt_12, dX5_readInt_13, dX5_readInt_14, xX5_readIntE_c85, xX5_readIntE_n85, dX5_readInt_17, xX5_readIntE_t17, dX5_readInt_20, dX5_readInt_21, dX5_readInt_22, dX5_readInt_23, dX5_readInt_24, xX5_readIntE_t24, dX5_readInt_27, dX5_readInt_28, dX5_readInt_29, xX5_readIntE_t29, dX5_readInt_32, dX5_readInt_33, dX5_readInt_34, dX5_readInt_36, xX5_readIntE_c77, xX5_readIntE_n77, dX5_readInt_39, dX5_readInt_40, dX5_readInt_41, dX5_readInt_42, xX5_readIntE_SH, xX5_readIntE_KF, xX5_readIntE_rt, xX5_readIntE_FT, xX5_readIntE_PT, xX5_readIntE_CT, xX5_readIntE_KT, xX5_readIntE_LT, xX5_readIntE_NT, o_aload_n, o_getfield, o_iconst, o_ifCond_ne, o_if_icmp_le, o_if_icmp_lt, o_iload, o_iload_n, o_invokevirtual, o_ireturn, o_istore, o_istore_n, o_l2i, SH_2, KF_2_5, KF_2_6, am_ty, am_vc, am_opt, am_cl, am_find, am_ldi, am_ldl, am_lda, am_v, am_1, am_1l, am_1a, am_2, am_2l, am_ix, am_ri, am_arr, am_pf, am_rc, am_mask, am_lg, am_av, am_nat, fv_0, fv_1, fv_2, fv_3, fw_0, fw_1, List.getElem?_cons_zero, List.getElem?_cons_succ, List.set_cons_zero, List.set_cons_succ, List.length_cons, List.length_nil, List.take_succ_cons, List.take_zero, List.drop_succ_cons, List.drop_zero, List.reverse_cons, List.reverse_nil, List.nil_append, List.cons_append, List.append_nil, List.map_cons, List.map_nil, List.sum_cons, List.sum_nil, Value.category, Option.toList_some, Option.toList_none, Nat.reduceAdd, Nat.reduceLT, Nat.reduceLeDiff, Nat.reduceEqDiff, Nat.reduceSub, Nat.add_zero, Nat.le_refl, Nat.zero_le, Int.reduceNeg, Int.reduceLE, Int.reduceLT, true_and, and_true, and_self, if_true, if_false, ite_true, ite_false, eq_self_iff_true, reduceIte, reduceCtorEq, not_false_eq_true, not_true_eq_false, or_true, true_or, or_false, false_or, Nat.lt_irrefl, Nat.zero_lt_succ]
  refine ⟨rfl, hB, b, Z, s, 2, hs, ⟨⟨by decide, by decide⟩, by decide, by decide, by decide, by decide, by decide⟩, rfl, fun τ g1 g2 => ?_⟩
  have hu1 := cU_sI hu g1 (by decide)
  have hI := sI_m (M' := riM) g1 (fun m hm => List.mem_append_left _ hm)
  try simp only [dX5_readInt_0, dX5_readInt_1, FT_X5_39, dX5_readInt_4, dX5_readInt_5, dX5_readInt_6, dX5_readInt_7, FT_X5_36, dX5_readInt_10, dX5_readInt_12, dX5_readInt_13, dX5_readInt_14, xX5_readIntE_c85, xX5_readIntE_n85, dX5_readInt_17, xX5_readIntE_t17, dX5_readInt_20, dX5_readInt_21, dX5_readInt_22, dX5_readInt_23, dX5_readInt_24, xX5_readIntE_t24, dX5_readInt_27, dX5_readInt_28, dX5_readInt_29, xX5_readIntE_t29, dX5_readInt_32, dX5_readInt_33, dX5_readInt_34, dX5_readInt_36, xX5_readIntE_c77, xX5_readIntE_n77, dX5_readInt_39, dX5_readInt_40, dX5_readInt_41, dX5_readInt_42, xX5_readIntE_SH, xX5_readIntE_KF, xX5_readIntE_rt, xX5_readIntE_FT, xX5_readIntE_PT, xX5_readIntE_CT, xX5_readIntE_KT, xX5_readIntE_LT, xX5_readIntE_NT, o_aload_n, o_getfield, o_iconst, o_ifCond_ne, o_if_icmp_le, o_if_icmp_lt, o_iload, o_iload_n, o_invokevirtual, o_ireturn, o_istore, o_istore_n, o_l2i, SH_2, KF_2_5, KF_2_6, am_ty, am_vc, am_opt, am_cl, am_find, am_ldi, am_ldl, am_lda, am_v, am_1, am_1l, am_1a, am_2, am_2l, am_ix, am_ri, am_arr, am_pf, am_rc, am_mask, am_lg, am_av, am_nat, fv_0, fv_1, fv_2, fv_3, fw_0, fw_1, List.getElem?_cons_zero, List.getElem?_cons_succ, List.set_cons_zero, List.set_cons_succ, List.length_cons, List.length_nil, List.take_succ_cons, List.take_zero, List.drop_succ_cons, List.drop_zero, List.reverse_cons, List.reverse_nil, List.nil_append, List.cons_append, List.append_nil, List.map_cons, List.map_nil, List.sum_cons, List.sum_nil, Value.category, Option.toList_some, Option.toList_none, Nat.reduceAdd, Nat.reduceLT, Nat.reduceLeDiff, Nat.reduceEqDiff, Nat.reduceSub, Nat.add_zero, Nat.le_refl, Nat.zero_le, Int.reduceNeg, Int.reduceLE, Int.reduceLT, true_and, and_true, and_self, if_true, if_false, ite_true, ite_false, eq_self_iff_true, reduceIte, reduceCtorEq, not_false_eq_true, not_true_eq_false, or_true, true_or, or_false, false_or, Nat.lt_irrefl, Nat.zero_lt_succ]
  cases s with
  | inr q =>
    have hP := h τ hI g2 hu1
    show AA _ _ _ _ _
    refine hA [] 4 _ _ _ _ _ ?_
    simp only [stT, stB]
    try simp only [dX5_readInt_0, dX5_readInt_1, FT_X5_39, dX5_readInt_4, dX5_readInt_5, dX5_readInt_6, dX5_readInt_7, FT_X5_36, dX5_readInt_10, dX5_readInt_12, dX5_readInt_13, dX5_readInt_14, xX5_readIntE_c85, xX5_readIntE_n85, dX5_readInt_17, xX5_readIntE_t17, dX5_readInt_20, dX5_readInt_21, dX5_readInt_22, dX5_readInt_23, dX5_readInt_24, xX5_readIntE_t24, dX5_readInt_27, dX5_readInt_28, dX5_readInt_29, xX5_readIntE_t29, dX5_readInt_32, dX5_readInt_33, dX5_readInt_34, dX5_readInt_36, xX5_readIntE_c77, xX5_readIntE_n77, dX5_readInt_39, dX5_readInt_40, dX5_readInt_41, dX5_readInt_42, xX5_readIntE_SH, xX5_readIntE_KF, xX5_readIntE_rt, xX5_readIntE_FT, xX5_readIntE_PT, xX5_readIntE_CT, xX5_readIntE_KT, xX5_readIntE_LT, xX5_readIntE_NT, o_aload_n, o_getfield, o_iconst, o_ifCond_ne, o_if_icmp_le, o_if_icmp_lt, o_iload, o_iload_n, o_invokevirtual, o_ireturn, o_istore, o_istore_n, o_l2i, SH_2, KF_2_5, KF_2_6, am_ty, am_vc, am_opt, am_cl, am_find, am_ldi, am_ldl, am_lda, am_v, am_1, am_1l, am_1a, am_2, am_2l, am_ix, am_ri, am_arr, am_pf, am_rc, am_mask, am_lg, am_av, am_nat, fv_0, fv_1, fv_2, fv_3, fw_0, fw_1, List.getElem?_cons_zero, List.getElem?_cons_succ, List.set_cons_zero, List.set_cons_succ, List.length_cons, List.length_nil, List.take_succ_cons, List.take_zero, List.drop_succ_cons, List.drop_zero, List.reverse_cons, List.reverse_nil, List.nil_append, List.cons_append, List.append_nil, List.map_cons, List.map_nil, List.sum_cons, List.sum_nil, Value.category, Option.toList_some, Option.toList_none, Nat.reduceAdd, Nat.reduceLT, Nat.reduceLeDiff, Nat.reduceEqDiff, Nat.reduceSub, Nat.add_zero, Nat.le_refl, Nat.zero_le, Int.reduceNeg, Int.reduceLE, Int.reduceLT, true_and, and_true, and_self, if_true, if_false, ite_true, ite_false, eq_self_iff_true, reduceIte, reduceCtorEq, not_false_eq_true, not_true_eq_false, or_true, true_or, or_false, false_or, Nat.lt_irrefl, Nat.zero_lt_succ]
    try simp (disch := omega) only [ii_0, ii_1, ii_t, ii_add, ii_sub, ii_mul, ii_lt, ii_le, ii_eq, ij_in, ii_c, Int.toNat_natCast, Int.toNat_zero, Int.reduceToNat, Int.reduceEq, Int.reduceNe, Int.reduceLE, Int.reduceLT, Int.reduceAdd, Int.reduceSub, Int.reduceMul, Int.reduceNeg, Nat.reduceLT, Nat.reduceAdd, Nat.reduceMul, not_false_eq_true, not_true_eq_false, true_and, and_true, and_self, false_and, and_false, true_implies, false_implies, implies_true, forall_const, if_true, if_false, ite_true, ite_false, reduceIte, eq_self_iff_true, Int.natCast_nonneg, Int.zero_add, Int.add_zero, pi_s, pi_n, on_2000, on_402, on_408, on_19, on_5, on_4]
    exact hP
  | inl t =>
    obtain ⟨v, ⟨t1, t2⟩, e3, e4, e5, e6, e7, e8⟩ := hs
    by_cases k2 : tK b Z t = 2
    · by_cases q4 : t = 400
      · have est : stT b Z 2 (.inl t) = .inr (2, tP b Z t) := by show (if tK b Z t = 2 then _ else _) = _; rw [if_pos k2, if_pos q4]
        have esp : spQ b Z x y (.inl t) u = (.inr (2, tP b Z t), u, x) := by show (if tK b Z t = 2 then _ else _) = _; rw [if_pos k2, if_pos q4]
        rw [est] at g2
        rw [esp] at h
        have hP := h τ hI g2 hu1
        rw [est]
        refine hA [] 4 _ _ _ _ _ ?_
        simp only [stB]
        try simp only [dX5_readInt_0, dX5_readInt_1, FT_X5_39, dX5_readInt_4, dX5_readInt_5, dX5_readInt_6, dX5_readInt_7, FT_X5_36, dX5_readInt_10, dX5_readInt_12, dX5_readInt_13, dX5_readInt_14, xX5_readIntE_c85, xX5_readIntE_n85, dX5_readInt_17, xX5_readIntE_t17, dX5_readInt_20, dX5_readInt_21, dX5_readInt_22, dX5_readInt_23, dX5_readInt_24, xX5_readIntE_t24, dX5_readInt_27, dX5_readInt_28, dX5_readInt_29, xX5_readIntE_t29, dX5_readInt_32, dX5_readInt_33, dX5_readInt_34, dX5_readInt_36, xX5_readIntE_c77, xX5_readIntE_n77, dX5_readInt_39, dX5_readInt_40, dX5_readInt_41, dX5_readInt_42, xX5_readIntE_SH, xX5_readIntE_KF, xX5_readIntE_rt, xX5_readIntE_FT, xX5_readIntE_PT, xX5_readIntE_CT, xX5_readIntE_KT, xX5_readIntE_LT, xX5_readIntE_NT, o_aload_n, o_getfield, o_iconst, o_ifCond_ne, o_if_icmp_le, o_if_icmp_lt, o_iload, o_iload_n, o_invokevirtual, o_ireturn, o_istore, o_istore_n, o_l2i, SH_2, KF_2_5, KF_2_6, am_ty, am_vc, am_opt, am_cl, am_find, am_ldi, am_ldl, am_lda, am_v, am_1, am_1l, am_1a, am_2, am_2l, am_ix, am_ri, am_arr, am_pf, am_rc, am_mask, am_lg, am_av, am_nat, fv_0, fv_1, fv_2, fv_3, fw_0, fw_1, List.getElem?_cons_zero, List.getElem?_cons_succ, List.set_cons_zero, List.set_cons_succ, List.length_cons, List.length_nil, List.take_succ_cons, List.take_zero, List.drop_succ_cons, List.drop_zero, List.reverse_cons, List.reverse_nil, List.nil_append, List.cons_append, List.append_nil, List.map_cons, List.map_nil, List.sum_cons, List.sum_nil, Value.category, Option.toList_some, Option.toList_none, Nat.reduceAdd, Nat.reduceLT, Nat.reduceLeDiff, Nat.reduceEqDiff, Nat.reduceSub, Nat.add_zero, Nat.le_refl, Nat.zero_le, Int.reduceNeg, Int.reduceLE, Int.reduceLT, true_and, and_true, and_self, if_true, if_false, ite_true, ite_false, eq_self_iff_true, reduceIte, reduceCtorEq, not_false_eq_true, not_true_eq_false, or_true, true_or, or_false, false_or, Nat.lt_irrefl, Nat.zero_lt_succ]
        try simp (disch := omega) only [ii_0, ii_1, ii_t, ii_add, ii_sub, ii_mul, ii_lt, ii_le, ii_eq, ij_in, ii_c, Int.toNat_natCast, Int.toNat_zero, Int.reduceToNat, Int.reduceEq, Int.reduceNe, Int.reduceLE, Int.reduceLT, Int.reduceAdd, Int.reduceSub, Int.reduceMul, Int.reduceNeg, Nat.reduceLT, Nat.reduceAdd, Nat.reduceMul, not_false_eq_true, not_true_eq_false, true_and, and_true, and_self, false_and, and_false, true_implies, false_implies, implies_true, forall_const, if_true, if_false, ite_true, ite_false, reduceIte, eq_self_iff_true, Int.natCast_nonneg, Int.zero_add, Int.add_zero, pi_s, pi_n, on_2000, on_402, on_408, on_19, on_5, on_4]
        exact hP
      · have est : stT b Z 2 (.inl t) = .inl (t + 1) := by show (if tK b Z t = 2 then _ else _) = _; rw [if_pos k2, if_neg q4]
        have esp : spQ b Z x y (.inl t) u = (.inl (t + 1), (if tV b Z t < x ∨ y < tV b Z t then nt u 5 (tP b Z t) else u), (if tV b Z t < x ∨ y < tV b Z t then x else tV b Z t)) := by show (if tK b Z t = 2 then _ else _) = _; rw [if_pos k2, if_neg q4]
        rw [est] at g2
        rw [esp] at h
        have e6' := e6 k2
        have vb := tV_b k2
        rw [est]
        rw [e6', i64_32, e5]
        have at32 : (tV b Z t < x ∨ y < tV b Z t) → AA 32 [some (.ref 2), some (.int (Int32.ofInt x)), some (.int (Int32.ofInt y)), some (.int (Int32.ofInt (tV b Z t))), some (.int (Int32.ofInt (tP b Z t)))] [] 92 τ := by
          intro w
          rw [if_pos w, if_pos w] at h
          refine hA [] 4 _ _ _ _ _ ?_
          try simp only [dX5_readInt_0, dX5_readInt_1, FT_X5_39, dX5_readInt_4, dX5_readInt_5, dX5_readInt_6, dX5_readInt_7, FT_X5_36, dX5_readInt_10, dX5_readInt_12, dX5_readInt_13, dX5_readInt_14, xX5_readIntE_c85, xX5_readIntE_n85, dX5_readInt_17, xX5_readIntE_t17, dX5_readInt_20, dX5_readInt_21, dX5_readInt_22, dX5_readInt_23, dX5_readInt_24, xX5_readIntE_t24, dX5_readInt_27, dX5_readInt_28, dX5_readInt_29, xX5_readIntE_t29, dX5_readInt_32, dX5_readInt_33, dX5_readInt_34, dX5_readInt_36, xX5_readIntE_c77, xX5_readIntE_n77, dX5_readInt_39, dX5_readInt_40, dX5_readInt_41, dX5_readInt_42, xX5_readIntE_SH, xX5_readIntE_KF, xX5_readIntE_rt, xX5_readIntE_FT, xX5_readIntE_PT, xX5_readIntE_CT, xX5_readIntE_KT, xX5_readIntE_LT, xX5_readIntE_NT, o_aload_n, o_getfield, o_iconst, o_ifCond_ne, o_if_icmp_le, o_if_icmp_lt, o_iload, o_iload_n, o_invokevirtual, o_ireturn, o_istore, o_istore_n, o_l2i, SH_2, KF_2_5, KF_2_6, am_ty, am_vc, am_opt, am_cl, am_find, am_ldi, am_ldl, am_lda, am_v, am_1, am_1l, am_1a, am_2, am_2l, am_ix, am_ri, am_arr, am_pf, am_rc, am_mask, am_lg, am_av, am_nat, fv_0, fv_1, fv_2, fv_3, fw_0, fw_1, List.getElem?_cons_zero, List.getElem?_cons_succ, List.set_cons_zero, List.set_cons_succ, List.length_cons, List.length_nil, List.take_succ_cons, List.take_zero, List.drop_succ_cons, List.drop_zero, List.reverse_cons, List.reverse_nil, List.nil_append, List.cons_append, List.append_nil, List.map_cons, List.map_nil, List.sum_cons, List.sum_nil, Value.category, Option.toList_some, Option.toList_none, Nat.reduceAdd, Nat.reduceLT, Nat.reduceLeDiff, Nat.reduceEqDiff, Nat.reduceSub, Nat.add_zero, Nat.le_refl, Nat.zero_le, Int.reduceNeg, Int.reduceLE, Int.reduceLT, true_and, and_true, and_self, if_true, if_false, ite_true, ite_false, eq_self_iff_true, reduceIte, reduceCtorEq, not_false_eq_true, not_true_eq_false, or_true, true_or, or_false, false_or, Nat.lt_irrefl, Nat.zero_lt_succ]
          refine ⟨rfl, g1.1, u, 5, tP b Z t, hu1, ⟨by decide, by decide⟩, rfl, fun υ j1 j2 => ?_⟩
          have hP := h υ (sI_t hI (sI_m (M' := riM) j1 (fun m hm => List.mem_append_right _ hm))) (cST_sI g2 j1 (by decide) (by decide)) j2
          try simp only [dX5_readInt_0, dX5_readInt_1, FT_X5_39, dX5_readInt_4, dX5_readInt_5, dX5_readInt_6, dX5_readInt_7, FT_X5_36, dX5_readInt_10, dX5_readInt_12, dX5_readInt_13, dX5_readInt_14, xX5_readIntE_c85, xX5_readIntE_n85, dX5_readInt_17, xX5_readIntE_t17, dX5_readInt_20, dX5_readInt_21, dX5_readInt_22, dX5_readInt_23, dX5_readInt_24, xX5_readIntE_t24, dX5_readInt_27, dX5_readInt_28, dX5_readInt_29, xX5_readIntE_t29, dX5_readInt_32, dX5_readInt_33, dX5_readInt_34, dX5_readInt_36, xX5_readIntE_c77, xX5_readIntE_n77, dX5_readInt_39, dX5_readInt_40, dX5_readInt_41, dX5_readInt_42, xX5_readIntE_SH, xX5_readIntE_KF, xX5_readIntE_rt, xX5_readIntE_FT, xX5_readIntE_PT, xX5_readIntE_CT, xX5_readIntE_KT, xX5_readIntE_LT, xX5_readIntE_NT, o_aload_n, o_getfield, o_iconst, o_ifCond_ne, o_if_icmp_le, o_if_icmp_lt, o_iload, o_iload_n, o_invokevirtual, o_ireturn, o_istore, o_istore_n, o_l2i, SH_2, KF_2_5, KF_2_6, am_ty, am_vc, am_opt, am_cl, am_find, am_ldi, am_ldl, am_lda, am_v, am_1, am_1l, am_1a, am_2, am_2l, am_ix, am_ri, am_arr, am_pf, am_rc, am_mask, am_lg, am_av, am_nat, fv_0, fv_1, fv_2, fv_3, fw_0, fw_1, List.getElem?_cons_zero, List.getElem?_cons_succ, List.set_cons_zero, List.set_cons_succ, List.length_cons, List.length_nil, List.take_succ_cons, List.take_zero, List.drop_succ_cons, List.drop_zero, List.reverse_cons, List.reverse_nil, List.nil_append, List.cons_append, List.append_nil, List.map_cons, List.map_nil, List.sum_cons, List.sum_nil, Value.category, Option.toList_some, Option.toList_none, Nat.reduceAdd, Nat.reduceLT, Nat.reduceLeDiff, Nat.reduceEqDiff, Nat.reduceSub, Nat.add_zero, Nat.le_refl, Nat.zero_le, Int.reduceNeg, Int.reduceLE, Int.reduceLT, true_and, and_true, and_self, if_true, if_false, ite_true, ite_false, eq_self_iff_true, reduceIte, reduceCtorEq, not_false_eq_true, not_true_eq_false, or_true, true_or, or_false, false_or, Nat.lt_irrefl, Nat.zero_lt_succ]
          refine hA [] 2 _ _ _ _ _ ?_
          try simp only [dX5_readInt_0, dX5_readInt_1, FT_X5_39, dX5_readInt_4, dX5_readInt_5, dX5_readInt_6, dX5_readInt_7, FT_X5_36, dX5_readInt_10, dX5_readInt_12, dX5_readInt_13, dX5_readInt_14, xX5_readIntE_c85, xX5_readIntE_n85, dX5_readInt_17, xX5_readIntE_t17, dX5_readInt_20, dX5_readInt_21, dX5_readInt_22, dX5_readInt_23, dX5_readInt_24, xX5_readIntE_t24, dX5_readInt_27, dX5_readInt_28, dX5_readInt_29, xX5_readIntE_t29, dX5_readInt_32, dX5_readInt_33, dX5_readInt_34, dX5_readInt_36, xX5_readIntE_c77, xX5_readIntE_n77, dX5_readInt_39, dX5_readInt_40, dX5_readInt_41, dX5_readInt_42, xX5_readIntE_SH, xX5_readIntE_KF, xX5_readIntE_rt, xX5_readIntE_FT, xX5_readIntE_PT, xX5_readIntE_CT, xX5_readIntE_KT, xX5_readIntE_LT, xX5_readIntE_NT, o_aload_n, o_getfield, o_iconst, o_ifCond_ne, o_if_icmp_le, o_if_icmp_lt, o_iload, o_iload_n, o_invokevirtual, o_ireturn, o_istore, o_istore_n, o_l2i, SH_2, KF_2_5, KF_2_6, am_ty, am_vc, am_opt, am_cl, am_find, am_ldi, am_ldl, am_lda, am_v, am_1, am_1l, am_1a, am_2, am_2l, am_ix, am_ri, am_arr, am_pf, am_rc, am_mask, am_lg, am_av, am_nat, fv_0, fv_1, fv_2, fv_3, fw_0, fw_1, List.getElem?_cons_zero, List.getElem?_cons_succ, List.set_cons_zero, List.set_cons_succ, List.length_cons, List.length_nil, List.take_succ_cons, List.take_zero, List.drop_succ_cons, List.drop_zero, List.reverse_cons, List.reverse_nil, List.nil_append, List.cons_append, List.append_nil, List.map_cons, List.map_nil, List.sum_cons, List.sum_nil, Value.category, Option.toList_some, Option.toList_none, Nat.reduceAdd, Nat.reduceLT, Nat.reduceLeDiff, Nat.reduceEqDiff, Nat.reduceSub, Nat.add_zero, Nat.le_refl, Nat.zero_le, Int.reduceNeg, Int.reduceLE, Int.reduceLT, true_and, and_true, and_self, if_true, if_false, ite_true, ite_false, eq_self_iff_true, reduceIte, reduceCtorEq, not_false_eq_true, not_true_eq_false, or_true, true_or, or_false, false_or, Nat.lt_irrefl, Nat.zero_lt_succ]
          exact hP
        refine hA [(32, 5)] 12 _ _ _ _ _ ?_
        simp only [stB]
        try simp only [dX5_readInt_0, dX5_readInt_1, FT_X5_39, dX5_readInt_4, dX5_readInt_5, dX5_readInt_6, dX5_readInt_7, FT_X5_36, dX5_readInt_10, dX5_readInt_12, dX5_readInt_13, dX5_readInt_14, xX5_readIntE_c85, xX5_readIntE_n85, dX5_readInt_17, xX5_readIntE_t17, dX5_readInt_20, dX5_readInt_21, dX5_readInt_22, dX5_readInt_23, dX5_readInt_24, xX5_readIntE_t24, dX5_readInt_27, dX5_readInt_28, dX5_readInt_29, xX5_readIntE_t29, dX5_readInt_32, dX5_readInt_33, dX5_readInt_34, dX5_readInt_36, xX5_readIntE_c77, xX5_readIntE_n77, dX5_readInt_39, dX5_readInt_40, dX5_readInt_41, dX5_readInt_42, xX5_readIntE_SH, xX5_readIntE_KF, xX5_readIntE_rt, xX5_readIntE_FT, xX5_readIntE_PT, xX5_readIntE_CT, xX5_readIntE_KT, xX5_readIntE_LT, xX5_readIntE_NT, o_aload_n, o_getfield, o_iconst, o_ifCond_ne, o_if_icmp_le, o_if_icmp_lt, o_iload, o_iload_n, o_invokevirtual, o_ireturn, o_istore, o_istore_n, o_l2i, SH_2, KF_2_5, KF_2_6, am_ty, am_vc, am_opt, am_cl, am_find, am_ldi, am_ldl, am_lda, am_v, am_1, am_1l, am_1a, am_2, am_2l, am_ix, am_ri, am_arr, am_pf, am_rc, am_mask, am_lg, am_av, am_nat, fv_0, fv_1, fv_2, fv_3, fw_0, fw_1, List.getElem?_cons_zero, List.getElem?_cons_succ, List.set_cons_zero, List.set_cons_succ, List.length_cons, List.length_nil, List.take_succ_cons, List.take_zero, List.drop_succ_cons, List.drop_zero, List.reverse_cons, List.reverse_nil, List.nil_append, List.cons_append, List.append_nil, List.map_cons, List.map_nil, List.sum_cons, List.sum_nil, Value.category, Option.toList_some, Option.toList_none, Nat.reduceAdd, Nat.reduceLT, Nat.reduceLeDiff, Nat.reduceEqDiff, Nat.reduceSub, Nat.add_zero, Nat.le_refl, Nat.zero_le, Int.reduceNeg, Int.reduceLE, Int.reduceLT, true_and, and_true, and_self, if_true, if_false, ite_true, ite_false, eq_self_iff_true, reduceIte, reduceCtorEq, not_false_eq_true, not_true_eq_false, or_true, true_or, or_false, false_or, Nat.lt_irrefl, Nat.zero_lt_succ]
        try simp (disch := omega) only [ii_0, ii_1, ii_t, ii_add, ii_sub, ii_mul, ii_lt, ii_le, ii_eq, ij_in, ii_c, Int.toNat_natCast, Int.toNat_zero, Int.reduceToNat, Int.reduceEq, Int.reduceNe, Int.reduceLE, Int.reduceLT, Int.reduceAdd, Int.reduceSub, Int.reduceMul, Int.reduceNeg, Nat.reduceLT, Nat.reduceAdd, Nat.reduceMul, not_false_eq_true, not_true_eq_false, true_and, and_true, and_self, false_and, and_false, true_implies, false_implies, implies_true, forall_const, if_true, if_false, ite_true, ite_false, reduceIte, eq_self_iff_true, Int.natCast_nonneg, Int.zero_add, Int.add_zero, pi_s, pi_n, on_2000, on_402, on_408, on_19, on_5, on_4]
        refine ⟨fun w => at32 (Or.inl w), fun w1 => ⟨fun w => ?_, fun w => at32 (Or.inr (by omega))⟩⟩
        rw [if_neg (by omega), if_neg (by omega)] at h
        exact h τ hI g2 hu1
    · have est : stT b Z 2 (.inl t) = .inr (1, tP b Z t) := by show (if tK b Z t = 2 then _ else _) = _; rw [if_neg k2]
      have esp : spQ b Z x y (.inl t) u = (.inr (1, tP b Z t), u, x) := by show (if tK b Z t = 2 then _ else _) = _; rw [if_neg k2]
      rw [est] at g2
      rw [esp] at h
      have hP := h τ hI g2 hu1
      rw [est]
      refine hA [] 4 _ _ _ _ _ ?_
      simp only [stB]
      try simp only [dX5_readInt_0, dX5_readInt_1, FT_X5_39, dX5_readInt_4, dX5_readInt_5, dX5_readInt_6, dX5_readInt_7, FT_X5_36, dX5_readInt_10, dX5_readInt_12, dX5_readInt_13, dX5_readInt_14, xX5_readIntE_c85, xX5_readIntE_n85, dX5_readInt_17, xX5_readIntE_t17, dX5_readInt_20, dX5_readInt_21, dX5_readInt_22, dX5_readInt_23, dX5_readInt_24, xX5_readIntE_t24, dX5_readInt_27, dX5_readInt_28, dX5_readInt_29, xX5_readIntE_t29, dX5_readInt_32, dX5_readInt_33, dX5_readInt_34, dX5_readInt_36, xX5_readIntE_c77, xX5_readIntE_n77, dX5_readInt_39, dX5_readInt_40, dX5_readInt_41, dX5_readInt_42, xX5_readIntE_SH, xX5_readIntE_KF, xX5_readIntE_rt, xX5_readIntE_FT, xX5_readIntE_PT, xX5_readIntE_CT, xX5_readIntE_KT, xX5_readIntE_LT, xX5_readIntE_NT, o_aload_n, o_getfield, o_iconst, o_ifCond_ne, o_if_icmp_le, o_if_icmp_lt, o_iload, o_iload_n, o_invokevirtual, o_ireturn, o_istore, o_istore_n, o_l2i, SH_2, KF_2_5, KF_2_6, am_ty, am_vc, am_opt, am_cl, am_find, am_ldi, am_ldl, am_lda, am_v, am_1, am_1l, am_1a, am_2, am_2l, am_ix, am_ri, am_arr, am_pf, am_rc, am_mask, am_lg, am_av, am_nat, fv_0, fv_1, fv_2, fv_3, fw_0, fw_1, List.getElem?_cons_zero, List.getElem?_cons_succ, List.set_cons_zero, List.set_cons_succ, List.length_cons, List.length_nil, List.take_succ_cons, List.take_zero, List.drop_succ_cons, List.drop_zero, List.reverse_cons, List.reverse_nil, List.nil_append, List.cons_append, List.append_nil, List.map_cons, List.map_nil, List.sum_cons, List.sum_nil, Value.category, Option.toList_some, Option.toList_none, Nat.reduceAdd, Nat.reduceLT, Nat.reduceLeDiff, Nat.reduceEqDiff, Nat.reduceSub, Nat.add_zero, Nat.le_refl, Nat.zero_le, Int.reduceNeg, Int.reduceLE, Int.reduceLT, true_and, and_true, and_self, if_true, if_false, ite_true, ite_false, eq_self_iff_true, reduceIte, reduceCtorEq, not_false_eq_true, not_true_eq_false, or_true, true_or, or_false, false_or, Nat.lt_irrefl, Nat.zero_lt_succ]
      try simp (disch := omega) only [ii_0, ii_1, ii_t, ii_add, ii_sub, ii_mul, ii_lt, ii_le, ii_eq, ij_in, ii_c, Int.toNat_natCast, Int.toNat_zero, Int.reduceToNat, Int.reduceEq, Int.reduceNe, Int.reduceLE, Int.reduceLT, Int.reduceAdd, Int.reduceSub, Int.reduceMul, Int.reduceNeg, Nat.reduceLT, Nat.reduceAdd, Nat.reduceMul, not_false_eq_true, not_true_eq_false, true_and, and_true, and_self, false_and, and_false, true_implies, false_implies, implies_true, forall_const, if_true, if_false, ite_true, ite_false, reduceIte, eq_self_iff_true, Int.natCast_nonneg, Int.zero_add, Int.add_zero, pi_s, pi_n, on_2000, on_402, on_408, on_19, on_5, on_4]
      exact hP
theorem mX5_readIntE (l : Launch) : am_M l TB NB vwCl SH KF yX5_readInt cX5_readInt 5 (some .int) 4 0 0 sX5_readIntE := by
  refine am_M.of xX5_readIntE (by decide +kernel) TB_good GF rfl rfl rfl (by decide) ⟨FT_X5_ok, PT_X5_ok _, CT_X5_ok, KT_X5_ok, LT_X5_ok, NT_X5_ok, ?_⟩ ptX5_readIntE
  exact List.forall_mem_cons.mpr ⟨⟨yX5_note, cX5_note, 3, none, 2, 2, mX5_noteE l, by decide, by decide, tk_615, tk_104, ⟨by decide +kernel, by decide +kernel, by decide +kernel⟩, rfl, tk_612, tk_614, ⟨(RX5, TX5, 11), rfl, tb_at 8 (by decide +kernel) (by decide +kernel)⟩⟩, List.forall_mem_cons.mpr ⟨⟨yX5_take, cX5_take, 2, (some .boolean), 3, 1, mX5_takeE l, by decide, by decide, tk_603, tk_104, ⟨by decide +kernel, by decide +kernel, by decide +kernel⟩, rfl, tk_600, tk_602, ⟨(RX5, TX5, 11), rfl, tb_at 5 (by decide +kernel) (by decide +kernel)⟩⟩, fun _ h => absurd h List.not_mem_nil⟩⟩

/-! THE CLASS'S SENTENCES: a name, a person. Printed from wip/am/chk/hand/y2.in. -/
theorem dX5_readName_0 : decode cX5_readName 0 = .ok (.aload_n 0, 1) := dk_ok (by decide +kernel)
theorem dX5_readName_1 : decode cX5_readName 1 = .ok (.getfield 39, 3) := dk_ok (by decide +kernel)
theorem dX5_readName_4 : decode cX5_readName 4 = .ok (.lstore_n 1, 1) := dk_ok (by decide +kernel)
theorem dX5_readName_5 : decode cX5_readName 5 = .ok (.aload_n 0, 1) := dk_ok (by decide +kernel)
theorem dX5_readName_6 : decode cX5_readName 6 = .ok (.getfield 36, 3) := dk_ok (by decide +kernel)
theorem dX5_readName_9 : decode cX5_readName 9 = .ok (.istore_n 3, 1) := dk_ok (by decide +kernel)
theorem dX5_readName_10 : decode cX5_readName 10 = .ok (.aload_n 0, 1) := dk_ok (by decide +kernel)
theorem dX5_readName_11 : decode cX5_readName 11 = .ok (.getfield 12, 3) := dk_ok (by decide +kernel)
theorem dX5_readName_14 : decode cX5_readName 14 = .ok (.getfield 105, 3) := dk_ok (by decide +kernel)
theorem dX5_readName_17 : decode cX5_readName 17 = .ok (.istore 4, 2) := dk_ok (by decide +kernel)
theorem dX5_readName_19 : decode cX5_readName 19 = .ok (.aload_n 0, 1) := dk_ok (by decide +kernel)
theorem dX5_readName_20 : decode cX5_readName 20 = .ok (.iconst 2, 1) := dk_ok (by decide +kernel)
theorem dX5_readName_21 : decode cX5_readName 21 = .ok (.invokevirtual 85, 3) := dk_ok (by decide +kernel)
theorem dX5_readName_24 : decode cX5_readName 24 = .ok (.ifCond .eq 18, 3) := dk_ok (by decide +kernel)
theorem dX5_readName_27 : decode cX5_readName 27 = .ok (.iload 4, 2) := dk_ok (by decide +kernel)
theorem dX5_readName_29 : decode cX5_readName 29 = .ok (.ifCond .lt 13, 3) := dk_ok (by decide +kernel)
theorem dX5_readName_32 : decode cX5_readName 32 = .ok (.iload 4, 2) := dk_ok (by decide +kernel)
theorem dX5_readName_34 : decode cX5_readName 34 = .ok (.aload_n 0, 1) := dk_ok (by decide +kernel)
theorem dX5_readName_35 : decode cX5_readName 35 = .ok (.getfield 25, 3) := dk_ok (by decide +kernel)
theorem dX5_readName_38 : decode cX5_readName 38 = .ok (.arraylength, 1) := dk_ok (by decide +kernel)
theorem dX5_readName_39 : decode cX5_readName 39 = .ok (.if_icmp .lt 4, 3) := dk_ok (by decide +kernel)
theorem dX5_readName_42 : decode cX5_readName 42 = .ok (.return_, 1) := dk_ok (by decide +kernel)
theorem dX5_readName_43 : decode cX5_readName 43 = .ok (.iconst 0, 1) := dk_ok (by decide +kernel)
theorem dX5_readName_44 : decode cX5_readName 44 = .ok (.istore 5, 2) := dk_ok (by decide +kernel)
theorem dX5_readName_46 : decode cX5_readName 46 = .ok (.iload 5, 2) := dk_ok (by decide +kernel)
theorem dX5_readName_48 : decode cX5_readName 48 = .ok (.iload 4, 2) := dk_ok (by decide +kernel)
theorem dX5_readName_50 : decode cX5_readName 50 = .ok (.if_icmp .ge 27, 3) := dk_ok (by decide +kernel)
theorem dX5_readName_53 : decode cX5_readName 53 = .ok (.aload_n 0, 1) := dk_ok (by decide +kernel)
theorem dX5_readName_54 : decode cX5_readName 54 = .ok (.getfield 25, 3) := dk_ok (by decide +kernel)
theorem dX5_readName_57 : decode cX5_readName 57 = .ok (.iload 5, 2) := dk_ok (by decide +kernel)
theorem dX5_readName_59 : decode cX5_readName 59 = .ok (.laload, 1) := dk_ok (by decide +kernel)
theorem dX5_readName_60 : decode cX5_readName 60 = .ok (.lload_n 1, 1) := dk_ok (by decide +kernel)
theorem dX5_readName_61 : decode cX5_readName 61 = .ok (.lcmp, 1) := dk_ok (by decide +kernel)
theorem dX5_readName_62 : decode cX5_readName 62 = .ok (.ifCond .ne 9, 3) := dk_ok (by decide +kernel)
theorem dX5_readName_65 : decode cX5_readName 65 = .ok (.aload_n 0, 1) := dk_ok (by decide +kernel)
theorem dX5_readName_66 : decode cX5_readName 66 = .ok (.iconst 3, 1) := dk_ok (by decide +kernel)
theorem dX5_readName_67 : decode cX5_readName 67 = .ok (.iload_n 3, 1) := dk_ok (by decide +kernel)
theorem dX5_readName_68 : decode cX5_readName 68 = .ok (.invokevirtual 77, 3) := dk_ok (by decide +kernel)
theorem dX5_readName_71 : decode cX5_readName 71 = .ok (.iinc 5 1, 3) := dk_ok (by decide +kernel)
theorem dX5_readName_74 : decode cX5_readName 74 = .ok (.goto (-28), 3) := dk_ok (by decide +kernel)
theorem dX5_readName_77 : decode cX5_readName 77 = .ok (.aload_n 0, 1) := dk_ok (by decide +kernel)
theorem dX5_readName_78 : decode cX5_readName 78 = .ok (.getfield 25, 3) := dk_ok (by decide +kernel)
theorem dX5_readName_81 : decode cX5_readName 81 = .ok (.iload 4, 2) := dk_ok (by decide +kernel)
theorem dX5_readName_83 : decode cX5_readName 83 = .ok (.lload_n 1, 1) := dk_ok (by decide +kernel)
theorem dX5_readName_84 : decode cX5_readName 84 = .ok (.lastore, 1) := dk_ok (by decide +kernel)
theorem dX5_readName_85 : decode cX5_readName 85 = .ok (.return_, 1) := dk_ok (by decide +kernel)

/-- the names told so far -/
def cN (σ : am_S) (ns : List Int64) : Prop := σ.1 3 1 = Int32.ofInt (ns.length : Int) ∧ ns.length ≤ 5 ∧ ∀ i, i < ns.length → σ.2 19 i = ns.getD i 0
def rnM : sa_M := riM ++ [(19, 0, 5)]
theorem nm_fr {M : sa_M} {σ τ : am_S} (g : sI BB SH M σ τ) (hM : M.all (fun m => decide (m.1 ≠ 19)) = true) (i : Nat) : τ.2 19 i = σ.2 19 i := (g.2 _ _ (fun m hm hh => by
  have q := List.all_eq_true.mp hM m hm
  simp only [decide_eq_true_eq] at q
  exact q hh.1)).2
theorem nt_nt (u : UT) (p : Int) : nt (nt u 3 p) 3 p = nt u 3 p := by
  unfold nt
  by_cases q : u.1 = 0
  · rw [if_pos q, if_neg (show ¬ (3 : Int) = 0 by decide)]
  · rw [if_neg q, if_neg q]
theorem drop_cons {ns : List Int64} {m : Nat} (h : m < ns.length) : ns.drop m = ns.getD m 0 :: ns.drop (m + 1) := by
  rw [List.drop_eq_getElem_cons h, List.getD_eq_getElem?_getD, List.getElem?_eq_getElem h]
  rfl
def sX5_readNameE : am_Sp := fun as n σ post => n = 92 ∧ sb_ok BB SH σ ∧ ∃ (b : Nat → Int) (Z : Nat) (s : ST) (u : UT) (ns : List Int64), cST b Z σ s ∧ cU σ u ∧ (∀ t, s = .inl t → cN σ ns ∧ ns.length < 5) ∧ as = [.ref 2] ∧ ∀ τ, sI BB SH rnM σ τ → cST b Z τ (spN b Z ns s u).1 → cU τ (spN b Z ns s u).2.1 → (∀ t, (spN b Z ns s u).1 = .inl t → τ.2 19 ns.length = (spN b Z ns s u).2.2 ∧ ∀ i, i < ns.length → τ.2 19 i = ns.getD i 0) → post none τ
def xX5_readNameE : am_X := (SH, KF, none, FT_X5, PT_X5, CT_X5, KT_X5, LT_X5, NT_X5, [(77, 0, 3, 5, 0, 0, sX5_noteE), (85, 0, 2, 5, 0, 0, sX5_takeE)])
theorem xX5_readNameE_SH : am_SH xX5_readNameE = SH := rfl
theorem xX5_readNameE_KF : am_KF xX5_readNameE = KF := rfl
theorem xX5_readNameE_rt : am_rt xX5_readNameE = none := rfl
theorem xX5_readNameE_FT : am_FT xX5_readNameE = FT_X5 := rfl
theorem xX5_readNameE_PT : am_PT xX5_readNameE = PT_X5 := rfl
theorem xX5_readNameE_CT : am_CT xX5_readNameE = CT_X5 := rfl
theorem xX5_readNameE_KT : am_KT xX5_readNameE = KT_X5 := rfl
theorem xX5_readNameE_LT : am_LT xX5_readNameE = LT_X5 := rfl
theorem xX5_readNameE_NT : am_NT xX5_readNameE = NT_X5 := rfl
theorem xX5_readNameE_c77 : am_find (am_ML xX5_readNameE) 77 = some (0, 3, 5, 0, 0, sX5_noteE) := rfl
theorem xX5_readNameE_n77 : am_find NT_X5 77 = none := rfl
theorem xX5_readNameE_c85 : am_find (am_ML xX5_readNameE) 85 = some (0, 2, 5, 0, 0, sX5_takeE) := rfl
theorem xX5_readNameE_n85 : am_find NT_X5 85 = none := rfl
theorem xX5_readNameE_t24 (k : Nat → Prop) : am_tg 24 (18) k = k 42 := am_tg_eq (by decide)
theorem xX5_readNameE_t29 (k : Nat → Prop) : am_tg 29 (13) k = k 42 := am_tg_eq (by decide)
theorem xX5_readNameE_t39 (k : Nat → Prop) : am_tg 39 (4) k = k 43 := am_tg_eq (by decide)
theorem xX5_readNameE_t50 (k : Nat → Prop) : am_tg 50 (27) k = k 77 := am_tg_eq (by decide)
theorem xX5_readNameE_t62 (k : Nat → Prop) : am_tg 62 (9) k = k 71 := am_tg_eq (by decide)
theorem xX5_readNameE_t74 (k : Nat → Prop) : am_tg 74 (-28) k = k 46 := am_tg_eq (by decide)

set_option maxRecDepth 100000 in
theorem rn_46 {post : Option Value → am_S → Prop} {AA : Nat → List (Option Value) → List Value → Nat → am_S → Prop} (hA : ∀ cuts f pc ls stk n τ, am_vc cX5_readName xX5_readNameE (92 + 0) post AA cuts f pc ls stk n τ → AA pc ls stk n τ) {σ : am_S} {ns : List Int64} {x : Int64} {p : Int} {v : UT} {t' : Nat} {b : Nat → Int} {Z : Nat} (hl : ns.length < 5) (h : ∀ τ, sI BB SH rnM σ τ → cST b Z τ (.inl t') → cU τ v → (τ.2 19 ns.length = x ∧ ∀ i, i < ns.length → τ.2 19 i = ns.getD i 0) → post none τ) : ∀ m : Nat, m ≤ 5 → m ≤ ns.length → ∀ (τ : am_S) (u : UT), sI BB SH rnM σ τ → cST b Z τ (.inl t') → cU τ u → (∀ i, i < ns.length → τ.2 19 i = ns.getD i 0) → (if x ∈ ns.drop m then nt u 3 p else u) = v → AA 46 [some (.ref 2), some (.long x), none, some (.int (Int32.ofInt p)), some (.int (Int32.ofInt (ns.length : Int))), some (.int (Int32.ofInt (m : Int)))] [] 92 τ := by
  refine am_up 5 fun m hm ih hk τ u i1 hs hu hn hv => ?_
  refine hA [(77, 6), (53, 6)] 6 _ _ _ _ _ ?_
  try simp only [dX5_readName_0, dX5_readName_1, FT_X5_39, dX5_readName_4, dX5_readName_5, dX5_readName_6, FT_X5_36, dX5_readName_9, dX5_readName_10, dX5_readName_11, FT_X5_12, dX5_readName_14, FT_X5_105, dX5_readName_17, dX5_readName_19, dX5_readName_20, dX5_readName_21, xX5_readNameE_c85, xX5_readNameE_n85, dX5_readName_24, xX5_readNameE_t24, dX5_readName_27, dX5_readName_29, xX5_readNameE_t29, dX5_readName_32, dX5_readName_34, dX5_readName_35, FT_X5_25, dX5_readName_38, dX5_readName_39, xX5_readNameE_t39, dX5_readName_42, dX5_readName_43, dX5_readName_44, dX5_readName_46, dX5_readName_48, dX5_readName_50, xX5_readNameE_t50, dX5_readName_53, dX5_readName_54, dX5_readName_57, dX5_readName_59, dX5_readName_60, dX5_readName_61, dX5_readName_62, xX5_readNameE_t62, dX5_readName_65, dX5_readName_66, dX5_readName_67, dX5_readName_68, xX5_readNameE_c77, xX5_readNameE_n77, dX5_readName_71, dX5_readName_74, xX5_readNameE_t74, dX5_readName_77, dX5_readName_78, dX5_readName_81, dX5_readName_83, dX5_readName_84, dX5_readName_85, xX5_readNameE_SH, xX5_readNameE_KF, xX5_readNameE_rt, xX5_readNameE_FT, xX5_readNameE_PT, xX5_readNameE_CT, xX5_readNameE_KT, xX5_readNameE_LT, xX5_readNameE_NT, o_aload_n, o_arraylength, o_getfield, o_goto, o_iconst, o_ifCond_eq, o_ifCond_lt, o_ifCond_ne, o_if_icmp_ge, o_if_icmp_lt, o_iinc, o_iload, o_iload_n, o_invokevirtual, o_istore, o_istore_n, o_laload, o_lastore, o_lcmp, o_lload_n, o_lstore_n, o_return_, SH_2, KF_2_0, SH_3, KF_2_2, SH_19, KF_2_5, KF_2_6, KF_3_1, SH_20, KF_20_1, am_ty, am_vc, am_opt, am_cl, am_find, am_ldi, am_ldl, am_lda, am_v, am_1, am_1l, am_1a, am_2, am_2l, am_ix, am_ri, am_arr, am_pf, am_rc, am_mask, am_lg, am_av, am_nat, fv_0, fv_1, fv_2, fv_3, fw_0, fw_1, List.getElem?_cons_zero, List.getElem?_cons_succ, List.set_cons_zero, List.set_cons_succ, List.length_cons, List.length_nil, List.take_succ_cons, List.take_zero, List.drop_succ_cons, List.drop_zero, List.reverse_cons, List.reverse_nil, List.nil_append, List.cons_append, List.append_nil, List.map_cons, List.map_nil, List.sum_cons, List.sum_nil, Value.category, Option.toList_some, Option.toList_none, Nat.reduceAdd, Nat.reduceLT, Nat.reduceLeDiff, Nat.reduceEqDiff, Nat.reduceSub, Nat.add_zero, Nat.le_refl, Nat.zero_le, Int.reduceNeg, Int.reduceLE, Int.reduceLT, true_and, and_true, and_self, if_true, if_false, ite_true, ite_false, eq_self_iff_true, reduceIte, reduceCtorEq, not_false_eq_true, not_true_eq_false, or_true, true_or, or_false, false_or, Nat.lt_irrefl, Nat.zero_lt_succ]
  try simp (disch := omega) only [ii_0, ii_1, ii_t, ii_add, ii_sub, ii_mul, ii_lt, ii_le, ii_eq, ij_in, ii_c, Int.toNat_natCast, Int.toNat_zero, Int.reduceToNat, Int.reduceEq, Int.reduceNe, Int.reduceLE, Int.reduceLT, Int.reduceAdd, Int.reduceSub, Int.reduceMul, Int.reduceNeg, Nat.reduceLT, Nat.reduceAdd, Nat.reduceMul, not_false_eq_true, not_true_eq_false, true_and, and_true, and_self, false_and, and_false, true_implies, false_implies, implies_true, forall_const, if_true, if_false, ite_true, ite_false, reduceIte, eq_self_iff_true, Int.natCast_nonneg, Int.zero_add, Int.add_zero, pi_s, pi_n, on_2000, on_402, on_408, on_19, on_5, on_4]
  have c1 : m < ns.length → AA 53 [some (.ref 2), some (.long x), none, some (.int (Int32.ofInt p)), some (.int (Int32.ofInt (ns.length : Int))), some (.int (Int32.ofInt (m : Int)))] [] 92 τ := by
    intro q
    have hi := ih (by omega) (by omega)
    rw [drop_cons q] at hv
    have hnm := hn m q
    have at71 : ∀ υ w, sI BB SH rnM σ υ → cST b Z υ (.inl t') → cU υ w → (∀ i, i < ns.length → υ.2 19 i = ns.getD i 0) → (if x ∈ ns.drop (m + 1) then nt w 3 p else w) = v → AA 71 [some (.ref 2), some (.long x), none, some (.int (Int32.ofInt p)), some (.int (Int32.ofInt (ns.length : Int))), some (.int (Int32.ofInt (m : Int)))] [] 92 υ := by
      intro υ w j1 j2 j3 j4 j5
      refine hA [(46, 6)] 4 _ _ _ _ _ ?_
      try simp only [dX5_readName_0, dX5_readName_1, FT_X5_39, dX5_readName_4, dX5_readName_5, dX5_readName_6, FT_X5_36, dX5_readName_9, dX5_readName_10, dX5_readName_11, FT_X5_12, dX5_readName_14, FT_X5_105, dX5_readName_17, dX5_readName_19, dX5_readName_20, dX5_readName_21, xX5_readNameE_c85, xX5_readNameE_n85, dX5_readName_24, xX5_readNameE_t24, dX5_readName_27, dX5_readName_29, xX5_readNameE_t29, dX5_readName_32, dX5_readName_34, dX5_readName_35, FT_X5_25, dX5_readName_38, dX5_readName_39, xX5_readNameE_t39, dX5_readName_42, dX5_readName_43, dX5_readName_44, dX5_readName_46, dX5_readName_48, dX5_readName_50, xX5_readNameE_t50, dX5_readName_53, dX5_readName_54, dX5_readName_57, dX5_readName_59, dX5_readName_60, dX5_readName_61, dX5_readName_62, xX5_readNameE_t62, dX5_readName_65, dX5_readName_66, dX5_readName_67, dX5_readName_68, xX5_readNameE_c77, xX5_readNameE_n77, dX5_readName_71, dX5_readName_74, xX5_readNameE_t74, dX5_readName_77, dX5_readName_78, dX5_readName_81, dX5_readName_83, dX5_readName_84, dX5_readName_85, xX5_readNameE_SH, xX5_readNameE_KF, xX5_readNameE_rt, xX5_readNameE_FT, xX5_readNameE_PT, xX5_readNameE_CT, xX5_readNameE_KT, xX5_readNameE_LT, xX5_readNameE_NT, o_aload_n, o_arraylength, o_getfield, o_goto, o_iconst, o_ifCond_eq, o_ifCond_lt, o_ifCond_ne, o_if_icmp_ge, o_if_icmp_lt, o_iinc, o_iload, o_iload_n, o_invokevirtual, o_istore, o_istore_n, o_laload, o_lastore, o_lcmp, o_lload_n, o_lstore_n, o_return_, SH_2, KF_2_0, SH_3, KF_2_2, SH_19, KF_2_5, KF_2_6, KF_3_1, SH_20, KF_20_1, am_ty, am_vc, am_opt, am_cl, am_find, am_ldi, am_ldl, am_lda, am_v, am_1, am_1l, am_1a, am_2, am_2l, am_ix, am_ri, am_arr, am_pf, am_rc, am_mask, am_lg, am_av, am_nat, fv_0, fv_1, fv_2, fv_3, fw_0, fw_1, List.getElem?_cons_zero, List.getElem?_cons_succ, List.set_cons_zero, List.set_cons_succ, List.length_cons, List.length_nil, List.take_succ_cons, List.take_zero, List.drop_succ_cons, List.drop_zero, List.reverse_cons, List.reverse_nil, List.nil_append, List.cons_append, List.append_nil, List.map_cons, List.map_nil, List.sum_cons, List.sum_nil, Value.category, Option.toList_some, Option.toList_none, Nat.reduceAdd, Nat.reduceLT, Nat.reduceLeDiff, Nat.reduceEqDiff, Nat.reduceSub, Nat.add_zero, Nat.le_refl, Nat.zero_le, Int.reduceNeg, Int.reduceLE, Int.reduceLT, true_and, and_true, and_self, if_true, if_false, ite_true, ite_false, eq_self_iff_true, reduceIte, reduceCtorEq, not_false_eq_true, not_true_eq_false, or_true, true_or, or_false, false_or, Nat.lt_irrefl, Nat.zero_lt_succ]
      try simp (disch := omega) only [ii_0, ii_1, ii_t, ii_add, ii_sub, ii_mul, ii_lt, ii_le, ii_eq, ij_in, ii_c, Int.toNat_natCast, Int.toNat_zero, Int.reduceToNat, Int.reduceEq, Int.reduceNe, Int.reduceLE, Int.reduceLT, Int.reduceAdd, Int.reduceSub, Int.reduceMul, Int.reduceNeg, Nat.reduceLT, Nat.reduceAdd, Nat.reduceMul, not_false_eq_true, not_true_eq_false, true_and, and_true, and_self, false_and, and_false, true_implies, false_implies, implies_true, forall_const, if_true, if_false, ite_true, ite_false, reduceIte, eq_self_iff_true, Int.natCast_nonneg, Int.zero_add, Int.add_zero, pi_s, pi_n, on_2000, on_402, on_408, on_19, on_5, on_4, ik_s]
      exact hi υ w j1 j2 j3 j4 j5
    have at65 : x = ns.getD m 0 → AA 65 [some (.ref 2), some (.long x), none, some (.int (Int32.ofInt p)), some (.int (Int32.ofInt (ns.length : Int))), some (.int (Int32.ofInt (m : Int)))] [] 92 τ := by
      intro z
      refine hA [(71, 6)] 5 _ _ _ _ _ ?_
      try simp only [dX5_readName_0, dX5_readName_1, FT_X5_39, dX5_readName_4, dX5_readName_5, dX5_readName_6, FT_X5_36, dX5_readName_9, dX5_readName_10, dX5_readName_11, FT_X5_12, dX5_readName_14, FT_X5_105, dX5_readName_17, dX5_readName_19, dX5_readName_20, dX5_readName_21, xX5_readNameE_c85, xX5_readNameE_n85, dX5_readName_24, xX5_readNameE_t24, dX5_readName_27, dX5_readName_29, xX5_readNameE_t29, dX5_readName_32, dX5_readName_34, dX5_readName_35, FT_X5_25, dX5_readName_38, dX5_readName_39, xX5_readNameE_t39, dX5_readName_42, dX5_readName_43, dX5_readName_44, dX5_readName_46, dX5_readName_48, dX5_readName_50, xX5_readNameE_t50, dX5_readName_53, dX5_readName_54, dX5_readName_57, dX5_readName_59, dX5_readName_60, dX5_readName_61, dX5_readName_62, xX5_readNameE_t62, dX5_readName_65, dX5_readName_66, dX5_readName_67, dX5_readName_68, xX5_readNameE_c77, xX5_readNameE_n77, dX5_readName_71, dX5_readName_74, xX5_readNameE_t74, dX5_readName_77, dX5_readName_78, dX5_readName_81, dX5_readName_83, dX5_readName_84, dX5_readName_85, xX5_readNameE_SH, xX5_readNameE_KF, xX5_readNameE_rt, xX5_readNameE_FT, xX5_readNameE_PT, xX5_readNameE_CT, xX5_readNameE_KT, xX5_readNameE_LT, xX5_readNameE_NT, o_aload_n, o_arraylength, o_getfield, o_goto, o_iconst, o_ifCond_eq, o_ifCond_lt, o_ifCond_ne, o_if_icmp_ge, o_if_icmp_lt, o_iinc, o_iload, o_iload_n, o_invokevirtual, o_istore, o_istore_n, o_laload, o_lastore, o_lcmp, o_lload_n, o_lstore_n, o_return_, SH_2, KF_2_0, SH_3, KF_2_2, SH_19, KF_2_5, KF_2_6, KF_3_1, SH_20, KF_20_1, am_ty, am_vc, am_opt, am_cl, am_find, am_ldi, am_ldl, am_lda, am_v, am_1, am_1l, am_1a, am_2, am_2l, am_ix, am_ri, am_arr, am_pf, am_rc, am_mask, am_lg, am_av, am_nat, fv_0, fv_1, fv_2, fv_3, fw_0, fw_1, List.getElem?_cons_zero, List.getElem?_cons_succ, List.set_cons_zero, List.set_cons_succ, List.length_cons, List.length_nil, List.take_succ_cons, List.take_zero, List.drop_succ_cons, List.drop_zero, List.reverse_cons, List.reverse_nil, List.nil_append, List.cons_append, List.append_nil, List.map_cons, List.map_nil, List.sum_cons, List.sum_nil, Value.category, Option.toList_some, Option.toList_none, Nat.reduceAdd, Nat.reduceLT, Nat.reduceLeDiff, Nat.reduceEqDiff, Nat.reduceSub, Nat.add_zero, Nat.le_refl, Nat.zero_le, Int.reduceNeg, Int.reduceLE, Int.reduceLT, true_and, and_true, and_self, if_true, if_false, ite_true, ite_false, eq_self_iff_true, reduceIte, reduceCtorEq, not_false_eq_true, not_true_eq_false, or_true, true_or, or_false, false_or, Nat.lt_irrefl, Nat.zero_lt_succ]
      refine ⟨rfl, i1.1, u, 3, p, hu, ⟨by decide, by decide⟩, rfl, fun υ j1 j2 => ?_⟩
      try simp only [dX5_readName_0, dX5_readName_1, FT_X5_39, dX5_readName_4, dX5_readName_5, dX5_readName_6, FT_X5_36, dX5_readName_9, dX5_readName_10, dX5_readName_11, FT_X5_12, dX5_readName_14, FT_X5_105, dX5_readName_17, dX5_readName_19, dX5_readName_20, dX5_readName_21, xX5_readNameE_c85, xX5_readNameE_n85, dX5_readName_24, xX5_readNameE_t24, dX5_readName_27, dX5_readName_29, xX5_readNameE_t29, dX5_readName_32, dX5_readName_34, dX5_readName_35, FT_X5_25, dX5_readName_38, dX5_readName_39, xX5_readNameE_t39, dX5_readName_42, dX5_readName_43, dX5_readName_44, dX5_readName_46, dX5_readName_48, dX5_readName_50, xX5_readNameE_t50, dX5_readName_53, dX5_readName_54, dX5_readName_57, dX5_readName_59, dX5_readName_60, dX5_readName_61, dX5_readName_62, xX5_readNameE_t62, dX5_readName_65, dX5_readName_66, dX5_readName_67, dX5_readName_68, xX5_readNameE_c77, xX5_readNameE_n77, dX5_readName_71, dX5_readName_74, xX5_readNameE_t74, dX5_readName_77, dX5_readName_78, dX5_readName_81, dX5_readName_83, dX5_readName_84, dX5_readName_85, xX5_readNameE_SH, xX5_readNameE_KF, xX5_readNameE_rt, xX5_readNameE_FT, xX5_readNameE_PT, xX5_readNameE_CT, xX5_readNameE_KT, xX5_readNameE_LT, xX5_readNameE_NT, o_aload_n, o_arraylength, o_getfield, o_goto, o_iconst, o_ifCond_eq, o_ifCond_lt, o_ifCond_ne, o_if_icmp_ge, o_if_icmp_lt, o_iinc, o_iload, o_iload_n, o_invokevirtual, o_istore, o_istore_n, o_laload, o_lastore, o_lcmp, o_lload_n, o_lstore_n, o_return_, SH_2, KF_2_0, SH_3, KF_2_2, SH_19, KF_2_5, KF_2_6, KF_3_1, SH_20, KF_20_1, am_ty, am_vc, am_opt, am_cl, am_find, am_ldi, am_ldl, am_lda, am_v, am_1, am_1l, am_1a, am_2, am_2l, am_ix, am_ri, am_arr, am_pf, am_rc, am_mask, am_lg, am_av, am_nat, fv_0, fv_1, fv_2, fv_3, fw_0, fw_1, List.getElem?_cons_zero, List.getElem?_cons_succ, List.set_cons_zero, List.set_cons_succ, List.length_cons, List.length_nil, List.take_succ_cons, List.take_zero, List.drop_succ_cons, List.drop_zero, List.reverse_cons, List.reverse_nil, List.nil_append, List.cons_append, List.append_nil, List.map_cons, List.map_nil, List.sum_cons, List.sum_nil, Value.category, Option.toList_some, Option.toList_none, Nat.reduceAdd, Nat.reduceLT, Nat.reduceLeDiff, Nat.reduceEqDiff, Nat.reduceSub, Nat.add_zero, Nat.le_refl, Nat.zero_le, Int.reduceNeg, Int.reduceLE, Int.reduceLT, true_and, and_true, and_self, if_true, if_false, ite_true, ite_false, eq_self_iff_true, reduceIte, reduceCtorEq, not_false_eq_true, not_true_eq_false, or_true, true_or, or_false, false_or, Nat.lt_irrefl, Nat.zero_lt_succ]
      refine at71 υ (nt u 3 p) (sI_t i1 (sI_m j1 (by decide))) (cST_sI hs j1 (by decide) (by decide)) j2 (fun i hi => by rw [nm_fr j1 (by decide)]; exact hn i hi) ?_
      rw [if_pos (by rw [z]; exact List.mem_cons_self)] at hv
      rw [nt_nt, ite_self]
      exact hv
    have at71' : ¬ x = ns.getD m 0 → AA 71 [some (.ref 2), some (.long x), none, some (.int (Int32.ofInt p)), some (.int (Int32.ofInt (ns.length : Int))), some (.int (Int32.ofInt (m : Int)))] [] 92 τ := by
      intro z
      refine at71 τ u i1 hs hu hn ?_
      rw [← hv]
      by_cases w : x ∈ ns.drop (m + 1)
      · rw [if_pos w, if_pos (List.mem_cons_of_mem _ w)]
      · rw [if_neg w, if_neg (fun y => by rcases List.mem_cons.mp y with y | y; exact z y; exact w y)]
    refine hA [(71, 6), (65, 6)] 9 _ _ _ _ _ ?_
    try simp only [dX5_readName_0, dX5_readName_1, FT_X5_39, dX5_readName_4, dX5_readName_5, dX5_readName_6, FT_X5_36, dX5_readName_9, dX5_readName_10, dX5_readName_11, FT_X5_12, dX5_readName_14, FT_X5_105, dX5_readName_17, dX5_readName_19, dX5_readName_20, dX5_readName_21, xX5_readNameE_c85, xX5_readNameE_n85, dX5_readName_24, xX5_readNameE_t24, dX5_readName_27, dX5_readName_29, xX5_readNameE_t29, dX5_readName_32, dX5_readName_34, dX5_readName_35, FT_X5_25, dX5_readName_38, dX5_readName_39, xX5_readNameE_t39, dX5_readName_42, dX5_readName_43, dX5_readName_44, dX5_readName_46, dX5_readName_48, dX5_readName_50, xX5_readNameE_t50, dX5_readName_53, dX5_readName_54, dX5_readName_57, dX5_readName_59, dX5_readName_60, dX5_readName_61, dX5_readName_62, xX5_readNameE_t62, dX5_readName_65, dX5_readName_66, dX5_readName_67, dX5_readName_68, xX5_readNameE_c77, xX5_readNameE_n77, dX5_readName_71, dX5_readName_74, xX5_readNameE_t74, dX5_readName_77, dX5_readName_78, dX5_readName_81, dX5_readName_83, dX5_readName_84, dX5_readName_85, xX5_readNameE_SH, xX5_readNameE_KF, xX5_readNameE_rt, xX5_readNameE_FT, xX5_readNameE_PT, xX5_readNameE_CT, xX5_readNameE_KT, xX5_readNameE_LT, xX5_readNameE_NT, o_aload_n, o_arraylength, o_getfield, o_goto, o_iconst, o_ifCond_eq, o_ifCond_lt, o_ifCond_ne, o_if_icmp_ge, o_if_icmp_lt, o_iinc, o_iload, o_iload_n, o_invokevirtual, o_istore, o_istore_n, o_laload, o_lastore, o_lcmp, o_lload_n, o_lstore_n, o_return_, SH_2, KF_2_0, SH_3, KF_2_2, SH_19, KF_2_5, KF_2_6, KF_3_1, SH_20, KF_20_1, am_ty, am_vc, am_opt, am_cl, am_find, am_ldi, am_ldl, am_lda, am_v, am_1, am_1l, am_1a, am_2, am_2l, am_ix, am_ri, am_arr, am_pf, am_rc, am_mask, am_lg, am_av, am_nat, fv_0, fv_1, fv_2, fv_3, fw_0, fw_1, List.getElem?_cons_zero, List.getElem?_cons_succ, List.set_cons_zero, List.set_cons_succ, List.length_cons, List.length_nil, List.take_succ_cons, List.take_zero, List.drop_succ_cons, List.drop_zero, List.reverse_cons, List.reverse_nil, List.nil_append, List.cons_append, List.append_nil, List.map_cons, List.map_nil, List.sum_cons, List.sum_nil, Value.category, Option.toList_some, Option.toList_none, Nat.reduceAdd, Nat.reduceLT, Nat.reduceLeDiff, Nat.reduceEqDiff, Nat.reduceSub, Nat.add_zero, Nat.le_refl, Nat.zero_le, Int.reduceNeg, Int.reduceLE, Int.reduceLT, true_and, and_true, and_self, if_true, if_false, ite_true, ite_false, eq_self_iff_true, reduceIte, reduceCtorEq, not_false_eq_true, not_true_eq_false, or_true, true_or, or_false, false_or, Nat.lt_irrefl, Nat.zero_lt_succ]
    try simp (disch := omega) only [ii_0, ii_1, ii_t, ii_add, ii_sub, ii_mul, ii_lt, ii_le, ii_eq, ij_in, ii_c, Int.toNat_natCast, Int.toNat_zero, Int.reduceToNat, Int.reduceEq, Int.reduceNe, Int.reduceLE, Int.reduceLT, Int.reduceAdd, Int.reduceSub, Int.reduceMul, Int.reduceNeg, Nat.reduceLT, Nat.reduceAdd, Nat.reduceMul, not_false_eq_true, not_true_eq_false, true_and, and_true, and_self, false_and, and_false, true_implies, false_implies, implies_true, forall_const, if_true, if_false, ite_true, ite_false, reduceIte, eq_self_iff_true, Int.natCast_nonneg, Int.zero_add, Int.add_zero, pi_s, pi_n, on_2000, on_402, on_408, on_19, on_5, on_4]
    refine ⟨by omega, fun z => at71' (fun y => z ((lg_cmp_eq _ _).mpr (by rw [hnm, y]))), fun z => at65 (by rw [← hnm]; exact ((lg_cmp_eq _ _).mp z).symm)⟩
  have c2 : ¬ m < ns.length → AA 77 [some (.ref 2), some (.long x), none, some (.int (Int32.ofInt p)), some (.int (Int32.ofInt (ns.length : Int))), some (.int (Int32.ofInt (m : Int)))] [] 92 τ := by
    intro q
    rw [List.drop_eq_nil_of_le (by omega), if_neg (by simp)] at hv
    have i2 := sI_pl (o := 19) (k := ns.length) (x := x) i1 ⟨(19, 0, 5), by decide, rfl, Nat.zero_le _, hl⟩
    have i3 : sI BB SH [(19, 0, 5)] τ (am_pl τ 19 ns.length x) := sI_pl ⟨i1.1, sb_fr_r _ _⟩ ⟨(19, 0, 5), by decide, rfl, Nat.zero_le _, hl⟩
    have hP := h _ i2 (cST_sI hs i3 (by decide) (by decide)) (by rw [← hv]; exact cU_sI hu i3 (by decide)) ⟨by show (am_pl τ 19 ns.length x).2 19 ns.length = _; rw [pl_s], fun i hi => by rw [pl_n _ _ _ _ (fun z => by omega)]; exact hn i hi⟩
    refine hA [] 8 _ _ _ _ _ ?_
    try simp only [dX5_readName_0, dX5_readName_1, FT_X5_39, dX5_readName_4, dX5_readName_5, dX5_readName_6, FT_X5_36, dX5_readName_9, dX5_readName_10, dX5_readName_11, FT_X5_12, dX5_readName_14, FT_X5_105, dX5_readName_17, dX5_readName_19, dX5_readName_20, dX5_readName_21, xX5_readNameE_c85, xX5_readNameE_n85, dX5_readName_24, xX5_readNameE_t24, dX5_readName_27, dX5_readName_29, xX5_readNameE_t29, dX5_readName_32, dX5_readName_34, dX5_readName_35, FT_X5_25, dX5_readName_38, dX5_readName_39, xX5_readNameE_t39, dX5_readName_42, dX5_readName_43, dX5_readName_44, dX5_readName_46, dX5_readName_48, dX5_readName_50, xX5_readNameE_t50, dX5_readName_53, dX5_readName_54, dX5_readName_57, dX5_readName_59, dX5_readName_60, dX5_readName_61, dX5_readName_62, xX5_readNameE_t62, dX5_readName_65, dX5_readName_66, dX5_readName_67, dX5_readName_68, xX5_readNameE_c77, xX5_readNameE_n77, dX5_readName_71, dX5_readName_74, xX5_readNameE_t74, dX5_readName_77, dX5_readName_78, dX5_readName_81, dX5_readName_83, dX5_readName_84, dX5_readName_85, xX5_readNameE_SH, xX5_readNameE_KF, xX5_readNameE_rt, xX5_readNameE_FT, xX5_readNameE_PT, xX5_readNameE_CT, xX5_readNameE_KT, xX5_readNameE_LT, xX5_readNameE_NT, o_aload_n, o_arraylength, o_getfield, o_goto, o_iconst, o_ifCond_eq, o_ifCond_lt, o_ifCond_ne, o_if_icmp_ge, o_if_icmp_lt, o_iinc, o_iload, o_iload_n, o_invokevirtual, o_istore, o_istore_n, o_laload, o_lastore, o_lcmp, o_lload_n, o_lstore_n, o_return_, SH_2, KF_2_0, SH_3, KF_2_2, SH_19, KF_2_5, KF_2_6, KF_3_1, SH_20, KF_20_1, am_ty, am_vc, am_opt, am_cl, am_find, am_ldi, am_ldl, am_lda, am_v, am_1, am_1l, am_1a, am_2, am_2l, am_ix, am_ri, am_arr, am_pf, am_rc, am_mask, am_lg, am_av, am_nat, fv_0, fv_1, fv_2, fv_3, fw_0, fw_1, List.getElem?_cons_zero, List.getElem?_cons_succ, List.set_cons_zero, List.set_cons_succ, List.length_cons, List.length_nil, List.take_succ_cons, List.take_zero, List.drop_succ_cons, List.drop_zero, List.reverse_cons, List.reverse_nil, List.nil_append, List.cons_append, List.append_nil, List.map_cons, List.map_nil, List.sum_cons, List.sum_nil, Value.category, Option.toList_some, Option.toList_none, Nat.reduceAdd, Nat.reduceLT, Nat.reduceLeDiff, Nat.reduceEqDiff, Nat.reduceSub, Nat.add_zero, Nat.le_refl, Nat.zero_le, Int.reduceNeg, Int.reduceLE, Int.reduceLT, true_and, and_true, and_self, if_true, if_false, ite_true, ite_false, eq_self_iff_true, reduceIte, reduceCtorEq, not_false_eq_true, not_true_eq_false, or_true, true_or, or_false, false_or, Nat.lt_irrefl, Nat.zero_lt_succ]
    try simp (disch := omega) only [ii_0, ii_1, ii_t, ii_add, ii_sub, ii_mul, ii_lt, ii_le, ii_eq, ij_in, ii_c, Int.toNat_natCast, Int.toNat_zero, Int.reduceToNat, Int.reduceEq, Int.reduceNe, Int.reduceLE, Int.reduceLT, Int.reduceAdd, Int.reduceSub, Int.reduceMul, Int.reduceNeg, Nat.reduceLT, Nat.reduceAdd, Nat.reduceMul, not_false_eq_true, not_true_eq_false, true_and, and_true, and_self, false_and, and_false, true_implies, false_implies, implies_true, forall_const, if_true, if_false, ite_true, ite_false, reduceIte, eq_self_iff_true, Int.natCast_nonneg, Int.zero_add, Int.add_zero, pi_s, pi_n, on_2000, on_402, on_408, on_19, on_5, on_4]
    exact ⟨by omega, hP⟩
  exact ⟨fun q => c2 (by omega), fun q => c1 (by omega)⟩
set_option maxRecDepth 100000 in
theorem ptX5_readNameE : am_B cX5_readName xX5_readNameE 6 0 sX5_readNameE := by
  intro n0 as σ post AA hA h
  obtain ⟨rfl, hB, b, Z, s, u, ns, hs, hu, hns, rfl, h⟩ := h
  refine ⟨by simp [am_sl, Value.category], ?_⟩
  show AA 0 [some (.ref 2), none, none, none, none, none] [] 92 σ
  refine hA [] 13 _ _ _ _ _ ?_
  try simp only [dX5_readName_0, dX5_readName_1, FT_X5_39, dX5_readName_4, dX5_readName_5, dX5_readName_6, FT_X5_36, dX5_readName_9, dX5_readName_10, dX5_readName_11, FT_X5_12, dX5_readName_14, FT_X5_105, dX5_readName_17, dX5_readName_19, dX5_readName_20, dX5_readName_21, xX5_readNameE_c85, xX5_readNameE_n85, dX5_readName_24, xX5_readNameE_t24, dX5_readName_27, dX5_readName_29, xX5_readNameE_t29, dX5_readName_32, dX5_readName_34, dX5_readName_35, FT_X5_25, dX5_readName_38, dX5_readName_39, xX5_readNameE_t39, dX5_readName_42, dX5_readName_43, dX5_readName_44, dX5_readName_46, dX5_readName_48, dX5_readName_50, xX5_readNameE_t50, dX5_readName_53, dX5_readName_54, dX5_readName_57, dX5_readName_59, dX5_readName_60, dX5_readName_61, dX5_readName_62, xX5_readNameE_t62, dX5_readName_65, dX5_readName_66, dX5_readName_67, dX5_readName_68, xX5_readNameE_c77, xX5_readNameE_n77, dX5_readName_71, dX5_readName_74, xX5_readNameE_t74, dX5_readName_77, dX5_readName_78, dX5_readName_81, dX5_readName_83, dX5_readName_84, dX5_readName_85, xX5_readNameE_SH, xX5_readNameE_KF, xX5_readNameE_rt, xX5_readNameE_FT, xX5_readNameE_PT, xX5_readNameE_CT, xX5_readNameE_KT, xX5_readNameE_LT, xX5_readNameE_NT, o_aload_n, o_arraylength, o_getfield, o_goto, o_iconst, o_ifCond_eq, o_ifCond_lt, o_ifCond_ne, o_if_icmp_ge, o_if_icmp_lt, o_iinc, o_iload, o_iload_n, o_invokevirtual, o_istore, o_istore_n, o_laload, o_lastore, o_lcmp, o_lload_n, o_lstore_n, o_return_, SH_2, KF_2_0, SH_3, KF_2_2, SH_19, KF_2_5, KF_2_6, KF_3_1, SH_20, KF_20_1, am_ty, am_vc, am_opt, am_cl, am_find, am_ldi, am_ldl, am_lda, am_v, am_1, am_1l, am_1a, am_2, am_2l, am_ix, am_ri, am_arr, am_pf, am_rc, am_mask, am_lg, am_av, am_nat, fv_0, fv_1, fv_2, fv_3, fw_0, fw_1, List.getElem?_cons_zero, List.getElem?_cons_succ, List.set_cons_zero, List.set_cons_succ, List.length_cons, List.length_nil, List.take_succ_cons, List.take_zero, List.drop_succ_cons, List.drop_zero, List.reverse_cons, List.reverse_nil, List.nil_append, List.cons_append, List.append_nil, List.map_cons, List.map_nil, List.sum_cons, List.sum_nil, Value.category, Option.toList_some, Option.toList_none, Nat.reduceAdd, Nat.reduceLT, Nat.reduceLeDiff, Nat.reduceEqDiff, Nat.reduceSub, Nat.add_zero, Nat.le_refl, Nat.zero_le, Int.reduceNeg, Int.reduceLE, Int.reduceLT, true_and, and_true, and_self, if_true, if_false, ite_true, ite_false, eq_self_iff_true, reduceIte, reduceCtorEq, not_false_eq_true, not_true_eq_false, or_true, true_or, or_false, false_or, Nat.lt_irrefl, Nat.zero_lt_succ]
  refine ⟨rfl, hB, b, Z, s, 1, hs, ⟨⟨by decide, by decide⟩, by decide, by decide, by decide, by decide, by decide⟩, rfl, fun τ g1 g2 => ?_⟩
  have hu1 := cU_sI hu g1 (by decide)
  have hI := sI_m (M' := rnM) g1 (by decide)
  try simp only [dX5_readName_0, dX5_readName_1, FT_X5_39, dX5_readName_4, dX5_readName_5, dX5_readName_6, FT_X5_36, dX5_readName_9, dX5_readName_10, dX5_readName_11, FT_X5_12, dX5_readName_14, FT_X5_105, dX5_readName_17, dX5_readName_19, dX5_readName_20, dX5_readName_21, xX5_readNameE_c85, xX5_readNameE_n85, dX5_readName_24, xX5_readNameE_t24, dX5_readName_27, dX5_readName_29, xX5_readNameE_t29, dX5_readName_32, dX5_readName_34, dX5_readName_35, FT_X5_25, dX5_readName_38, dX5_readName_39, xX5_readNameE_t39, dX5_readName_42, dX5_readName_43, dX5_readName_44, dX5_readName_46, dX5_readName_48, dX5_readName_50, xX5_readNameE_t50, dX5_readName_53, dX5_readName_54, dX5_readName_57, dX5_readName_59, dX5_readName_60, dX5_readName_61, dX5_readName_62, xX5_readNameE_t62, dX5_readName_65, dX5_readName_66, dX5_readName_67, dX5_readName_68, xX5_readNameE_c77, xX5_readNameE_n77, dX5_readName_71, dX5_readName_74, xX5_readNameE_t74, dX5_readName_77, dX5_readName_78, dX5_readName_81, dX5_readName_83, dX5_readName_84, dX5_readName_85, xX5_readNameE_SH, xX5_readNameE_KF, xX5_readNameE_rt, xX5_readNameE_FT, xX5_readNameE_PT, xX5_readNameE_CT, xX5_readNameE_KT, xX5_readNameE_LT, xX5_readNameE_NT, o_aload_n, o_arraylength, o_getfield, o_goto, o_iconst, o_ifCond_eq, o_ifCond_lt, o_ifCond_ne, o_if_icmp_ge, o_if_icmp_lt, o_iinc, o_iload, o_iload_n, o_invokevirtual, o_istore, o_istore_n, o_laload, o_lastore, o_lcmp, o_lload_n, o_lstore_n, o_return_, SH_2, KF_2_0, SH_3, KF_2_2, SH_19, KF_2_5, KF_2_6, KF_3_1, SH_20, KF_20_1, am_ty, am_vc, am_opt, am_cl, am_find, am_ldi, am_ldl, am_lda, am_v, am_1, am_1l, am_1a, am_2, am_2l, am_ix, am_ri, am_arr, am_pf, am_rc, am_mask, am_lg, am_av, am_nat, fv_0, fv_1, fv_2, fv_3, fw_0, fw_1, List.getElem?_cons_zero, List.getElem?_cons_succ, List.set_cons_zero, List.set_cons_succ, List.length_cons, List.length_nil, List.take_succ_cons, List.take_zero, List.drop_succ_cons, List.drop_zero, List.reverse_cons, List.reverse_nil, List.nil_append, List.cons_append, List.append_nil, List.map_cons, List.map_nil, List.sum_cons, List.sum_nil, Value.category, Option.toList_some, Option.toList_none, Nat.reduceAdd, Nat.reduceLT, Nat.reduceLeDiff, Nat.reduceEqDiff, Nat.reduceSub, Nat.add_zero, Nat.le_refl, Nat.zero_le, Int.reduceNeg, Int.reduceLE, Int.reduceLT, true_and, and_true, and_self, if_true, if_false, ite_true, ite_false, eq_self_iff_true, reduceIte, reduceCtorEq, not_false_eq_true, not_true_eq_false, or_true, true_or, or_false, false_or, Nat.lt_irrefl, Nat.zero_lt_succ]
  have out : ∀ q, stT b Z 1 s = .inr q → (spN b Z ns s u).1 = .inr q → (spN b Z ns s u).2.1 = u → post none τ := fun q w1 w2 w3 => h τ hI (by rw [w2, ← w1]; exact g2) (by rw [w3]; exact hu1) (fun t y => by rw [w2] at y; cases y)
  cases s with
  | inr q =>
    have hP := out q rfl rfl rfl
    refine hA [] 4 _ _ _ _ _ ?_
    simp only [stT, stB]
    try simp only [dX5_readName_0, dX5_readName_1, FT_X5_39, dX5_readName_4, dX5_readName_5, dX5_readName_6, FT_X5_36, dX5_readName_9, dX5_readName_10, dX5_readName_11, FT_X5_12, dX5_readName_14, FT_X5_105, dX5_readName_17, dX5_readName_19, dX5_readName_20, dX5_readName_21, xX5_readNameE_c85, xX5_readNameE_n85, dX5_readName_24, xX5_readNameE_t24, dX5_readName_27, dX5_readName_29, xX5_readNameE_t29, dX5_readName_32, dX5_readName_34, dX5_readName_35, FT_X5_25, dX5_readName_38, dX5_readName_39, xX5_readNameE_t39, dX5_readName_42, dX5_readName_43, dX5_readName_44, dX5_readName_46, dX5_readName_48, dX5_readName_50, xX5_readNameE_t50, dX5_readName_53, dX5_readName_54, dX5_readName_57, dX5_readName_59, dX5_readName_60, dX5_readName_61, dX5_readName_62, xX5_readNameE_t62, dX5_readName_65, dX5_readName_66, dX5_readName_67, dX5_readName_68, xX5_readNameE_c77, xX5_readNameE_n77, dX5_readName_71, dX5_readName_74, xX5_readNameE_t74, dX5_readName_77, dX5_readName_78, dX5_readName_81, dX5_readName_83, dX5_readName_84, dX5_readName_85, xX5_readNameE_SH, xX5_readNameE_KF, xX5_readNameE_rt, xX5_readNameE_FT, xX5_readNameE_PT, xX5_readNameE_CT, xX5_readNameE_KT, xX5_readNameE_LT, xX5_readNameE_NT, o_aload_n, o_arraylength, o_getfield, o_goto, o_iconst, o_ifCond_eq, o_ifCond_lt, o_ifCond_ne, o_if_icmp_ge, o_if_icmp_lt, o_iinc, o_iload, o_iload_n, o_invokevirtual, o_istore, o_istore_n, o_laload, o_lastore, o_lcmp, o_lload_n, o_lstore_n, o_return_, SH_2, KF_2_0, SH_3, KF_2_2, SH_19, KF_2_5, KF_2_6, KF_3_1, SH_20, KF_20_1, am_ty, am_vc, am_opt, am_cl, am_find, am_ldi, am_ldl, am_lda, am_v, am_1, am_1l, am_1a, am_2, am_2l, am_ix, am_ri, am_arr, am_pf, am_rc, am_mask, am_lg, am_av, am_nat, fv_0, fv_1, fv_2, fv_3, fw_0, fw_1, List.getElem?_cons_zero, List.getElem?_cons_succ, List.set_cons_zero, List.set_cons_succ, List.length_cons, List.length_nil, List.take_succ_cons, List.take_zero, List.drop_succ_cons, List.drop_zero, List.reverse_cons, List.reverse_nil, List.nil_append, List.cons_append, List.append_nil, List.map_cons, List.map_nil, List.sum_cons, List.sum_nil, Value.category, Option.toList_some, Option.toList_none, Nat.reduceAdd, Nat.reduceLT, Nat.reduceLeDiff, Nat.reduceEqDiff, Nat.reduceSub, Nat.add_zero, Nat.le_refl, Nat.zero_le, Int.reduceNeg, Int.reduceLE, Int.reduceLT, true_and, and_true, and_self, if_true, if_false, ite_true, ite_false, eq_self_iff_true, reduceIte, reduceCtorEq, not_false_eq_true, not_true_eq_false, or_true, true_or, or_false, false_or, Nat.lt_irrefl, Nat.zero_lt_succ]
    try simp (disch := omega) only [ii_0, ii_1, ii_t, ii_add, ii_sub, ii_mul, ii_lt, ii_le, ii_eq, ij_in, ii_c, Int.toNat_natCast, Int.toNat_zero, Int.reduceToNat, Int.reduceEq, Int.reduceNe, Int.reduceLE, Int.reduceLT, Int.reduceAdd, Int.reduceSub, Int.reduceMul, Int.reduceNeg, Nat.reduceLT, Nat.reduceAdd, Nat.reduceMul, not_false_eq_true, not_true_eq_false, true_and, and_true, and_self, false_and, and_false, true_implies, false_implies, implies_true, forall_const, if_true, if_false, ite_true, ite_false, reduceIte, eq_self_iff_true, Int.natCast_nonneg, Int.zero_add, Int.add_zero, pi_s, pi_n, on_2000, on_402, on_408, on_19, on_5, on_4]
    exact hP
  | inl t =>
    obtain ⟨v, ⟨t1, t2⟩, e3, e4, e5, e6, e7, e8⟩ := hs
    obtain ⟨⟨n1, n2, n3⟩, n4⟩ := hns t rfl
    by_cases k1 : tK b Z t = 1
    · by_cases q4 : t = 400
      · have est : stT b Z 1 (.inl t) = .inr (2, tP b Z t) := by show (if tK b Z t = 1 then _ else _) = _; rw [if_pos k1, if_pos q4]
        have esp : spN b Z ns (.inl t) u = (.inr (2, tP b Z t), u, 0) := by show (if tK b Z t = 1 then _ else _) = _; rw [if_pos k1, if_pos q4]
        have hP := out _ est (by rw [esp]) (by rw [esp])
        rw [est]
        refine hA [] 4 _ _ _ _ _ ?_
        simp only [stB]
        try simp only [dX5_readName_0, dX5_readName_1, FT_X5_39, dX5_readName_4, dX5_readName_5, dX5_readName_6, FT_X5_36, dX5_readName_9, dX5_readName_10, dX5_readName_11, FT_X5_12, dX5_readName_14, FT_X5_105, dX5_readName_17, dX5_readName_19, dX5_readName_20, dX5_readName_21, xX5_readNameE_c85, xX5_readNameE_n85, dX5_readName_24, xX5_readNameE_t24, dX5_readName_27, dX5_readName_29, xX5_readNameE_t29, dX5_readName_32, dX5_readName_34, dX5_readName_35, FT_X5_25, dX5_readName_38, dX5_readName_39, xX5_readNameE_t39, dX5_readName_42, dX5_readName_43, dX5_readName_44, dX5_readName_46, dX5_readName_48, dX5_readName_50, xX5_readNameE_t50, dX5_readName_53, dX5_readName_54, dX5_readName_57, dX5_readName_59, dX5_readName_60, dX5_readName_61, dX5_readName_62, xX5_readNameE_t62, dX5_readName_65, dX5_readName_66, dX5_readName_67, dX5_readName_68, xX5_readNameE_c77, xX5_readNameE_n77, dX5_readName_71, dX5_readName_74, xX5_readNameE_t74, dX5_readName_77, dX5_readName_78, dX5_readName_81, dX5_readName_83, dX5_readName_84, dX5_readName_85, xX5_readNameE_SH, xX5_readNameE_KF, xX5_readNameE_rt, xX5_readNameE_FT, xX5_readNameE_PT, xX5_readNameE_CT, xX5_readNameE_KT, xX5_readNameE_LT, xX5_readNameE_NT, o_aload_n, o_arraylength, o_getfield, o_goto, o_iconst, o_ifCond_eq, o_ifCond_lt, o_ifCond_ne, o_if_icmp_ge, o_if_icmp_lt, o_iinc, o_iload, o_iload_n, o_invokevirtual, o_istore, o_istore_n, o_laload, o_lastore, o_lcmp, o_lload_n, o_lstore_n, o_return_, SH_2, KF_2_0, SH_3, KF_2_2, SH_19, KF_2_5, KF_2_6, KF_3_1, SH_20, KF_20_1, am_ty, am_vc, am_opt, am_cl, am_find, am_ldi, am_ldl, am_lda, am_v, am_1, am_1l, am_1a, am_2, am_2l, am_ix, am_ri, am_arr, am_pf, am_rc, am_mask, am_lg, am_av, am_nat, fv_0, fv_1, fv_2, fv_3, fw_0, fw_1, List.getElem?_cons_zero, List.getElem?_cons_succ, List.set_cons_zero, List.set_cons_succ, List.length_cons, List.length_nil, List.take_succ_cons, List.take_zero, List.drop_succ_cons, List.drop_zero, List.reverse_cons, List.reverse_nil, List.nil_append, List.cons_append, List.append_nil, List.map_cons, List.map_nil, List.sum_cons, List.sum_nil, Value.category, Option.toList_some, Option.toList_none, Nat.reduceAdd, Nat.reduceLT, Nat.reduceLeDiff, Nat.reduceEqDiff, Nat.reduceSub, Nat.add_zero, Nat.le_refl, Nat.zero_le, Int.reduceNeg, Int.reduceLE, Int.reduceLT, true_and, and_true, and_self, if_true, if_false, ite_true, ite_false, eq_self_iff_true, reduceIte, reduceCtorEq, not_false_eq_true, not_true_eq_false, or_true, true_or, or_false, false_or, Nat.lt_irrefl, Nat.zero_lt_succ]
        try simp (disch := omega) only [ii_0, ii_1, ii_t, ii_add, ii_sub, ii_mul, ii_lt, ii_le, ii_eq, ij_in, ii_c, Int.toNat_natCast, Int.toNat_zero, Int.reduceToNat, Int.reduceEq, Int.reduceNe, Int.reduceLE, Int.reduceLT, Int.reduceAdd, Int.reduceSub, Int.reduceMul, Int.reduceNeg, Nat.reduceLT, Nat.reduceAdd, Nat.reduceMul, not_false_eq_true, not_true_eq_false, true_and, and_true, and_self, false_and, and_false, true_implies, false_implies, implies_true, forall_const, if_true, if_false, ite_true, ite_false, reduceIte, eq_self_iff_true, Int.natCast_nonneg, Int.zero_add, Int.add_zero, pi_s, pi_n, on_2000, on_402, on_408, on_19, on_5, on_4]
        exact hP
      · have est : stT b Z 1 (.inl t) = .inl (t + 1) := by show (if tK b Z t = 1 then _ else _) = _; rw [if_pos k1, if_neg q4]
        have esp : spN b Z ns (.inl t) u = (.inl (t + 1), (if tN b Z t ∈ ns then nt u 3 (tP b Z t) else u), tN b Z t) := by show (if tK b Z t = 1 then _ else _) = _; rw [if_pos k1, if_neg q4]
        rw [est] at g2
        rw [esp] at h
        rw [est, e7 k1, e5, n1]
        have hn : ∀ i, i < ns.length → τ.2 19 i = ns.getD i 0 := fun i hi => by rw [nm_fr g1 (by decide)]; exact n3 i hi
        have go := rn_46 (p := tP b Z t) (t' := t + 1) (v := if tN b Z t ∈ ns then nt u 3 (tP b Z t) else u) (x := tN b Z t) hA n4 (fun υ j1 j2 j3 j4 => h υ j1 j2 j3 (fun _ _ => j4)) 0 (by decide) (Nat.zero_le _) τ u hI g2 hu1 hn rfl
        refine hA [(46, 6)] 12 _ _ _ _ _ ?_
        simp only [stB]
        try simp only [dX5_readName_0, dX5_readName_1, FT_X5_39, dX5_readName_4, dX5_readName_5, dX5_readName_6, FT_X5_36, dX5_readName_9, dX5_readName_10, dX5_readName_11, FT_X5_12, dX5_readName_14, FT_X5_105, dX5_readName_17, dX5_readName_19, dX5_readName_20, dX5_readName_21, xX5_readNameE_c85, xX5_readNameE_n85, dX5_readName_24, xX5_readNameE_t24, dX5_readName_27, dX5_readName_29, xX5_readNameE_t29, dX5_readName_32, dX5_readName_34, dX5_readName_35, FT_X5_25, dX5_readName_38, dX5_readName_39, xX5_readNameE_t39, dX5_readName_42, dX5_readName_43, dX5_readName_44, dX5_readName_46, dX5_readName_48, dX5_readName_50, xX5_readNameE_t50, dX5_readName_53, dX5_readName_54, dX5_readName_57, dX5_readName_59, dX5_readName_60, dX5_readName_61, dX5_readName_62, xX5_readNameE_t62, dX5_readName_65, dX5_readName_66, dX5_readName_67, dX5_readName_68, xX5_readNameE_c77, xX5_readNameE_n77, dX5_readName_71, dX5_readName_74, xX5_readNameE_t74, dX5_readName_77, dX5_readName_78, dX5_readName_81, dX5_readName_83, dX5_readName_84, dX5_readName_85, xX5_readNameE_SH, xX5_readNameE_KF, xX5_readNameE_rt, xX5_readNameE_FT, xX5_readNameE_PT, xX5_readNameE_CT, xX5_readNameE_KT, xX5_readNameE_LT, xX5_readNameE_NT, o_aload_n, o_arraylength, o_getfield, o_goto, o_iconst, o_ifCond_eq, o_ifCond_lt, o_ifCond_ne, o_if_icmp_ge, o_if_icmp_lt, o_iinc, o_iload, o_iload_n, o_invokevirtual, o_istore, o_istore_n, o_laload, o_lastore, o_lcmp, o_lload_n, o_lstore_n, o_return_, SH_2, KF_2_0, SH_3, KF_2_2, SH_19, KF_2_5, KF_2_6, KF_3_1, SH_20, KF_20_1, am_ty, am_vc, am_opt, am_cl, am_find, am_ldi, am_ldl, am_lda, am_v, am_1, am_1l, am_1a, am_2, am_2l, am_ix, am_ri, am_arr, am_pf, am_rc, am_mask, am_lg, am_av, am_nat, fv_0, fv_1, fv_2, fv_3, fw_0, fw_1, List.getElem?_cons_zero, List.getElem?_cons_succ, List.set_cons_zero, List.set_cons_succ, List.length_cons, List.length_nil, List.take_succ_cons, List.take_zero, List.drop_succ_cons, List.drop_zero, List.reverse_cons, List.reverse_nil, List.nil_append, List.cons_append, List.append_nil, List.map_cons, List.map_nil, List.sum_cons, List.sum_nil, Value.category, Option.toList_some, Option.toList_none, Nat.reduceAdd, Nat.reduceLT, Nat.reduceLeDiff, Nat.reduceEqDiff, Nat.reduceSub, Nat.add_zero, Nat.le_refl, Nat.zero_le, Int.reduceNeg, Int.reduceLE, Int.reduceLT, true_and, and_true, and_self, if_true, if_false, ite_true, ite_false, eq_self_iff_true, reduceIte, reduceCtorEq, not_false_eq_true, not_true_eq_false, or_true, true_or, or_false, false_or, Nat.lt_irrefl, Nat.zero_lt_succ]
        try simp (disch := omega) only [ii_0, ii_1, ii_t, ii_add, ii_sub, ii_mul, ii_lt, ii_le, ii_eq, ij_in, ii_c, Int.toNat_natCast, Int.toNat_zero, Int.reduceToNat, Int.reduceEq, Int.reduceNe, Int.reduceLE, Int.reduceLT, Int.reduceAdd, Int.reduceSub, Int.reduceMul, Int.reduceNeg, Nat.reduceLT, Nat.reduceAdd, Nat.reduceMul, not_false_eq_true, not_true_eq_false, true_and, and_true, and_self, false_and, and_false, true_implies, false_implies, implies_true, forall_const, if_true, if_false, ite_true, ite_false, reduceIte, eq_self_iff_true, Int.natCast_nonneg, Int.zero_add, Int.add_zero, pi_s, pi_n, on_2000, on_402, on_408, on_19, on_5, on_4]
        exact ⟨fun q => absurd q (by omega), fun _ => ⟨fun _ => go, fun q => absurd q (by omega)⟩⟩
    · have est : stT b Z 1 (.inl t) = .inr (1, tP b Z t) := by show (if tK b Z t = 1 then _ else _) = _; rw [if_neg k1]
      have esp : spN b Z ns (.inl t) u = (.inr (1, tP b Z t), u, 0) := by show (if tK b Z t = 1 then _ else _) = _; rw [if_neg k1]
      have hP := out _ est (by rw [esp]) (by rw [esp])
      rw [est]
      refine hA [] 4 _ _ _ _ _ ?_
      simp only [stB]
      try simp only [dX5_readName_0, dX5_readName_1, FT_X5_39, dX5_readName_4, dX5_readName_5, dX5_readName_6, FT_X5_36, dX5_readName_9, dX5_readName_10, dX5_readName_11, FT_X5_12, dX5_readName_14, FT_X5_105, dX5_readName_17, dX5_readName_19, dX5_readName_20, dX5_readName_21, xX5_readNameE_c85, xX5_readNameE_n85, dX5_readName_24, xX5_readNameE_t24, dX5_readName_27, dX5_readName_29, xX5_readNameE_t29, dX5_readName_32, dX5_readName_34, dX5_readName_35, FT_X5_25, dX5_readName_38, dX5_readName_39, xX5_readNameE_t39, dX5_readName_42, dX5_readName_43, dX5_readName_44, dX5_readName_46, dX5_readName_48, dX5_readName_50, xX5_readNameE_t50, dX5_readName_53, dX5_readName_54, dX5_readName_57, dX5_readName_59, dX5_readName_60, dX5_readName_61, dX5_readName_62, xX5_readNameE_t62, dX5_readName_65, dX5_readName_66, dX5_readName_67, dX5_readName_68, xX5_readNameE_c77, xX5_readNameE_n77, dX5_readName_71, dX5_readName_74, xX5_readNameE_t74, dX5_readName_77, dX5_readName_78, dX5_readName_81, dX5_readName_83, dX5_readName_84, dX5_readName_85, xX5_readNameE_SH, xX5_readNameE_KF, xX5_readNameE_rt, xX5_readNameE_FT, xX5_readNameE_PT, xX5_readNameE_CT, xX5_readNameE_KT, xX5_readNameE_LT, xX5_readNameE_NT, o_aload_n, o_arraylength, o_getfield, o_goto, o_iconst, o_ifCond_eq, o_ifCond_lt, o_ifCond_ne, o_if_icmp_ge, o_if_icmp_lt, o_iinc, o_iload, o_iload_n, o_invokevirtual, o_istore, o_istore_n, o_laload, o_lastore, o_lcmp, o_lload_n, o_lstore_n, o_return_, SH_2, KF_2_0, SH_3, KF_2_2, SH_19, KF_2_5, KF_2_6, KF_3_1, SH_20, KF_20_1, am_ty, am_vc, am_opt, am_cl, am_find, am_ldi, am_ldl, am_lda, am_v, am_1, am_1l, am_1a, am_2, am_2l, am_ix, am_ri, am_arr, am_pf, am_rc, am_mask, am_lg, am_av, am_nat, fv_0, fv_1, fv_2, fv_3, fw_0, fw_1, List.getElem?_cons_zero, List.getElem?_cons_succ, List.set_cons_zero, List.set_cons_succ, List.length_cons, List.length_nil, List.take_succ_cons, List.take_zero, List.drop_succ_cons, List.drop_zero, List.reverse_cons, List.reverse_nil, List.nil_append, List.cons_append, List.append_nil, List.map_cons, List.map_nil, List.sum_cons, List.sum_nil, Value.category, Option.toList_some, Option.toList_none, Nat.reduceAdd, Nat.reduceLT, Nat.reduceLeDiff, Nat.reduceEqDiff, Nat.reduceSub, Nat.add_zero, Nat.le_refl, Nat.zero_le, Int.reduceNeg, Int.reduceLE, Int.reduceLT, true_and, and_true, and_self, if_true, if_false, ite_true, ite_false, eq_self_iff_true, reduceIte, reduceCtorEq, not_false_eq_true, not_true_eq_false, or_true, true_or, or_false, false_or, Nat.lt_irrefl, Nat.zero_lt_succ]
      try simp (disch := omega) only [ii_0, ii_1, ii_t, ii_add, ii_sub, ii_mul, ii_lt, ii_le, ii_eq, ij_in, ii_c, Int.toNat_natCast, Int.toNat_zero, Int.reduceToNat, Int.reduceEq, Int.reduceNe, Int.reduceLE, Int.reduceLT, Int.reduceAdd, Int.reduceSub, Int.reduceMul, Int.reduceNeg, Nat.reduceLT, Nat.reduceAdd, Nat.reduceMul, not_false_eq_true, not_true_eq_false, true_and, and_true, and_self, false_and, and_false, true_implies, false_implies, implies_true, forall_const, if_true, if_false, ite_true, ite_false, reduceIte, eq_self_iff_true, Int.natCast_nonneg, Int.zero_add, Int.add_zero, pi_s, pi_n, on_2000, on_402, on_408, on_19, on_5, on_4]
      exact hP
theorem mX5_readNameE (l : Launch) : am_M l TB NB vwCl SH KF yX5_readName cX5_readName 6 none 4 0 0 sX5_readNameE := by
  refine am_M.of xX5_readNameE (by decide +kernel) TB_good GF rfl rfl rfl (by decide) ⟨FT_X5_ok, PT_X5_ok _, CT_X5_ok, KT_X5_ok, LT_X5_ok, NT_X5_ok, ?_⟩ ptX5_readNameE
  exact List.forall_mem_cons.mpr ⟨⟨yX5_note, cX5_note, 3, none, 2, 2, mX5_noteE l, by decide, by decide, tk_615, tk_104, ⟨by decide +kernel, by decide +kernel, by decide +kernel⟩, rfl, tk_612, tk_614, ⟨(RX5, TX5, 11), rfl, tb_at 8 (by decide +kernel) (by decide +kernel)⟩⟩, List.forall_mem_cons.mpr ⟨⟨yX5_take, cX5_take, 2, (some .boolean), 3, 1, mX5_takeE l, by decide, by decide, tk_603, tk_104, ⟨by decide +kernel, by decide +kernel, by decide +kernel⟩, rfl, tk_600, tk_602, ⟨(RX5, TX5, 11), rfl, tb_at 5 (by decide +kernel) (by decide +kernel)⟩⟩, fun _ h => absurd h List.not_mem_nil⟩⟩

