/-! THE CLASS'S EXPRESSIONS: the recursion closed. Printed by wip/am/chk/hand/ud.py. -/
theorem mX5_expr0 (l : Launch) : am_M l TB NB vwCl SH KF yX5_readUnit cX5_readUnit 2 none (6 + 3 * 0) 0 0 (eW eU 6) := am_M.of (xX5_readUnit (lno)) (by decide +kernel) TB_good GF rfl rfl rfl (by omega) ⟨FT_X5_ok, PT_X5_ok _, CT_X5_ok, KT_X5_ok, LT_X5_ok, NT_X5_ok, List.forall_mem_cons.mpr ⟨⟨yX5_fail, cX5_fail, 2, none, 2, 1, mX5_failE l, by omega, by decide, tk_607, tk_104, ⟨by decide +kernel, by decide +kernel, by decide +kernel⟩, rfl, tk_604, tk_606, ⟨(RX5, TX5, 11), rfl, tb_at 6 (by decide +kernel) (by decide +kernel)⟩⟩, List.forall_mem_cons.mpr ⟨⟨yX5_take, cX5_take, 2, (some .boolean), 3, 1, mX5_takeE l, by omega, by decide, tk_603, tk_104, ⟨by decide +kernel, by decide +kernel, by decide +kernel⟩, rfl, tk_600, tk_602, ⟨(RX5, TX5, 11), rfl, tb_at 5 (by decide +kernel) (by decide +kernel)⟩⟩, List.forall_mem_cons.mpr ⟨⟨yX5_readSum, cX5_readSum, 4, none, 1, 1, am_never (d := 1), by omega, by decide, tk_636, tk_104, ⟨by decide +kernel, by decide +kernel, by decide +kernel⟩, rfl, (show Cond.methodLink yX5_readUnit.cls 124 yX5_readSum ∈ TB from tk_633), tk_635, ⟨(RX5, TX5, 11), rfl, tb_at 12 (by decide +kernel) (by decide +kernel)⟩⟩, List.forall_mem_cons.mpr ⟨⟨yX2_add, cX2_add, 3, (some .int), 2, 2, mX2_addE l, by omega, by decide, tk_182, tk_106, ⟨by decide +kernel, by decide +kernel, by decide +kernel⟩, rfl, tk_645, tk_180, ⟨(RX2, TX2, 6), rfl, tk_181⟩⟩, fun _ h => absurd h List.not_mem_nil⟩⟩⟩⟩⟩ (ptX5_readUnit 6 (by decide) (fun _ _ _ _ h _ => absurd h (by decide)))
theorem mX5_prod (l : Launch) {d o : Nat} (hd : 5 ≤ d) (hU : am_M l TB NB vwCl SH KF yX5_readUnit cX5_readUnit 2 none (d) 0 0 (eW eU o)) : am_M l TB NB vwCl SH KF yX5_readProduct cX5_readProduct 4 none (d + 1) 0 0 (eW eP o) := am_M.of (xX5_readProduct (eW eU o)) (by decide +kernel) TB_good GF rfl rfl rfl (by omega) ⟨FT_X5_ok, PT_X5_ok _, CT_X5_ok, KT_X5_ok, LT_X5_ok, NT_X5_ok, List.forall_mem_cons.mpr ⟨⟨yX5_take, cX5_take, 2, (some .boolean), 3, 1, mX5_takeE l, by omega, by decide, tk_603, tk_104, ⟨by decide +kernel, by decide +kernel, by decide +kernel⟩, rfl, tk_600, tk_602, ⟨(RX5, TX5, 11), rfl, tb_at 5 (by decide +kernel) (by decide +kernel)⟩⟩, List.forall_mem_cons.mpr ⟨⟨yX2_add, cX2_add, 3, (some .int), 2, 2, mX2_addE l, by omega, by decide, tk_182, tk_106, ⟨by decide +kernel, by decide +kernel, by decide +kernel⟩, rfl, tk_645, tk_180, ⟨(RX2, TX2, 6), rfl, tk_181⟩⟩, List.forall_mem_cons.mpr ⟨⟨yX5_readUnit, cX5_readUnit, 2, none, d, 1, hU, by omega, by decide, tk_644, tk_104, ⟨by decide +kernel, by decide +kernel, by decide +kernel⟩, rfl, (show Cond.methodLink yX5_readProduct.cls 136 yX5_readUnit ∈ TB from tk_641), tk_643, ⟨(RX5, TX5, 11), rfl, tb_at 14 (by decide +kernel) (by decide +kernel)⟩⟩, fun _ h => absurd h List.not_mem_nil⟩⟩⟩⟩ (ptX5_readProduct o (fun _ _ _ _ h => h))
theorem mX5_sum (l : Launch) {d o : Nat} (hd : 5 ≤ d) (hP : am_M l TB NB vwCl SH KF yX5_readProduct cX5_readProduct 4 none (d) 0 0 (eW eP o)) : am_M l TB NB vwCl SH KF yX5_readSum cX5_readSum 4 none (d + 1) 0 0 (eW eS o) := am_M.of (xX5_readSum (eW eP o)) (by decide +kernel) TB_good GF rfl rfl rfl (by omega) ⟨FT_X5_ok, PT_X5_ok _, CT_X5_ok, KT_X5_ok, LT_X5_ok, NT_X5_ok, List.forall_mem_cons.mpr ⟨⟨yX5_take, cX5_take, 2, (some .boolean), 3, 1, mX5_takeE l, by omega, by decide, tk_603, tk_104, ⟨by decide +kernel, by decide +kernel, by decide +kernel⟩, rfl, tk_600, tk_602, ⟨(RX5, TX5, 11), rfl, tb_at 5 (by decide +kernel) (by decide +kernel)⟩⟩, List.forall_mem_cons.mpr ⟨⟨yX2_add, cX2_add, 3, (some .int), 2, 2, mX2_addE l, by omega, by decide, tk_182, tk_106, ⟨by decide +kernel, by decide +kernel, by decide +kernel⟩, rfl, tk_645, tk_180, ⟨(RX2, TX2, 6), rfl, tk_181⟩⟩, List.forall_mem_cons.mpr ⟨⟨yX5_readProduct, cX5_readProduct, 4, none, d, 1, hP, by omega, by decide, tk_640, tk_104, ⟨by decide +kernel, by decide +kernel, by decide +kernel⟩, rfl, (show Cond.methodLink yX5_readSum.cls 133 yX5_readProduct ∈ TB from tk_637), tk_639, ⟨(RX5, TX5, 11), rfl, tb_at 13 (by decide +kernel) (by decide +kernel)⟩⟩, fun _ h => absurd h List.not_mem_nil⟩⟩⟩⟩ (ptX5_readSum o (fun _ _ _ _ h => h))
theorem mX5_unit (l : Launch) {d o : Nat} (hd : 5 ≤ d) (ho : o ≤ 5) (hS : am_M l TB NB vwCl SH KF yX5_readSum cX5_readSum 4 none (d) 0 0 (eW eS (o + 1))) : am_M l TB NB vwCl SH KF yX5_readUnit cX5_readUnit 2 none (d + 1) 0 0 (eW eU o) := am_M.of (xX5_readUnit (eW eS (o + 1))) (by decide +kernel) TB_good GF rfl rfl rfl (by omega) ⟨FT_X5_ok, PT_X5_ok _, CT_X5_ok, KT_X5_ok, LT_X5_ok, NT_X5_ok, List.forall_mem_cons.mpr ⟨⟨yX5_fail, cX5_fail, 2, none, 2, 1, mX5_failE l, by omega, by decide, tk_607, tk_104, ⟨by decide +kernel, by decide +kernel, by decide +kernel⟩, rfl, tk_604, tk_606, ⟨(RX5, TX5, 11), rfl, tb_at 6 (by decide +kernel) (by decide +kernel)⟩⟩, List.forall_mem_cons.mpr ⟨⟨yX5_take, cX5_take, 2, (some .boolean), 3, 1, mX5_takeE l, by omega, by decide, tk_603, tk_104, ⟨by decide +kernel, by decide +kernel, by decide +kernel⟩, rfl, tk_600, tk_602, ⟨(RX5, TX5, 11), rfl, tb_at 5 (by decide +kernel) (by decide +kernel)⟩⟩, List.forall_mem_cons.mpr ⟨⟨yX5_readSum, cX5_readSum, 4, none, d, 1, hS, by omega, by decide, tk_636, tk_104, ⟨by decide +kernel, by decide +kernel, by decide +kernel⟩, rfl, (show Cond.methodLink yX5_readUnit.cls 124 yX5_readSum ∈ TB from tk_633), tk_635, ⟨(RX5, TX5, 11), rfl, tb_at 12 (by decide +kernel) (by decide +kernel)⟩⟩, List.forall_mem_cons.mpr ⟨⟨yX2_add, cX2_add, 3, (some .int), 2, 2, mX2_addE l, by omega, by decide, tk_182, tk_106, ⟨by decide +kernel, by decide +kernel, by decide +kernel⟩, rfl, tk_645, tk_180, ⟨(RX2, TX2, 6), rfl, tk_181⟩⟩, fun _ h => absurd h List.not_mem_nil⟩⟩⟩⟩⟩ (ptX5_readUnit o (by omega) (fun _ _ _ _ _ h => h))
theorem mX5_exprs (l : Launch) : ∀ k : Nat, k ≤ 6 → am_M l TB NB vwCl SH KF yX5_readSum cX5_readSum 4 none (6 + 3 * k + 1 + 1) 0 0 (eW eS (6 - k)) := by
  intro k
  induction k with
  | zero => intro _; exact mX5_sum l (by omega) (mX5_prod l (by omega) (mX5_expr0 l))
  | succ k ih =>
    intro hk
    have h1 := ih (by omega)
    have e : 6 - k = 6 - (k + 1) + 1 := by omega
    rw [e] at h1
    have h2 := mX5_sum l (by omega) (mX5_prod l (by omega) (mX5_unit l (by omega) (by omega) h1))
    have e2 : 6 + 3 * (k + 1) + 1 + 1 = 6 + 3 * k + 1 + 1 + 1 + 1 + 1 := by omega
    rw [e2]
    exact h2
/-- an expression, from a token of the law on -/
theorem mX5_readSumE (l : Launch) : am_M l TB NB vwCl SH KF yX5_readSum cX5_readSum 4 none (26) 0 0 (eW eS 0) := mX5_exprs l 6 (by decide)
/-! THE REFERENCE'S READER, step by step: the states that its first methods leave. Printed from wip/am/chk/hand/r1.in. -/
def pFp (σ : am_S) : Int := (σ.1 51 14).toInt
def pXp (σ : am_S) : Int := (σ.1 51 16).toInt
/-- an old word, and what more is known of the answer and of the state behind -/
def stW (old : am_Sp) (ex : List Value → am_S → Option Value → am_S → Prop) : am_Sp := fun as n σ post => old as n σ (fun v τ => ex as σ v τ → post v τ)
theorem TK_pi {σ : am_S} (hB : sb_ok BB SH σ) {k : Nat} {x : Int32} (hk : (k = 11 ∧ pT σ ≤ x.toInt ∧ x.toInt ≤ 400) ∨ ((k = 13 ∨ k = 15) ∧ 1 ≤ x.toInt ∧ x.toInt ≤ 9) ∨ (k = 14 ∨ k = 16)) : TK σ (am_pi σ 51 k x) := by
  have x1 := ii_lo x
  have x2 := ii_hi x
  have tb := pT_b hB
  have h0 : sI BB SH TKm σ σ := ⟨hB, sb_fr_r _ _⟩
  rcases hk with ⟨rfl, h1, h2⟩ | ⟨rfl | rfl, h1, h2⟩ | rfl | rfl
  · refine ⟨sI_fld (ci := 12) h0 rfl ⟨by show (0 : Int) ≤ _; omega, by show _ ≤ (400 : Int); omega⟩ ⟨_, List.mem_cons_self, rfl, by decide, by decide⟩, by unfold pT; rw [pi_s]; exact h1, NZ_of (pi_n _ _ _ _ (by decide)) (pi_n _ _ _ _ (by decide))⟩
  · refine ⟨sI_fld (ci := 12) h0 rfl ⟨by show (0 : Int) ≤ _; omega, by show _ ≤ (9 : Int); omega⟩ ⟨_, List.mem_cons_of_mem _ List.mem_cons_self, rfl, by decide, by decide⟩, by unfold pT; rw [pi_n _ _ _ _ (by decide)]; exact Int.le_refl _, ⟨fun _ => by unfold pF; rw [pi_s]; omega, fun q => by unfold pX at *; rw [pi_n _ _ _ _ (by decide)]; exact q⟩⟩
  · refine ⟨sI_fld (ci := 12) h0 rfl ⟨by show (0 : Int) ≤ _; omega, by show _ ≤ (9 : Int); omega⟩ ⟨_, List.mem_cons_of_mem _ List.mem_cons_self, rfl, by decide, by decide⟩, by unfold pT; rw [pi_n _ _ _ _ (by decide)]; exact Int.le_refl _, ⟨fun q => by unfold pF at *; rw [pi_n _ _ _ _ (by decide)]; exact q, fun _ => by unfold pX; rw [pi_s]; omega⟩⟩
  · refine ⟨sI_fld (ci := 12) h0 rfl ⟨by show (-2147483648 : Int) ≤ _; omega, by show _ ≤ (2147483647 : Int); omega⟩ ⟨_, List.mem_cons_of_mem _ List.mem_cons_self, rfl, by decide, by decide⟩, by unfold pT; rw [pi_n _ _ _ _ (by decide)]; exact Int.le_refl _, NZ_of (pi_n _ _ _ _ (by decide)) (pi_n _ _ _ _ (by decide))⟩
  · refine ⟨sI_fld (ci := 12) h0 rfl ⟨by show (-2147483648 : Int) ≤ _; omega, by show _ ≤ (2147483647 : Int); omega⟩ ⟨_, List.mem_cons_of_mem _ List.mem_cons_self, rfl, by decide, by decide⟩, by unfold pT; rw [pi_n _ _ _ _ (by decide)]; exact Int.le_refl _, NZ_of (pi_n _ _ _ _ (by decide)) (pi_n _ _ _ _ (by decide))⟩
/-- fail -/
def failS (k : Int) (σ : am_S) : am_S := if pF σ = 0 then am_pi (am_pi σ 51 13 (Int32.ofInt k)) 51 14 (σ.1 55 (pT σ).toNat) else σ
theorem failS_ok {σ : am_S} {k : Int} (hB : sb_ok BB SH σ) (hk : 1 ≤ k ∧ k ≤ 9) : TK σ (failS k σ) ∧ pT (failS k σ) = pT σ ∧ pF (failS k σ) ≠ 0 := by
  unfold failS
  by_cases q : pF σ = 0
  · rw [if_pos q]
    have e : (Int32.ofInt k).toInt = k := ii_t (by omega) (by omega)
    have h1 := TK_pi hB (k := 13) (x := Int32.ofInt k) (Or.inr (Or.inl ⟨Or.inl rfl, by omega, by omega⟩))
    have h2 := TK_pi h1.1.1 (k := 14) (x := σ.1 55 (pT σ).toNat) (Or.inr (Or.inr (Or.inl rfl)))
    refine ⟨TK_t h1 h2, ?_, ?_⟩
    · unfold pT; rw [pi_n _ _ _ _ (by decide), pi_n _ _ _ _ (by decide)]
    · unfold pF; rw [pi_n _ _ _ _ (by decide), pi_s]; omega
  · rw [if_neg q]
    exact ⟨TK_r hB, rfl, q⟩
/-- goesOn -/
def goS (σ : am_S) : am_S := if pT σ = 400 then failS 2 σ else am_pi σ 51 11 (Int32.ofInt (pT σ + 1))
theorem goS_ok {σ : am_S} (hB : sb_ok BB SH σ) : TK σ (goS σ) ∧ ADV σ (goS σ) := by
  have tb := pT_b hB
  unfold goS
  by_cases q : pT σ = 400
  · rw [if_pos q]
    obtain ⟨a, b, c⟩ := failS_ok hB (k := 2) ⟨by decide, by decide⟩
    exact ⟨a, Or.inr ⟨b, c⟩⟩
  · rw [if_neg q]
    have e : (Int32.ofInt (pT σ + 1)).toInt = pT σ + 1 := ii_t (by omega) (by omega)
    refine ⟨TK_pi hB (Or.inl ⟨rfl, by omega, by omega⟩), Or.inl ⟨?_, ?_⟩⟩
    · show ((am_pi σ 51 11 (Int32.ofInt (pT σ + 1))).1 51 11).toInt = _
      rw [pi_s, e]
    · unfold pF; rw [pi_n _ _ _ _ (by decide)]
def kdT (σ : am_S) : Int := (σ.1 54 (pT σ).toNat).toInt
/-- must -/
def muS (k : Int) (σ : am_S) : am_S := if pF σ = 0 ∧ kdT σ = k then goS σ else failS 1 σ
theorem muS_ok {σ : am_S} {k : Int} (hB : sb_ok BB SH σ) : TK σ (muS k σ) ∧ ADV σ (muS k σ) := by
  unfold muS
  by_cases q : pF σ = 0 ∧ kdT σ = k
  · rw [if_pos q]; exact goS_ok hB
  · rw [if_neg q]
    obtain ⟨a, b, c⟩ := failS_ok hB (k := 1) ⟨by decide, by decide⟩
    exact ⟨a, Or.inr ⟨b, c⟩⟩
/-- wrong -/
def wrS (k : Int) (tok : Nat) (σ : am_S) : am_S := if pF σ = 0 ∧ (pX σ = 0 ∨ ¬ ((σ.1 55 tok).toInt > pXp σ ∨ (σ.1 55 tok).toInt = pXp σ ∧ pX σ ≤ k)) then am_pi (am_pi σ 51 15 (Int32.ofInt k)) 51 16 (σ.1 55 tok) else σ
theorem wrS_ok {σ : am_S} {k : Int} {tok : Nat} (hB : sb_ok BB SH σ) (hk : 1 ≤ k ∧ k ≤ 9) : TK σ (wrS k tok σ) ∧ pT (wrS k tok σ) = pT σ ∧ pF (wrS k tok σ) = pF σ := by
  unfold wrS
  split
  · have e : (Int32.ofInt k).toInt = k := ii_t (by omega) (by omega)
    have h1 := TK_pi hB (k := 15) (x := Int32.ofInt k) (Or.inr (Or.inl ⟨Or.inr rfl, by omega, by omega⟩))
    have h2 := TK_pi h1.1.1 (k := 16) (x := σ.1 55 tok) (Or.inr (Or.inr (Or.inr rfl)))
    refine ⟨TK_t h1 h2, ?_, ?_⟩
    · unfold pT; rw [pi_n _ _ _ _ (by decide), pi_n _ _ _ _ (by decide)]
    · unfold pF; rw [pi_n _ _ _ _ (by decide), pi_n _ _ _ _ (by decide)]
  · exact ⟨TK_r hB, rfl, rfl⟩
def xFail (as : List Value) (σ : am_S) (_ : Option Value) (τ : am_S) : Prop := ∀ k : Int, (1 ≤ k ∧ k ≤ 9) → as = [.ref 51, .int (Int32.ofInt k)] → τ = failS k σ
def xGo (_ : List Value) (σ : am_S) (_ : Option Value) (τ : am_S) : Prop := τ = goS σ
def xMust (as : List Value) (σ : am_S) (_ : Option Value) (τ : am_S) : Prop := ∀ k : Int, (0 ≤ k ∧ k ≤ 38) → as = [.ref 51, .int (Int32.ofInt k)] → τ = muS k σ
def xWrong (as : List Value) (σ : am_S) (_ : Option Value) (τ : am_S) : Prop := ∀ (k : Int) (tok : Nat), (1 ≤ k ∧ k ≤ 9) → tok ≤ 402 → as = [.ref 51, .int (Int32.ofInt k), .int (Int32.ofInt (tok : Int))] → τ = wrS k tok σ
theorem dX12_fail_0 : decode cX12_fail 0 = .ok (.aload_n 0, 1) := dk_ok (by decide +kernel)
theorem dX12_fail_1 : decode cX12_fail 1 = .ok (.getfield 191, 3) := dk_ok (by decide +kernel)
theorem dX12_fail_4 : decode cX12_fail 4 = .ok (.ifCond .le 4, 3) := dk_ok (by decide +kernel)
theorem dX12_fail_7 : decode cX12_fail 7 = .ok (.return_, 1) := dk_ok (by decide +kernel)
theorem dX12_fail_8 : decode cX12_fail 8 = .ok (.aload_n 0, 1) := dk_ok (by decide +kernel)
theorem dX12_fail_9 : decode cX12_fail 9 = .ok (.iload_n 1, 1) := dk_ok (by decide +kernel)
theorem dX12_fail_10 : decode cX12_fail 10 = .ok (.putfield 191, 3) := dk_ok (by decide +kernel)
theorem dX12_fail_13 : decode cX12_fail 13 = .ok (.aload_n 0, 1) := dk_ok (by decide +kernel)
theorem dX12_fail_14 : decode cX12_fail 14 = .ok (.aload_n 0, 1) := dk_ok (by decide +kernel)
theorem dX12_fail_15 : decode cX12_fail 15 = .ok (.getfield 24, 3) := dk_ok (by decide +kernel)
theorem dX12_fail_18 : decode cX12_fail 18 = .ok (.aload_n 0, 1) := dk_ok (by decide +kernel)
theorem dX12_fail_19 : decode cX12_fail 19 = .ok (.getfield 194, 3) := dk_ok (by decide +kernel)
theorem dX12_fail_22 : decode cX12_fail 22 = .ok (.iaload, 1) := dk_ok (by decide +kernel)
theorem dX12_fail_23 : decode cX12_fail 23 = .ok (.putfield 197, 3) := dk_ok (by decide +kernel)
theorem dX12_fail_26 : decode cX12_fail 26 = .ok (.return_, 1) := dk_ok (by decide +kernel)
theorem dX12_goesOn_0 : decode cX12_goesOn 0 = .ok (.aload_n 0, 1) := dk_ok (by decide +kernel)
theorem dX12_goesOn_1 : decode cX12_goesOn 1 = .ok (.getfield 194, 3) := dk_ok (by decide +kernel)
theorem dX12_goesOn_4 : decode cX12_goesOn 4 = .ok (.sipush 400, 3) := dk_ok (by decide +kernel)
theorem dX12_goesOn_7 : decode cX12_goesOn 7 = .ok (.if_icmp .ne 11, 3) := dk_ok (by decide +kernel)
theorem dX12_goesOn_10 : decode cX12_goesOn 10 = .ok (.aload_n 0, 1) := dk_ok (by decide +kernel)
theorem dX12_goesOn_11 : decode cX12_goesOn 11 = .ok (.iconst 2, 1) := dk_ok (by decide +kernel)
theorem dX12_goesOn_12 : decode cX12_goesOn 12 = .ok (.invokevirtual 206, 3) := dk_ok (by decide +kernel)
theorem dX12_goesOn_15 : decode cX12_goesOn 15 = .ok (.goto 13, 3) := dk_ok (by decide +kernel)
theorem dX12_goesOn_18 : decode cX12_goesOn 18 = .ok (.aload_n 0, 1) := dk_ok (by decide +kernel)
theorem dX12_goesOn_19 : decode cX12_goesOn 19 = .ok (.dup, 1) := dk_ok (by decide +kernel)
theorem dX12_goesOn_20 : decode cX12_goesOn 20 = .ok (.getfield 194, 3) := dk_ok (by decide +kernel)
theorem dX12_goesOn_23 : decode cX12_goesOn 23 = .ok (.iconst 1, 1) := dk_ok (by decide +kernel)
theorem dX12_goesOn_24 : decode cX12_goesOn 24 = .ok (.iadd, 1) := dk_ok (by decide +kernel)
theorem dX12_goesOn_25 : decode cX12_goesOn 25 = .ok (.putfield 194, 3) := dk_ok (by decide +kernel)
theorem dX12_goesOn_28 : decode cX12_goesOn 28 = .ok (.return_, 1) := dk_ok (by decide +kernel)
theorem dX12_must_0 : decode cX12_must 0 = .ok (.aload_n 0, 1) := dk_ok (by decide +kernel)
theorem dX12_must_1 : decode cX12_must 1 = .ok (.iload_n 1, 1) := dk_ok (by decide +kernel)
theorem dX12_must_2 : decode cX12_must 2 = .ok (.invokevirtual 209, 3) := dk_ok (by decide +kernel)
theorem dX12_must_5 : decode cX12_must 5 = .ok (.ifCond .eq 10, 3) := dk_ok (by decide +kernel)
theorem dX12_must_8 : decode cX12_must 8 = .ok (.aload_n 0, 1) := dk_ok (by decide +kernel)
theorem dX12_must_9 : decode cX12_must 9 = .ok (.invokevirtual 212, 3) := dk_ok (by decide +kernel)
theorem dX12_must_12 : decode cX12_must 12 = .ok (.goto 8, 3) := dk_ok (by decide +kernel)
theorem dX12_must_15 : decode cX12_must 15 = .ok (.aload_n 0, 1) := dk_ok (by decide +kernel)
theorem dX12_must_16 : decode cX12_must 16 = .ok (.iconst 1, 1) := dk_ok (by decide +kernel)
theorem dX12_must_17 : decode cX12_must 17 = .ok (.invokevirtual 206, 3) := dk_ok (by decide +kernel)
theorem dX12_must_20 : decode cX12_must 20 = .ok (.return_, 1) := dk_ok (by decide +kernel)
theorem dX12_wrong_0 : decode cX12_wrong 0 = .ok (.aload_n 0, 1) := dk_ok (by decide +kernel)
theorem dX12_wrong_1 : decode cX12_wrong 1 = .ok (.getfield 24, 3) := dk_ok (by decide +kernel)
theorem dX12_wrong_4 : decode cX12_wrong 4 = .ok (.iload_n 2, 1) := dk_ok (by decide +kernel)
theorem dX12_wrong_5 : decode cX12_wrong 5 = .ok (.iaload, 1) := dk_ok (by decide +kernel)
theorem dX12_wrong_6 : decode cX12_wrong 6 = .ok (.istore_n 3, 1) := dk_ok (by decide +kernel)
theorem dX12_wrong_7 : decode cX12_wrong 7 = .ok (.aload_n 0, 1) := dk_ok (by decide +kernel)
theorem dX12_wrong_8 : decode cX12_wrong 8 = .ok (.getfield 191, 3) := dk_ok (by decide +kernel)
theorem dX12_wrong_11 : decode cX12_wrong 11 = .ok (.ifCond .gt 34, 3) := dk_ok (by decide +kernel)
theorem dX12_wrong_14 : decode cX12_wrong 14 = .ok (.aload_n 0, 1) := dk_ok (by decide +kernel)
theorem dX12_wrong_15 : decode cX12_wrong 15 = .ok (.getfield 200, 3) := dk_ok (by decide +kernel)
theorem dX12_wrong_18 : decode cX12_wrong 18 = .ok (.ifCond .eq 28, 3) := dk_ok (by decide +kernel)
theorem dX12_wrong_21 : decode cX12_wrong 21 = .ok (.iload_n 3, 1) := dk_ok (by decide +kernel)
theorem dX12_wrong_22 : decode cX12_wrong 22 = .ok (.aload_n 0, 1) := dk_ok (by decide +kernel)
theorem dX12_wrong_23 : decode cX12_wrong 23 = .ok (.getfield 203, 3) := dk_ok (by decide +kernel)
theorem dX12_wrong_26 : decode cX12_wrong 26 = .ok (.if_icmp .gt 19, 3) := dk_ok (by decide +kernel)
theorem dX12_wrong_29 : decode cX12_wrong 29 = .ok (.iload_n 3, 1) := dk_ok (by decide +kernel)
theorem dX12_wrong_30 : decode cX12_wrong 30 = .ok (.aload_n 0, 1) := dk_ok (by decide +kernel)
theorem dX12_wrong_31 : decode cX12_wrong 31 = .ok (.getfield 203, 3) := dk_ok (by decide +kernel)
theorem dX12_wrong_34 : decode cX12_wrong 34 = .ok (.if_icmp .ne 12, 3) := dk_ok (by decide +kernel)
theorem dX12_wrong_37 : decode cX12_wrong 37 = .ok (.iload_n 1, 1) := dk_ok (by decide +kernel)
theorem dX12_wrong_38 : decode cX12_wrong 38 = .ok (.aload_n 0, 1) := dk_ok (by decide +kernel)
theorem dX12_wrong_39 : decode cX12_wrong 39 = .ok (.getfield 200, 3) := dk_ok (by decide +kernel)
theorem dX12_wrong_42 : decode cX12_wrong 42 = .ok (.if_icmp .lt 4, 3) := dk_ok (by decide +kernel)
theorem dX12_wrong_45 : decode cX12_wrong 45 = .ok (.return_, 1) := dk_ok (by decide +kernel)
theorem dX12_wrong_46 : decode cX12_wrong 46 = .ok (.aload_n 0, 1) := dk_ok (by decide +kernel)
theorem dX12_wrong_47 : decode cX12_wrong 47 = .ok (.iload_n 1, 1) := dk_ok (by decide +kernel)
theorem dX12_wrong_48 : decode cX12_wrong 48 = .ok (.putfield 200, 3) := dk_ok (by decide +kernel)
theorem dX12_wrong_51 : decode cX12_wrong 51 = .ok (.aload_n 0, 1) := dk_ok (by decide +kernel)
theorem dX12_wrong_52 : decode cX12_wrong 52 = .ok (.iload_n 3, 1) := dk_ok (by decide +kernel)
theorem dX12_wrong_53 : decode cX12_wrong 53 = .ok (.putfield 203, 3) := dk_ok (by decide +kernel)
theorem dX12_wrong_56 : decode cX12_wrong 56 = .ok (.return_, 1) := dk_ok (by decide +kernel)

def sX12_failE : am_Sp := stW sX12_fail xFail
def xX12_failE : am_X := (SH, KF, none, FT_X12, PT_X12, CT_X12, KT_X12, LT_X12, NT_X12, [])
theorem xX12_failE_SH : am_SH xX12_failE = SH := rfl
theorem xX12_failE_KF : am_KF xX12_failE = KF := rfl
theorem xX12_failE_rt : am_rt xX12_failE = none := rfl
theorem xX12_failE_FT : am_FT xX12_failE = FT_X12 := rfl
theorem xX12_failE_PT : am_PT xX12_failE = PT_X12 := rfl
theorem xX12_failE_CT : am_CT xX12_failE = CT_X12 := rfl
theorem xX12_failE_KT : am_KT xX12_failE = KT_X12 := rfl
theorem xX12_failE_LT : am_LT xX12_failE = LT_X12 := rfl
theorem xX12_failE_NT : am_NT xX12_failE = NT_X12 := rfl
theorem xX12_failE_t4 (k : Nat → Prop) : am_tg 4 (4) k = k 8 := am_tg_eq (by decide)

set_option maxRecDepth 100000 in
theorem ptX12_failE : am_B cX12_fail xX12_failE 2 0 sX12_failE := by
  intro n0 as σ post AA hA h
  obtain ⟨rfl, hB, has, h⟩ := h
  match as, has with
  | [v0, v1], ⟨h0, ⟨x, hx0, hx1, hx2⟩, _⟩ =>
  have h0 : v0 = .ref 51 := h0
  subst h0; subst hx0
  have hx1 : 1 ≤ x.toInt := hx1
  have hx2 : x.toInt ≤ 9 := hx2
  obtain ⟨kv, ekv⟩ : ∃ kv, kv = x.toInt := ⟨_, rfl⟩
  have ex : x = Int32.ofInt kv := by rw [ekv]; exact ii_of _
  have tb := pT_b hB
  have fb := pF_b hB
  obtain ⟨tv, etv⟩ : ∃ tv, tv = pT σ := ⟨_, rfl⟩
  have e1 : σ.1 51 11 = Int32.ofInt tv := by rw [etv]; exact ii_of _
  obtain ⟨fv, efv⟩ : ∃ fv, fv = pF σ := ⟨_, rfl⟩
  have e2 : σ.1 51 13 = Int32.ofInt fv := by rw [efv]; exact ii_of _
  have hok := failS_ok hB (k := kv) ⟨by omega, by omega⟩
  have hP := h none (failS kv σ) hok.1 ⟨rfl, hok.2⟩ (fun k hk e => by
    have e9 : x = Int32.ofInt k := by simpa using e
    have e8 : kv = k := by rw [ekv, e9, ii_t (by omega) (by omega)]
    rw [e8])
  rw [← etv] at tb
  rw [← efv] at fb
  rw [ex]
  refine ⟨by simp [am_sl, Value.category], ?_⟩
  show AA 0 [some (.ref 51), some (.int (Int32.ofInt kv))] [] 92 σ
  unfold failS at hP
  rw [← efv, ← etv] at hP
  refine hA [] 20 _ _ _ _ _ ?_
  try simp only [dX12_fail_0, dX12_fail_1, FT_X12_191, dX12_fail_4, xX12_failE_t4, dX12_fail_7, dX12_fail_8, dX12_fail_9, dX12_fail_10, PT_X12_191, dX12_fail_13, dX12_fail_14, dX12_fail_15, FT_X12_24, dX12_fail_18, dX12_fail_19, FT_X12_194, dX12_fail_22, dX12_fail_23, PT_X12_197, dX12_fail_26, xX12_failE_SH, xX12_failE_KF, xX12_failE_rt, xX12_failE_FT, xX12_failE_PT, xX12_failE_CT, xX12_failE_KT, xX12_failE_LT, xX12_failE_NT, o_aload_n, o_getfield, o_iaload, o_ifCond_le, o_iload_n, o_putfield, o_return_, SH_51, KF_51_11, KF_51_13, KF_51_14, KF_51_6, SH_55, am_ty, am_vc, am_opt, am_cl, am_find, am_ldi, am_ldl, am_lda, am_v, am_1, am_1l, am_1a, am_2, am_2l, am_ix, am_ri, am_arr, am_pf, am_rc, am_mask, am_lg, am_av, am_nat, fv_0, fv_1, fv_2, fv_3, fw_0, fw_1, List.getElem?_cons_zero, List.getElem?_cons_succ, List.set_cons_zero, List.set_cons_succ, List.length_cons, List.length_nil, List.take_succ_cons, List.take_zero, List.drop_succ_cons, List.drop_zero, List.reverse_cons, List.reverse_nil, List.nil_append, List.cons_append, List.append_nil, List.map_cons, List.map_nil, List.sum_cons, List.sum_nil, Value.category, Option.toList_some, Option.toList_none, Nat.reduceAdd, Nat.reduceLT, Nat.reduceLeDiff, Nat.reduceEqDiff, Nat.reduceSub, Nat.add_zero, Nat.le_refl, Nat.zero_le, Int.reduceNeg, Int.reduceLE, Int.reduceLT, true_and, and_true, and_self, if_true, if_false, ite_true, ite_false, eq_self_iff_true, reduceIte, reduceCtorEq, not_false_eq_true, not_true_eq_false, or_true, true_or, or_false, false_or, Nat.lt_irrefl, Nat.zero_lt_succ, e1, e2]
  try simp (disch := omega) only [ii_0, ii_1, ii_t, ii_add, ii_sub, ii_mul, ii_lt, ii_le, ii_eq, ij_in, ii_c, Int.toNat_natCast, Int.toNat_zero, Int.reduceToNat, Int.reduceEq, Int.reduceNe, Int.reduceLE, Int.reduceLT, Int.reduceAdd, Int.reduceSub, Int.reduceMul, Int.reduceNeg, Nat.reduceLT, Nat.reduceAdd, Nat.reduceMul, not_false_eq_true, not_true_eq_false, true_and, and_true, and_self, false_and, and_false, true_implies, false_implies, implies_true, forall_const, if_true, if_false, ite_true, ite_false, reduceIte, eq_self_iff_true, Int.natCast_nonneg, Int.zero_add, Int.add_zero, pi_s, pi_n, e1, e2]
  refine ⟨fun q => ?_, fun q => ?_⟩
  · rw [if_pos (show fv = 0 by omega)] at hP
    exact ⟨⟨by omega, by omega⟩, hP⟩
  · rw [if_neg (show ¬ fv = 0 by omega)] at hP
    exact hP
theorem mX12_failE (l : Launch) : am_M l TB NB vwCl SH KF yX12_fail cX12_fail 2 none 2 0 0 sX12_failE :=
  am_M.of xX12_failE (by decide +kernel) TB_good GF rfl rfl rfl (by decide) ⟨FT_X12_ok, PT_X12_ok _, CT_X12_ok, KT_X12_ok, LT_X12_ok, NT_X12_ok, fun _ h => absurd h List.not_mem_nil⟩ ptX12_failE
def sX12_goesOnE : am_Sp := stW sX12_goesOn xGo
def xX12_goesOnE : am_X := (SH, KF, none, FT_X12, PT_X12, CT_X12, KT_X12, LT_X12, NT_X12, [(206, 0, 2, 12, 0, 0, sX12_failE)])
theorem xX12_goesOnE_SH : am_SH xX12_goesOnE = SH := rfl
theorem xX12_goesOnE_KF : am_KF xX12_goesOnE = KF := rfl
theorem xX12_goesOnE_rt : am_rt xX12_goesOnE = none := rfl
theorem xX12_goesOnE_FT : am_FT xX12_goesOnE = FT_X12 := rfl
theorem xX12_goesOnE_PT : am_PT xX12_goesOnE = PT_X12 := rfl
theorem xX12_goesOnE_CT : am_CT xX12_goesOnE = CT_X12 := rfl
theorem xX12_goesOnE_KT : am_KT xX12_goesOnE = KT_X12 := rfl
theorem xX12_goesOnE_LT : am_LT xX12_goesOnE = LT_X12 := rfl
theorem xX12_goesOnE_NT : am_NT xX12_goesOnE = NT_X12 := rfl
theorem xX12_goesOnE_c206 : am_find (am_ML xX12_goesOnE) 206 = some (0, 2, 12, 0, 0, sX12_failE) := rfl
theorem xX12_goesOnE_n206 : am_find NT_X12 206 = none := rfl
theorem xX12_goesOnE_t7 (k : Nat → Prop) : am_tg 7 (11) k = k 18 := am_tg_eq (by decide)
theorem xX12_goesOnE_t15 (k : Nat → Prop) : am_tg 15 (13) k = k 28 := am_tg_eq (by decide)

set_option maxRecDepth 100000 in
theorem ptX12_goesOnE : am_B cX12_goesOn xX12_goesOnE 1 0 sX12_goesOnE := by
  intro n0 as σ post AA hA h
  obtain ⟨rfl, hB, has, h⟩ := h
  match as, has with
  | [v0], ⟨h0, _⟩ =>
  have h0 : v0 = .ref 51 := h0
  subst h0
  have tb := pT_b hB
  obtain ⟨tv, etv⟩ : ∃ tv, tv = pT σ := ⟨_, rfl⟩
  have e1 : σ.1 51 11 = Int32.ofInt tv := by rw [etv]; exact ii_of _
  have hok := goS_ok hB
  have hP := h none (goS σ) hok.1 ⟨rfl, hok.2⟩ rfl
  unfold goS at hP
  rw [← etv] at hP tb
  refine ⟨by simp [am_sl, Value.category], ?_⟩
  show AA 0 [some (.ref 51)] [] 92 σ
  refine hA [(15, 1)] 11 _ _ _ _ _ ?_
  try simp only [dX12_goesOn_0, dX12_goesOn_1, FT_X12_194, dX12_goesOn_4, dX12_goesOn_7, xX12_goesOnE_t7, dX12_goesOn_10, dX12_goesOn_11, dX12_goesOn_12, xX12_goesOnE_c206, xX12_goesOnE_n206, dX12_goesOn_15, xX12_goesOnE_t15, dX12_goesOn_18, dX12_goesOn_19, dX12_goesOn_20, dX12_goesOn_23, dX12_goesOn_24, dX12_goesOn_25, PT_X12_194, dX12_goesOn_28, xX12_goesOnE_SH, xX12_goesOnE_KF, xX12_goesOnE_rt, xX12_goesOnE_FT, xX12_goesOnE_PT, xX12_goesOnE_CT, xX12_goesOnE_KT, xX12_goesOnE_LT, xX12_goesOnE_NT, o_aload_n, o_dup, o_getfield, o_goto, o_iadd, o_iconst, o_if_icmp_ne, o_invokevirtual, o_putfield, o_return_, o_sipush, SH_51, KF_51_11, am_ty, am_vc, am_opt, am_cl, am_find, am_ldi, am_ldl, am_lda, am_v, am_1, am_1l, am_1a, am_2, am_2l, am_ix, am_ri, am_arr, am_pf, am_rc, am_mask, am_lg, am_av, am_nat, fv_0, fv_1, fv_2, fv_3, fw_0, fw_1, List.getElem?_cons_zero, List.getElem?_cons_succ, List.set_cons_zero, List.set_cons_succ, List.length_cons, List.length_nil, List.take_succ_cons, List.take_zero, List.drop_succ_cons, List.drop_zero, List.reverse_cons, List.reverse_nil, List.nil_append, List.cons_append, List.append_nil, List.map_cons, List.map_nil, List.sum_cons, List.sum_nil, Value.category, Option.toList_some, Option.toList_none, Nat.reduceAdd, Nat.reduceLT, Nat.reduceLeDiff, Nat.reduceEqDiff, Nat.reduceSub, Nat.add_zero, Nat.le_refl, Nat.zero_le, Int.reduceNeg, Int.reduceLE, Int.reduceLT, true_and, and_true, and_self, if_true, if_false, ite_true, ite_false, eq_self_iff_true, reduceIte, reduceCtorEq, not_false_eq_true, not_true_eq_false, or_true, true_or, or_false, false_or, Nat.lt_irrefl, Nat.zero_lt_succ, e1]
  try simp (disch := omega) only [ii_0, ii_1, ii_t, ii_add, ii_sub, ii_mul, ii_lt, ii_le, ii_eq, ij_in, ii_c, Int.toNat_natCast, Int.toNat_zero, Int.reduceToNat, Int.reduceEq, Int.reduceNe, Int.reduceLE, Int.reduceLT, Int.reduceAdd, Int.reduceSub, Int.reduceMul, Int.reduceNeg, Nat.reduceLT, Nat.reduceAdd, Nat.reduceMul, not_false_eq_true, not_true_eq_false, true_and, and_true, and_self, false_and, and_false, true_implies, false_implies, implies_true, forall_const, if_true, if_false, ite_true, ite_false, reduceIte, eq_self_iff_true, Int.natCast_nonneg, Int.zero_add, Int.add_zero, pi_s, pi_n, e1]
  refine ⟨fun q => ?_, fun q => ?_⟩
  · rw [if_neg (by omega)] at hP
    exact hP
  · rw [if_pos (by omega)] at hP
    refine ⟨rfl, hB, ⟨rfl, ⟨_, rfl, by decide, by decide⟩, trivial⟩, fun v τ hTK hq hx => ?_⟩
    obtain ⟨rfl, hq⟩ := hq
    have e := hx 2 ⟨by decide, by decide⟩ rfl
    subst e
    try simp only [dX12_goesOn_0, dX12_goesOn_1, FT_X12_194, dX12_goesOn_4, dX12_goesOn_7, xX12_goesOnE_t7, dX12_goesOn_10, dX12_goesOn_11, dX12_goesOn_12, xX12_goesOnE_c206, xX12_goesOnE_n206, dX12_goesOn_15, xX12_goesOnE_t15, dX12_goesOn_18, dX12_goesOn_19, dX12_goesOn_20, dX12_goesOn_23, dX12_goesOn_24, dX12_goesOn_25, PT_X12_194, dX12_goesOn_28, xX12_goesOnE_SH, xX12_goesOnE_KF, xX12_goesOnE_rt, xX12_goesOnE_FT, xX12_goesOnE_PT, xX12_goesOnE_CT, xX12_goesOnE_KT, xX12_goesOnE_LT, xX12_goesOnE_NT, o_aload_n, o_dup, o_getfield, o_goto, o_iadd, o_iconst, o_if_icmp_ne, o_invokevirtual, o_putfield, o_return_, o_sipush, SH_51, KF_51_11, am_ty, am_vc, am_opt, am_cl, am_find, am_ldi, am_ldl, am_lda, am_v, am_1, am_1l, am_1a, am_2, am_2l, am_ix, am_ri, am_arr, am_pf, am_rc, am_mask, am_lg, am_av, am_nat, fv_0, fv_1, fv_2, fv_3, fw_0, fw_1, List.getElem?_cons_zero, List.getElem?_cons_succ, List.set_cons_zero, List.set_cons_succ, List.length_cons, List.length_nil, List.take_succ_cons, List.take_zero, List.drop_succ_cons, List.drop_zero, List.reverse_cons, List.reverse_nil, List.nil_append, List.cons_append, List.append_nil, List.map_cons, List.map_nil, List.sum_cons, List.sum_nil, Value.category, Option.toList_some, Option.toList_none, Nat.reduceAdd, Nat.reduceLT, Nat.reduceLeDiff, Nat.reduceEqDiff, Nat.reduceSub, Nat.add_zero, Nat.le_refl, Nat.zero_le, Int.reduceNeg, Int.reduceLE, Int.reduceLT, true_and, and_true, and_self, if_true, if_false, ite_true, ite_false, eq_self_iff_true, reduceIte, reduceCtorEq, not_false_eq_true, not_true_eq_false, or_true, true_or, or_false, false_or, Nat.lt_irrefl, Nat.zero_lt_succ]
    refine hA [] 2 _ _ _ _ _ ?_
    try simp only [dX12_goesOn_0, dX12_goesOn_1, FT_X12_194, dX12_goesOn_4, dX12_goesOn_7, xX12_goesOnE_t7, dX12_goesOn_10, dX12_goesOn_11, dX12_goesOn_12, xX12_goesOnE_c206, xX12_goesOnE_n206, dX12_goesOn_15, xX12_goesOnE_t15, dX12_goesOn_18, dX12_goesOn_19, dX12_goesOn_20, dX12_goesOn_23, dX12_goesOn_24, dX12_goesOn_25, PT_X12_194, dX12_goesOn_28, xX12_goesOnE_SH, xX12_goesOnE_KF, xX12_goesOnE_rt, xX12_goesOnE_FT, xX12_goesOnE_PT, xX12_goesOnE_CT, xX12_goesOnE_KT, xX12_goesOnE_LT, xX12_goesOnE_NT, o_aload_n, o_dup, o_getfield, o_goto, o_iadd, o_iconst, o_if_icmp_ne, o_invokevirtual, o_putfield, o_return_, o_sipush, SH_51, KF_51_11, am_ty, am_vc, am_opt, am_cl, am_find, am_ldi, am_ldl, am_lda, am_v, am_1, am_1l, am_1a, am_2, am_2l, am_ix, am_ri, am_arr, am_pf, am_rc, am_mask, am_lg, am_av, am_nat, fv_0, fv_1, fv_2, fv_3, fw_0, fw_1, List.getElem?_cons_zero, List.getElem?_cons_succ, List.set_cons_zero, List.set_cons_succ, List.length_cons, List.length_nil, List.take_succ_cons, List.take_zero, List.drop_succ_cons, List.drop_zero, List.reverse_cons, List.reverse_nil, List.nil_append, List.cons_append, List.append_nil, List.map_cons, List.map_nil, List.sum_cons, List.sum_nil, Value.category, Option.toList_some, Option.toList_none, Nat.reduceAdd, Nat.reduceLT, Nat.reduceLeDiff, Nat.reduceEqDiff, Nat.reduceSub, Nat.add_zero, Nat.le_refl, Nat.zero_le, Int.reduceNeg, Int.reduceLE, Int.reduceLT, true_and, and_true, and_self, if_true, if_false, ite_true, ite_false, eq_self_iff_true, reduceIte, reduceCtorEq, not_false_eq_true, not_true_eq_false, or_true, true_or, or_false, false_or, Nat.lt_irrefl, Nat.zero_lt_succ]
    exact hP
theorem mX12_goesOnE (l : Launch) : am_M l TB NB vwCl SH KF yX12_goesOn cX12_goesOn 1 none 3 0 0 sX12_goesOnE := by
  refine am_M.of xX12_goesOnE (by decide +kernel) TB_good GF rfl rfl rfl (by decide) ⟨FT_X12_ok, PT_X12_ok _, CT_X12_ok, KT_X12_ok, LT_X12_ok, NT_X12_ok, ?_⟩ ptX12_goesOnE
  exact List.forall_mem_cons.mpr ⟨⟨yX12_fail, cX12_fail, 2, none, 2, 1, mX12_failE l, by decide, by decide, tk_1558, tk_120, ⟨by decide +kernel, by decide +kernel, by decide +kernel⟩, rfl, tk_1555, tk_1557, ⟨(RX12, TX12, 63), rfl, tb_at 48 (by decide +kernel) (by decide +kernel)⟩⟩, fun _ h => absurd h List.not_mem_nil⟩

def sX12_mustE : am_Sp := stW sX12_must xMust
def xX12_mustE : am_X := (SH, KF, none, FT_X12, PT_X12, CT_X12, KT_X12, LT_X12, NT_X12, [(206, 0, 2, 12, 0, 0, sX12_failE), (209, 0, 2, 12, 0, 0, sX12_is), (212, 0, 1, 12, 0, 0, sX12_goesOnE)])
theorem xX12_mustE_SH : am_SH xX12_mustE = SH := rfl
theorem xX12_mustE_KF : am_KF xX12_mustE = KF := rfl
theorem xX12_mustE_rt : am_rt xX12_mustE = none := rfl
theorem xX12_mustE_FT : am_FT xX12_mustE = FT_X12 := rfl
theorem xX12_mustE_PT : am_PT xX12_mustE = PT_X12 := rfl
theorem xX12_mustE_CT : am_CT xX12_mustE = CT_X12 := rfl
theorem xX12_mustE_KT : am_KT xX12_mustE = KT_X12 := rfl
theorem xX12_mustE_LT : am_LT xX12_mustE = LT_X12 := rfl
theorem xX12_mustE_NT : am_NT xX12_mustE = NT_X12 := rfl
theorem xX12_mustE_c206 : am_find (am_ML xX12_mustE) 206 = some (0, 2, 12, 0, 0, sX12_failE) := rfl
theorem xX12_mustE_n206 : am_find NT_X12 206 = none := rfl
theorem xX12_mustE_c209 : am_find (am_ML xX12_mustE) 209 = some (0, 2, 12, 0, 0, sX12_is) := rfl
theorem xX12_mustE_n209 : am_find NT_X12 209 = none := rfl
theorem xX12_mustE_c212 : am_find (am_ML xX12_mustE) 212 = some (0, 1, 12, 0, 0, sX12_goesOnE) := rfl
theorem xX12_mustE_n212 : am_find NT_X12 212 = none := rfl
theorem xX12_mustE_t5 (k : Nat → Prop) : am_tg 5 (10) k = k 15 := am_tg_eq (by decide)
theorem xX12_mustE_t12 (k : Nat → Prop) : am_tg 12 (8) k = k 20 := am_tg_eq (by decide)

set_option maxRecDepth 100000 in
theorem ptX12_mustE : am_B cX12_must xX12_mustE 2 0 sX12_mustE := by
  intro n0 as σ post AA hA h
  obtain ⟨rfl, hB, has, h⟩ := h
  match as, has with
  | [v0, v1], ⟨h0, ⟨x, hx0, hx1, hx2⟩, _⟩ =>
  have h0 : v0 = .ref 51 := h0
  subst h0; subst hx0
  have x1 := ii_lo x
  have x2 := ii_hi x
  obtain ⟨kv, ekv⟩ : ∃ kv, kv = x.toInt := ⟨_, rfl⟩
  have ex : x = Int32.ofInt kv := by rw [ekv]; exact ii_of _
  rw [← ekv] at x1 x2
  have hok := muS_ok hB (k := kv)
  have hP := h none (muS kv σ) hok.1 ⟨rfl, hok.2⟩ (fun k hk e => by
    have e9 : x = Int32.ofInt k := by simpa using e
    have e8 : kv = k := by rw [ekv, e9, ii_t (by omega) (by omega)]
    rw [e8])
  unfold muS at hP
  rw [ex]
  refine ⟨by simp [am_sl, Value.category], ?_⟩
  show AA 0 [some (.ref 51), some (.int (Int32.ofInt kv))] [] 92 σ
  refine hA [] 3 _ _ _ _ _ ?_
  try simp only [dX12_must_0, dX12_must_1, dX12_must_2, xX12_mustE_c209, xX12_mustE_n209, dX12_must_5, xX12_mustE_t5, dX12_must_8, dX12_must_9, xX12_mustE_c212, xX12_mustE_n212, dX12_must_12, xX12_mustE_t12, dX12_must_15, dX12_must_16, dX12_must_17, xX12_mustE_c206, xX12_mustE_n206, dX12_must_20, xX12_mustE_SH, xX12_mustE_KF, xX12_mustE_rt, xX12_mustE_FT, xX12_mustE_PT, xX12_mustE_CT, xX12_mustE_KT, xX12_mustE_LT, xX12_mustE_NT, o_aload_n, o_goto, o_iconst, o_ifCond_eq, o_iload_n, o_invokevirtual, o_return_, SH_51, am_ty, am_vc, am_opt, am_cl, am_find, am_ldi, am_ldl, am_lda, am_v, am_1, am_1l, am_1a, am_2, am_2l, am_ix, am_ri, am_arr, am_pf, am_rc, am_mask, am_lg, am_av, am_nat, fv_0, fv_1, fv_2, fv_3, fw_0, fw_1, List.getElem?_cons_zero, List.getElem?_cons_succ, List.set_cons_zero, List.set_cons_succ, List.length_cons, List.length_nil, List.take_succ_cons, List.take_zero, List.drop_succ_cons, List.drop_zero, List.reverse_cons, List.reverse_nil, List.nil_append, List.cons_append, List.append_nil, List.map_cons, List.map_nil, List.sum_cons, List.sum_nil, Value.category, Option.toList_some, Option.toList_none, Nat.reduceAdd, Nat.reduceLT, Nat.reduceLeDiff, Nat.reduceEqDiff, Nat.reduceSub, Nat.add_zero, Nat.le_refl, Nat.zero_le, Int.reduceNeg, Int.reduceLE, Int.reduceLT, true_and, and_true, and_self, if_true, if_false, ite_true, ite_false, eq_self_iff_true, reduceIte, reduceCtorEq, not_false_eq_true, not_true_eq_false, or_true, true_or, or_false, false_or, Nat.lt_irrefl, Nat.zero_lt_succ]
  refine ⟨rfl, hB, kv, ⟨x1, x2⟩, rfl, fun z hz => ?_⟩
  try simp only [dX12_must_0, dX12_must_1, dX12_must_2, xX12_mustE_c209, xX12_mustE_n209, dX12_must_5, xX12_mustE_t5, dX12_must_8, dX12_must_9, xX12_mustE_c212, xX12_mustE_n212, dX12_must_12, xX12_mustE_t12, dX12_must_15, dX12_must_16, dX12_must_17, xX12_mustE_c206, xX12_mustE_n206, dX12_must_20, xX12_mustE_SH, xX12_mustE_KF, xX12_mustE_rt, xX12_mustE_FT, xX12_mustE_PT, xX12_mustE_CT, xX12_mustE_KT, xX12_mustE_LT, xX12_mustE_NT, o_aload_n, o_goto, o_iconst, o_ifCond_eq, o_iload_n, o_invokevirtual, o_return_, SH_51, am_ty, am_vc, am_opt, am_cl, am_find, am_ldi, am_ldl, am_lda, am_v, am_1, am_1l, am_1a, am_2, am_2l, am_ix, am_ri, am_arr, am_pf, am_rc, am_mask, am_lg, am_av, am_nat, fv_0, fv_1, fv_2, fv_3, fw_0, fw_1, List.getElem?_cons_zero, List.getElem?_cons_succ, List.set_cons_zero, List.set_cons_succ, List.length_cons, List.length_nil, List.take_succ_cons, List.take_zero, List.drop_succ_cons, List.drop_zero, List.reverse_cons, List.reverse_nil, List.nil_append, List.cons_append, List.append_nil, List.map_cons, List.map_nil, List.sum_cons, List.sum_nil, Value.category, Option.toList_some, Option.toList_none, Nat.reduceAdd, Nat.reduceLT, Nat.reduceLeDiff, Nat.reduceEqDiff, Nat.reduceSub, Nat.add_zero, Nat.le_refl, Nat.zero_le, Int.reduceNeg, Int.reduceLE, Int.reduceLT, true_and, and_true, and_self, if_true, if_false, ite_true, ite_false, eq_self_iff_true, reduceIte, reduceCtorEq, not_false_eq_true, not_true_eq_false, or_true, true_or, or_false, false_or, Nat.lt_irrefl, Nat.zero_lt_succ]
  rcases hz with ⟨rfl, z1, z2⟩ | ⟨rfl, hz⟩
  · rw [if_pos (⟨z1, z2⟩ : pF σ = 0 ∧ kdT σ = kv)] at hP
    refine hA [] 3 _ _ _ _ _ ?_
    try simp only [dX12_must_0, dX12_must_1, dX12_must_2, xX12_mustE_c209, xX12_mustE_n209, dX12_must_5, xX12_mustE_t5, dX12_must_8, dX12_must_9, xX12_mustE_c212, xX12_mustE_n212, dX12_must_12, xX12_mustE_t12, dX12_must_15, dX12_must_16, dX12_must_17, xX12_mustE_c206, xX12_mustE_n206, dX12_must_20, xX12_mustE_SH, xX12_mustE_KF, xX12_mustE_rt, xX12_mustE_FT, xX12_mustE_PT, xX12_mustE_CT, xX12_mustE_KT, xX12_mustE_LT, xX12_mustE_NT, o_aload_n, o_goto, o_iconst, o_ifCond_eq, o_iload_n, o_invokevirtual, o_return_, SH_51, am_ty, am_vc, am_opt, am_cl, am_find, am_ldi, am_ldl, am_lda, am_v, am_1, am_1l, am_1a, am_2, am_2l, am_ix, am_ri, am_arr, am_pf, am_rc, am_mask, am_lg, am_av, am_nat, fv_0, fv_1, fv_2, fv_3, fw_0, fw_1, List.getElem?_cons_zero, List.getElem?_cons_succ, List.set_cons_zero, List.set_cons_succ, List.length_cons, List.length_nil, List.take_succ_cons, List.take_zero, List.drop_succ_cons, List.drop_zero, List.reverse_cons, List.reverse_nil, List.nil_append, List.cons_append, List.append_nil, List.map_cons, List.map_nil, List.sum_cons, List.sum_nil, Value.category, Option.toList_some, Option.toList_none, Nat.reduceAdd, Nat.reduceLT, Nat.reduceLeDiff, Nat.reduceEqDiff, Nat.reduceSub, Nat.add_zero, Nat.le_refl, Nat.zero_le, Int.reduceNeg, Int.reduceLE, Int.reduceLT, true_and, and_true, and_self, if_true, if_false, ite_true, ite_false, eq_self_iff_true, reduceIte, reduceCtorEq, not_false_eq_true, not_true_eq_false, or_true, true_or, or_false, false_or, Nat.lt_irrefl, Nat.zero_lt_succ]
    try simp (disch := omega) only [ii_0, ii_1, ii_t, ii_add, ii_sub, ii_mul, ii_lt, ii_le, ii_eq, ij_in, ii_c, Int.toNat_natCast, Int.toNat_zero, Int.reduceToNat, Int.reduceEq, Int.reduceNe, Int.reduceLE, Int.reduceLT, Int.reduceAdd, Int.reduceSub, Int.reduceMul, Int.reduceNeg, Nat.reduceLT, Nat.reduceAdd, Nat.reduceMul, not_false_eq_true, not_true_eq_false, true_and, and_true, and_self, false_and, and_false, true_implies, false_implies, implies_true, forall_const, if_true, if_false, ite_true, ite_false, reduceIte, eq_self_iff_true, Int.natCast_nonneg, Int.zero_add, Int.add_zero, pi_s, pi_n]
    refine ⟨rfl, hB, ⟨rfl, trivial⟩, fun v τ hTK hq hx => ?_⟩
    obtain ⟨rfl, hq⟩ := hq
    have hx : τ = goS σ := hx
    subst hx
    try simp only [dX12_must_0, dX12_must_1, dX12_must_2, xX12_mustE_c209, xX12_mustE_n209, dX12_must_5, xX12_mustE_t5, dX12_must_8, dX12_must_9, xX12_mustE_c212, xX12_mustE_n212, dX12_must_12, xX12_mustE_t12, dX12_must_15, dX12_must_16, dX12_must_17, xX12_mustE_c206, xX12_mustE_n206, dX12_must_20, xX12_mustE_SH, xX12_mustE_KF, xX12_mustE_rt, xX12_mustE_FT, xX12_mustE_PT, xX12_mustE_CT, xX12_mustE_KT, xX12_mustE_LT, xX12_mustE_NT, o_aload_n, o_goto, o_iconst, o_ifCond_eq, o_iload_n, o_invokevirtual, o_return_, SH_51, am_ty, am_vc, am_opt, am_cl, am_find, am_ldi, am_ldl, am_lda, am_v, am_1, am_1l, am_1a, am_2, am_2l, am_ix, am_ri, am_arr, am_pf, am_rc, am_mask, am_lg, am_av, am_nat, fv_0, fv_1, fv_2, fv_3, fw_0, fw_1, List.getElem?_cons_zero, List.getElem?_cons_succ, List.set_cons_zero, List.set_cons_succ, List.length_cons, List.length_nil, List.take_succ_cons, List.take_zero, List.drop_succ_cons, List.drop_zero, List.reverse_cons, List.reverse_nil, List.nil_append, List.cons_append, List.append_nil, List.map_cons, List.map_nil, List.sum_cons, List.sum_nil, Value.category, Option.toList_some, Option.toList_none, Nat.reduceAdd, Nat.reduceLT, Nat.reduceLeDiff, Nat.reduceEqDiff, Nat.reduceSub, Nat.add_zero, Nat.le_refl, Nat.zero_le, Int.reduceNeg, Int.reduceLE, Int.reduceLT, true_and, and_true, and_self, if_true, if_false, ite_true, ite_false, eq_self_iff_true, reduceIte, reduceCtorEq, not_false_eq_true, not_true_eq_false, or_true, true_or, or_false, false_or, Nat.lt_irrefl, Nat.zero_lt_succ]
    refine hA [] 2 _ _ _ _ _ ?_
    try simp only [dX12_must_0, dX12_must_1, dX12_must_2, xX12_mustE_c209, xX12_mustE_n209, dX12_must_5, xX12_mustE_t5, dX12_must_8, dX12_must_9, xX12_mustE_c212, xX12_mustE_n212, dX12_must_12, xX12_mustE_t12, dX12_must_15, dX12_must_16, dX12_must_17, xX12_mustE_c206, xX12_mustE_n206, dX12_must_20, xX12_mustE_SH, xX12_mustE_KF, xX12_mustE_rt, xX12_mustE_FT, xX12_mustE_PT, xX12_mustE_CT, xX12_mustE_KT, xX12_mustE_LT, xX12_mustE_NT, o_aload_n, o_goto, o_iconst, o_ifCond_eq, o_iload_n, o_invokevirtual, o_return_, SH_51, am_ty, am_vc, am_opt, am_cl, am_find, am_ldi, am_ldl, am_lda, am_v, am_1, am_1l, am_1a, am_2, am_2l, am_ix, am_ri, am_arr, am_pf, am_rc, am_mask, am_lg, am_av, am_nat, fv_0, fv_1, fv_2, fv_3, fw_0, fw_1, List.getElem?_cons_zero, List.getElem?_cons_succ, List.set_cons_zero, List.set_cons_succ, List.length_cons, List.length_nil, List.take_succ_cons, List.take_zero, List.drop_succ_cons, List.drop_zero, List.reverse_cons, List.reverse_nil, List.nil_append, List.cons_append, List.append_nil, List.map_cons, List.map_nil, List.sum_cons, List.sum_nil, Value.category, Option.toList_some, Option.toList_none, Nat.reduceAdd, Nat.reduceLT, Nat.reduceLeDiff, Nat.reduceEqDiff, Nat.reduceSub, Nat.add_zero, Nat.le_refl, Nat.zero_le, Int.reduceNeg, Int.reduceLE, Int.reduceLT, true_and, and_true, and_self, if_true, if_false, ite_true, ite_false, eq_self_iff_true, reduceIte, reduceCtorEq, not_false_eq_true, not_true_eq_false, or_true, true_or, or_false, false_or, Nat.lt_irrefl, Nat.zero_lt_succ]
    exact hP
  · rw [if_neg (show ¬ (pF σ = 0 ∧ kdT σ = kv) from hz)] at hP
    refine hA [] 4 _ _ _ _ _ ?_
    try simp only [dX12_must_0, dX12_must_1, dX12_must_2, xX12_mustE_c209, xX12_mustE_n209, dX12_must_5, xX12_mustE_t5, dX12_must_8, dX12_must_9, xX12_mustE_c212, xX12_mustE_n212, dX12_must_12, xX12_mustE_t12, dX12_must_15, dX12_must_16, dX12_must_17, xX12_mustE_c206, xX12_mustE_n206, dX12_must_20, xX12_mustE_SH, xX12_mustE_KF, xX12_mustE_rt, xX12_mustE_FT, xX12_mustE_PT, xX12_mustE_CT, xX12_mustE_KT, xX12_mustE_LT, xX12_mustE_NT, o_aload_n, o_goto, o_iconst, o_ifCond_eq, o_iload_n, o_invokevirtual, o_return_, SH_51, am_ty, am_vc, am_opt, am_cl, am_find, am_ldi, am_ldl, am_lda, am_v, am_1, am_1l, am_1a, am_2, am_2l, am_ix, am_ri, am_arr, am_pf, am_rc, am_mask, am_lg, am_av, am_nat, fv_0, fv_1, fv_2, fv_3, fw_0, fw_1, List.getElem?_cons_zero, List.getElem?_cons_succ, List.set_cons_zero, List.set_cons_succ, List.length_cons, List.length_nil, List.take_succ_cons, List.take_zero, List.drop_succ_cons, List.drop_zero, List.reverse_cons, List.reverse_nil, List.nil_append, List.cons_append, List.append_nil, List.map_cons, List.map_nil, List.sum_cons, List.sum_nil, Value.category, Option.toList_some, Option.toList_none, Nat.reduceAdd, Nat.reduceLT, Nat.reduceLeDiff, Nat.reduceEqDiff, Nat.reduceSub, Nat.add_zero, Nat.le_refl, Nat.zero_le, Int.reduceNeg, Int.reduceLE, Int.reduceLT, true_and, and_true, and_self, if_true, if_false, ite_true, ite_false, eq_self_iff_true, reduceIte, reduceCtorEq, not_false_eq_true, not_true_eq_false, or_true, true_or, or_false, false_or, Nat.lt_irrefl, Nat.zero_lt_succ]
    try simp (disch := omega) only [ii_0, ii_1, ii_t, ii_add, ii_sub, ii_mul, ii_lt, ii_le, ii_eq, ij_in, ii_c, Int.toNat_natCast, Int.toNat_zero, Int.reduceToNat, Int.reduceEq, Int.reduceNe, Int.reduceLE, Int.reduceLT, Int.reduceAdd, Int.reduceSub, Int.reduceMul, Int.reduceNeg, Nat.reduceLT, Nat.reduceAdd, Nat.reduceMul, not_false_eq_true, not_true_eq_false, true_and, and_true, and_self, false_and, and_false, true_implies, false_implies, implies_true, forall_const, if_true, if_false, ite_true, ite_false, reduceIte, eq_self_iff_true, Int.natCast_nonneg, Int.zero_add, Int.add_zero, pi_s, pi_n]
    refine ⟨rfl, hB, ⟨rfl, ⟨_, rfl, by decide, by decide⟩, trivial⟩, fun v τ hTK hq hx => ?_⟩
    obtain ⟨rfl, hq⟩ := hq
    have e := hx 1 ⟨by decide, by decide⟩ rfl
    subst e
    try simp only [dX12_must_0, dX12_must_1, dX12_must_2, xX12_mustE_c209, xX12_mustE_n209, dX12_must_5, xX12_mustE_t5, dX12_must_8, dX12_must_9, xX12_mustE_c212, xX12_mustE_n212, dX12_must_12, xX12_mustE_t12, dX12_must_15, dX12_must_16, dX12_must_17, xX12_mustE_c206, xX12_mustE_n206, dX12_must_20, xX12_mustE_SH, xX12_mustE_KF, xX12_mustE_rt, xX12_mustE_FT, xX12_mustE_PT, xX12_mustE_CT, xX12_mustE_KT, xX12_mustE_LT, xX12_mustE_NT, o_aload_n, o_goto, o_iconst, o_ifCond_eq, o_iload_n, o_invokevirtual, o_return_, SH_51, am_ty, am_vc, am_opt, am_cl, am_find, am_ldi, am_ldl, am_lda, am_v, am_1, am_1l, am_1a, am_2, am_2l, am_ix, am_ri, am_arr, am_pf, am_rc, am_mask, am_lg, am_av, am_nat, fv_0, fv_1, fv_2, fv_3, fw_0, fw_1, List.getElem?_cons_zero, List.getElem?_cons_succ, List.set_cons_zero, List.set_cons_succ, List.length_cons, List.length_nil, List.take_succ_cons, List.take_zero, List.drop_succ_cons, List.drop_zero, List.reverse_cons, List.reverse_nil, List.nil_append, List.cons_append, List.append_nil, List.map_cons, List.map_nil, List.sum_cons, List.sum_nil, Value.category, Option.toList_some, Option.toList_none, Nat.reduceAdd, Nat.reduceLT, Nat.reduceLeDiff, Nat.reduceEqDiff, Nat.reduceSub, Nat.add_zero, Nat.le_refl, Nat.zero_le, Int.reduceNeg, Int.reduceLE, Int.reduceLT, true_and, and_true, and_self, if_true, if_false, ite_true, ite_false, eq_self_iff_true, reduceIte, reduceCtorEq, not_false_eq_true, not_true_eq_false, or_true, true_or, or_false, false_or, Nat.lt_irrefl, Nat.zero_lt_succ]
    refine hA [] 1 _ _ _ _ _ ?_
    try simp only [dX12_must_0, dX12_must_1, dX12_must_2, xX12_mustE_c209, xX12_mustE_n209, dX12_must_5, xX12_mustE_t5, dX12_must_8, dX12_must_9, xX12_mustE_c212, xX12_mustE_n212, dX12_must_12, xX12_mustE_t12, dX12_must_15, dX12_must_16, dX12_must_17, xX12_mustE_c206, xX12_mustE_n206, dX12_must_20, xX12_mustE_SH, xX12_mustE_KF, xX12_mustE_rt, xX12_mustE_FT, xX12_mustE_PT, xX12_mustE_CT, xX12_mustE_KT, xX12_mustE_LT, xX12_mustE_NT, o_aload_n, o_goto, o_iconst, o_ifCond_eq, o_iload_n, o_invokevirtual, o_return_, SH_51, am_ty, am_vc, am_opt, am_cl, am_find, am_ldi, am_ldl, am_lda, am_v, am_1, am_1l, am_1a, am_2, am_2l, am_ix, am_ri, am_arr, am_pf, am_rc, am_mask, am_lg, am_av, am_nat, fv_0, fv_1, fv_2, fv_3, fw_0, fw_1, List.getElem?_cons_zero, List.getElem?_cons_succ, List.set_cons_zero, List.set_cons_succ, List.length_cons, List.length_nil, List.take_succ_cons, List.take_zero, List.drop_succ_cons, List.drop_zero, List.reverse_cons, List.reverse_nil, List.nil_append, List.cons_append, List.append_nil, List.map_cons, List.map_nil, List.sum_cons, List.sum_nil, Value.category, Option.toList_some, Option.toList_none, Nat.reduceAdd, Nat.reduceLT, Nat.reduceLeDiff, Nat.reduceEqDiff, Nat.reduceSub, Nat.add_zero, Nat.le_refl, Nat.zero_le, Int.reduceNeg, Int.reduceLE, Int.reduceLT, true_and, and_true, and_self, if_true, if_false, ite_true, ite_false, eq_self_iff_true, reduceIte, reduceCtorEq, not_false_eq_true, not_true_eq_false, or_true, true_or, or_false, false_or, Nat.lt_irrefl, Nat.zero_lt_succ]
    exact hP
theorem mX12_mustE (l : Launch) : am_M l TB NB vwCl SH KF yX12_must cX12_must 2 none 4 0 0 sX12_mustE := by
  refine am_M.of xX12_mustE (by decide +kernel) TB_good GF rfl rfl rfl (by decide) ⟨FT_X12_ok, PT_X12_ok _, CT_X12_ok, KT_X12_ok, LT_X12_ok, NT_X12_ok, ?_⟩ ptX12_mustE
  exact List.forall_mem_cons.mpr ⟨⟨yX12_fail, cX12_fail, 2, none, 2, 1, mX12_failE l, by decide, by decide, tk_1558, tk_120, ⟨by decide +kernel, by decide +kernel, by decide +kernel⟩, rfl, tk_1555, tk_1557, ⟨(RX12, TX12, 63), rfl, tb_at 48 (by decide +kernel) (by decide +kernel)⟩⟩, List.forall_mem_cons.mpr ⟨⟨yX12_is, cX12_is, 2, (some .boolean), 2, 1, mX12_is l, by decide, by decide, tk_1546, tk_120, ⟨by decide +kernel, by decide +kernel, by decide +kernel⟩, rfl, tk_1543, tk_1545, ⟨(RX12, TX12, 63), rfl, tb_at 45 (by decide +kernel) (by decide +kernel)⟩⟩, List.forall_mem_cons.mpr ⟨⟨yX12_goesOn, cX12_goesOn, 1, none, 3, 0, mX12_goesOnE l, by decide, by decide, tk_1554, tk_120, ⟨by decide +kernel, by decide +kernel, by decide +kernel⟩, rfl, tk_1551, tk_1553, ⟨(RX12, TX12, 63), rfl, tb_at 47 (by decide +kernel) (by decide +kernel)⟩⟩, fun _ h => absurd h List.not_mem_nil⟩⟩⟩

def sX12_wrongE : am_Sp := stW sX12_wrong xWrong
def xX12_wrongE : am_X := (SH, KF, none, FT_X12, PT_X12, CT_X12, KT_X12, LT_X12, NT_X12, [])
theorem xX12_wrongE_SH : am_SH xX12_wrongE = SH := rfl
theorem xX12_wrongE_KF : am_KF xX12_wrongE = KF := rfl
theorem xX12_wrongE_rt : am_rt xX12_wrongE = none := rfl
theorem xX12_wrongE_FT : am_FT xX12_wrongE = FT_X12 := rfl
theorem xX12_wrongE_PT : am_PT xX12_wrongE = PT_X12 := rfl
theorem xX12_wrongE_CT : am_CT xX12_wrongE = CT_X12 := rfl
theorem xX12_wrongE_KT : am_KT xX12_wrongE = KT_X12 := rfl
theorem xX12_wrongE_LT : am_LT xX12_wrongE = LT_X12 := rfl
theorem xX12_wrongE_NT : am_NT xX12_wrongE = NT_X12 := rfl
theorem xX12_wrongE_t11 (k : Nat → Prop) : am_tg 11 (34) k = k 45 := am_tg_eq (by decide)
theorem xX12_wrongE_t18 (k : Nat → Prop) : am_tg 18 (28) k = k 46 := am_tg_eq (by decide)
theorem xX12_wrongE_t26 (k : Nat → Prop) : am_tg 26 (19) k = k 45 := am_tg_eq (by decide)
theorem xX12_wrongE_t34 (k : Nat → Prop) : am_tg 34 (12) k = k 46 := am_tg_eq (by decide)
theorem xX12_wrongE_t42 (k : Nat → Prop) : am_tg 42 (4) k = k 46 := am_tg_eq (by decide)

set_option maxRecDepth 100000 in
theorem ptX12_wrongE : am_B cX12_wrong xX12_wrongE 4 0 sX12_wrongE := by
  intro n0 as σ post AA hA h
  obtain ⟨rfl, hB, has, h⟩ := h
  match as, has with
  | [v0, v1, v2], ⟨h0, ⟨x, hx0, hx1, hx2⟩, ⟨y, hy0, hy1, hy2⟩, _⟩ =>
  have h0 : v0 = .ref 51 := h0
  subst h0; subst hx0; subst hy0
  have hx1 : 1 ≤ x.toInt := hx1
  have hx2 : x.toInt ≤ 9 := hx2
  have hy1 : 0 ≤ y.toInt := hy1
  have hy2 : y.toInt ≤ 402 := hy2
  obtain ⟨kv, ekv⟩ : ∃ kv, kv = x.toInt := ⟨_, rfl⟩
  have ex : x = Int32.ofInt kv := by rw [ekv]; exact ii_of _
  obtain ⟨tk, etk⟩ : ∃ tk : Nat, tk = y.toInt.toNat := ⟨_, rfl⟩
  have ey : y = Int32.ofInt (tk : Int) := by rw [etk, Int.toNat_of_nonneg hy1]; exact ii_of _
  have hok := wrS_ok hB (k := kv) (tok := tk) ⟨by omega, by omega⟩
  have hP := h none (wrS kv tk σ) hok.1 ⟨rfl, hok.2⟩ (fun k tok hk ht e => by
    have e9 : x = Int32.ofInt k ∧ y = Int32.ofInt (tok : Int) := by simpa using e
    have e8 : kv = k := by rw [ekv, e9.1, ii_t (by omega) (by omega)]
    have e7 : tk = tok := by rw [etk, e9.2, ii_t (by omega) (by omega)]; omega
    rw [e8, e7])
  obtain ⟨pv, epv⟩ : ∃ pv, pv = (σ.1 55 tk).toInt := ⟨_, rfl⟩
  have e3 : σ.1 55 tk = Int32.ofInt pv := by rw [epv]; exact ii_of _
  have p1 := ii_lo (σ.1 55 tk)
  have p2 := ii_hi (σ.1 55 tk)
  obtain ⟨fv, efv⟩ : ∃ fv, fv = pF σ := ⟨_, rfl⟩
  have e2 : σ.1 51 13 = Int32.ofInt fv := by rw [efv]; exact ii_of _
  obtain ⟨wv, ewv⟩ : ∃ wv, wv = pX σ := ⟨_, rfl⟩
  have e4 : σ.1 51 15 = Int32.ofInt wv := by rw [ewv]; exact ii_of _
  obtain ⟨qv, eqv⟩ : ∃ qv, qv = pXp σ := ⟨_, rfl⟩
  have e5 : σ.1 51 16 = Int32.ofInt qv := by rw [eqv]; exact ii_of _
  have q1 : -2147483648 ≤ qv := by rw [eqv]; exact ii_lo _
  have q2 : qv < 2147483648 := by rw [eqv]; exact ii_hi _
  have fb := pF_b hB
  have wb := pX_b hB
  rw [← efv] at fb
  rw [← ewv] at wb
  rw [← epv] at p1 p2
  rw [ex, ey]
  refine ⟨by simp [am_sl, Value.category], ?_⟩
  show AA 0 [some (.ref 51), some (.int (Int32.ofInt kv)), some (.int (Int32.ofInt (tk : Int))), none] [] 92 σ
  unfold wrS at hP
  rw [← efv, ← ewv, ← epv, ← eqv] at hP
  have yes : (fv = 0 ∧ (wv = 0 ∨ ¬ (pv > qv ∨ pv = qv ∧ wv ≤ kv))) → post none (am_pi (am_pi σ 51 15 (Int32.ofInt kv)) 51 16 (Int32.ofInt pv)) := fun q => by
    rw [if_pos q, e3] at hP
    exact hP
  have no : ¬ (fv = 0 ∧ (wv = 0 ∨ ¬ (pv > qv ∨ pv = qv ∧ wv ≤ kv))) → post none σ := fun q => by
    rw [if_neg q] at hP
    exact hP
  have at46 : (fv = 0 ∧ (wv = 0 ∨ ¬ (pv > qv ∨ pv = qv ∧ wv ≤ kv))) → AA 46 [some (.ref 51), some (.int (Int32.ofInt kv)), some (.int (Int32.ofInt (tk : Int))), some (.int (Int32.ofInt pv))] [] 92 σ := fun q => by
    refine hA [] 8 _ _ _ _ _ ?_
    try simp only [dX12_wrong_0, dX12_wrong_1, FT_X12_24, dX12_wrong_4, dX12_wrong_5, dX12_wrong_6, dX12_wrong_7, dX12_wrong_8, FT_X12_191, dX12_wrong_11, xX12_wrongE_t11, dX12_wrong_14, dX12_wrong_15, FT_X12_200, dX12_wrong_18, xX12_wrongE_t18, dX12_wrong_21, dX12_wrong_22, dX12_wrong_23, FT_X12_203, dX12_wrong_26, xX12_wrongE_t26, dX12_wrong_29, dX12_wrong_30, dX12_wrong_31, dX12_wrong_34, xX12_wrongE_t34, dX12_wrong_37, dX12_wrong_38, dX12_wrong_39, dX12_wrong_42, xX12_wrongE_t42, dX12_wrong_45, dX12_wrong_46, dX12_wrong_47, dX12_wrong_48, PT_X12_200, dX12_wrong_51, dX12_wrong_52, dX12_wrong_53, PT_X12_203, dX12_wrong_56, xX12_wrongE_SH, xX12_wrongE_KF, xX12_wrongE_rt, xX12_wrongE_FT, xX12_wrongE_PT, xX12_wrongE_CT, xX12_wrongE_KT, xX12_wrongE_LT, xX12_wrongE_NT, o_aload_n, o_getfield, o_iaload, o_ifCond_eq, o_ifCond_gt, o_if_icmp_gt, o_if_icmp_lt, o_if_icmp_ne, o_iload_n, o_istore_n, o_putfield, o_return_, SH_51, KF_51_13, KF_51_15, KF_51_16, KF_51_6, SH_55, am_ty, am_vc, am_opt, am_cl, am_find, am_ldi, am_ldl, am_lda, am_v, am_1, am_1l, am_1a, am_2, am_2l, am_ix, am_ri, am_arr, am_pf, am_rc, am_mask, am_lg, am_av, am_nat, fv_0, fv_1, fv_2, fv_3, fw_0, fw_1, List.getElem?_cons_zero, List.getElem?_cons_succ, List.set_cons_zero, List.set_cons_succ, List.length_cons, List.length_nil, List.take_succ_cons, List.take_zero, List.drop_succ_cons, List.drop_zero, List.reverse_cons, List.reverse_nil, List.nil_append, List.cons_append, List.append_nil, List.map_cons, List.map_nil, List.sum_cons, List.sum_nil, Value.category, Option.toList_some, Option.toList_none, Nat.reduceAdd, Nat.reduceLT, Nat.reduceLeDiff, Nat.reduceEqDiff, Nat.reduceSub, Nat.add_zero, Nat.le_refl, Nat.zero_le, Int.reduceNeg, Int.reduceLE, Int.reduceLT, true_and, and_true, and_self, if_true, if_false, ite_true, ite_false, eq_self_iff_true, reduceIte, reduceCtorEq, not_false_eq_true, not_true_eq_false, or_true, true_or, or_false, false_or, Nat.lt_irrefl, Nat.zero_lt_succ]
    exact yes q
  refine hA [(46, 4)] 40 _ _ _ _ _ ?_
  try simp only [dX12_wrong_0, dX12_wrong_1, FT_X12_24, dX12_wrong_4, dX12_wrong_5, dX12_wrong_6, dX12_wrong_7, dX12_wrong_8, FT_X12_191, dX12_wrong_11, xX12_wrongE_t11, dX12_wrong_14, dX12_wrong_15, FT_X12_200, dX12_wrong_18, xX12_wrongE_t18, dX12_wrong_21, dX12_wrong_22, dX12_wrong_23, FT_X12_203, dX12_wrong_26, xX12_wrongE_t26, dX12_wrong_29, dX12_wrong_30, dX12_wrong_31, dX12_wrong_34, xX12_wrongE_t34, dX12_wrong_37, dX12_wrong_38, dX12_wrong_39, dX12_wrong_42, xX12_wrongE_t42, dX12_wrong_45, dX12_wrong_46, dX12_wrong_47, dX12_wrong_48, PT_X12_200, dX12_wrong_51, dX12_wrong_52, dX12_wrong_53, PT_X12_203, dX12_wrong_56, xX12_wrongE_SH, xX12_wrongE_KF, xX12_wrongE_rt, xX12_wrongE_FT, xX12_wrongE_PT, xX12_wrongE_CT, xX12_wrongE_KT, xX12_wrongE_LT, xX12_wrongE_NT, o_aload_n, o_getfield, o_iaload, o_ifCond_eq, o_ifCond_gt, o_if_icmp_gt, o_if_icmp_lt, o_if_icmp_ne, o_iload_n, o_istore_n, o_putfield, o_return_, SH_51, KF_51_13, KF_51_15, KF_51_16, KF_51_6, SH_55, am_ty, am_vc, am_opt, am_cl, am_find, am_ldi, am_ldl, am_lda, am_v, am_1, am_1l, am_1a, am_2, am_2l, am_ix, am_ri, am_arr, am_pf, am_rc, am_mask, am_lg, am_av, am_nat, fv_0, fv_1, fv_2, fv_3, fw_0, fw_1, List.getElem?_cons_zero, List.getElem?_cons_succ, List.set_cons_zero, List.set_cons_succ, List.length_cons, List.length_nil, List.take_succ_cons, List.take_zero, List.drop_succ_cons, List.drop_zero, List.reverse_cons, List.reverse_nil, List.nil_append, List.cons_append, List.append_nil, List.map_cons, List.map_nil, List.sum_cons, List.sum_nil, Value.category, Option.toList_some, Option.toList_none, Nat.reduceAdd, Nat.reduceLT, Nat.reduceLeDiff, Nat.reduceEqDiff, Nat.reduceSub, Nat.add_zero, Nat.le_refl, Nat.zero_le, Int.reduceNeg, Int.reduceLE, Int.reduceLT, true_and, and_true, and_self, if_true, if_false, ite_true, ite_false, eq_self_iff_true, reduceIte, reduceCtorEq, not_false_eq_true, not_true_eq_false, or_true, true_or, or_false, false_or, Nat.lt_irrefl, Nat.zero_lt_succ, e2, e4, e5]
  try simp (disch := omega) only [ii_0, ii_1, ii_t, ii_add, ii_sub, ii_mul, ii_lt, ii_le, ii_eq, ij_in, ii_c, Int.toNat_natCast, Int.toNat_zero, Int.reduceToNat, Int.reduceEq, Int.reduceNe, Int.reduceLE, Int.reduceLT, Int.reduceAdd, Int.reduceSub, Int.reduceMul, Int.reduceNeg, Nat.reduceLT, Nat.reduceAdd, Nat.reduceMul, not_false_eq_true, not_true_eq_false, true_and, and_true, and_self, false_and, and_false, true_implies, false_implies, implies_true, forall_const, if_true, if_false, ite_true, ite_false, reduceIte, eq_self_iff_true, Int.natCast_nonneg, Int.zero_add, Int.add_zero, pi_s, pi_n, e2, e3, e4, e5]
  refine ⟨by omega, fun z => no (by omega), fun z => ⟨fun z1 => at46 ⟨by omega, Or.inl z1⟩, fun z1 => ⟨fun z2 => no (by omega), fun z2 => ⟨fun z3 => at46 ⟨by omega, Or.inr (by omega)⟩, fun z3 => ⟨fun z4 => at46 ⟨by omega, Or.inr (by omega)⟩, fun z4 => no (by omega)⟩⟩⟩⟩⟩
theorem mX12_wrongE (l : Launch) : am_M l TB NB vwCl SH KF yX12_wrong cX12_wrong 4 none 2 0 0 sX12_wrongE := by
  refine am_M.of xX12_wrongE (by decide +kernel) TB_good GF rfl rfl rfl (by decide) ⟨FT_X12_ok, PT_X12_ok _, CT_X12_ok, KT_X12_ok, LT_X12_ok, NT_X12_ok, ?_⟩ ptX12_wrongE
  exact fun _ h => absurd h List.not_mem_nil

def vlT (σ : am_S) : Int := (σ.1 56 (pT σ).toNat).toInt
/-- bounded -/
def boS (a b : Int) (σ : am_S) : am_S := if pF σ = 0 ∧ kdT σ = 2 then goS (if vlT σ < a ∨ b < vlT σ then wrS 5 (pT σ).toNat σ else σ) else failS 1 σ
def boV (a : Int) (σ : am_S) : Int := if pF σ = 0 ∧ kdT σ = 2 then vlT σ else a
/-- roomFor -/
def roS (a b : Int) (σ : am_S) : am_S := if a = b then failS 2 σ else if pF σ = 0 then goS σ else σ
theorem pX_wr {σ : am_S} {k : Int} {tok : Nat} (hB : sb_ok BB SH σ) (hk : 1 ≤ k ∧ k ≤ 9) (hf : pF σ = 0) : pX (wrS k tok σ) ≠ 0 := by
  unfold wrS
  split
  · unfold pX
    rw [pi_n _ _ _ _ (by decide), pi_s, ii_t (by omega) (by omega)]
    omega
  · rename_i q
    intro z
    exact q ⟨hf, Or.inl z⟩
theorem boS_ok {σ : am_S} {a b : Int} (hB : sb_ok BB SH σ) : TK σ (boS a b σ) ∧ ADV σ (boS a b σ) ∧ (pF (boS a b σ) = 0 → pX (boS a b σ) = 0 → a ≤ boV a σ ∧ boV a σ ≤ b) := by
  unfold boS boV
  by_cases q : pF σ = 0 ∧ kdT σ = 2
  · rw [if_pos q, if_pos q]
    by_cases w : vlT σ < a ∨ b < vlT σ
    · rw [if_pos w]
      obtain ⟨a1, a2, a3⟩ := wrS_ok hB (k := 5) (tok := (pT σ).toNat) ⟨by decide, by decide⟩
      obtain ⟨b1, b2⟩ := goS_ok a1.1.1
      refine ⟨TK_t a1 b1, ?_, fun z1 z2 => ?_⟩
      · rcases b2 with ⟨c1, c2⟩ | ⟨c1, c2⟩
        · exact Or.inl ⟨by omega, by omega⟩
        · exact Or.inr ⟨by omega, c2⟩
      · exact absurd z2 (b1.2.2.2 (pX_wr hB ⟨by decide, by decide⟩ q.1))
    · rw [if_neg w]
      obtain ⟨b1, b2⟩ := goS_ok hB
      exact ⟨b1, b2, fun _ _ => by omega⟩
  · rw [if_neg q, if_neg q]
    obtain ⟨a1, a2, a3⟩ := failS_ok hB (k := 1) ⟨by decide, by decide⟩
    exact ⟨a1, Or.inr ⟨a2, a3⟩, fun z => absurd z a3⟩
def xBound (as : List Value) (σ : am_S) (v : Option Value) (τ : am_S) : Prop := ∀ a b : Int, (-2147483648 ≤ a ∧ a < 2147483648) → (-2147483648 ≤ b ∧ b < 2147483648) → as = [.ref 51, .int (Int32.ofInt a), .int (Int32.ofInt b)] → τ = boS a b σ ∧ v = some (.int (Int32.ofInt (boV a σ)))
theorem dX12_bounded_0 : decode cX12_bounded 0 = .ok (.aload_n 0, 1) := dk_ok (by decide +kernel)
theorem dX12_bounded_1 : decode cX12_bounded 1 = .ok (.getfield 191, 3) := dk_ok (by decide +kernel)
theorem dX12_bounded_4 : decode cX12_bounded 4 = .ok (.ifCond .gt 11, 3) := dk_ok (by decide +kernel)
theorem dX12_bounded_7 : decode cX12_bounded 7 = .ok (.aload_n 0, 1) := dk_ok (by decide +kernel)
theorem dX12_bounded_8 : decode cX12_bounded 8 = .ok (.iconst 2, 1) := dk_ok (by decide +kernel)
theorem dX12_bounded_9 : decode cX12_bounded 9 = .ok (.invokevirtual 209, 3) := dk_ok (by decide +kernel)
theorem dX12_bounded_12 : decode cX12_bounded 12 = .ok (.ifCond .ne 10, 3) := dk_ok (by decide +kernel)
theorem dX12_bounded_15 : decode cX12_bounded 15 = .ok (.aload_n 0, 1) := dk_ok (by decide +kernel)
theorem dX12_bounded_16 : decode cX12_bounded 16 = .ok (.iconst 1, 1) := dk_ok (by decide +kernel)
theorem dX12_bounded_17 : decode cX12_bounded 17 = .ok (.invokevirtual 206, 3) := dk_ok (by decide +kernel)
theorem dX12_bounded_20 : decode cX12_bounded 20 = .ok (.iload_n 1, 1) := dk_ok (by decide +kernel)
theorem dX12_bounded_21 : decode cX12_bounded 21 = .ok (.ireturn, 1) := dk_ok (by decide +kernel)
theorem dX12_bounded_22 : decode cX12_bounded 22 = .ok (.aload_n 0, 1) := dk_ok (by decide +kernel)
theorem dX12_bounded_23 : decode cX12_bounded 23 = .ok (.getfield 27, 3) := dk_ok (by decide +kernel)
theorem dX12_bounded_26 : decode cX12_bounded 26 = .ok (.aload_n 0, 1) := dk_ok (by decide +kernel)
theorem dX12_bounded_27 : decode cX12_bounded 27 = .ok (.getfield 194, 3) := dk_ok (by decide +kernel)
theorem dX12_bounded_30 : decode cX12_bounded 30 = .ok (.iaload, 1) := dk_ok (by decide +kernel)
theorem dX12_bounded_31 : decode cX12_bounded 31 = .ok (.istore_n 3, 1) := dk_ok (by decide +kernel)
theorem dX12_bounded_32 : decode cX12_bounded 32 = .ok (.iload_n 3, 1) := dk_ok (by decide +kernel)
theorem dX12_bounded_33 : decode cX12_bounded 33 = .ok (.iload_n 1, 1) := dk_ok (by decide +kernel)
theorem dX12_bounded_34 : decode cX12_bounded 34 = .ok (.if_icmp .lt 8, 3) := dk_ok (by decide +kernel)
theorem dX12_bounded_37 : decode cX12_bounded 37 = .ok (.iload_n 3, 1) := dk_ok (by decide +kernel)
theorem dX12_bounded_38 : decode cX12_bounded 38 = .ok (.iload_n 2, 1) := dk_ok (by decide +kernel)
theorem dX12_bounded_39 : decode cX12_bounded 39 = .ok (.if_icmp .le 12, 3) := dk_ok (by decide +kernel)
theorem dX12_bounded_42 : decode cX12_bounded 42 = .ok (.aload_n 0, 1) := dk_ok (by decide +kernel)
theorem dX12_bounded_43 : decode cX12_bounded 43 = .ok (.iconst 5, 1) := dk_ok (by decide +kernel)
theorem dX12_bounded_44 : decode cX12_bounded 44 = .ok (.aload_n 0, 1) := dk_ok (by decide +kernel)
theorem dX12_bounded_45 : decode cX12_bounded 45 = .ok (.getfield 194, 3) := dk_ok (by decide +kernel)
theorem dX12_bounded_48 : decode cX12_bounded 48 = .ok (.invokevirtual 243, 3) := dk_ok (by decide +kernel)
theorem dX12_bounded_51 : decode cX12_bounded 51 = .ok (.aload_n 0, 1) := dk_ok (by decide +kernel)
theorem dX12_bounded_52 : decode cX12_bounded 52 = .ok (.invokevirtual 212, 3) := dk_ok (by decide +kernel)
theorem dX12_bounded_55 : decode cX12_bounded 55 = .ok (.iload_n 3, 1) := dk_ok (by decide +kernel)
theorem dX12_bounded_56 : decode cX12_bounded 56 = .ok (.ireturn, 1) := dk_ok (by decide +kernel)

def sX12_boundedE : am_Sp := stW sX12_boundedC xBound
def xX12_boundedE : am_X := (SH, KF, (some .int), FT_X12, PT_X12, CT_X12, KT_X12, LT_X12, NT_X12, [(206, 0, 2, 12, 0, 0, sX12_failE), (209, 0, 2, 12, 0, 0, sX12_is), (212, 0, 1, 12, 0, 0, sX12_goesOnE), (243, 0, 3, 12, 0, 0, sX12_wrongE)])
theorem xX12_boundedE_SH : am_SH xX12_boundedE = SH := rfl
theorem xX12_boundedE_KF : am_KF xX12_boundedE = KF := rfl
theorem xX12_boundedE_rt : am_rt xX12_boundedE = (some .int) := rfl
theorem xX12_boundedE_FT : am_FT xX12_boundedE = FT_X12 := rfl
theorem xX12_boundedE_PT : am_PT xX12_boundedE = PT_X12 := rfl
theorem xX12_boundedE_CT : am_CT xX12_boundedE = CT_X12 := rfl
theorem xX12_boundedE_KT : am_KT xX12_boundedE = KT_X12 := rfl
theorem xX12_boundedE_LT : am_LT xX12_boundedE = LT_X12 := rfl
theorem xX12_boundedE_NT : am_NT xX12_boundedE = NT_X12 := rfl
theorem xX12_boundedE_c206 : am_find (am_ML xX12_boundedE) 206 = some (0, 2, 12, 0, 0, sX12_failE) := rfl
theorem xX12_boundedE_n206 : am_find NT_X12 206 = none := rfl
theorem xX12_boundedE_c209 : am_find (am_ML xX12_boundedE) 209 = some (0, 2, 12, 0, 0, sX12_is) := rfl
theorem xX12_boundedE_n209 : am_find NT_X12 209 = none := rfl
theorem xX12_boundedE_c212 : am_find (am_ML xX12_boundedE) 212 = some (0, 1, 12, 0, 0, sX12_goesOnE) := rfl
theorem xX12_boundedE_n212 : am_find NT_X12 212 = none := rfl
theorem xX12_boundedE_c243 : am_find (am_ML xX12_boundedE) 243 = some (0, 3, 12, 0, 0, sX12_wrongE) := rfl
theorem xX12_boundedE_n243 : am_find NT_X12 243 = none := rfl
theorem xX12_boundedE_t4 (k : Nat → Prop) : am_tg 4 (11) k = k 15 := am_tg_eq (by decide)
theorem xX12_boundedE_t12 (k : Nat → Prop) : am_tg 12 (10) k = k 22 := am_tg_eq (by decide)
theorem xX12_boundedE_t34 (k : Nat → Prop) : am_tg 34 (8) k = k 42 := am_tg_eq (by decide)
theorem xX12_boundedE_t39 (k : Nat → Prop) : am_tg 39 (12) k = k 51 := am_tg_eq (by decide)

set_option maxRecDepth 100000 in
theorem bo_go {σ : am_S} {post : Option Value → am_S → Prop} {AA : Nat → List (Option Value) → List Value → Nat → am_S → Prop} (hA : ∀ cuts f pc ls stk n τ, am_vc cX12_bounded xX12_boundedE (92 + 0) post AA cuts f pc ls stk n τ → AA pc ls stk n τ) (hB : sb_ok BB SH σ) {a b : Int} (ha : -2147483648 ≤ a ∧ a < 2147483648) (hb : -2147483648 ≤ b ∧ b < 2147483648) (hP : post (some (.int (Int32.ofInt (boV a σ)))) (boS a b σ)) : AA 0 [some (.ref 51), some (.int (Int32.ofInt a)), some (.int (Int32.ofInt b)), none] [] 92 σ := by
  have tb := pT_b hB
  have fb := pF_b hB
  obtain ⟨tv, etv⟩ : ∃ tv, tv = pT σ := ⟨_, rfl⟩
  have e1 : σ.1 51 11 = Int32.ofInt tv := by rw [etv]; exact ii_of _
  obtain ⟨fv, efv⟩ : ∃ fv, fv = pF σ := ⟨_, rfl⟩
  have e2 : σ.1 51 13 = Int32.ofInt fv := by rw [efv]; exact ii_of _
  obtain ⟨vv, evv⟩ : ∃ vv, vv = vlT σ := ⟨_, rfl⟩
  have e3 : σ.1 56 tv.toNat = Int32.ofInt vv := by rw [evv, etv]; exact ii_of _
  have v1 : -2147483648 ≤ vv := by rw [evv]; exact ii_lo _
  have v2 : vv < 2147483648 := by rw [evv]; exact ii_hi _
  rw [← etv] at tb
  rw [← efv] at fb
  have atF : ¬ (pF σ = 0 ∧ kdT σ = 2) → AA 15 [some (.ref 51), some (.int (Int32.ofInt a)), some (.int (Int32.ofInt b)), none] [] 92 σ := by
    intro q
    unfold boS boV at hP
    rw [if_neg q, if_neg q] at hP
    refine hA [] 3 _ _ _ _ _ ?_
    try simp only [dX12_bounded_0, dX12_bounded_1, FT_X12_191, dX12_bounded_4, xX12_boundedE_t4, dX12_bounded_7, dX12_bounded_8, dX12_bounded_9, xX12_boundedE_c209, xX12_boundedE_n209, dX12_bounded_12, xX12_boundedE_t12, dX12_bounded_15, dX12_bounded_16, dX12_bounded_17, xX12_boundedE_c206, xX12_boundedE_n206, dX12_bounded_20, dX12_bounded_21, dX12_bounded_22, dX12_bounded_23, FT_X12_27, dX12_bounded_26, dX12_bounded_27, FT_X12_194, dX12_bounded_30, dX12_bounded_31, dX12_bounded_32, dX12_bounded_33, dX12_bounded_34, xX12_boundedE_t34, dX12_bounded_37, dX12_bounded_38, dX12_bounded_39, xX12_boundedE_t39, dX12_bounded_42, dX12_bounded_43, dX12_bounded_44, dX12_bounded_45, dX12_bounded_48, xX12_boundedE_c243, xX12_boundedE_n243, dX12_bounded_51, dX12_bounded_52, xX12_boundedE_c212, xX12_boundedE_n212, dX12_bounded_55, dX12_bounded_56, xX12_boundedE_SH, xX12_boundedE_KF, xX12_boundedE_rt, xX12_boundedE_FT, xX12_boundedE_PT, xX12_boundedE_CT, xX12_boundedE_KT, xX12_boundedE_LT, xX12_boundedE_NT, o_aload_n, o_getfield, o_iaload, o_iconst, o_ifCond_gt, o_ifCond_ne, o_if_icmp_le, o_if_icmp_lt, o_iload_n, o_invokevirtual, o_ireturn, o_istore_n, SH_51, KF_51_11, KF_51_13, KF_51_7, SH_56, am_ty, am_vc, am_opt, am_cl, am_find, am_ldi, am_ldl, am_lda, am_v, am_1, am_1l, am_1a, am_2, am_2l, am_ix, am_ri, am_arr, am_pf, am_rc, am_mask, am_lg, am_av, am_nat, fv_0, fv_1, fv_2, fv_3, fw_0, fw_1, List.getElem?_cons_zero, List.getElem?_cons_succ, List.set_cons_zero, List.set_cons_succ, List.length_cons, List.length_nil, List.take_succ_cons, List.take_zero, List.drop_succ_cons, List.drop_zero, List.reverse_cons, List.reverse_nil, List.nil_append, List.cons_append, List.append_nil, List.map_cons, List.map_nil, List.sum_cons, List.sum_nil, Value.category, Option.toList_some, Option.toList_none, Nat.reduceAdd, Nat.reduceLT, Nat.reduceLeDiff, Nat.reduceEqDiff, Nat.reduceSub, Nat.add_zero, Nat.le_refl, Nat.zero_le, Int.reduceNeg, Int.reduceLE, Int.reduceLT, true_and, and_true, and_self, if_true, if_false, ite_true, ite_false, eq_self_iff_true, reduceIte, reduceCtorEq, not_false_eq_true, not_true_eq_false, or_true, true_or, or_false, false_or, Nat.lt_irrefl, Nat.zero_lt_succ]
    refine ⟨rfl, hB, ⟨rfl, ⟨_, rfl, by decide, by decide⟩, trivial⟩, fun v τ hTK hq hx => ?_⟩
    obtain ⟨rfl, hq⟩ := hq
    have e := hx 1 ⟨by decide, by decide⟩ rfl
    subst e
    try simp only [dX12_bounded_0, dX12_bounded_1, FT_X12_191, dX12_bounded_4, xX12_boundedE_t4, dX12_bounded_7, dX12_bounded_8, dX12_bounded_9, xX12_boundedE_c209, xX12_boundedE_n209, dX12_bounded_12, xX12_boundedE_t12, dX12_bounded_15, dX12_bounded_16, dX12_bounded_17, xX12_boundedE_c206, xX12_boundedE_n206, dX12_bounded_20, dX12_bounded_21, dX12_bounded_22, dX12_bounded_23, FT_X12_27, dX12_bounded_26, dX12_bounded_27, FT_X12_194, dX12_bounded_30, dX12_bounded_31, dX12_bounded_32, dX12_bounded_33, dX12_bounded_34, xX12_boundedE_t34, dX12_bounded_37, dX12_bounded_38, dX12_bounded_39, xX12_boundedE_t39, dX12_bounded_42, dX12_bounded_43, dX12_bounded_44, dX12_bounded_45, dX12_bounded_48, xX12_boundedE_c243, xX12_boundedE_n243, dX12_bounded_51, dX12_bounded_52, xX12_boundedE_c212, xX12_boundedE_n212, dX12_bounded_55, dX12_bounded_56, xX12_boundedE_SH, xX12_boundedE_KF, xX12_boundedE_rt, xX12_boundedE_FT, xX12_boundedE_PT, xX12_boundedE_CT, xX12_boundedE_KT, xX12_boundedE_LT, xX12_boundedE_NT, o_aload_n, o_getfield, o_iaload, o_iconst, o_ifCond_gt, o_ifCond_ne, o_if_icmp_le, o_if_icmp_lt, o_iload_n, o_invokevirtual, o_ireturn, o_istore_n, SH_51, KF_51_11, KF_51_13, KF_51_7, SH_56, am_ty, am_vc, am_opt, am_cl, am_find, am_ldi, am_ldl, am_lda, am_v, am_1, am_1l, am_1a, am_2, am_2l, am_ix, am_ri, am_arr, am_pf, am_rc, am_mask, am_lg, am_av, am_nat, fv_0, fv_1, fv_2, fv_3, fw_0, fw_1, List.getElem?_cons_zero, List.getElem?_cons_succ, List.set_cons_zero, List.set_cons_succ, List.length_cons, List.length_nil, List.take_succ_cons, List.take_zero, List.drop_succ_cons, List.drop_zero, List.reverse_cons, List.reverse_nil, List.nil_append, List.cons_append, List.append_nil, List.map_cons, List.map_nil, List.sum_cons, List.sum_nil, Value.category, Option.toList_some, Option.toList_none, Nat.reduceAdd, Nat.reduceLT, Nat.reduceLeDiff, Nat.reduceEqDiff, Nat.reduceSub, Nat.add_zero, Nat.le_refl, Nat.zero_le, Int.reduceNeg, Int.reduceLE, Int.reduceLT, true_and, and_true, and_self, if_true, if_false, ite_true, ite_false, eq_self_iff_true, reduceIte, reduceCtorEq, not_false_eq_true, not_true_eq_false, or_true, true_or, or_false, false_or, Nat.lt_irrefl, Nat.zero_lt_succ]
    refine hA [] 2 _ _ _ _ _ ?_
    try simp only [dX12_bounded_0, dX12_bounded_1, FT_X12_191, dX12_bounded_4, xX12_boundedE_t4, dX12_bounded_7, dX12_bounded_8, dX12_bounded_9, xX12_boundedE_c209, xX12_boundedE_n209, dX12_bounded_12, xX12_boundedE_t12, dX12_bounded_15, dX12_bounded_16, dX12_bounded_17, xX12_boundedE_c206, xX12_boundedE_n206, dX12_bounded_20, dX12_bounded_21, dX12_bounded_22, dX12_bounded_23, FT_X12_27, dX12_bounded_26, dX12_bounded_27, FT_X12_194, dX12_bounded_30, dX12_bounded_31, dX12_bounded_32, dX12_bounded_33, dX12_bounded_34, xX12_boundedE_t34, dX12_bounded_37, dX12_bounded_38, dX12_bounded_39, xX12_boundedE_t39, dX12_bounded_42, dX12_bounded_43, dX12_bounded_44, dX12_bounded_45, dX12_bounded_48, xX12_boundedE_c243, xX12_boundedE_n243, dX12_bounded_51, dX12_bounded_52, xX12_boundedE_c212, xX12_boundedE_n212, dX12_bounded_55, dX12_bounded_56, xX12_boundedE_SH, xX12_boundedE_KF, xX12_boundedE_rt, xX12_boundedE_FT, xX12_boundedE_PT, xX12_boundedE_CT, xX12_boundedE_KT, xX12_boundedE_LT, xX12_boundedE_NT, o_aload_n, o_getfield, o_iaload, o_iconst, o_ifCond_gt, o_ifCond_ne, o_if_icmp_le, o_if_icmp_lt, o_iload_n, o_invokevirtual, o_ireturn, o_istore_n, SH_51, KF_51_11, KF_51_13, KF_51_7, SH_56, am_ty, am_vc, am_opt, am_cl, am_find, am_ldi, am_ldl, am_lda, am_v, am_1, am_1l, am_1a, am_2, am_2l, am_ix, am_ri, am_arr, am_pf, am_rc, am_mask, am_lg, am_av, am_nat, fv_0, fv_1, fv_2, fv_3, fw_0, fw_1, List.getElem?_cons_zero, List.getElem?_cons_succ, List.set_cons_zero, List.set_cons_succ, List.length_cons, List.length_nil, List.take_succ_cons, List.take_zero, List.drop_succ_cons, List.drop_zero, List.reverse_cons, List.reverse_nil, List.nil_append, List.cons_append, List.append_nil, List.map_cons, List.map_nil, List.sum_cons, List.sum_nil, Value.category, Option.toList_some, Option.toList_none, Nat.reduceAdd, Nat.reduceLT, Nat.reduceLeDiff, Nat.reduceEqDiff, Nat.reduceSub, Nat.add_zero, Nat.le_refl, Nat.zero_le, Int.reduceNeg, Int.reduceLE, Int.reduceLT, true_and, and_true, and_self, if_true, if_false, ite_true, ite_false, eq_self_iff_true, reduceIte, reduceCtorEq, not_false_eq_true, not_true_eq_false, or_true, true_or, or_false, false_or, Nat.lt_irrefl, Nat.zero_lt_succ]
    exact hP
  have at51 : ∀ τ, τ = (if vlT σ < a ∨ b < vlT σ then wrS 5 (pT σ).toNat σ else σ) → sb_ok BB SH τ → (pF σ = 0 ∧ kdT σ = 2) → AA 51 [some (.ref 51), some (.int (Int32.ofInt a)), some (.int (Int32.ofInt b)), some (.int (Int32.ofInt vv))] [] 92 τ := by
    intro τ eτ hBt q
    unfold boS boV at hP
    rw [if_pos q, if_pos q, ← eτ, ← evv] at hP
    refine hA [] 2 _ _ _ _ _ ?_
    try simp only [dX12_bounded_0, dX12_bounded_1, FT_X12_191, dX12_bounded_4, xX12_boundedE_t4, dX12_bounded_7, dX12_bounded_8, dX12_bounded_9, xX12_boundedE_c209, xX12_boundedE_n209, dX12_bounded_12, xX12_boundedE_t12, dX12_bounded_15, dX12_bounded_16, dX12_bounded_17, xX12_boundedE_c206, xX12_boundedE_n206, dX12_bounded_20, dX12_bounded_21, dX12_bounded_22, dX12_bounded_23, FT_X12_27, dX12_bounded_26, dX12_bounded_27, FT_X12_194, dX12_bounded_30, dX12_bounded_31, dX12_bounded_32, dX12_bounded_33, dX12_bounded_34, xX12_boundedE_t34, dX12_bounded_37, dX12_bounded_38, dX12_bounded_39, xX12_boundedE_t39, dX12_bounded_42, dX12_bounded_43, dX12_bounded_44, dX12_bounded_45, dX12_bounded_48, xX12_boundedE_c243, xX12_boundedE_n243, dX12_bounded_51, dX12_bounded_52, xX12_boundedE_c212, xX12_boundedE_n212, dX12_bounded_55, dX12_bounded_56, xX12_boundedE_SH, xX12_boundedE_KF, xX12_boundedE_rt, xX12_boundedE_FT, xX12_boundedE_PT, xX12_boundedE_CT, xX12_boundedE_KT, xX12_boundedE_LT, xX12_boundedE_NT, o_aload_n, o_getfield, o_iaload, o_iconst, o_ifCond_gt, o_ifCond_ne, o_if_icmp_le, o_if_icmp_lt, o_iload_n, o_invokevirtual, o_ireturn, o_istore_n, SH_51, KF_51_11, KF_51_13, KF_51_7, SH_56, am_ty, am_vc, am_opt, am_cl, am_find, am_ldi, am_ldl, am_lda, am_v, am_1, am_1l, am_1a, am_2, am_2l, am_ix, am_ri, am_arr, am_pf, am_rc, am_mask, am_lg, am_av, am_nat, fv_0, fv_1, fv_2, fv_3, fw_0, fw_1, List.getElem?_cons_zero, List.getElem?_cons_succ, List.set_cons_zero, List.set_cons_succ, List.length_cons, List.length_nil, List.take_succ_cons, List.take_zero, List.drop_succ_cons, List.drop_zero, List.reverse_cons, List.reverse_nil, List.nil_append, List.cons_append, List.append_nil, List.map_cons, List.map_nil, List.sum_cons, List.sum_nil, Value.category, Option.toList_some, Option.toList_none, Nat.reduceAdd, Nat.reduceLT, Nat.reduceLeDiff, Nat.reduceEqDiff, Nat.reduceSub, Nat.add_zero, Nat.le_refl, Nat.zero_le, Int.reduceNeg, Int.reduceLE, Int.reduceLT, true_and, and_true, and_self, if_true, if_false, ite_true, ite_false, eq_self_iff_true, reduceIte, reduceCtorEq, not_false_eq_true, not_true_eq_false, or_true, true_or, or_false, false_or, Nat.lt_irrefl, Nat.zero_lt_succ]
    refine ⟨rfl, hBt, ⟨rfl, trivial⟩, fun v υ hTK hq hx => ?_⟩
    obtain ⟨rfl, hq⟩ := hq
    have hx : υ = goS τ := hx
    subst hx
    try simp only [dX12_bounded_0, dX12_bounded_1, FT_X12_191, dX12_bounded_4, xX12_boundedE_t4, dX12_bounded_7, dX12_bounded_8, dX12_bounded_9, xX12_boundedE_c209, xX12_boundedE_n209, dX12_bounded_12, xX12_boundedE_t12, dX12_bounded_15, dX12_bounded_16, dX12_bounded_17, xX12_boundedE_c206, xX12_boundedE_n206, dX12_bounded_20, dX12_bounded_21, dX12_bounded_22, dX12_bounded_23, FT_X12_27, dX12_bounded_26, dX12_bounded_27, FT_X12_194, dX12_bounded_30, dX12_bounded_31, dX12_bounded_32, dX12_bounded_33, dX12_bounded_34, xX12_boundedE_t34, dX12_bounded_37, dX12_bounded_38, dX12_bounded_39, xX12_boundedE_t39, dX12_bounded_42, dX12_bounded_43, dX12_bounded_44, dX12_bounded_45, dX12_bounded_48, xX12_boundedE_c243, xX12_boundedE_n243, dX12_bounded_51, dX12_bounded_52, xX12_boundedE_c212, xX12_boundedE_n212, dX12_bounded_55, dX12_bounded_56, xX12_boundedE_SH, xX12_boundedE_KF, xX12_boundedE_rt, xX12_boundedE_FT, xX12_boundedE_PT, xX12_boundedE_CT, xX12_boundedE_KT, xX12_boundedE_LT, xX12_boundedE_NT, o_aload_n, o_getfield, o_iaload, o_iconst, o_ifCond_gt, o_ifCond_ne, o_if_icmp_le, o_if_icmp_lt, o_iload_n, o_invokevirtual, o_ireturn, o_istore_n, SH_51, KF_51_11, KF_51_13, KF_51_7, SH_56, am_ty, am_vc, am_opt, am_cl, am_find, am_ldi, am_ldl, am_lda, am_v, am_1, am_1l, am_1a, am_2, am_2l, am_ix, am_ri, am_arr, am_pf, am_rc, am_mask, am_lg, am_av, am_nat, fv_0, fv_1, fv_2, fv_3, fw_0, fw_1, List.getElem?_cons_zero, List.getElem?_cons_succ, List.set_cons_zero, List.set_cons_succ, List.length_cons, List.length_nil, List.take_succ_cons, List.take_zero, List.drop_succ_cons, List.drop_zero, List.reverse_cons, List.reverse_nil, List.nil_append, List.cons_append, List.append_nil, List.map_cons, List.map_nil, List.sum_cons, List.sum_nil, Value.category, Option.toList_some, Option.toList_none, Nat.reduceAdd, Nat.reduceLT, Nat.reduceLeDiff, Nat.reduceEqDiff, Nat.reduceSub, Nat.add_zero, Nat.le_refl, Nat.zero_le, Int.reduceNeg, Int.reduceLE, Int.reduceLT, true_and, and_true, and_self, if_true, if_false, ite_true, ite_false, eq_self_iff_true, reduceIte, reduceCtorEq, not_false_eq_true, not_true_eq_false, or_true, true_or, or_false, false_or, Nat.lt_irrefl, Nat.zero_lt_succ]
    refine hA [] 2 _ _ _ _ _ ?_
    try simp only [dX12_bounded_0, dX12_bounded_1, FT_X12_191, dX12_bounded_4, xX12_boundedE_t4, dX12_bounded_7, dX12_bounded_8, dX12_bounded_9, xX12_boundedE_c209, xX12_boundedE_n209, dX12_bounded_12, xX12_boundedE_t12, dX12_bounded_15, dX12_bounded_16, dX12_bounded_17, xX12_boundedE_c206, xX12_boundedE_n206, dX12_bounded_20, dX12_bounded_21, dX12_bounded_22, dX12_bounded_23, FT_X12_27, dX12_bounded_26, dX12_bounded_27, FT_X12_194, dX12_bounded_30, dX12_bounded_31, dX12_bounded_32, dX12_bounded_33, dX12_bounded_34, xX12_boundedE_t34, dX12_bounded_37, dX12_bounded_38, dX12_bounded_39, xX12_boundedE_t39, dX12_bounded_42, dX12_bounded_43, dX12_bounded_44, dX12_bounded_45, dX12_bounded_48, xX12_boundedE_c243, xX12_boundedE_n243, dX12_bounded_51, dX12_bounded_52, xX12_boundedE_c212, xX12_boundedE_n212, dX12_bounded_55, dX12_bounded_56, xX12_boundedE_SH, xX12_boundedE_KF, xX12_boundedE_rt, xX12_boundedE_FT, xX12_boundedE_PT, xX12_boundedE_CT, xX12_boundedE_KT, xX12_boundedE_LT, xX12_boundedE_NT, o_aload_n, o_getfield, o_iaload, o_iconst, o_ifCond_gt, o_ifCond_ne, o_if_icmp_le, o_if_icmp_lt, o_iload_n, o_invokevirtual, o_ireturn, o_istore_n, SH_51, KF_51_11, KF_51_13, KF_51_7, SH_56, am_ty, am_vc, am_opt, am_cl, am_find, am_ldi, am_ldl, am_lda, am_v, am_1, am_1l, am_1a, am_2, am_2l, am_ix, am_ri, am_arr, am_pf, am_rc, am_mask, am_lg, am_av, am_nat, fv_0, fv_1, fv_2, fv_3, fw_0, fw_1, List.getElem?_cons_zero, List.getElem?_cons_succ, List.set_cons_zero, List.set_cons_succ, List.length_cons, List.length_nil, List.take_succ_cons, List.take_zero, List.drop_succ_cons, List.drop_zero, List.reverse_cons, List.reverse_nil, List.nil_append, List.cons_append, List.append_nil, List.map_cons, List.map_nil, List.sum_cons, List.sum_nil, Value.category, Option.toList_some, Option.toList_none, Nat.reduceAdd, Nat.reduceLT, Nat.reduceLeDiff, Nat.reduceEqDiff, Nat.reduceSub, Nat.add_zero, Nat.le_refl, Nat.zero_le, Int.reduceNeg, Int.reduceLE, Int.reduceLT, true_and, and_true, and_self, if_true, if_false, ite_true, ite_false, eq_self_iff_true, reduceIte, reduceCtorEq, not_false_eq_true, not_true_eq_false, or_true, true_or, or_false, false_or, Nat.lt_irrefl, Nat.zero_lt_succ]
    exact hP
  have at22 : (pF σ = 0 ∧ kdT σ = 2) → AA 22 [some (.ref 51), some (.int (Int32.ofInt a)), some (.int (Int32.ofInt b)), none] [] 92 σ := by
    intro q
    have at42 : (vv < a ∨ b < vv) → AA 42 [some (.ref 51), some (.int (Int32.ofInt a)), some (.int (Int32.ofInt b)), some (.int (Int32.ofInt vv))] [] 92 σ := by
      intro w
      refine hA [] 5 _ _ _ _ _ ?_
      try simp only [dX12_bounded_0, dX12_bounded_1, FT_X12_191, dX12_bounded_4, xX12_boundedE_t4, dX12_bounded_7, dX12_bounded_8, dX12_bounded_9, xX12_boundedE_c209, xX12_boundedE_n209, dX12_bounded_12, xX12_boundedE_t12, dX12_bounded_15, dX12_bounded_16, dX12_bounded_17, xX12_boundedE_c206, xX12_boundedE_n206, dX12_bounded_20, dX12_bounded_21, dX12_bounded_22, dX12_bounded_23, FT_X12_27, dX12_bounded_26, dX12_bounded_27, FT_X12_194, dX12_bounded_30, dX12_bounded_31, dX12_bounded_32, dX12_bounded_33, dX12_bounded_34, xX12_boundedE_t34, dX12_bounded_37, dX12_bounded_38, dX12_bounded_39, xX12_boundedE_t39, dX12_bounded_42, dX12_bounded_43, dX12_bounded_44, dX12_bounded_45, dX12_bounded_48, xX12_boundedE_c243, xX12_boundedE_n243, dX12_bounded_51, dX12_bounded_52, xX12_boundedE_c212, xX12_boundedE_n212, dX12_bounded_55, dX12_bounded_56, xX12_boundedE_SH, xX12_boundedE_KF, xX12_boundedE_rt, xX12_boundedE_FT, xX12_boundedE_PT, xX12_boundedE_CT, xX12_boundedE_KT, xX12_boundedE_LT, xX12_boundedE_NT, o_aload_n, o_getfield, o_iaload, o_iconst, o_ifCond_gt, o_ifCond_ne, o_if_icmp_le, o_if_icmp_lt, o_iload_n, o_invokevirtual, o_ireturn, o_istore_n, SH_51, KF_51_11, KF_51_13, KF_51_7, SH_56, am_ty, am_vc, am_opt, am_cl, am_find, am_ldi, am_ldl, am_lda, am_v, am_1, am_1l, am_1a, am_2, am_2l, am_ix, am_ri, am_arr, am_pf, am_rc, am_mask, am_lg, am_av, am_nat, fv_0, fv_1, fv_2, fv_3, fw_0, fw_1, List.getElem?_cons_zero, List.getElem?_cons_succ, List.set_cons_zero, List.set_cons_succ, List.length_cons, List.length_nil, List.take_succ_cons, List.take_zero, List.drop_succ_cons, List.drop_zero, List.reverse_cons, List.reverse_nil, List.nil_append, List.cons_append, List.append_nil, List.map_cons, List.map_nil, List.sum_cons, List.sum_nil, Value.category, Option.toList_some, Option.toList_none, Nat.reduceAdd, Nat.reduceLT, Nat.reduceLeDiff, Nat.reduceEqDiff, Nat.reduceSub, Nat.add_zero, Nat.le_refl, Nat.zero_le, Int.reduceNeg, Int.reduceLE, Int.reduceLT, true_and, and_true, and_self, if_true, if_false, ite_true, ite_false, eq_self_iff_true, reduceIte, reduceCtorEq, not_false_eq_true, not_true_eq_false, or_true, true_or, or_false, false_or, Nat.lt_irrefl, Nat.zero_lt_succ, e1]
      refine ⟨rfl, hB, ⟨rfl, ⟨_, rfl, by decide, by decide⟩, ⟨_, rfl, by rw [ii_t (by omega) (by omega)]; omega, by rw [ii_t (by omega) (by omega)]; omega⟩, trivial⟩, fun v τ hTK hq hx => ?_⟩
      obtain ⟨rfl, hq⟩ := hq
      have e := hx 5 tv.toNat ⟨by decide, by decide⟩ (by omega) (by rw [Int.toNat_of_nonneg tb.1])
      try simp only [dX12_bounded_0, dX12_bounded_1, FT_X12_191, dX12_bounded_4, xX12_boundedE_t4, dX12_bounded_7, dX12_bounded_8, dX12_bounded_9, xX12_boundedE_c209, xX12_boundedE_n209, dX12_bounded_12, xX12_boundedE_t12, dX12_bounded_15, dX12_bounded_16, dX12_bounded_17, xX12_boundedE_c206, xX12_boundedE_n206, dX12_bounded_20, dX12_bounded_21, dX12_bounded_22, dX12_bounded_23, FT_X12_27, dX12_bounded_26, dX12_bounded_27, FT_X12_194, dX12_bounded_30, dX12_bounded_31, dX12_bounded_32, dX12_bounded_33, dX12_bounded_34, xX12_boundedE_t34, dX12_bounded_37, dX12_bounded_38, dX12_bounded_39, xX12_boundedE_t39, dX12_bounded_42, dX12_bounded_43, dX12_bounded_44, dX12_bounded_45, dX12_bounded_48, xX12_boundedE_c243, xX12_boundedE_n243, dX12_bounded_51, dX12_bounded_52, xX12_boundedE_c212, xX12_boundedE_n212, dX12_bounded_55, dX12_bounded_56, xX12_boundedE_SH, xX12_boundedE_KF, xX12_boundedE_rt, xX12_boundedE_FT, xX12_boundedE_PT, xX12_boundedE_CT, xX12_boundedE_KT, xX12_boundedE_LT, xX12_boundedE_NT, o_aload_n, o_getfield, o_iaload, o_iconst, o_ifCond_gt, o_ifCond_ne, o_if_icmp_le, o_if_icmp_lt, o_iload_n, o_invokevirtual, o_ireturn, o_istore_n, SH_51, KF_51_11, KF_51_13, KF_51_7, SH_56, am_ty, am_vc, am_opt, am_cl, am_find, am_ldi, am_ldl, am_lda, am_v, am_1, am_1l, am_1a, am_2, am_2l, am_ix, am_ri, am_arr, am_pf, am_rc, am_mask, am_lg, am_av, am_nat, fv_0, fv_1, fv_2, fv_3, fw_0, fw_1, List.getElem?_cons_zero, List.getElem?_cons_succ, List.set_cons_zero, List.set_cons_succ, List.length_cons, List.length_nil, List.take_succ_cons, List.take_zero, List.drop_succ_cons, List.drop_zero, List.reverse_cons, List.reverse_nil, List.nil_append, List.cons_append, List.append_nil, List.map_cons, List.map_nil, List.sum_cons, List.sum_nil, Value.category, Option.toList_some, Option.toList_none, Nat.reduceAdd, Nat.reduceLT, Nat.reduceLeDiff, Nat.reduceEqDiff, Nat.reduceSub, Nat.add_zero, Nat.le_refl, Nat.zero_le, Int.reduceNeg, Int.reduceLE, Int.reduceLT, true_and, and_true, and_self, if_true, if_false, ite_true, ite_false, eq_self_iff_true, reduceIte, reduceCtorEq, not_false_eq_true, not_true_eq_false, or_true, true_or, or_false, false_or, Nat.lt_irrefl, Nat.zero_lt_succ]
      exact at51 τ (by rw [e, if_pos (by rw [← evv]; exact w), ← etv]) hTK.1.1 q
    refine hA [(42, 4), (51, 4)] 20 _ _ _ _ _ ?_
    try simp only [dX12_bounded_0, dX12_bounded_1, FT_X12_191, dX12_bounded_4, xX12_boundedE_t4, dX12_bounded_7, dX12_bounded_8, dX12_bounded_9, xX12_boundedE_c209, xX12_boundedE_n209, dX12_bounded_12, xX12_boundedE_t12, dX12_bounded_15, dX12_bounded_16, dX12_bounded_17, xX12_boundedE_c206, xX12_boundedE_n206, dX12_bounded_20, dX12_bounded_21, dX12_bounded_22, dX12_bounded_23, FT_X12_27, dX12_bounded_26, dX12_bounded_27, FT_X12_194, dX12_bounded_30, dX12_bounded_31, dX12_bounded_32, dX12_bounded_33, dX12_bounded_34, xX12_boundedE_t34, dX12_bounded_37, dX12_bounded_38, dX12_bounded_39, xX12_boundedE_t39, dX12_bounded_42, dX12_bounded_43, dX12_bounded_44, dX12_bounded_45, dX12_bounded_48, xX12_boundedE_c243, xX12_boundedE_n243, dX12_bounded_51, dX12_bounded_52, xX12_boundedE_c212, xX12_boundedE_n212, dX12_bounded_55, dX12_bounded_56, xX12_boundedE_SH, xX12_boundedE_KF, xX12_boundedE_rt, xX12_boundedE_FT, xX12_boundedE_PT, xX12_boundedE_CT, xX12_boundedE_KT, xX12_boundedE_LT, xX12_boundedE_NT, o_aload_n, o_getfield, o_iaload, o_iconst, o_ifCond_gt, o_ifCond_ne, o_if_icmp_le, o_if_icmp_lt, o_iload_n, o_invokevirtual, o_ireturn, o_istore_n, SH_51, KF_51_11, KF_51_13, KF_51_7, SH_56, am_ty, am_vc, am_opt, am_cl, am_find, am_ldi, am_ldl, am_lda, am_v, am_1, am_1l, am_1a, am_2, am_2l, am_ix, am_ri, am_arr, am_pf, am_rc, am_mask, am_lg, am_av, am_nat, fv_0, fv_1, fv_2, fv_3, fw_0, fw_1, List.getElem?_cons_zero, List.getElem?_cons_succ, List.set_cons_zero, List.set_cons_succ, List.length_cons, List.length_nil, List.take_succ_cons, List.take_zero, List.drop_succ_cons, List.drop_zero, List.reverse_cons, List.reverse_nil, List.nil_append, List.cons_append, List.append_nil, List.map_cons, List.map_nil, List.sum_cons, List.sum_nil, Value.category, Option.toList_some, Option.toList_none, Nat.reduceAdd, Nat.reduceLT, Nat.reduceLeDiff, Nat.reduceEqDiff, Nat.reduceSub, Nat.add_zero, Nat.le_refl, Nat.zero_le, Int.reduceNeg, Int.reduceLE, Int.reduceLT, true_and, and_true, and_self, if_true, if_false, ite_true, ite_false, eq_self_iff_true, reduceIte, reduceCtorEq, not_false_eq_true, not_true_eq_false, or_true, true_or, or_false, false_or, Nat.lt_irrefl, Nat.zero_lt_succ, e1]
    try simp (disch := omega) only [ii_0, ii_1, ii_t, ii_add, ii_sub, ii_mul, ii_lt, ii_le, ii_eq, ij_in, ii_c, Int.toNat_natCast, Int.toNat_zero, Int.reduceToNat, Int.reduceEq, Int.reduceNe, Int.reduceLE, Int.reduceLT, Int.reduceAdd, Int.reduceSub, Int.reduceMul, Int.reduceNeg, Nat.reduceLT, Nat.reduceAdd, Nat.reduceMul, not_false_eq_true, not_true_eq_false, true_and, and_true, and_self, false_and, and_false, true_implies, false_implies, implies_true, forall_const, if_true, if_false, ite_true, ite_false, reduceIte, eq_self_iff_true, Int.natCast_nonneg, Int.zero_add, Int.add_zero, pi_s, pi_n, e1, e3]
    refine ⟨⟨by omega, by omega⟩, fun z => at42 (Or.inl z), fun z => ⟨fun z2 => at51 σ (by rw [if_neg (by rw [← evv]; omega)]) hB q, fun z2 => at42 (Or.inr (by omega))⟩⟩
  refine hA [(15, 3)] 6 _ _ _ _ _ ?_
  try simp only [dX12_bounded_0, dX12_bounded_1, FT_X12_191, dX12_bounded_4, xX12_boundedE_t4, dX12_bounded_7, dX12_bounded_8, dX12_bounded_9, xX12_boundedE_c209, xX12_boundedE_n209, dX12_bounded_12, xX12_boundedE_t12, dX12_bounded_15, dX12_bounded_16, dX12_bounded_17, xX12_boundedE_c206, xX12_boundedE_n206, dX12_bounded_20, dX12_bounded_21, dX12_bounded_22, dX12_bounded_23, FT_X12_27, dX12_bounded_26, dX12_bounded_27, FT_X12_194, dX12_bounded_30, dX12_bounded_31, dX12_bounded_32, dX12_bounded_33, dX12_bounded_34, xX12_boundedE_t34, dX12_bounded_37, dX12_bounded_38, dX12_bounded_39, xX12_boundedE_t39, dX12_bounded_42, dX12_bounded_43, dX12_bounded_44, dX12_bounded_45, dX12_bounded_48, xX12_boundedE_c243, xX12_boundedE_n243, dX12_bounded_51, dX12_bounded_52, xX12_boundedE_c212, xX12_boundedE_n212, dX12_bounded_55, dX12_bounded_56, xX12_boundedE_SH, xX12_boundedE_KF, xX12_boundedE_rt, xX12_boundedE_FT, xX12_boundedE_PT, xX12_boundedE_CT, xX12_boundedE_KT, xX12_boundedE_LT, xX12_boundedE_NT, o_aload_n, o_getfield, o_iaload, o_iconst, o_ifCond_gt, o_ifCond_ne, o_if_icmp_le, o_if_icmp_lt, o_iload_n, o_invokevirtual, o_ireturn, o_istore_n, SH_51, KF_51_11, KF_51_13, KF_51_7, SH_56, am_ty, am_vc, am_opt, am_cl, am_find, am_ldi, am_ldl, am_lda, am_v, am_1, am_1l, am_1a, am_2, am_2l, am_ix, am_ri, am_arr, am_pf, am_rc, am_mask, am_lg, am_av, am_nat, fv_0, fv_1, fv_2, fv_3, fw_0, fw_1, List.getElem?_cons_zero, List.getElem?_cons_succ, List.set_cons_zero, List.set_cons_succ, List.length_cons, List.length_nil, List.take_succ_cons, List.take_zero, List.drop_succ_cons, List.drop_zero, List.reverse_cons, List.reverse_nil, List.nil_append, List.cons_append, List.append_nil, List.map_cons, List.map_nil, List.sum_cons, List.sum_nil, Value.category, Option.toList_some, Option.toList_none, Nat.reduceAdd, Nat.reduceLT, Nat.reduceLeDiff, Nat.reduceEqDiff, Nat.reduceSub, Nat.add_zero, Nat.le_refl, Nat.zero_le, Int.reduceNeg, Int.reduceLE, Int.reduceLT, true_and, and_true, and_self, if_true, if_false, ite_true, ite_false, eq_self_iff_true, reduceIte, reduceCtorEq, not_false_eq_true, not_true_eq_false, or_true, true_or, or_false, false_or, Nat.lt_irrefl, Nat.zero_lt_succ, e2]
  try simp (disch := omega) only [ii_0, ii_1, ii_t, ii_add, ii_sub, ii_mul, ii_lt, ii_le, ii_eq, ij_in, ii_c, Int.toNat_natCast, Int.toNat_zero, Int.reduceToNat, Int.reduceEq, Int.reduceNe, Int.reduceLE, Int.reduceLT, Int.reduceAdd, Int.reduceSub, Int.reduceMul, Int.reduceNeg, Nat.reduceLT, Nat.reduceAdd, Nat.reduceMul, not_false_eq_true, not_true_eq_false, true_and, and_true, and_self, false_and, and_false, true_implies, false_implies, implies_true, forall_const, if_true, if_false, ite_true, ite_false, reduceIte, eq_self_iff_true, Int.natCast_nonneg, Int.zero_add, Int.add_zero, pi_s, pi_n, e2]
  refine ⟨fun z => atF (fun q => by omega), fun z => ⟨rfl, hB, 2, ⟨by decide, by decide⟩, rfl, fun y hy => ?_⟩⟩
  try simp only [dX12_bounded_0, dX12_bounded_1, FT_X12_191, dX12_bounded_4, xX12_boundedE_t4, dX12_bounded_7, dX12_bounded_8, dX12_bounded_9, xX12_boundedE_c209, xX12_boundedE_n209, dX12_bounded_12, xX12_boundedE_t12, dX12_bounded_15, dX12_bounded_16, dX12_bounded_17, xX12_boundedE_c206, xX12_boundedE_n206, dX12_bounded_20, dX12_bounded_21, dX12_bounded_22, dX12_bounded_23, FT_X12_27, dX12_bounded_26, dX12_bounded_27, FT_X12_194, dX12_bounded_30, dX12_bounded_31, dX12_bounded_32, dX12_bounded_33, dX12_bounded_34, xX12_boundedE_t34, dX12_bounded_37, dX12_bounded_38, dX12_bounded_39, xX12_boundedE_t39, dX12_bounded_42, dX12_bounded_43, dX12_bounded_44, dX12_bounded_45, dX12_bounded_48, xX12_boundedE_c243, xX12_boundedE_n243, dX12_bounded_51, dX12_bounded_52, xX12_boundedE_c212, xX12_boundedE_n212, dX12_bounded_55, dX12_bounded_56, xX12_boundedE_SH, xX12_boundedE_KF, xX12_boundedE_rt, xX12_boundedE_FT, xX12_boundedE_PT, xX12_boundedE_CT, xX12_boundedE_KT, xX12_boundedE_LT, xX12_boundedE_NT, o_aload_n, o_getfield, o_iaload, o_iconst, o_ifCond_gt, o_ifCond_ne, o_if_icmp_le, o_if_icmp_lt, o_iload_n, o_invokevirtual, o_ireturn, o_istore_n, SH_51, KF_51_11, KF_51_13, KF_51_7, SH_56, am_ty, am_vc, am_opt, am_cl, am_find, am_ldi, am_ldl, am_lda, am_v, am_1, am_1l, am_1a, am_2, am_2l, am_ix, am_ri, am_arr, am_pf, am_rc, am_mask, am_lg, am_av, am_nat, fv_0, fv_1, fv_2, fv_3, fw_0, fw_1, List.getElem?_cons_zero, List.getElem?_cons_succ, List.set_cons_zero, List.set_cons_succ, List.length_cons, List.length_nil, List.take_succ_cons, List.take_zero, List.drop_succ_cons, List.drop_zero, List.reverse_cons, List.reverse_nil, List.nil_append, List.cons_append, List.append_nil, List.map_cons, List.map_nil, List.sum_cons, List.sum_nil, Value.category, Option.toList_some, Option.toList_none, Nat.reduceAdd, Nat.reduceLT, Nat.reduceLeDiff, Nat.reduceEqDiff, Nat.reduceSub, Nat.add_zero, Nat.le_refl, Nat.zero_le, Int.reduceNeg, Int.reduceLE, Int.reduceLT, true_and, and_true, and_self, if_true, if_false, ite_true, ite_false, eq_self_iff_true, reduceIte, reduceCtorEq, not_false_eq_true, not_true_eq_false, or_true, true_or, or_false, false_or, Nat.lt_irrefl, Nat.zero_lt_succ]
  rcases hy with ⟨rfl, y1, y2⟩ | ⟨rfl, hy⟩
  · refine hA [(22, 3)] 1 _ _ _ _ _ ?_
    try simp only [dX12_bounded_0, dX12_bounded_1, FT_X12_191, dX12_bounded_4, xX12_boundedE_t4, dX12_bounded_7, dX12_bounded_8, dX12_bounded_9, xX12_boundedE_c209, xX12_boundedE_n209, dX12_bounded_12, xX12_boundedE_t12, dX12_bounded_15, dX12_bounded_16, dX12_bounded_17, xX12_boundedE_c206, xX12_boundedE_n206, dX12_bounded_20, dX12_bounded_21, dX12_bounded_22, dX12_bounded_23, FT_X12_27, dX12_bounded_26, dX12_bounded_27, FT_X12_194, dX12_bounded_30, dX12_bounded_31, dX12_bounded_32, dX12_bounded_33, dX12_bounded_34, xX12_boundedE_t34, dX12_bounded_37, dX12_bounded_38, dX12_bounded_39, xX12_boundedE_t39, dX12_bounded_42, dX12_bounded_43, dX12_bounded_44, dX12_bounded_45, dX12_bounded_48, xX12_boundedE_c243, xX12_boundedE_n243, dX12_bounded_51, dX12_bounded_52, xX12_boundedE_c212, xX12_boundedE_n212, dX12_bounded_55, dX12_bounded_56, xX12_boundedE_SH, xX12_boundedE_KF, xX12_boundedE_rt, xX12_boundedE_FT, xX12_boundedE_PT, xX12_boundedE_CT, xX12_boundedE_KT, xX12_boundedE_LT, xX12_boundedE_NT, o_aload_n, o_getfield, o_iaload, o_iconst, o_ifCond_gt, o_ifCond_ne, o_if_icmp_le, o_if_icmp_lt, o_iload_n, o_invokevirtual, o_ireturn, o_istore_n, SH_51, KF_51_11, KF_51_13, KF_51_7, SH_56, am_ty, am_vc, am_opt, am_cl, am_find, am_ldi, am_ldl, am_lda, am_v, am_1, am_1l, am_1a, am_2, am_2l, am_ix, am_ri, am_arr, am_pf, am_rc, am_mask, am_lg, am_av, am_nat, fv_0, fv_1, fv_2, fv_3, fw_0, fw_1, List.getElem?_cons_zero, List.getElem?_cons_succ, List.set_cons_zero, List.set_cons_succ, List.length_cons, List.length_nil, List.take_succ_cons, List.take_zero, List.drop_succ_cons, List.drop_zero, List.reverse_cons, List.reverse_nil, List.nil_append, List.cons_append, List.append_nil, List.map_cons, List.map_nil, List.sum_cons, List.sum_nil, Value.category, Option.toList_some, Option.toList_none, Nat.reduceAdd, Nat.reduceLT, Nat.reduceLeDiff, Nat.reduceEqDiff, Nat.reduceSub, Nat.add_zero, Nat.le_refl, Nat.zero_le, Int.reduceNeg, Int.reduceLE, Int.reduceLT, true_and, and_true, and_self, if_true, if_false, ite_true, ite_false, eq_self_iff_true, reduceIte, reduceCtorEq, not_false_eq_true, not_true_eq_false, or_true, true_or, or_false, false_or, Nat.lt_irrefl, Nat.zero_lt_succ]
    try simp (disch := omega) only [ii_0, ii_1, ii_t, ii_add, ii_sub, ii_mul, ii_lt, ii_le, ii_eq, ij_in, ii_c, Int.toNat_natCast, Int.toNat_zero, Int.reduceToNat, Int.reduceEq, Int.reduceNe, Int.reduceLE, Int.reduceLT, Int.reduceAdd, Int.reduceSub, Int.reduceMul, Int.reduceNeg, Nat.reduceLT, Nat.reduceAdd, Nat.reduceMul, not_false_eq_true, not_true_eq_false, true_and, and_true, and_self, false_and, and_false, true_implies, false_implies, implies_true, forall_const, if_true, if_false, ite_true, ite_false, reduceIte, eq_self_iff_true, Int.natCast_nonneg, Int.zero_add, Int.add_zero, pi_s, pi_n]
    exact at22 ⟨y1, y2⟩
  · refine hA [(15, 3)] 1 _ _ _ _ _ ?_
    try simp only [dX12_bounded_0, dX12_bounded_1, FT_X12_191, dX12_bounded_4, xX12_boundedE_t4, dX12_bounded_7, dX12_bounded_8, dX12_bounded_9, xX12_boundedE_c209, xX12_boundedE_n209, dX12_bounded_12, xX12_boundedE_t12, dX12_bounded_15, dX12_bounded_16, dX12_bounded_17, xX12_boundedE_c206, xX12_boundedE_n206, dX12_bounded_20, dX12_bounded_21, dX12_bounded_22, dX12_bounded_23, FT_X12_27, dX12_bounded_26, dX12_bounded_27, FT_X12_194, dX12_bounded_30, dX12_bounded_31, dX12_bounded_32, dX12_bounded_33, dX12_bounded_34, xX12_boundedE_t34, dX12_bounded_37, dX12_bounded_38, dX12_bounded_39, xX12_boundedE_t39, dX12_bounded_42, dX12_bounded_43, dX12_bounded_44, dX12_bounded_45, dX12_bounded_48, xX12_boundedE_c243, xX12_boundedE_n243, dX12_bounded_51, dX12_bounded_52, xX12_boundedE_c212, xX12_boundedE_n212, dX12_bounded_55, dX12_bounded_56, xX12_boundedE_SH, xX12_boundedE_KF, xX12_boundedE_rt, xX12_boundedE_FT, xX12_boundedE_PT, xX12_boundedE_CT, xX12_boundedE_KT, xX12_boundedE_LT, xX12_boundedE_NT, o_aload_n, o_getfield, o_iaload, o_iconst, o_ifCond_gt, o_ifCond_ne, o_if_icmp_le, o_if_icmp_lt, o_iload_n, o_invokevirtual, o_ireturn, o_istore_n, SH_51, KF_51_11, KF_51_13, KF_51_7, SH_56, am_ty, am_vc, am_opt, am_cl, am_find, am_ldi, am_ldl, am_lda, am_v, am_1, am_1l, am_1a, am_2, am_2l, am_ix, am_ri, am_arr, am_pf, am_rc, am_mask, am_lg, am_av, am_nat, fv_0, fv_1, fv_2, fv_3, fw_0, fw_1, List.getElem?_cons_zero, List.getElem?_cons_succ, List.set_cons_zero, List.set_cons_succ, List.length_cons, List.length_nil, List.take_succ_cons, List.take_zero, List.drop_succ_cons, List.drop_zero, List.reverse_cons, List.reverse_nil, List.nil_append, List.cons_append, List.append_nil, List.map_cons, List.map_nil, List.sum_cons, List.sum_nil, Value.category, Option.toList_some, Option.toList_none, Nat.reduceAdd, Nat.reduceLT, Nat.reduceLeDiff, Nat.reduceEqDiff, Nat.reduceSub, Nat.add_zero, Nat.le_refl, Nat.zero_le, Int.reduceNeg, Int.reduceLE, Int.reduceLT, true_and, and_true, and_self, if_true, if_false, ite_true, ite_false, eq_self_iff_true, reduceIte, reduceCtorEq, not_false_eq_true, not_true_eq_false, or_true, true_or, or_false, false_or, Nat.lt_irrefl, Nat.zero_lt_succ]
    try simp (disch := omega) only [ii_0, ii_1, ii_t, ii_add, ii_sub, ii_mul, ii_lt, ii_le, ii_eq, ij_in, ii_c, Int.toNat_natCast, Int.toNat_zero, Int.reduceToNat, Int.reduceEq, Int.reduceNe, Int.reduceLE, Int.reduceLT, Int.reduceAdd, Int.reduceSub, Int.reduceMul, Int.reduceNeg, Nat.reduceLT, Nat.reduceAdd, Nat.reduceMul, not_false_eq_true, not_true_eq_false, true_and, and_true, and_self, false_and, and_false, true_implies, false_implies, implies_true, forall_const, if_true, if_false, ite_true, ite_false, reduceIte, eq_self_iff_true, Int.natCast_nonneg, Int.zero_add, Int.add_zero, pi_s, pi_n]
    exact atF hy
theorem ptX12_boundedE : am_B cX12_bounded xX12_boundedE 4 0 sX12_boundedE := by
  intro n0 as σ post AA hA h
  have args : ∀ {x y : Int32} {a b : Int}, (-2147483648 ≤ a ∧ a < 2147483648) → (-2147483648 ≤ b ∧ b < 2147483648) → ([Value.ref 51, .int x, .int y] : List Value) = [.ref 51, .int (Int32.ofInt a), .int (Int32.ofInt b)] → x.toInt = a ∧ y.toInt = b := by
    intro x y a b h1 h2 e
    have e9 : x = Int32.ofInt a ∧ y = Int32.ofInt b := by simpa using e
    exact ⟨by rw [e9.1, ii_t (by omega) (by omega)], by rw [e9.2, ii_t (by omega) (by omega)]⟩
  rcases h with ⟨rfl, hB, has, h⟩ | ⟨rfl, hB, has, h⟩
  · match as, has with
    | [v0, v1, v2], ⟨h0, ⟨x, hx0, hx1, hx2⟩, ⟨y, hy0, hy1, hy2⟩, _⟩ =>
    have h0 : v0 = .ref 51 := h0
    subst h0; subst hx0; subst hy0
    have ok := boS_ok (a := x.toInt) (b := y.toInt) hB
    have xb := ii_lo x
    have xb2 := ii_hi x
    have yb := ii_lo y
    have yb2 := ii_hi y
    have ex := ii_of x
    have ey := ii_of y
    refine ⟨by simp [am_sl, Value.category], ?_⟩
    show AA 0 [some (.ref 51), some (.int x), some (.int y), none] [] 92 σ
    rw [ex, ey]
    refine bo_go hA hB ⟨xb, xb2⟩ ⟨yb, yb2⟩ ?_
    have hx1 : (1 : Int) ≤ x.toInt := hx1
    have hx2 : x.toInt ≤ (1 : Int) := hx2
    have hy1 : (12 : Int) ≤ y.toInt := hy1
    have hy2 : y.toInt ≤ (12 : Int) := hy2
    refine h _ _ ok.1 ⟨⟨_, rfl, fun z1 z2 => ?_⟩, ok.2.1⟩ (fun a b ha hb e => ?_)
    · have w := ok.2.2 z1 z2
      rw [ii_t (by omega) (by omega)]
      omega
    · obtain ⟨e1, e2⟩ := args ha hb e
      rw [e1, e2]
      exact ⟨rfl, rfl⟩
  · match as, has with
    | [v0, v1, v2], ⟨h0, ⟨x, hx0, hx1, hx2⟩, ⟨y, hy0, hy1, hy2⟩, _⟩ =>
    have h0 : v0 = .ref 51 := h0
    subst h0; subst hx0; subst hy0
    have ok := boS_ok (a := x.toInt) (b := y.toInt) hB
    have xb := ii_lo x
    have xb2 := ii_hi x
    have yb := ii_lo y
    have yb2 := ii_hi y
    have ex := ii_of x
    have ey := ii_of y
    refine ⟨by simp [am_sl, Value.category], ?_⟩
    show AA 0 [some (.ref 51), some (.int x), some (.int y), none] [] 92 σ
    rw [ex, ey]
    refine bo_go hA hB ⟨xb, xb2⟩ ⟨yb, yb2⟩ ?_
    refine h _ _ ok.1 ⟨⟨_, rfl⟩, ok.2.1⟩ (fun a b ha hb e => ?_)
    obtain ⟨e1, e2⟩ := args ha hb e
    rw [e1, e2]
    exact ⟨rfl, rfl⟩
theorem mX12_boundedE (l : Launch) : am_M l TB NB vwCl SH KF yX12_bounded cX12_bounded 4 (some .int) 4 0 0 sX12_boundedE := by
  refine am_M.of xX12_boundedE (by decide +kernel) TB_good GF rfl rfl rfl (by decide) ⟨FT_X12_ok, PT_X12_ok _, CT_X12_ok, KT_X12_ok, LT_X12_ok, NT_X12_ok, ?_⟩ ptX12_boundedE
  exact List.forall_mem_cons.mpr ⟨⟨yX12_fail, cX12_fail, 2, none, 2, 1, mX12_failE l, by decide, by decide, tk_1558, tk_120, ⟨by decide +kernel, by decide +kernel, by decide +kernel⟩, rfl, tk_1555, tk_1557, ⟨(RX12, TX12, 63), rfl, tb_at 48 (by decide +kernel) (by decide +kernel)⟩⟩, List.forall_mem_cons.mpr ⟨⟨yX12_is, cX12_is, 2, (some .boolean), 2, 1, mX12_is l, by decide, by decide, tk_1546, tk_120, ⟨by decide +kernel, by decide +kernel, by decide +kernel⟩, rfl, tk_1543, tk_1545, ⟨(RX12, TX12, 63), rfl, tb_at 45 (by decide +kernel) (by decide +kernel)⟩⟩, List.forall_mem_cons.mpr ⟨⟨yX12_goesOn, cX12_goesOn, 1, none, 3, 0, mX12_goesOnE l, by decide, by decide, tk_1554, tk_120, ⟨by decide +kernel, by decide +kernel, by decide +kernel⟩, rfl, tk_1551, tk_1553, ⟨(RX12, TX12, 63), rfl, tb_at 47 (by decide +kernel) (by decide +kernel)⟩⟩, List.forall_mem_cons.mpr ⟨⟨yX12_wrong, cX12_wrong, 4, none, 2, 2, mX12_wrongE l, by decide, by decide, tk_1566, tk_120, ⟨by decide +kernel, by decide +kernel, by decide +kernel⟩, rfl, tk_1563, tk_1565, ⟨(RX12, TX12, 63), rfl, tb_at 50 (by decide +kernel) (by decide +kernel)⟩⟩, fun _ h => absurd h List.not_mem_nil⟩⟩⟩⟩

theorem roS_ok {σ : am_S} {a b : Int} (hB : sb_ok BB SH σ) (ha : 0 ≤ a ∧ a ≤ 5) (hb : b = 5) : TK σ (roS a b σ) ∧ ADV σ (roS a b σ) ∧ (pF (roS a b σ) = 0 → a ≤ 4) := by
  unfold roS
  by_cases q : a = b
  · rw [if_pos q]
    obtain ⟨a1, a2, a3⟩ := failS_ok hB (k := 2) ⟨by decide, by decide⟩
    exact ⟨a1, Or.inr ⟨a2, a3⟩, fun z => absurd z a3⟩
  · rw [if_neg q]
    by_cases w : pF σ = 0
    · rw [if_pos w]
      obtain ⟨b1, b2⟩ := goS_ok hB
      exact ⟨b1, b2, fun _ => by omega⟩
    · rw [if_neg w]
      exact ⟨TK_r hB, Or.inr ⟨rfl, w⟩, fun z => absurd z w⟩
def xRoom (as : List Value) (σ : am_S) (_ : Option Value) (τ : am_S) : Prop := ∀ a b : Int, (0 ≤ a ∧ a ≤ 5) → b = 5 → as = [.ref 51, .int (Int32.ofInt a), .int (Int32.ofInt b)] → τ = roS a b σ
theorem dX12_roomFor_0 : decode cX12_roomFor 0 = .ok (.iload_n 1, 1) := dk_ok (by decide +kernel)
theorem dX12_roomFor_1 : decode cX12_roomFor 1 = .ok (.iload_n 2, 1) := dk_ok (by decide +kernel)
theorem dX12_roomFor_2 : decode cX12_roomFor 2 = .ok (.if_icmp .ne 8, 3) := dk_ok (by decide +kernel)
theorem dX12_roomFor_5 : decode cX12_roomFor 5 = .ok (.aload_n 0, 1) := dk_ok (by decide +kernel)
theorem dX12_roomFor_6 : decode cX12_roomFor 6 = .ok (.iconst 2, 1) := dk_ok (by decide +kernel)
theorem dX12_roomFor_7 : decode cX12_roomFor 7 = .ok (.invokevirtual 206, 3) := dk_ok (by decide +kernel)
theorem dX12_roomFor_10 : decode cX12_roomFor 10 = .ok (.aload_n 0, 1) := dk_ok (by decide +kernel)
theorem dX12_roomFor_11 : decode cX12_roomFor 11 = .ok (.getfield 191, 3) := dk_ok (by decide +kernel)
theorem dX12_roomFor_14 : decode cX12_roomFor 14 = .ok (.ifCond .ne 7, 3) := dk_ok (by decide +kernel)
theorem dX12_roomFor_17 : decode cX12_roomFor 17 = .ok (.aload_n 0, 1) := dk_ok (by decide +kernel)
theorem dX12_roomFor_18 : decode cX12_roomFor 18 = .ok (.invokevirtual 212, 3) := dk_ok (by decide +kernel)
theorem dX12_roomFor_21 : decode cX12_roomFor 21 = .ok (.return_, 1) := dk_ok (by decide +kernel)

def sX12_roomForE : am_Sp := stW sX12_roomFor xRoom
def xX12_roomForE : am_X := (SH, KF, none, FT_X12, PT_X12, CT_X12, KT_X12, LT_X12, NT_X12, [(206, 0, 2, 12, 0, 0, sX12_failE), (212, 0, 1, 12, 0, 0, sX12_goesOnE)])
theorem xX12_roomForE_SH : am_SH xX12_roomForE = SH := rfl
theorem xX12_roomForE_KF : am_KF xX12_roomForE = KF := rfl
theorem xX12_roomForE_rt : am_rt xX12_roomForE = none := rfl
theorem xX12_roomForE_FT : am_FT xX12_roomForE = FT_X12 := rfl
theorem xX12_roomForE_PT : am_PT xX12_roomForE = PT_X12 := rfl
theorem xX12_roomForE_CT : am_CT xX12_roomForE = CT_X12 := rfl
theorem xX12_roomForE_KT : am_KT xX12_roomForE = KT_X12 := rfl
theorem xX12_roomForE_LT : am_LT xX12_roomForE = LT_X12 := rfl
theorem xX12_roomForE_NT : am_NT xX12_roomForE = NT_X12 := rfl
theorem xX12_roomForE_c206 : am_find (am_ML xX12_roomForE) 206 = some (0, 2, 12, 0, 0, sX12_failE) := rfl
theorem xX12_roomForE_n206 : am_find NT_X12 206 = none := rfl
theorem xX12_roomForE_c212 : am_find (am_ML xX12_roomForE) 212 = some (0, 1, 12, 0, 0, sX12_goesOnE) := rfl
theorem xX12_roomForE_n212 : am_find NT_X12 212 = none := rfl
theorem xX12_roomForE_t2 (k : Nat → Prop) : am_tg 2 (8) k = k 10 := am_tg_eq (by decide)
theorem xX12_roomForE_t14 (k : Nat → Prop) : am_tg 14 (7) k = k 21 := am_tg_eq (by decide)

set_option maxRecDepth 100000 in
theorem ptX12_roomForE : am_B cX12_roomFor xX12_roomForE 3 0 sX12_roomForE := by
  intro n0 as σ post AA hA h
  obtain ⟨rfl, hB, has, h⟩ := h
  match as, has with
  | [v0, v1, v2], ⟨h0, ⟨x, hx0, hx1, hx2⟩, ⟨y, hy0, hy1, hy2⟩, _⟩ =>
  have h0 : v0 = .ref 51 := h0
  subst h0; subst hx0; subst hy0
  have hx1 : (0 : Int) ≤ x.toInt := hx1
  have hx2 : x.toInt ≤ (5 : Int) := hx2
  have hy1 : (5 : Int) ≤ y.toInt := hy1
  have hy2 : y.toInt ≤ (5 : Int) := hy2
  obtain ⟨av, eav⟩ : ∃ av, av = x.toInt := ⟨_, rfl⟩
  have ex : x = Int32.ofInt av := by rw [eav]; exact ii_of _
  have ey : y = Int32.ofInt 5 := by rw [show (5 : Int) = y.toInt by omega]; exact ii_of _
  have ok := roS_ok (a := av) (b := 5) hB ⟨by omega, by omega⟩ rfl
  have hP := h none (roS av 5 σ) ok.1 ⟨rfl, ok.2.1, fun z w hw => by
    have e : x = w := by simpa using hw
    rw [← e, ← eav]
    exact ok.2.2 z⟩ (fun a b ha hb e => by
    have e9 : x = Int32.ofInt a := by simpa using (by simpa using e : x = Int32.ofInt a ∧ y = Int32.ofInt b).1
    have e8 : av = a := by rw [eav, e9, ii_t (by omega) (by omega)]
    rw [e8, hb])
  obtain ⟨fv, efv⟩ : ∃ fv, fv = pF σ := ⟨_, rfl⟩
  have e2 : σ.1 51 13 = Int32.ofInt fv := by rw [efv]; exact ii_of _
  have fb := pF_b hB
  rw [← efv] at fb
  rw [ex, ey]
  refine ⟨by simp [am_sl, Value.category], ?_⟩
  show AA 0 [some (.ref 51), some (.int (Int32.ofInt av)), some (.int (Int32.ofInt 5))] [] 92 σ
  unfold roS at hP
  rw [← efv] at hP
  have bx : 0 ≤ av ∧ av ≤ 5 := by omega
  refine hA [] 8 _ _ _ _ _ ?_
  try simp only [dX12_roomFor_0, dX12_roomFor_1, dX12_roomFor_2, xX12_roomForE_t2, dX12_roomFor_5, dX12_roomFor_6, dX12_roomFor_7, xX12_roomForE_c206, xX12_roomForE_n206, dX12_roomFor_10, dX12_roomFor_11, FT_X12_191, dX12_roomFor_14, xX12_roomForE_t14, dX12_roomFor_17, dX12_roomFor_18, xX12_roomForE_c212, xX12_roomForE_n212, dX12_roomFor_21, xX12_roomForE_SH, xX12_roomForE_KF, xX12_roomForE_rt, xX12_roomForE_FT, xX12_roomForE_PT, xX12_roomForE_CT, xX12_roomForE_KT, xX12_roomForE_LT, xX12_roomForE_NT, o_aload_n, o_getfield, o_iconst, o_ifCond_ne, o_if_icmp_ne, o_iload_n, o_invokevirtual, o_return_, SH_51, KF_51_13, am_ty, am_vc, am_opt, am_cl, am_find, am_ldi, am_ldl, am_lda, am_v, am_1, am_1l, am_1a, am_2, am_2l, am_ix, am_ri, am_arr, am_pf, am_rc, am_mask, am_lg, am_av, am_nat, fv_0, fv_1, fv_2, fv_3, fw_0, fw_1, List.getElem?_cons_zero, List.getElem?_cons_succ, List.set_cons_zero, List.set_cons_succ, List.length_cons, List.length_nil, List.take_succ_cons, List.take_zero, List.drop_succ_cons, List.drop_zero, List.reverse_cons, List.reverse_nil, List.nil_append, List.cons_append, List.append_nil, List.map_cons, List.map_nil, List.sum_cons, List.sum_nil, Value.category, Option.toList_some, Option.toList_none, Nat.reduceAdd, Nat.reduceLT, Nat.reduceLeDiff, Nat.reduceEqDiff, Nat.reduceSub, Nat.add_zero, Nat.le_refl, Nat.zero_le, Int.reduceNeg, Int.reduceLE, Int.reduceLT, true_and, and_true, and_self, if_true, if_false, ite_true, ite_false, eq_self_iff_true, reduceIte, reduceCtorEq, not_false_eq_true, not_true_eq_false, or_true, true_or, or_false, false_or, Nat.lt_irrefl, Nat.zero_lt_succ, e2]
  try simp (disch := omega) only [ii_0, ii_1, ii_t, ii_add, ii_sub, ii_mul, ii_lt, ii_le, ii_eq, ij_in, ii_c, Int.toNat_natCast, Int.toNat_zero, Int.reduceToNat, Int.reduceEq, Int.reduceNe, Int.reduceLE, Int.reduceLT, Int.reduceAdd, Int.reduceSub, Int.reduceMul, Int.reduceNeg, Nat.reduceLT, Nat.reduceAdd, Nat.reduceMul, not_false_eq_true, not_true_eq_false, true_and, and_true, and_self, false_and, and_false, true_implies, false_implies, implies_true, forall_const, if_true, if_false, ite_true, ite_false, reduceIte, eq_self_iff_true, Int.natCast_nonneg, Int.zero_add, Int.add_zero, pi_s, pi_n, e2]
  refine ⟨fun q => ⟨fun z => ?_, fun z => ⟨rfl, hB, ⟨rfl, trivial⟩, fun v τ hTK hq hx => ?_⟩⟩, fun q => ⟨rfl, hB, ⟨rfl, ⟨_, rfl, by decide, by decide⟩, trivial⟩, fun v τ hTK hq hx => ?_⟩⟩
  · rw [if_neg (by omega), if_neg (by omega)] at hP
    first | exact hP | (refine hA [] 1 _ _ _ _ _ ?_; simp only [dX12_roomFor_0, dX12_roomFor_1, dX12_roomFor_2, xX12_roomForE_t2, dX12_roomFor_5, dX12_roomFor_6, dX12_roomFor_7, xX12_roomForE_c206, xX12_roomForE_n206, dX12_roomFor_10, dX12_roomFor_11, FT_X12_191, dX12_roomFor_14, xX12_roomForE_t14, dX12_roomFor_17, dX12_roomFor_18, xX12_roomForE_c212, xX12_roomForE_n212, dX12_roomFor_21, xX12_roomForE_SH, xX12_roomForE_KF, xX12_roomForE_rt, xX12_roomForE_FT, xX12_roomForE_PT, xX12_roomForE_CT, xX12_roomForE_KT, xX12_roomForE_LT, xX12_roomForE_NT, o_aload_n, o_getfield, o_iconst, o_ifCond_ne, o_if_icmp_ne, o_iload_n, o_invokevirtual, o_return_, SH_51, KF_51_13, am_ty, am_vc, am_opt, am_cl, am_find, am_ldi, am_ldl, am_lda, am_v, am_1, am_1l, am_1a, am_2, am_2l, am_ix, am_ri, am_arr, am_pf, am_rc, am_mask, am_lg, am_av, am_nat, fv_0, fv_1, fv_2, fv_3, fw_0, fw_1, List.getElem?_cons_zero, List.getElem?_cons_succ, List.set_cons_zero, List.set_cons_succ, List.length_cons, List.length_nil, List.take_succ_cons, List.take_zero, List.drop_succ_cons, List.drop_zero, List.reverse_cons, List.reverse_nil, List.nil_append, List.cons_append, List.append_nil, List.map_cons, List.map_nil, List.sum_cons, List.sum_nil, Value.category, Option.toList_some, Option.toList_none, Nat.reduceAdd, Nat.reduceLT, Nat.reduceLeDiff, Nat.reduceEqDiff, Nat.reduceSub, Nat.add_zero, Nat.le_refl, Nat.zero_le, Int.reduceNeg, Int.reduceLE, Int.reduceLT, true_and, and_true, and_self, if_true, if_false, ite_true, ite_false, eq_self_iff_true, reduceIte, reduceCtorEq, not_false_eq_true, not_true_eq_false, or_true, true_or, or_false, false_or, Nat.lt_irrefl, Nat.zero_lt_succ]; exact hP)
  · obtain ⟨rfl, hq⟩ := hq
    have hx : τ = goS σ := hx
    subst hx
    rw [if_neg (by omega), if_pos (by omega)] at hP
    try simp only [dX12_roomFor_0, dX12_roomFor_1, dX12_roomFor_2, xX12_roomForE_t2, dX12_roomFor_5, dX12_roomFor_6, dX12_roomFor_7, xX12_roomForE_c206, xX12_roomForE_n206, dX12_roomFor_10, dX12_roomFor_11, FT_X12_191, dX12_roomFor_14, xX12_roomForE_t14, dX12_roomFor_17, dX12_roomFor_18, xX12_roomForE_c212, xX12_roomForE_n212, dX12_roomFor_21, xX12_roomForE_SH, xX12_roomForE_KF, xX12_roomForE_rt, xX12_roomForE_FT, xX12_roomForE_PT, xX12_roomForE_CT, xX12_roomForE_KT, xX12_roomForE_LT, xX12_roomForE_NT, o_aload_n, o_getfield, o_iconst, o_ifCond_ne, o_if_icmp_ne, o_iload_n, o_invokevirtual, o_return_, SH_51, KF_51_13, am_ty, am_vc, am_opt, am_cl, am_find, am_ldi, am_ldl, am_lda, am_v, am_1, am_1l, am_1a, am_2, am_2l, am_ix, am_ri, am_arr, am_pf, am_rc, am_mask, am_lg, am_av, am_nat, fv_0, fv_1, fv_2, fv_3, fw_0, fw_1, List.getElem?_cons_zero, List.getElem?_cons_succ, List.set_cons_zero, List.set_cons_succ, List.length_cons, List.length_nil, List.take_succ_cons, List.take_zero, List.drop_succ_cons, List.drop_zero, List.reverse_cons, List.reverse_nil, List.nil_append, List.cons_append, List.append_nil, List.map_cons, List.map_nil, List.sum_cons, List.sum_nil, Value.category, Option.toList_some, Option.toList_none, Nat.reduceAdd, Nat.reduceLT, Nat.reduceLeDiff, Nat.reduceEqDiff, Nat.reduceSub, Nat.add_zero, Nat.le_refl, Nat.zero_le, Int.reduceNeg, Int.reduceLE, Int.reduceLT, true_and, and_true, and_self, if_true, if_false, ite_true, ite_false, eq_self_iff_true, reduceIte, reduceCtorEq, not_false_eq_true, not_true_eq_false, or_true, true_or, or_false, false_or, Nat.lt_irrefl, Nat.zero_lt_succ]
    refine hA [] 1 _ _ _ _ _ ?_
    try simp only [dX12_roomFor_0, dX12_roomFor_1, dX12_roomFor_2, xX12_roomForE_t2, dX12_roomFor_5, dX12_roomFor_6, dX12_roomFor_7, xX12_roomForE_c206, xX12_roomForE_n206, dX12_roomFor_10, dX12_roomFor_11, FT_X12_191, dX12_roomFor_14, xX12_roomForE_t14, dX12_roomFor_17, dX12_roomFor_18, xX12_roomForE_c212, xX12_roomForE_n212, dX12_roomFor_21, xX12_roomForE_SH, xX12_roomForE_KF, xX12_roomForE_rt, xX12_roomForE_FT, xX12_roomForE_PT, xX12_roomForE_CT, xX12_roomForE_KT, xX12_roomForE_LT, xX12_roomForE_NT, o_aload_n, o_getfield, o_iconst, o_ifCond_ne, o_if_icmp_ne, o_iload_n, o_invokevirtual, o_return_, SH_51, KF_51_13, am_ty, am_vc, am_opt, am_cl, am_find, am_ldi, am_ldl, am_lda, am_v, am_1, am_1l, am_1a, am_2, am_2l, am_ix, am_ri, am_arr, am_pf, am_rc, am_mask, am_lg, am_av, am_nat, fv_0, fv_1, fv_2, fv_3, fw_0, fw_1, List.getElem?_cons_zero, List.getElem?_cons_succ, List.set_cons_zero, List.set_cons_succ, List.length_cons, List.length_nil, List.take_succ_cons, List.take_zero, List.drop_succ_cons, List.drop_zero, List.reverse_cons, List.reverse_nil, List.nil_append, List.cons_append, List.append_nil, List.map_cons, List.map_nil, List.sum_cons, List.sum_nil, Value.category, Option.toList_some, Option.toList_none, Nat.reduceAdd, Nat.reduceLT, Nat.reduceLeDiff, Nat.reduceEqDiff, Nat.reduceSub, Nat.add_zero, Nat.le_refl, Nat.zero_le, Int.reduceNeg, Int.reduceLE, Int.reduceLT, true_and, and_true, and_self, if_true, if_false, ite_true, ite_false, eq_self_iff_true, reduceIte, reduceCtorEq, not_false_eq_true, not_true_eq_false, or_true, true_or, or_false, false_or, Nat.lt_irrefl, Nat.zero_lt_succ]
    exact hP
  · obtain ⟨rfl, hq⟩ := hq
    have e := hx 2 ⟨by decide, by decide⟩ rfl
    subst e
    rw [if_pos (by omega)] at hP
    obtain ⟨gv, egv⟩ : ∃ gv, gv = pF (failS 2 σ) := ⟨_, rfl⟩
    have e3 : (failS 2 σ).1 51 13 = Int32.ofInt gv := by rw [egv]; exact ii_of _
    have gb := pF_b hTK.1.1
    have gn := hq.2
    rw [← egv] at gb gn
    try simp only [dX12_roomFor_0, dX12_roomFor_1, dX12_roomFor_2, xX12_roomForE_t2, dX12_roomFor_5, dX12_roomFor_6, dX12_roomFor_7, xX12_roomForE_c206, xX12_roomForE_n206, dX12_roomFor_10, dX12_roomFor_11, FT_X12_191, dX12_roomFor_14, xX12_roomForE_t14, dX12_roomFor_17, dX12_roomFor_18, xX12_roomForE_c212, xX12_roomForE_n212, dX12_roomFor_21, xX12_roomForE_SH, xX12_roomForE_KF, xX12_roomForE_rt, xX12_roomForE_FT, xX12_roomForE_PT, xX12_roomForE_CT, xX12_roomForE_KT, xX12_roomForE_LT, xX12_roomForE_NT, o_aload_n, o_getfield, o_iconst, o_ifCond_ne, o_if_icmp_ne, o_iload_n, o_invokevirtual, o_return_, SH_51, KF_51_13, am_ty, am_vc, am_opt, am_cl, am_find, am_ldi, am_ldl, am_lda, am_v, am_1, am_1l, am_1a, am_2, am_2l, am_ix, am_ri, am_arr, am_pf, am_rc, am_mask, am_lg, am_av, am_nat, fv_0, fv_1, fv_2, fv_3, fw_0, fw_1, List.getElem?_cons_zero, List.getElem?_cons_succ, List.set_cons_zero, List.set_cons_succ, List.length_cons, List.length_nil, List.take_succ_cons, List.take_zero, List.drop_succ_cons, List.drop_zero, List.reverse_cons, List.reverse_nil, List.nil_append, List.cons_append, List.append_nil, List.map_cons, List.map_nil, List.sum_cons, List.sum_nil, Value.category, Option.toList_some, Option.toList_none, Nat.reduceAdd, Nat.reduceLT, Nat.reduceLeDiff, Nat.reduceEqDiff, Nat.reduceSub, Nat.add_zero, Nat.le_refl, Nat.zero_le, Int.reduceNeg, Int.reduceLE, Int.reduceLT, true_and, and_true, and_self, if_true, if_false, ite_true, ite_false, eq_self_iff_true, reduceIte, reduceCtorEq, not_false_eq_true, not_true_eq_false, or_true, true_or, or_false, false_or, Nat.lt_irrefl, Nat.zero_lt_succ]
    refine hA [] 5 _ _ _ _ _ ?_
    try simp only [dX12_roomFor_0, dX12_roomFor_1, dX12_roomFor_2, xX12_roomForE_t2, dX12_roomFor_5, dX12_roomFor_6, dX12_roomFor_7, xX12_roomForE_c206, xX12_roomForE_n206, dX12_roomFor_10, dX12_roomFor_11, FT_X12_191, dX12_roomFor_14, xX12_roomForE_t14, dX12_roomFor_17, dX12_roomFor_18, xX12_roomForE_c212, xX12_roomForE_n212, dX12_roomFor_21, xX12_roomForE_SH, xX12_roomForE_KF, xX12_roomForE_rt, xX12_roomForE_FT, xX12_roomForE_PT, xX12_roomForE_CT, xX12_roomForE_KT, xX12_roomForE_LT, xX12_roomForE_NT, o_aload_n, o_getfield, o_iconst, o_ifCond_ne, o_if_icmp_ne, o_iload_n, o_invokevirtual, o_return_, SH_51, KF_51_13, am_ty, am_vc, am_opt, am_cl, am_find, am_ldi, am_ldl, am_lda, am_v, am_1, am_1l, am_1a, am_2, am_2l, am_ix, am_ri, am_arr, am_pf, am_rc, am_mask, am_lg, am_av, am_nat, fv_0, fv_1, fv_2, fv_3, fw_0, fw_1, List.getElem?_cons_zero, List.getElem?_cons_succ, List.set_cons_zero, List.set_cons_succ, List.length_cons, List.length_nil, List.take_succ_cons, List.take_zero, List.drop_succ_cons, List.drop_zero, List.reverse_cons, List.reverse_nil, List.nil_append, List.cons_append, List.append_nil, List.map_cons, List.map_nil, List.sum_cons, List.sum_nil, Value.category, Option.toList_some, Option.toList_none, Nat.reduceAdd, Nat.reduceLT, Nat.reduceLeDiff, Nat.reduceEqDiff, Nat.reduceSub, Nat.add_zero, Nat.le_refl, Nat.zero_le, Int.reduceNeg, Int.reduceLE, Int.reduceLT, true_and, and_true, and_self, if_true, if_false, ite_true, ite_false, eq_self_iff_true, reduceIte, reduceCtorEq, not_false_eq_true, not_true_eq_false, or_true, true_or, or_false, false_or, Nat.lt_irrefl, Nat.zero_lt_succ, e3]
    try simp (disch := omega) only [ii_0, ii_1, ii_t, ii_add, ii_sub, ii_mul, ii_lt, ii_le, ii_eq, ij_in, ii_c, Int.toNat_natCast, Int.toNat_zero, Int.reduceToNat, Int.reduceEq, Int.reduceNe, Int.reduceLE, Int.reduceLT, Int.reduceAdd, Int.reduceSub, Int.reduceMul, Int.reduceNeg, Nat.reduceLT, Nat.reduceAdd, Nat.reduceMul, not_false_eq_true, not_true_eq_false, true_and, and_true, and_self, false_and, and_false, true_implies, false_implies, implies_true, forall_const, if_true, if_false, ite_true, ite_false, reduceIte, eq_self_iff_true, Int.natCast_nonneg, Int.zero_add, Int.add_zero, pi_s, pi_n, e3]
    first | exact hP | exact ⟨fun _ => hP, fun z => absurd z gn⟩
theorem mX12_roomForE (l : Launch) : am_M l TB NB vwCl SH KF yX12_roomFor cX12_roomFor 3 none 4 0 0 sX12_roomForE := by
  refine am_M.of xX12_roomForE (by decide +kernel) TB_good GF rfl rfl rfl (by decide) ⟨FT_X12_ok, PT_X12_ok _, CT_X12_ok, KT_X12_ok, LT_X12_ok, NT_X12_ok, ?_⟩ ptX12_roomForE
  exact List.forall_mem_cons.mpr ⟨⟨yX12_fail, cX12_fail, 2, none, 2, 1, mX12_failE l, by decide, by decide, tk_1558, tk_120, ⟨by decide +kernel, by decide +kernel, by decide +kernel⟩, rfl, tk_1555, tk_1557, ⟨(RX12, TX12, 63), rfl, tb_at 48 (by decide +kernel) (by decide +kernel)⟩⟩, List.forall_mem_cons.mpr ⟨⟨yX12_goesOn, cX12_goesOn, 1, none, 3, 0, mX12_goesOnE l, by decide, by decide, tk_1554, tk_120, ⟨by decide +kernel, by decide +kernel, by decide +kernel⟩, rfl, tk_1551, tk_1553, ⟨(RX12, TX12, 63), rfl, tb_at 47 (by decide +kernel) (by decide +kernel)⟩⟩, fun _ h => absurd h List.not_mem_nil⟩⟩

/-- at token t, or with a fault -/
def rOK (b : Nat → Int) (Z : Nat) (σ : am_S) (t : Nat) : Prop := (t ≤ 400 ∧ ∀ i, i < t → tK b Z i ≠ 0) ∧ pT σ = (t : Int) ∧ pF σ = 0
def rFA (σ : am_S) (q : Int × Int) : Prop := (1 ≤ q.1 ∧ q.1 ≤ 2) ∧ pF σ = q.1 ∧ pFp σ = q.2
def rST (b : Nat → Int) (Z : Nat) (σ : am_S) (s : ST) : Prop := wVR b Z σ ∧ match s with
  | .inl t => rOK b Z σ t
  | .inr q => rFA σ q
theorem wVR_fr {b : Nat → Int} {Z : Nat} {σ τ : am_S} (h : wVR b Z σ) (h1 : ∀ o i, 54 ≤ o → o ≤ 56 → τ.1 o i = σ.1 o i) (h2 : ∀ i, τ.2 57 i = σ.2 57 i) : wVR b Z τ := ⟨h.1, fun j hj hb => by
  obtain ⟨c1, c2, c3, c4⟩ := h.2 j hj hb
  exact ⟨by rw [h1 _ _ (by decide) (by decide)]; exact c1, by rw [h1 _ _ (by decide) (by decide)]; exact c2, fun q => by rw [h1 _ _ (by decide) (by decide)]; exact c3 q, fun q => by rw [h2]; exact c4 q⟩⟩
theorem wVR_TK {b : Nat → Int} {Z : Nat} {σ τ : am_S} (h : wVR b Z σ) (g : TK σ τ) : wVR b Z τ := wVR_fr h (fun o i a c => TK_o g (fun z => by omega)) (fun i => TK_2 g (by decide))
theorem rST_fail {b : Nat → Int} {Z : Nat} {σ : am_S} {s : ST} {k : Int} (hB : sb_ok BB SH σ) (hk : 1 ≤ k ∧ k ≤ 2) (h : rST b Z σ s) : rST b Z (failS k σ) (stF b Z k s) := by
  obtain ⟨v, h⟩ := h
  have ok := failS_ok hB (k := k) ⟨by omega, by omega⟩
  refine ⟨wVR_TK v ok.1, ?_⟩
  cases s with
  | inl t =>
    obtain ⟨⟨t1, t2⟩, e1, e2⟩ := h
    obtain ⟨_, c2, _⟩ := v.2 t t1 t2
    have pb := tP_b (b := b) (j := t) v.1
    show rFA _ _
    unfold failS
    rw [if_pos e2]
    refine ⟨hk, ?_, ?_⟩
    · unfold pF; rw [pi_n _ _ _ _ (by decide), pi_s, ii_t (by omega) (by omega)]
    · show ((am_pi _ 51 14 _).1 51 14).toInt = _
      rw [pi_s, e1, show ((t : Int)).toNat = t by omega, c2, ii_t (by omega) (by omega)]
  | inr q =>
    obtain ⟨h1, h2, h3⟩ := h
    show rFA _ _
    unfold failS
    rw [if_neg (by omega)]
    exact ⟨h1, h2, h3⟩
theorem rST_must {b : Nat → Int} {Z : Nat} {σ : am_S} {s : ST} {k : Int} (hB : sb_ok BB SH σ) (hk : 1 ≤ k ∧ k ≤ 38) (h : rST b Z σ s) : rST b Z (muS k σ) (stT b Z k s) := by
  have hF := rST_fail (k := 1) hB ⟨by decide, by decide⟩ h
  have hF2 := rST_fail (k := 2) hB ⟨by decide, by decide⟩ h
  have ok := muS_ok hB (k := k)
  obtain ⟨v, h⟩ := id h
  cases s with
  | inl t =>
    obtain ⟨⟨t1, t2⟩, e1, e2⟩ := h
    obtain ⟨c1, _⟩ := v.2 t t1 t2
    have kb := tkd_b (b := b) (Z := Z) (i := ps b Z t)
    have ek : kdT σ = tK b Z t := by
      unfold kdT
      rw [e1, show ((t : Int)).toNat = t by omega, c1]
      exact ii_t (by show -2147483648 ≤ tkd b Z (ps b Z t); omega) (by show tkd b Z (ps b Z t) < 2147483648; omega)
    show rST b Z (muS k σ) (if tK b Z t = k then (if t = 400 then .inr (2, tP b Z t) else .inl (t + 1)) else .inr (1, tP b Z t))
    unfold muS at ok ⊢
    by_cases q : tK b Z t = k
    · rw [if_pos q]
      rw [if_pos ⟨e2, ek.trans q⟩] at ok ⊢
      unfold goS at ok ⊢
      by_cases w : t = 400
      · rw [if_pos w, if_pos (by omega)]
        exact hF2
      · rw [if_neg w]
        rw [if_neg (by omega)] at ok ⊢
        refine ⟨wVR_TK v ok.1, ⟨by omega, fun i hi => ?_⟩, ?_, ?_⟩
        · by_cases z : i = t
          · rw [z, q]; omega
          · exact t2 i (by omega)
        · show ((am_pi σ 51 11 (Int32.ofInt (pT σ + 1))).1 51 11).toInt = _
          rw [pi_s, ii_t (by omega) (by omega), e1]
          rfl
        · unfold pF; rw [pi_n _ _ _ _ (by decide)]; exact e2
    · rw [if_neg q, if_neg (fun z => q (ek.symm.trans z.2))]
      exact hF
  | inr q =>
    obtain ⟨h1, h2, h3⟩ := h
    show rST b Z (muS k σ) (.inr q)
    unfold muS
    rw [if_neg (fun z => by omega)]
    exact hF
