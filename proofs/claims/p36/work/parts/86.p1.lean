/-! THE REFERENCE'S READER: going on from token to token. Printed by wip/am/chk/hand/tk.py. -/
def pT (σ : am_S) : Int := (σ.1 51 11).toInt
def pF (σ : am_S) : Int := (σ.1 51 13).toInt
def pC (σ : am_S) : Int := (σ.1 51 37).toInt
def pW (σ : am_S) : Int := (σ.1 51 41).toInt
def pO (σ : am_S) : Int := (σ.1 51 12).toInt
def pB (σ : am_S) : Int := (σ.1 51 31).toInt
/-- what these methods change -/
def TKm : sa_M := [(51, 11, 12), (51, 13, 17)]
def pX (σ : am_S) : Int := (σ.1 51 15).toInt
/-- a fault stays a fault -/
abbrev NZ (σ τ : am_S) : Prop := (pF σ ≠ 0 → pF τ ≠ 0) ∧ (pX σ ≠ 0 → pX τ ≠ 0)
theorem NZ_r (σ : am_S) : NZ σ σ := ⟨fun h => h, fun h => h⟩
theorem NZ_t {σ τ υ : am_S} (h : NZ σ τ) (g : NZ τ υ) : NZ σ υ := ⟨fun q => g.1 (h.1 q), fun q => g.2 (h.2 q)⟩
theorem NZ_of {σ τ : am_S} (h1 : τ.1 51 13 = σ.1 51 13) (h2 : τ.1 51 15 = σ.1 51 15) : NZ σ τ := ⟨fun q => by unfold pF at *; rw [h1]; exact q, fun q => by unfold pX at *; rw [h2]; exact q⟩
def TK (σ τ : am_S) : Prop := sI BB SH TKm σ τ ∧ pT σ ≤ pT τ ∧ NZ σ τ
/-- one token on, or a fault -/
def ADV (σ τ : am_S) : Prop := (pT τ = pT σ + 1 ∧ pF τ = pF σ) ∨ (pT τ = pT σ ∧ pF τ ≠ 0)
theorem TK_r {σ : am_S} (h : sb_ok BB SH σ) : TK σ σ := ⟨⟨h, sb_fr_r _ _⟩, Int.le_refl _, NZ_r σ⟩
theorem TK_t {σ τ υ : am_S} (h : TK σ τ) (g : TK τ υ) : TK σ υ := ⟨⟨g.1.1, sb_fr_t h.1.2 g.1.2⟩, Int.le_trans h.2.1 g.2.1, NZ_t h.2.2 g.2.2⟩
theorem TK_o {σ τ : am_S} (h : TK σ τ) {o k : Nat} (hn : ¬ (o = 51 ∧ (11 ≤ k ∧ k < 12 ∨ 13 ≤ k ∧ k < 17))) : τ.1 o k = σ.1 o k := (h.1.2 o k (fun m hm hh => by
  rcases List.mem_cons.mp hm with rfl | hm
  · exact hn ⟨hh.1.symm, Or.inl hh.2⟩
  · rcases List.mem_cons.mp hm with rfl | hm
    · exact hn ⟨hh.1.symm, Or.inr hh.2⟩
    · cases hm)).1
theorem TK_2 {σ τ : am_S} (h : TK σ τ) {o k : Nat} (hn : ¬ o = 51) : τ.2 o k = σ.2 o k := (h.1.2 o k (fun m hm hh => by
  rcases List.mem_cons.mp hm with rfl | hm
  · exact hn hh.1.symm
  · rcases List.mem_cons.mp hm with rfl | hm
    · exact hn hh.1.symm
    · cases hm)).2
theorem pT_b {σ : am_S} (h : sb_ok BB SH σ) : 0 ≤ pT σ ∧ pT σ ≤ 400 := h.2 51 12 11 rfl
theorem pF_b {σ : am_S} (h : sb_ok BB SH σ) : 0 ≤ pF σ ∧ pF σ ≤ 9 := h.2 51 12 13 rfl
theorem pX_b {σ : am_S} (h : sb_ok BB SH σ) : 0 ≤ pX σ ∧ pX σ ≤ 9 := h.2 51 12 15 rfl
def tk_facts : List ta_B := [(51, (0, ((11 : Nat) : Int)), 0, 400), (51, (0, ((13 : Nat) : Int)), 0, 9), (51, (0, ((15 : Nat) : Int)), 0, 9)]
def tk_x (b : Nat) (E : sa_E) (F : ta_F) : Bool := match t_lk F 51 (0, 15) with
  | some w => decide (w = (b + 2, 0)) || decide (1 ≤ (sa_h E w).1)
  | none => false
theorem tk_x_ok {b : Nat} {E : sa_E} {ρ : Nat → Int} {F : ta_F} {σ τ : am_S} (hE : sg_E E ρ) (hF : tg_F E ρ F τ) (h1 : ρ (b + 2) = pX σ) (h : tk_x b E F = true) : pX σ ≠ 0 → pX τ ≠ 0 := by
  unfold tk_x at h
  split at h
  · rename_i w hw
    have q1 := (t_lk_ok hF hw).2
    rw [hE.2.1] at q1
    have q1 : pX τ = ρ w.1 + w.2 := q1
    simp only [Bool.or_eq_true, decide_eq_true_eq] at h
    rcases h with rfl | h
    · simp only at q1
      intro q
      omega
    · have := (sa_h_ok (a := w) (x := τ.1 51 15) hE q1).1
      have e : pX τ = (τ.1 51 15).toInt := rfl
      intro q
      omega
  · cases h
/-- b: the ghost of t; 1: one on; 2: a fault; 4: as it was -/
def tk_c (b mode : Nat) (E : sa_E) (F : ta_F) : Bool := match t_lk F 51 (0, 11), t_lk F 51 (0, 13) with
  | some a, some v => (decide (mode % 2 = 1) && decide (a = (b, 1) ∧ v = (b + 1, 0))) || ((decide (mode / 2 % 2 = 1) && (decide (a = (b, 0)) && decide (1 ≤ (sa_h E v).1))) || (decide (mode / 4 = 1) && decide (a = (b, 0) ∧ v = (b + 1, 0))))
  | _, _ => false
theorem tk_c_ok {b mode : Nat} {E : sa_E} {ρ : Nat → Int} {F : ta_F} {σ τ : am_S} (hE : sg_E E ρ) (hF : tg_F E ρ F τ) (h1 : ρ b = pT σ) (h2 : ρ (b + 1) = pF σ) (h : tk_c b mode E F = true) : (mode % 2 = 1 ∧ pT τ = pT σ + 1 ∧ pF τ = pF σ) ∨ (mode / 2 % 2 = 1 ∧ pT τ = pT σ ∧ pF τ ≠ 0) ∨ (mode / 4 = 1 ∧ pT τ = pT σ ∧ pF τ = pF σ) := by
  unfold tk_c at h
  split at h
  · rename_i a v ha hv
    have q1 := (t_lk_ok hF ha).2
    have q2 := (t_lk_ok hF hv).2
    rw [hE.2.1] at q1 q2
    have q1 : pT τ = ρ a.1 + a.2 := q1
    have q2 : pF τ = ρ v.1 + v.2 := q2
    simp only [Bool.or_eq_true, Bool.and_eq_true, decide_eq_true_eq] at h
    rcases h with ⟨m, rfl, rfl⟩ | ⟨m, rfl, hh⟩ | ⟨m, rfl, rfl⟩
    · simp only at q1 q2
      exact Or.inl ⟨m, by omega, by omega⟩
    · simp only at q1
      have := (sa_h_ok (a := v) (x := τ.1 51 13) hE q2).1
      have e : pF τ = (τ.1 51 13).toInt := rfl
      exact Or.inr (Or.inl ⟨m, by omega, by omega⟩)
    · simp only at q1 q2
      exact Or.inr (Or.inr ⟨m, by omega, by omega⟩)
  · cases h
theorem tk_TK {σ τ : am_S} {mode : Nat} (hI : sI BB SH TKm σ τ) (hx : pX σ ≠ 0 → pX τ ≠ 0) (h : (mode % 2 = 1 ∧ pT τ = pT σ + 1 ∧ pF τ = pF σ) ∨ (mode / 2 % 2 = 1 ∧ pT τ = pT σ ∧ pF τ ≠ 0) ∨ (mode / 4 = 1 ∧ pT τ = pT σ ∧ pF τ = pF σ)) : TK σ τ := by
  rcases h with h | h | h
  · exact ⟨hI, by omega, fun q => by rw [h.2.2]; exact q, hx⟩
  · exact ⟨hI, by omega, fun _ => h.2.2, hx⟩
  · exact ⟨hI, by omega, fun q => by rw [h.2.2]; exact q, hx⟩
def LX12_fail : List (Nat × Instr × Nat) := [(0, .aload_n 0, 1), (1, .getfield 191, 3), (4, .ifCond .le 4, 3), (7, .return_, 1), (8, .aload_n 0, 1), (9, .iload_n 1, 1), (10, .putfield 191, 3), (13, .aload_n 0, 1), (14, .aload_n 0, 1), (15, .getfield 24, 3), (18, .aload_n 0, 1), (19, .getfield 194, 3), (22, .iaload, 1), (23, .putfield 197, 3), (26, .return_, 1)]
theorem LX12_fail_ok : LX12_fail.all (s_Dc cX12_fail) = true := by decide +kernel
def xX12_failt : am_X := (SH, KF, none, FT_X12, PT_X12, CT_X12, KT_X12, LT_X12, NT_X12, [])
def CX12_failt (M : sa_M) : ta_C := []
theorem hX12_failt (M : sa_M) (σ0 : am_S) : t_CS BB (am_SH xX12_failt) 92 M σ0 (am_ML xX12_failt) (CX12_failt M) := t_cs_nil
def sX12_fail : am_Sp := fun as n σ post => n = 92 ∧ sb_ok BB SH σ ∧ sp_all [.inr (.inl 51), .inl (1, 9)] as ∧ ∀ v τ, TK σ τ → (v = none ∧ pT τ = pT σ ∧ pF τ ≠ 0) → post v τ
def trX12_fail (E : sa_E) (F : ta_F) (v : Option sa_V) : Bool := (tk_c 3 2 E F && tk_x 3 E F) && (v.isNone)
set_option maxRecDepth 100000 in
theorem ptX12_fail : am_B cX12_fail xX12_failt 2 0 sX12_fail := by
  refine t_flat (X := xX12_failt) (B := BB) (N := 92) (CS := CX12_failt TKm) (M := TKm) (D := LX12_fail) (Fk := []) (fuel := 400) [.inr (.inl 51), .inl (1, 9)] tk_facts trX12_fail (by decide) (s_D_ok LX12_fail_ok) ?_ (by decide +kernel)
  rintro as n σ post ⟨rfl, hB, has, h⟩
  refine ⟨rfl, hB, has, hX12_failt _ _, t_sc_f (pT_b hB) (t_sc_f (pF_b hB) (t_sc_f (pX_b hB) t_sc_nil)), fun E' F' ρ' v' v τ hr hx hE hF hv hI => ?_⟩
  have e1 : ρ' 3 = pT σ := hx.2 3 (by decide)
  have e2 : ρ' 4 = pF σ := hx.2 4 (by decide)
  simp only [trX12_fail, Bool.and_eq_true] at hr
  have e3' : ρ' 5 = pX σ := hx.2 5 (by decide)
  have q := tk_c_ok (b := 3) hE hF e1 e2 hr.1.1
  refine h v τ (tk_TK hI (tk_x_ok (b := 3) hE hF e3' hr.1.2) q) ?_
  have hv0 : v = none := by
    have hn := hr.2
    cases v' with
    | some _ => cases hn
    | none => cases v with
      | none => rfl
      | some _ => exact hv.elim
  refine ⟨hv0, ?_⟩
  rcases q with q | q | q
  · exact absurd q.1 (by decide)
  · exact ⟨q.2.1, q.2.2⟩
  · exact absurd q.1 (by decide)
theorem mX12_fail (l : Launch) : am_M l TB NB vwCl SH KF yX12_fail cX12_fail 2 none 2 0 0 sX12_fail := by
  refine am_M.of xX12_failt (by decide +kernel) TB_good GF rfl rfl rfl (by decide) ⟨FT_X12_ok, PT_X12_ok _, CT_X12_ok, KT_X12_ok, LT_X12_ok, NT_X12_ok, ?_⟩ ptX12_fail
  exact fun _ h => absurd h List.not_mem_nil
def xX12_faili : am_X := (SH, KF, none, FT_X12, PT_X12, CT_X12, KT_X12, LT_X12, NT_X12, [])
def CX12_faili (M : sa_M) : ta_C := []
theorem hX12_faili (M : sa_M) (σ0 : am_S) : t_CS BB (am_SH xX12_faili) 92 M σ0 (am_ML xX12_faili) (CX12_faili M) := t_cs_nil
theorem mX12_faili (l : Launch) : am_M l TB NB vwCl SH KF yX12_fail cX12_fail 2 none 2 0 0 (t_wp cX12_fail xX12_faili 400 2) := by
  refine am_M.of xX12_faili (by decide +kernel) TB_good GF rfl rfl rfl (by decide) ⟨FT_X12_ok, PT_X12_ok _, CT_X12_ok, KT_X12_ok, LT_X12_ok, NT_X12_ok, ?_⟩ t_wp_B
  exact fun _ h => absurd h List.not_mem_nil
def LX12_goesOn : List (Nat × Instr × Nat) := [(0, .aload_n 0, 1), (1, .getfield 194, 3), (4, .sipush 400, 3), (7, .if_icmp .ne 11, 3), (10, .aload_n 0, 1), (11, .iconst 2, 1), (12, .invokevirtual 206, 3), (15, .goto 13, 3), (18, .aload_n 0, 1), (19, .dup, 1), (20, .getfield 194, 3), (23, .iconst 1, 1), (24, .iadd, 1), (25, .putfield 194, 3), (28, .return_, 1)]
theorem LX12_goesOn_ok : LX12_goesOn.all (s_Dc cX12_goesOn) = true := by decide +kernel
def xX12_goesOnt : am_X := (SH, KF, none, FT_X12, PT_X12, CT_X12, KT_X12, LT_X12, NT_X12, [(206, 0, 2, 12, 0, 0, t_wp cX12_fail xX12_faili 400 2)])
def CX12_goesOnt (M : sa_M) : ta_C := [(206, 0, 2, 12, t_in xX12_faili BB 92 (CX12_faili M) M LX12_fail [] 400 2)]
theorem hX12_goesOnt (M : sa_M) (σ0 : am_S) : t_CS BB (am_SH xX12_goesOnt) 92 M σ0 (am_ML xX12_goesOnt) (CX12_goesOnt M) := t_cs_cons (t_in_ok (hX12_faili M σ0) (s_D_ok LX12_fail_ok)) (t_cs_nil)
def sX12_goesOn : am_Sp := fun as n σ post => n = 92 ∧ sb_ok BB SH σ ∧ sp_all [.inr (.inl 51)] as ∧ ∀ v τ, TK σ τ → (v = none ∧ ADV σ τ) → post v τ
def trX12_goesOn (E : sa_E) (F : ta_F) (v : Option sa_V) : Bool := (tk_c 2 3 E F && tk_x 2 E F) && (v.isNone)
set_option maxRecDepth 100000 in
theorem ptX12_goesOn : am_B cX12_goesOn xX12_goesOnt 1 0 sX12_goesOn := by
  refine t_flat (X := xX12_goesOnt) (B := BB) (N := 92) (CS := CX12_goesOnt TKm) (M := TKm) (D := LX12_goesOn) (Fk := []) (fuel := 400) [.inr (.inl 51)] tk_facts trX12_goesOn (by decide) (s_D_ok LX12_goesOn_ok) ?_ (by decide +kernel)
  rintro as n σ post ⟨rfl, hB, has, h⟩
  refine ⟨rfl, hB, has, hX12_goesOnt _ _, t_sc_f (pT_b hB) (t_sc_f (pF_b hB) (t_sc_f (pX_b hB) t_sc_nil)), fun E' F' ρ' v' v τ hr hx hE hF hv hI => ?_⟩
  have e1 : ρ' 2 = pT σ := hx.2 2 (by decide)
  have e2 : ρ' 3 = pF σ := hx.2 3 (by decide)
  simp only [trX12_goesOn, Bool.and_eq_true] at hr
  have e3' : ρ' 4 = pX σ := hx.2 4 (by decide)
  have q := tk_c_ok (b := 2) hE hF e1 e2 hr.1.1
  refine h v τ (tk_TK hI (tk_x_ok (b := 2) hE hF e3' hr.1.2) q) ?_
  have hv0 : v = none := by
    have hn := hr.2
    cases v' with
    | some _ => cases hn
    | none => cases v with
      | none => rfl
      | some _ => exact hv.elim
  refine ⟨hv0, ?_⟩
  rcases q with q | q | q
  · exact Or.inl q.2
  · exact Or.inr q.2
  · exact absurd q.1 (by decide)
theorem mX12_goesOn (l : Launch) : am_M l TB NB vwCl SH KF yX12_goesOn cX12_goesOn 1 none 3 0 0 sX12_goesOn := by
  refine am_M.of xX12_goesOnt (by decide +kernel) TB_good GF rfl rfl rfl (by decide) ⟨FT_X12_ok, PT_X12_ok _, CT_X12_ok, KT_X12_ok, LT_X12_ok, NT_X12_ok, ?_⟩ ptX12_goesOn
  exact List.forall_mem_cons.mpr ⟨⟨yX12_fail, cX12_fail, 2, none, 2, 1, mX12_faili l, by decide, by decide, tb_at 1558 (by decide +kernel) (by decide +kernel), tb_at 120 (by decide +kernel) (by decide +kernel), ⟨by decide +kernel, by decide +kernel, by decide +kernel⟩, rfl, tb_at 1555 (by decide +kernel) (by decide +kernel), tb_at 1557 (by decide +kernel) (by decide +kernel), ⟨(RX12, TX12, 63), rfl, tb_at 48 (by decide +kernel) (by decide +kernel)⟩⟩, fun _ h => absurd h List.not_mem_nil⟩
def LX12_is : List (Nat × Instr × Nat) := [(0, .aload_n 0, 1), (1, .getfield 191, 3), (4, .ifCond .ne 20, 3), (7, .aload_n 0, 1), (8, .getfield 20, 3), (11, .aload_n 0, 1), (12, .getfield 194, 3), (15, .iaload, 1), (16, .iload_n 1, 1), (17, .if_icmp .ne 7, 3), (20, .iconst 1, 1), (21, .goto 4, 3), (24, .iconst 0, 1), (25, .ireturn, 1)]
theorem LX12_is_ok : LX12_is.all (s_Dc cX12_is) = true := by decide +kernel
def xX12_isi : am_X := (SH, KF, (some .boolean), FT_X12, PT_X12, CT_X12, KT_X12, LT_X12, NT_X12, [])
def CX12_isi (M : sa_M) : ta_C := []
theorem hX12_isi (M : sa_M) (σ0 : am_S) : t_CS BB (am_SH xX12_isi) 92 M σ0 (am_ML xX12_isi) (CX12_isi M) := t_cs_nil
theorem mX12_isi (l : Launch) : am_M l TB NB vwCl SH KF yX12_is cX12_is 2 (some .boolean) 2 0 0 (t_wp cX12_is xX12_isi 400 2) := by
  refine am_M.of xX12_isi (by decide +kernel) TB_good GF rfl rfl rfl (by decide) ⟨FT_X12_ok, PT_X12_ok _, CT_X12_ok, KT_X12_ok, LT_X12_ok, NT_X12_ok, ?_⟩ t_wp_B
  exact fun _ h => absurd h List.not_mem_nil
def xX12_goesOni : am_X := (SH, KF, none, FT_X12, PT_X12, CT_X12, KT_X12, LT_X12, NT_X12, [(206, 0, 2, 12, 0, 0, t_wp cX12_fail xX12_faili 400 2)])
def CX12_goesOni (M : sa_M) : ta_C := [(206, 0, 2, 12, t_in xX12_faili BB 92 (CX12_faili M) M LX12_fail [] 400 2)]
theorem hX12_goesOni (M : sa_M) (σ0 : am_S) : t_CS BB (am_SH xX12_goesOni) 92 M σ0 (am_ML xX12_goesOni) (CX12_goesOni M) := t_cs_cons (t_in_ok (hX12_faili M σ0) (s_D_ok LX12_fail_ok)) (t_cs_nil)
theorem mX12_goesOni (l : Launch) : am_M l TB NB vwCl SH KF yX12_goesOn cX12_goesOn 1 none 3 0 0 (t_wp cX12_goesOn xX12_goesOni 400 1) := by
  refine am_M.of xX12_goesOni (by decide +kernel) TB_good GF rfl rfl rfl (by decide) ⟨FT_X12_ok, PT_X12_ok _, CT_X12_ok, KT_X12_ok, LT_X12_ok, NT_X12_ok, ?_⟩ t_wp_B
  exact List.forall_mem_cons.mpr ⟨⟨yX12_fail, cX12_fail, 2, none, 2, 1, mX12_faili l, by decide, by decide, tb_at 1558 (by decide +kernel) (by decide +kernel), tb_at 120 (by decide +kernel) (by decide +kernel), ⟨by decide +kernel, by decide +kernel, by decide +kernel⟩, rfl, tb_at 1555 (by decide +kernel) (by decide +kernel), tb_at 1557 (by decide +kernel) (by decide +kernel), ⟨(RX12, TX12, 63), rfl, tb_at 48 (by decide +kernel) (by decide +kernel)⟩⟩, fun _ h => absurd h List.not_mem_nil⟩
def LX12_must : List (Nat × Instr × Nat) := [(0, .aload_n 0, 1), (1, .iload_n 1, 1), (2, .invokevirtual 209, 3), (5, .ifCond .eq 10, 3), (8, .aload_n 0, 1), (9, .invokevirtual 212, 3), (12, .goto 8, 3), (15, .aload_n 0, 1), (16, .iconst 1, 1), (17, .invokevirtual 206, 3), (20, .return_, 1)]
theorem LX12_must_ok : LX12_must.all (s_Dc cX12_must) = true := by decide +kernel
def xX12_mustt : am_X := (SH, KF, none, FT_X12, PT_X12, CT_X12, KT_X12, LT_X12, NT_X12, [(206, 0, 2, 12, 0, 0, t_wp cX12_fail xX12_faili 400 2), (209, 0, 2, 12, 0, 0, t_wp cX12_is xX12_isi 400 2), (212, 0, 1, 12, 0, 0, t_wp cX12_goesOn xX12_goesOni 400 1)])
def CX12_mustt (M : sa_M) : ta_C := [(206, 0, 2, 12, t_in xX12_faili BB 92 (CX12_faili M) M LX12_fail [] 400 2), (209, 0, 2, 12, t_in xX12_isi BB 92 (CX12_isi M) M LX12_is [] 400 2), (212, 0, 1, 12, t_in xX12_goesOni BB 92 (CX12_goesOni M) M LX12_goesOn [] 400 1)]
theorem hX12_mustt (M : sa_M) (σ0 : am_S) : t_CS BB (am_SH xX12_mustt) 92 M σ0 (am_ML xX12_mustt) (CX12_mustt M) := t_cs_cons (t_in_ok (hX12_faili M σ0) (s_D_ok LX12_fail_ok)) (t_cs_cons (t_in_ok (hX12_isi M σ0) (s_D_ok LX12_is_ok)) (t_cs_cons (t_in_ok (hX12_goesOni M σ0) (s_D_ok LX12_goesOn_ok)) (t_cs_nil)))
def sX12_must : am_Sp := fun as n σ post => n = 92 ∧ sb_ok BB SH σ ∧ sp_all [.inr (.inl 51), .inl (-2147483648, 2147483647)] as ∧ ∀ v τ, TK σ τ → (v = none ∧ ADV σ τ) → post v τ
def trX12_must (E : sa_E) (F : ta_F) (v : Option sa_V) : Bool := (tk_c 3 3 E F && tk_x 3 E F) && (v.isNone)
set_option maxRecDepth 100000 in
theorem ptX12_must : am_B cX12_must xX12_mustt 2 0 sX12_must := by
  refine t_flat (X := xX12_mustt) (B := BB) (N := 92) (CS := CX12_mustt TKm) (M := TKm) (D := LX12_must) (Fk := []) (fuel := 400) [.inr (.inl 51), .inl (-2147483648, 2147483647)] tk_facts trX12_must (by decide) (s_D_ok LX12_must_ok) ?_ (by decide +kernel)
  rintro as n σ post ⟨rfl, hB, has, h⟩
  refine ⟨rfl, hB, has, hX12_mustt _ _, t_sc_f (pT_b hB) (t_sc_f (pF_b hB) (t_sc_f (pX_b hB) t_sc_nil)), fun E' F' ρ' v' v τ hr hx hE hF hv hI => ?_⟩
  have e1 : ρ' 3 = pT σ := hx.2 3 (by decide)
  have e2 : ρ' 4 = pF σ := hx.2 4 (by decide)
  simp only [trX12_must, Bool.and_eq_true] at hr
  have e3' : ρ' 5 = pX σ := hx.2 5 (by decide)
  have q := tk_c_ok (b := 3) hE hF e1 e2 hr.1.1
  refine h v τ (tk_TK hI (tk_x_ok (b := 3) hE hF e3' hr.1.2) q) ?_
  have hv0 : v = none := by
    have hn := hr.2
    cases v' with
    | some _ => cases hn
    | none => cases v with
      | none => rfl
      | some _ => exact hv.elim
  refine ⟨hv0, ?_⟩
  rcases q with q | q | q
  · exact Or.inl q.2
  · exact Or.inr q.2
  · exact absurd q.1 (by decide)
theorem mX12_must (l : Launch) : am_M l TB NB vwCl SH KF yX12_must cX12_must 2 none 4 0 0 sX12_must := by
  refine am_M.of xX12_mustt (by decide +kernel) TB_good GF rfl rfl rfl (by decide) ⟨FT_X12_ok, PT_X12_ok _, CT_X12_ok, KT_X12_ok, LT_X12_ok, NT_X12_ok, ?_⟩ ptX12_must
  exact List.forall_mem_cons.mpr ⟨⟨yX12_fail, cX12_fail, 2, none, 2, 1, mX12_faili l, by decide, by decide, tb_at 1558 (by decide +kernel) (by decide +kernel), tb_at 120 (by decide +kernel) (by decide +kernel), ⟨by decide +kernel, by decide +kernel, by decide +kernel⟩, rfl, tb_at 1555 (by decide +kernel) (by decide +kernel), tb_at 1557 (by decide +kernel) (by decide +kernel), ⟨(RX12, TX12, 63), rfl, tb_at 48 (by decide +kernel) (by decide +kernel)⟩⟩, List.forall_mem_cons.mpr ⟨⟨yX12_is, cX12_is, 2, (some .boolean), 2, 1, mX12_isi l, by decide, by decide, tb_at 1546 (by decide +kernel) (by decide +kernel), tb_at 120 (by decide +kernel) (by decide +kernel), ⟨by decide +kernel, by decide +kernel, by decide +kernel⟩, rfl, tb_at 1543 (by decide +kernel) (by decide +kernel), tb_at 1545 (by decide +kernel) (by decide +kernel), ⟨(RX12, TX12, 63), rfl, tb_at 45 (by decide +kernel) (by decide +kernel)⟩⟩, List.forall_mem_cons.mpr ⟨⟨yX12_goesOn, cX12_goesOn, 1, none, 3, 0, mX12_goesOni l, by decide, by decide, tb_at 1554 (by decide +kernel) (by decide +kernel), tb_at 120 (by decide +kernel) (by decide +kernel), ⟨by decide +kernel, by decide +kernel, by decide +kernel⟩, rfl, tb_at 1551 (by decide +kernel) (by decide +kernel), tb_at 1553 (by decide +kernel) (by decide +kernel), ⟨(RX12, TX12, 63), rfl, tb_at 47 (by decide +kernel) (by decide +kernel)⟩⟩, fun _ h => absurd h List.not_mem_nil⟩⟩⟩
def LX12_wrong : List (Nat × Instr × Nat) := [(0, .aload_n 0, 1), (1, .getfield 24, 3), (4, .iload_n 2, 1), (5, .iaload, 1), (6, .istore_n 3, 1), (7, .aload_n 0, 1), (8, .getfield 191, 3), (11, .ifCond .gt 34, 3), (14, .aload_n 0, 1), (15, .getfield 200, 3), (18, .ifCond .eq 28, 3), (21, .iload_n 3, 1), (22, .aload_n 0, 1), (23, .getfield 203, 3), (26, .if_icmp .gt 19, 3), (29, .iload_n 3, 1), (30, .aload_n 0, 1), (31, .getfield 203, 3), (34, .if_icmp .ne 12, 3), (37, .iload_n 1, 1), (38, .aload_n 0, 1), (39, .getfield 200, 3), (42, .if_icmp .lt 4, 3), (45, .return_, 1), (46, .aload_n 0, 1), (47, .iload_n 1, 1), (48, .putfield 200, 3), (51, .aload_n 0, 1), (52, .iload_n 3, 1), (53, .putfield 203, 3), (56, .return_, 1)]
theorem LX12_wrong_ok : LX12_wrong.all (s_Dc cX12_wrong) = true := by decide +kernel
def xX12_wrongt : am_X := (SH, KF, none, FT_X12, PT_X12, CT_X12, KT_X12, LT_X12, NT_X12, [])
def CX12_wrongt (M : sa_M) : ta_C := []
theorem hX12_wrongt (M : sa_M) (σ0 : am_S) : t_CS BB (am_SH xX12_wrongt) 92 M σ0 (am_ML xX12_wrongt) (CX12_wrongt M) := t_cs_nil
def sX12_wrong : am_Sp := fun as n σ post => n = 92 ∧ sb_ok BB SH σ ∧ sp_all [.inr (.inl 51), .inl (1, 9), .inl (0, 402)] as ∧ ∀ v τ, TK σ τ → (v = none ∧ pT τ = pT σ ∧ pF τ = pF σ) → post v τ
def trX12_wrong (E : sa_E) (F : ta_F) (v : Option sa_V) : Bool := (tk_c 5 4 E F && tk_x 5 E F) && (v.isNone)
set_option maxRecDepth 100000 in
theorem ptX12_wrong : am_B cX12_wrong xX12_wrongt 4 0 sX12_wrong := by
  refine t_flat (X := xX12_wrongt) (B := BB) (N := 92) (CS := CX12_wrongt TKm) (M := TKm) (D := LX12_wrong) (Fk := []) (fuel := 400) [.inr (.inl 51), .inl (1, 9), .inl (0, 402)] tk_facts trX12_wrong (by decide) (s_D_ok LX12_wrong_ok) ?_ (by decide +kernel)
  rintro as n σ post ⟨rfl, hB, has, h⟩
  refine ⟨rfl, hB, has, hX12_wrongt _ _, t_sc_f (pT_b hB) (t_sc_f (pF_b hB) (t_sc_f (pX_b hB) t_sc_nil)), fun E' F' ρ' v' v τ hr hx hE hF hv hI => ?_⟩
  have e1 : ρ' 5 = pT σ := hx.2 5 (by decide)
  have e2 : ρ' 6 = pF σ := hx.2 6 (by decide)
  simp only [trX12_wrong, Bool.and_eq_true] at hr
  have e3' : ρ' 7 = pX σ := hx.2 7 (by decide)
  have q := tk_c_ok (b := 5) hE hF e1 e2 hr.1.1
  refine h v τ (tk_TK hI (tk_x_ok (b := 5) hE hF e3' hr.1.2) q) ?_
  have hv0 : v = none := by
    have hn := hr.2
    cases v' with
    | some _ => cases hn
    | none => cases v with
      | none => rfl
      | some _ => exact hv.elim
  refine ⟨hv0, ?_⟩
  rcases q with q | q | q
  · exact absurd q.1 (by decide)
  · exact absurd q.1 (by decide)
  · exact q.2
theorem mX12_wrong (l : Launch) : am_M l TB NB vwCl SH KF yX12_wrong cX12_wrong 4 none 2 0 0 sX12_wrong := by
  refine am_M.of xX12_wrongt (by decide +kernel) TB_good GF rfl rfl rfl (by decide) ⟨FT_X12_ok, PT_X12_ok _, CT_X12_ok, KT_X12_ok, LT_X12_ok, NT_X12_ok, ?_⟩ ptX12_wrong
  exact fun _ h => absurd h List.not_mem_nil
def xX12_wrongi : am_X := (SH, KF, none, FT_X12, PT_X12, CT_X12, KT_X12, LT_X12, NT_X12, [])
def CX12_wrongi (M : sa_M) : ta_C := []
theorem hX12_wrongi (M : sa_M) (σ0 : am_S) : t_CS BB (am_SH xX12_wrongi) 92 M σ0 (am_ML xX12_wrongi) (CX12_wrongi M) := t_cs_nil
theorem mX12_wrongi (l : Launch) : am_M l TB NB vwCl SH KF yX12_wrong cX12_wrong 4 none 2 0 0 (t_wp cX12_wrong xX12_wrongi 400 4) := by
  refine am_M.of xX12_wrongi (by decide +kernel) TB_good GF rfl rfl rfl (by decide) ⟨FT_X12_ok, PT_X12_ok _, CT_X12_ok, KT_X12_ok, LT_X12_ok, NT_X12_ok, ?_⟩ t_wp_B
  exact fun _ h => absurd h List.not_mem_nil
def LX12_bounded : List (Nat × Instr × Nat) := [(0, .aload_n 0, 1), (1, .getfield 191, 3), (4, .ifCond .gt 11, 3), (7, .aload_n 0, 1), (8, .iconst 2, 1), (9, .invokevirtual 209, 3), (12, .ifCond .ne 10, 3), (15, .aload_n 0, 1), (16, .iconst 1, 1), (17, .invokevirtual 206, 3), (20, .iload_n 1, 1), (21, .ireturn, 1), (22, .aload_n 0, 1), (23, .getfield 27, 3), (26, .aload_n 0, 1), (27, .getfield 194, 3), (30, .iaload, 1), (31, .istore_n 3, 1), (32, .iload_n 3, 1), (33, .iload_n 1, 1), (34, .if_icmp .lt 8, 3), (37, .iload_n 3, 1), (38, .iload_n 2, 1), (39, .if_icmp .le 12, 3), (42, .aload_n 0, 1), (43, .iconst 5, 1), (44, .aload_n 0, 1), (45, .getfield 194, 3), (48, .invokevirtual 243, 3), (51, .aload_n 0, 1), (52, .invokevirtual 212, 3), (55, .iload_n 3, 1), (56, .ireturn, 1)]
theorem LX12_bounded_ok : LX12_bounded.all (s_Dc cX12_bounded) = true := by decide +kernel
def xX12_boundedt : am_X := (SH, KF, (some .int), FT_X12, PT_X12, CT_X12, KT_X12, LT_X12, NT_X12, [(206, 0, 2, 12, 0, 0, t_wp cX12_fail xX12_faili 400 2), (209, 0, 2, 12, 0, 0, t_wp cX12_is xX12_isi 400 2), (212, 0, 1, 12, 0, 0, t_wp cX12_goesOn xX12_goesOni 400 1), (243, 0, 3, 12, 0, 0, t_wp cX12_wrong xX12_wrongi 400 4)])
def CX12_boundedt (M : sa_M) : ta_C := [(206, 0, 2, 12, t_in xX12_faili BB 92 (CX12_faili M) M LX12_fail [] 400 2), (209, 0, 2, 12, t_in xX12_isi BB 92 (CX12_isi M) M LX12_is [] 400 2), (212, 0, 1, 12, t_in xX12_goesOni BB 92 (CX12_goesOni M) M LX12_goesOn [] 400 1), (243, 0, 3, 12, t_in xX12_wrongi BB 92 (CX12_wrongi M) M LX12_wrong [] 400 4)]
theorem hX12_boundedt (M : sa_M) (σ0 : am_S) : t_CS BB (am_SH xX12_boundedt) 92 M σ0 (am_ML xX12_boundedt) (CX12_boundedt M) := t_cs_cons (t_in_ok (hX12_faili M σ0) (s_D_ok LX12_fail_ok)) (t_cs_cons (t_in_ok (hX12_isi M σ0) (s_D_ok LX12_is_ok)) (t_cs_cons (t_in_ok (hX12_goesOni M σ0) (s_D_ok LX12_goesOn_ok)) (t_cs_cons (t_in_ok (hX12_wrongi M σ0) (s_D_ok LX12_wrong_ok)) (t_cs_nil))))
def sX12_bounded : am_Sp := fun as n σ post => n = 92 ∧ sb_ok BB SH σ ∧ sp_all [.inr (.inl 51), .inl (-2147483648, 2147483647), .inl (-2147483648, 2147483647)] as ∧ ∀ v τ, TK σ τ → ((∃ x, v = some (.int x)) ∧ ADV σ τ) → post v τ
def trX12_bounded (E : sa_E) (F : ta_F) (v : Option sa_V) : Bool := (tk_c 5 3 E F && tk_x 5 E F) && (t_int E F v)
set_option maxRecDepth 100000 in
theorem ptX12_bounded : am_B cX12_bounded xX12_boundedt 4 0 sX12_bounded := by
  refine t_flat (X := xX12_boundedt) (B := BB) (N := 92) (CS := CX12_boundedt TKm) (M := TKm) (D := LX12_bounded) (Fk := []) (fuel := 400) [.inr (.inl 51), .inl (-2147483648, 2147483647), .inl (-2147483648, 2147483647)] tk_facts trX12_bounded (by decide) (s_D_ok LX12_bounded_ok) ?_ (by decide +kernel)
  rintro as n σ post ⟨rfl, hB, has, h⟩
  refine ⟨rfl, hB, has, hX12_boundedt _ _, t_sc_f (pT_b hB) (t_sc_f (pF_b hB) (t_sc_f (pX_b hB) t_sc_nil)), fun E' F' ρ' v' v τ hr hx hE hF hv hI => ?_⟩
  have e1 : ρ' 5 = pT σ := hx.2 5 (by decide)
  have e2 : ρ' 6 = pF σ := hx.2 6 (by decide)
  simp only [trX12_bounded, Bool.and_eq_true] at hr
  have e3' : ρ' 7 = pX σ := hx.2 7 (by decide)
  have q := tk_c_ok (b := 5) hE hF e1 e2 hr.1.1
  refine h v τ (tk_TK hI (tk_x_ok (b := 5) hE hF e3' hr.1.2) q) ?_
  refine ⟨t_rok (E := E') (ρ := ρ') hr.2 hv, ?_⟩
  rcases q with q | q | q
  · exact Or.inl q.2
  · exact Or.inr q.2
  · exact absurd q.1 (by decide)
theorem mX12_bounded (l : Launch) : am_M l TB NB vwCl SH KF yX12_bounded cX12_bounded 4 (some .int) 4 0 0 sX12_bounded := by
  refine am_M.of xX12_boundedt (by decide +kernel) TB_good GF rfl rfl rfl (by decide) ⟨FT_X12_ok, PT_X12_ok _, CT_X12_ok, KT_X12_ok, LT_X12_ok, NT_X12_ok, ?_⟩ ptX12_bounded
  exact List.forall_mem_cons.mpr ⟨⟨yX12_fail, cX12_fail, 2, none, 2, 1, mX12_faili l, by decide, by decide, tb_at 1558 (by decide +kernel) (by decide +kernel), tb_at 120 (by decide +kernel) (by decide +kernel), ⟨by decide +kernel, by decide +kernel, by decide +kernel⟩, rfl, tb_at 1555 (by decide +kernel) (by decide +kernel), tb_at 1557 (by decide +kernel) (by decide +kernel), ⟨(RX12, TX12, 63), rfl, tb_at 48 (by decide +kernel) (by decide +kernel)⟩⟩, List.forall_mem_cons.mpr ⟨⟨yX12_is, cX12_is, 2, (some .boolean), 2, 1, mX12_isi l, by decide, by decide, tb_at 1546 (by decide +kernel) (by decide +kernel), tb_at 120 (by decide +kernel) (by decide +kernel), ⟨by decide +kernel, by decide +kernel, by decide +kernel⟩, rfl, tb_at 1543 (by decide +kernel) (by decide +kernel), tb_at 1545 (by decide +kernel) (by decide +kernel), ⟨(RX12, TX12, 63), rfl, tb_at 45 (by decide +kernel) (by decide +kernel)⟩⟩, List.forall_mem_cons.mpr ⟨⟨yX12_goesOn, cX12_goesOn, 1, none, 3, 0, mX12_goesOni l, by decide, by decide, tb_at 1554 (by decide +kernel) (by decide +kernel), tb_at 120 (by decide +kernel) (by decide +kernel), ⟨by decide +kernel, by decide +kernel, by decide +kernel⟩, rfl, tb_at 1551 (by decide +kernel) (by decide +kernel), tb_at 1553 (by decide +kernel) (by decide +kernel), ⟨(RX12, TX12, 63), rfl, tb_at 47 (by decide +kernel) (by decide +kernel)⟩⟩, List.forall_mem_cons.mpr ⟨⟨yX12_wrong, cX12_wrong, 4, none, 2, 2, mX12_wrongi l, by decide, by decide, tb_at 1566 (by decide +kernel) (by decide +kernel), tb_at 120 (by decide +kernel) (by decide +kernel), ⟨by decide +kernel, by decide +kernel, by decide +kernel⟩, rfl, tb_at 1563 (by decide +kernel) (by decide +kernel), tb_at 1565 (by decide +kernel) (by decide +kernel), ⟨(RX12, TX12, 63), rfl, tb_at 50 (by decide +kernel) (by decide +kernel)⟩⟩, fun _ h => absurd h List.not_mem_nil⟩⟩⟩⟩
/-- within 1..12, or worst is told, or a fault -/
def bd_x (E : sa_E) (F : ta_F) (v : Option sa_V) : Bool := (match v with
  | some (.inl a) => decide (1 ≤ (sa_h E a).1) && decide ((sa_h E a).2 ≤ 12)
  | _ => false) || ((match t_lk F 51 (0, 15) with
  | some w => decide (1 ≤ (sa_h E w).1)
  | none => false) || (match t_lk F 51 (0, 13) with
  | some w => decide (1 ≤ (sa_h E w).1)
  | none => false))
theorem bd_x_ok {E : sa_E} {ρ : Nat → Int} {F : ta_F} {v' : Option sa_V} {x : Int32} {τ : am_S} (hE : sg_E E ρ) (hF : tg_F E ρ F τ) (hv : sv_o E ρ v' (some (.int x))) (h : bd_x E F v' = true) : pF τ = 0 → pX τ = 0 → 1 ≤ x.toInt ∧ x.toInt ≤ 12 := by
  intro z1 z2
  unfold bd_x at h
  simp only [Bool.or_eq_true] at h
  rcases h with h | h | h
  · split at h
    · rename_i a
      obtain ⟨_, y, hy, hx⟩ := hv
      cases hy
      simp only [Bool.and_eq_true, decide_eq_true_eq] at h
      have := sa_h_ok (a := a) (x := x) hE (by first | exact hx | exact hx.1 | exact hx.2)
      omega
    · cases h
  · split at h
    · rename_i w hw
      have q1 := (t_lk_ok hF hw).2
      rw [hE.2.1] at q1
      have h := of_decide_eq_true h
      have := (sa_h_ok (a := w) (x := τ.1 51 15) hE q1).1
      have e : pX τ = (τ.1 51 15).toInt := rfl
      omega
    · cases h
  · split at h
    · rename_i w hw
      have q1 := (t_lk_ok hF hw).2
      rw [hE.2.1] at q1
      have h := of_decide_eq_true h
      have := (sa_h_ok (a := w) (x := τ.1 51 13) hE q1).1
      have e : pF τ = (τ.1 51 13).toInt := rfl
      omega
    · cases h
def sX12_bounded1 : am_Sp := fun as n σ post => n = 92 ∧ sb_ok BB SH σ ∧ sp_all [.inr (.inl 51), .inl (1, 1), .inl (12, 12)] as ∧ ∀ v τ, TK σ τ → ((∃ x : Int32, v = some (.int x) ∧ (pF τ = 0 → pX τ = 0 → 1 ≤ x.toInt ∧ x.toInt ≤ 12)) ∧ ADV σ τ) → post v τ
def trX12_bounded1 (E : sa_E) (F : ta_F) (v : Option sa_V) : Bool := (tk_c 5 3 E F && tk_x 5 E F) && (t_int E F v && bd_x E F v)
set_option maxRecDepth 100000 in
theorem ptX12_bounded1 : am_B cX12_bounded xX12_boundedt 4 0 sX12_bounded1 := by
  refine t_flat (X := xX12_boundedt) (B := BB) (N := 92) (CS := CX12_boundedt TKm) (M := TKm) (D := LX12_bounded) (Fk := []) (fuel := 400) [.inr (.inl 51), .inl (1, 1), .inl (12, 12)] tk_facts trX12_bounded1 (by decide) (s_D_ok LX12_bounded_ok) ?_ (by decide +kernel)
  rintro as n σ post ⟨rfl, hB, has, h⟩
  refine ⟨rfl, hB, has, hX12_boundedt _ _, t_sc_f (pT_b hB) (t_sc_f (pF_b hB) (t_sc_f (pX_b hB) t_sc_nil)), fun E' F' ρ' v' v τ hr hx hE hF hv hI => ?_⟩
  have e1 : ρ' 5 = pT σ := hx.2 5 (by decide)
  have e2 : ρ' 6 = pF σ := hx.2 6 (by decide)
  have e3' : ρ' 7 = pX σ := hx.2 7 (by decide)
  simp only [trX12_bounded1, Bool.and_eq_true] at hr
  have q := tk_c_ok (b := 5) hE hF e1 e2 hr.1.1
  obtain ⟨x, rfl⟩ : ∃ x, v = some (.int x) := t_rok (E := E') (ρ := ρ') hr.2.1 hv
  refine h _ τ (tk_TK hI (tk_x_ok (b := 5) hE hF e3' hr.1.2) q) ⟨⟨x, rfl, bd_x_ok hE hF hv hr.2.2⟩, ?_⟩
  rcases q with q | q | q
  · exact Or.inl q.2
  · exact Or.inr q.2
  · exact absurd q.1 (by decide)
/-- one word for both -/
def sX12_boundedC : am_Sp := fun as n σ post => sX12_bounded1 as n σ post ∨ sX12_bounded as n σ post
theorem ptX12_boundedC : am_B cX12_bounded xX12_boundedt 4 0 sX12_boundedC := by
  intro n0 as σ post AA hA h
  rcases h with h | h
  · exact ptX12_bounded1 n0 as σ post AA hA h
  · exact ptX12_bounded n0 as σ post AA hA h
theorem mX12_boundedC (l : Launch) : am_M l TB NB vwCl SH KF yX12_bounded cX12_bounded 4 (some .int) 4 0 0 sX12_boundedC := by
  refine am_M.of xX12_boundedt (by decide +kernel) TB_good GF rfl rfl rfl (by decide) ⟨FT_X12_ok, PT_X12_ok _, CT_X12_ok, KT_X12_ok, LT_X12_ok, NT_X12_ok, ?_⟩ ptX12_boundedC
  exact List.forall_mem_cons.mpr ⟨⟨yX12_fail, cX12_fail, 2, none, 2, 1, mX12_faili l, by decide, by decide, tb_at 1558 (by decide +kernel) (by decide +kernel), tb_at 120 (by decide +kernel) (by decide +kernel), ⟨by decide +kernel, by decide +kernel, by decide +kernel⟩, rfl, tb_at 1555 (by decide +kernel) (by decide +kernel), tb_at 1557 (by decide +kernel) (by decide +kernel), ⟨(RX12, TX12, 63), rfl, tb_at 48 (by decide +kernel) (by decide +kernel)⟩⟩, List.forall_mem_cons.mpr ⟨⟨yX12_is, cX12_is, 2, (some .boolean), 2, 1, mX12_isi l, by decide, by decide, tb_at 1546 (by decide +kernel) (by decide +kernel), tb_at 120 (by decide +kernel) (by decide +kernel), ⟨by decide +kernel, by decide +kernel, by decide +kernel⟩, rfl, tb_at 1543 (by decide +kernel) (by decide +kernel), tb_at 1545 (by decide +kernel) (by decide +kernel), ⟨(RX12, TX12, 63), rfl, tb_at 45 (by decide +kernel) (by decide +kernel)⟩⟩, List.forall_mem_cons.mpr ⟨⟨yX12_goesOn, cX12_goesOn, 1, none, 3, 0, mX12_goesOni l, by decide, by decide, tb_at 1554 (by decide +kernel) (by decide +kernel), tb_at 120 (by decide +kernel) (by decide +kernel), ⟨by decide +kernel, by decide +kernel, by decide +kernel⟩, rfl, tb_at 1551 (by decide +kernel) (by decide +kernel), tb_at 1553 (by decide +kernel) (by decide +kernel), ⟨(RX12, TX12, 63), rfl, tb_at 47 (by decide +kernel) (by decide +kernel)⟩⟩, List.forall_mem_cons.mpr ⟨⟨yX12_wrong, cX12_wrong, 4, none, 2, 2, mX12_wrongi l, by decide, by decide, tb_at 1566 (by decide +kernel) (by decide +kernel), tb_at 120 (by decide +kernel) (by decide +kernel), ⟨by decide +kernel, by decide +kernel, by decide +kernel⟩, rfl, tb_at 1563 (by decide +kernel) (by decide +kernel), tb_at 1565 (by decide +kernel) (by decide +kernel), ⟨(RX12, TX12, 63), rfl, tb_at 50 (by decide +kernel) (by decide +kernel)⟩⟩, fun _ h => absurd h List.not_mem_nil⟩⟩⟩⟩
def LX12_roomFor : List (Nat × Instr × Nat) := [(0, .iload_n 1, 1), (1, .iload_n 2, 1), (2, .if_icmp .ne 8, 3), (5, .aload_n 0, 1), (6, .iconst 2, 1), (7, .invokevirtual 206, 3), (10, .aload_n 0, 1), (11, .getfield 191, 3), (14, .ifCond .ne 7, 3), (17, .aload_n 0, 1), (18, .invokevirtual 212, 3), (21, .return_, 1)]
theorem LX12_roomFor_ok : LX12_roomFor.all (s_Dc cX12_roomFor) = true := by decide +kernel
def xX12_roomFort : am_X := (SH, KF, none, FT_X12, PT_X12, CT_X12, KT_X12, LT_X12, NT_X12, [(206, 0, 2, 12, 0, 0, t_wp cX12_fail xX12_faili 400 2), (212, 0, 1, 12, 0, 0, t_wp cX12_goesOn xX12_goesOni 400 1)])
def CX12_roomFort (M : sa_M) : ta_C := [(206, 0, 2, 12, t_in xX12_faili BB 92 (CX12_faili M) M LX12_fail [] 400 2), (212, 0, 1, 12, t_in xX12_goesOni BB 92 (CX12_goesOni M) M LX12_goesOn [] 400 1)]
theorem hX12_roomFort (M : sa_M) (σ0 : am_S) : t_CS BB (am_SH xX12_roomFort) 92 M σ0 (am_ML xX12_roomFort) (CX12_roomFort M) := t_cs_cons (t_in_ok (hX12_faili M σ0) (s_D_ok LX12_fail_ok)) (t_cs_cons (t_in_ok (hX12_goesOni M σ0) (s_D_ok LX12_goesOn_ok)) (t_cs_nil))
def sX12_roomFor : am_Sp := fun as n σ post => n = 92 ∧ sb_ok BB SH σ ∧ sp_all [.inr (.inl 51), .inl (0, 5), .inl (5, 5)] as ∧ ∀ v τ, TK σ τ → (v = none ∧ ADV σ τ ∧ (pF τ = 0 → ∀ x : Int32, as[1]? = some (.int x) → x.toInt ≤ 4)) → post v τ
def trX12_roomFor (E : sa_E) (F : ta_F) (v : Option sa_V) : Bool := (tk_c 4 3 E F && tk_x 4 E F) && (v.isNone && (decide (t_lk F 51 (0, 11) = some (4, 0)) || decide ((sa_h E (2, 0)).2 ≤ 4)))
set_option maxRecDepth 100000 in
theorem ptX12_roomFor : am_B cX12_roomFor xX12_roomFort 3 0 sX12_roomFor := by
  refine t_flat (X := xX12_roomFort) (B := BB) (N := 92) (CS := CX12_roomFort TKm) (M := TKm) (D := LX12_roomFor) (Fk := []) (fuel := 400) [.inr (.inl 51), .inl (0, 5), .inl (5, 5)] tk_facts trX12_roomFor (by decide) (s_D_ok LX12_roomFor_ok) ?_ (by decide +kernel)
  rintro as n σ post ⟨rfl, hB, has, h⟩
  refine ⟨rfl, hB, has, hX12_roomFort _ _, t_sc_f (pT_b hB) (t_sc_f (pF_b hB) (t_sc_f (pX_b hB) t_sc_nil)), fun E' F' ρ' v' v τ hr hx hE hF hv hI => ?_⟩
  have e1 : ρ' 4 = pT σ := hx.2 4 (by decide)
  have e2 : ρ' 5 = pF σ := hx.2 5 (by decide)
  simp only [trX12_roomFor, Bool.and_eq_true] at hr
  have e3' : ρ' 6 = pX σ := hx.2 6 (by decide)
  have q := tk_c_ok (b := 4) hE hF e1 e2 hr.1.1
  refine h v τ (tk_TK hI (tk_x_ok (b := 4) hE hF e3' hr.1.2) q) ?_
  have hn := hr.2
  simp only [Bool.and_eq_true, Bool.or_eq_true, decide_eq_true_eq] at hn
  have hv0 : v = none := by
    have hn := hn.1
    cases v' with
    | some _ => cases hn
    | none => cases v with
      | none => rfl
      | some _ => exact hv.elim
  refine ⟨hv0, ?_, fun hz x hx1 => ?_⟩
  · rcases q with q | q | q
    · exact Or.inl q.2
    · exact Or.inr q.2
    · exact absurd q.1 (by decide)
  · rcases hn.2 with g | g
    · have q1 := (t_lk_ok hF g).2
      rw [hE.2.1] at q1
      have q1 : pT τ = ρ' 4 + 0 := q1
      rcases q with q | q | q
      · omega
      · exact absurd hz q.2.2
      · exact absurd q.1 (by decide)
    · match as, has with
      | [v0, v1, v2], ⟨h0, ⟨y, hy, _⟩, ⟨y2, hy2, _⟩, _⟩ =>
        subst hy
        subst hy2
        have h0 : v0 = .ref 51 := h0
        subst h0
        have ey : y = x := by simpa using hx1
        subst ey
        have e3 : ρ' 2 = y.toInt := hx.2 2 (by decide)
        have := (sa_h_ok (a := (2, 0)) (x := y) hE (by show y.toInt = ρ' 2 + 0; omega)).2
        omega
theorem mX12_roomFor (l : Launch) : am_M l TB NB vwCl SH KF yX12_roomFor cX12_roomFor 3 none 4 0 0 sX12_roomFor := by
  refine am_M.of xX12_roomFort (by decide +kernel) TB_good GF rfl rfl rfl (by decide) ⟨FT_X12_ok, PT_X12_ok _, CT_X12_ok, KT_X12_ok, LT_X12_ok, NT_X12_ok, ?_⟩ ptX12_roomFor
  exact List.forall_mem_cons.mpr ⟨⟨yX12_fail, cX12_fail, 2, none, 2, 1, mX12_faili l, by decide, by decide, tb_at 1558 (by decide +kernel) (by decide +kernel), tb_at 120 (by decide +kernel) (by decide +kernel), ⟨by decide +kernel, by decide +kernel, by decide +kernel⟩, rfl, tb_at 1555 (by decide +kernel) (by decide +kernel), tb_at 1557 (by decide +kernel) (by decide +kernel), ⟨(RX12, TX12, 63), rfl, tb_at 48 (by decide +kernel) (by decide +kernel)⟩⟩, List.forall_mem_cons.mpr ⟨⟨yX12_goesOn, cX12_goesOn, 1, none, 3, 0, mX12_goesOni l, by decide, by decide, tb_at 1554 (by decide +kernel) (by decide +kernel), tb_at 120 (by decide +kernel) (by decide +kernel), ⟨by decide +kernel, by decide +kernel, by decide +kernel⟩, rfl, tb_at 1551 (by decide +kernel) (by decide +kernel), tb_at 1553 (by decide +kernel) (by decide +kernel), ⟨(RX12, TX12, 63), rfl, tb_at 47 (by decide +kernel) (by decide +kernel)⟩⟩, fun _ h => absurd h List.not_mem_nil⟩⟩
/-- is the token of this kind? -/
def sX12_is : am_Sp := fun as n σ post => n = 92 ∧ sb_ok BB SH σ ∧ ∃ k : Int, (-2147483648 ≤ k ∧ k < 2147483648) ∧ as = [.ref 51, .int (Int32.ofInt k)] ∧ ∀ z : Int, (z = 1 ∧ pF σ = 0 ∧ (σ.1 54 (pT σ).toNat).toInt = k ∨ z = 0 ∧ ¬ (pF σ = 0 ∧ (σ.1 54 (pT σ).toNat).toInt = k)) → post (some (.int (Int32.ofInt z))) σ
def xX12_is : am_X := (SH, KF, (some .boolean), FT_X12, PT_X12, CT_X12, KT_X12, LT_X12, NT_X12, [])
theorem xX12_is_SH : am_SH xX12_is = SH := rfl
theorem xX12_is_KF : am_KF xX12_is = KF := rfl
theorem xX12_is_rt : am_rt xX12_is = (some .boolean) := rfl
theorem xX12_is_FT : am_FT xX12_is = FT_X12 := rfl
theorem xX12_is_PT : am_PT xX12_is = PT_X12 := rfl
theorem xX12_is_CT : am_CT xX12_is = CT_X12 := rfl
theorem xX12_is_KT : am_KT xX12_is = KT_X12 := rfl
theorem xX12_is_LT : am_LT xX12_is = LT_X12 := rfl
theorem xX12_is_NT : am_NT xX12_is = NT_X12 := rfl
theorem xX12_is_t4 (k : Nat → Prop) : am_tg 4 (20) k = k 24 := am_tg_eq (by decide)
theorem xX12_is_t17 (k : Nat → Prop) : am_tg 17 (7) k = k 24 := am_tg_eq (by decide)
theorem xX12_is_t21 (k : Nat → Prop) : am_tg 21 (4) k = k 25 := am_tg_eq (by decide)

theorem ptX12_is : am_B cX12_is xX12_is 2 0 sX12_is := by
  intro n0 as σ post AA hA h
  obtain ⟨rfl, hB, k, hk, rfl, h⟩ := h
  have t1 := pT_b hB
  have f1 := pF_b hB
  obtain ⟨tv, etv⟩ : ∃ tv, tv = pT σ := ⟨_, rfl⟩
  obtain ⟨fv, efv⟩ : ∃ fv, fv = pF σ := ⟨_, rfl⟩
  have e1 : σ.1 51 11 = Int32.ofInt tv := by rw [etv]; exact ii_of _
  have e2 : σ.1 51 13 = Int32.ofInt fv := by rw [efv]; exact ii_of _
  rw [← etv] at t1 h
  rw [← efv] at f1 h
  obtain ⟨kv, ekv⟩ : ∃ kv, kv = (σ.1 54 tv.toNat).toInt := ⟨_, rfl⟩
  have e3 : σ.1 54 tv.toNat = Int32.ofInt kv := by rw [ekv]; exact ii_of _
  have k1 := ii_lo (σ.1 54 tv.toNat)
  have k2 := ii_hi (σ.1 54 tv.toNat)
  rw [← ekv] at h k1 k2
  refine ⟨by simp [am_sl, Value.category], ?_⟩
  show AA 0 [some (.ref 51), some (.int (Int32.ofInt k))] [] 92 σ
  refine hA [] 40 _ _ _ _ _ ?_
  try simp only [dX12_is_0, dX12_is_1, FT_X12_191, dX12_is_4, xX12_is_t4, dX12_is_7, dX12_is_8, FT_X12_20, dX12_is_11, dX12_is_12, FT_X12_194, dX12_is_15, dX12_is_16, dX12_is_17, xX12_is_t17, dX12_is_20, dX12_is_21, xX12_is_t21, dX12_is_24, dX12_is_25, xX12_is_SH, xX12_is_KF, xX12_is_rt, xX12_is_FT, xX12_is_PT, xX12_is_CT, xX12_is_KT, xX12_is_LT, xX12_is_NT, o_aload_n, o_getfield, o_goto, o_iaload, o_iconst, o_ifCond_ne, o_if_icmp_ne, o_iload_n, o_ireturn, SH_51, KF_51_13, KF_51_5, SH_54, KF_51_11, am_ty, am_vc, am_opt, am_cl, am_find, am_ldi, am_ldl, am_lda, am_v, am_1, am_1l, am_1a, am_2, am_2l, am_ix, am_ri, am_arr, am_pf, am_rc, am_mask, am_lg, am_av, am_nat, fv_0, fv_1, fv_2, fv_3, fw_0, fw_1, List.getElem?_cons_zero, List.getElem?_cons_succ, List.set_cons_zero, List.set_cons_succ, List.length_cons, List.length_nil, List.take_succ_cons, List.take_zero, List.drop_succ_cons, List.drop_zero, List.reverse_cons, List.reverse_nil, List.nil_append, List.cons_append, List.append_nil, List.map_cons, List.map_nil, List.sum_cons, List.sum_nil, Value.category, Option.toList_some, Option.toList_none, Nat.reduceAdd, Nat.reduceLT, Nat.reduceLeDiff, Nat.reduceEqDiff, Nat.reduceSub, Nat.add_zero, Nat.le_refl, Nat.zero_le, Int.reduceNeg, Int.reduceLE, Int.reduceLT, true_and, and_true, and_self, if_true, if_false, ite_true, ite_false, eq_self_iff_true, reduceIte, reduceCtorEq, not_false_eq_true, not_true_eq_false, or_true, true_or, or_false, false_or, Nat.lt_irrefl, Nat.zero_lt_succ, e1, e2, nb_0, nb_1]
  try simp (disch := omega) only [ii_0, ii_1, ii_t, ii_add, ii_sub, ii_mul, ii_lt, ii_le, ii_eq, ij_in, ii_c, Int.toNat_natCast, Int.toNat_zero, Int.reduceToNat, Int.reduceEq, Int.reduceNe, Int.reduceLE, Int.reduceLT, Int.reduceAdd, Int.reduceSub, Int.reduceMul, Int.reduceNeg, Nat.reduceLT, Nat.reduceAdd, Nat.reduceMul, not_false_eq_true, not_true_eq_false, true_and, and_true, and_self, false_and, and_false, true_implies, false_implies, implies_true, forall_const, if_true, if_false, ite_true, ite_false, reduceIte, eq_self_iff_true, Int.natCast_nonneg, Int.zero_add, Int.add_zero, pi_s, pi_n, e1, e2, e3, nb_0, nb_1]
  refine ⟨fun q => h 0 (Or.inr ⟨rfl, by omega⟩), fun q => ⟨by omega, fun q2 => h 0 (Or.inr ⟨rfl, by omega⟩), fun q2 => h 1 (Or.inl ⟨rfl, by omega, by omega⟩)⟩⟩
theorem mX12_is (l : Launch) : am_M l TB NB vwCl SH KF yX12_is cX12_is 2 (some .boolean) 2 0 0 sX12_is :=
  am_M.of xX12_is (by decide +kernel) TB_good GF rfl rfl rfl (by decide) ⟨FT_X12_ok, PT_X12_ok _, CT_X12_ok, KT_X12_ok, LT_X12_ok, NT_X12_ok, fun _ h => absurd h List.not_mem_nil⟩ ptX12_is
