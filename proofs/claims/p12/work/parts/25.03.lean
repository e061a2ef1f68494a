/-! SAFETY WORDS of the reference. Printed by wip/am/chk. -/
def wX12_bothGo : List sa_A := [([.inr (.inl 51), .inl (0, 4), .inl (0, 4), .inl (0, 11), .inl (0, 11)], [(none, [])], [(51, 44, 45), (51, 54, 55), (77, 0, 9), (78, 0, 400), (80, 0, 51), (84, 0, 144)])]
def LX12_marks : List (Nat × Instr × Nat) := [(0, .aload_n 0, 1), (1, .getfield 116, 3), (4, .bipush 12, 2), (6, .aload_n 0, 1), (7, .getfield 417, 3), (10, .imul, 1), (11, .iload_n 1, 1), (12, .iadd, 1), (13, .iconst 1, 1), (14, .bastore, 1), (15, .return_, 1)]
theorem LX12_marks_ok : LX12_marks.all (dk_q cX12_marks) = true := by decide +kernel
def xX12_marksi : am_X := (SH, KF, none, FT_X12, PT_X12, CT_X12, KT_X12, LT_X12, NT_X12, [])
def CX12_marksi (M : sa_M) : ta_C := []
theorem hX12_marksi (M : sa_M) (σ0 : am_S) : t_CS BB (am_SH xX12_marksi) 92 M σ0 (am_ML xX12_marksi) (CX12_marksi M) := t_cs_nil
theorem mX12_marksi (l : Launch) : am_M l TB NB vwCl SH KF yX12_marks cX12_marks 2 none 2 0 0 (t_wp cX12_marks xX12_marksi 400 2) := by
  refine am_M.of xX12_marksi (by decide +kernel) TB_good GF rfl rfl rfl (by decide) ⟨FT_X12_ok, PT_X12_ok _, CT_X12_ok, KT_X12_ok, LT_X12_ok, NT_X12_ok, ?_⟩ t_wp_B
  exact fun _ h => absurd h List.not_mem_nil
def LX12_otherGoes : List (Nat × Instr × Nat) := [(0, .aload_n 0, 1), (1, .getfield 104, 3), (4, .iload_n 1, 1), (5, .iaload, 1), (6, .istore_n 2, 1), (7, .iload_n 2, 1), (8, .iconst 1, 1), (9, .isub, 1), (10, .istore_n 3, 1), (11, .iload_n 3, 1), (12, .iload_n 2, 1), (13, .iconst 1, 1), (14, .iadd, 1), (15, .if_icmp .gt 36, 3), (18, .iload_n 3, 1), (19, .iload_n 2, 1), (20, .if_icmp .eq 20, 3), (23, .aload_n 0, 1), (24, .iload_n 3, 1), (25, .invokevirtual 306, 3), (28, .ifCond .eq 17, 3), (31, .aload_n 0, 1), (32, .iload_n 1, 1), (33, .iload_n 3, 1), (34, .invokevirtual 348, 3), (37, .ifCond .eq 8, 3), (40, .aload_n 0, 1), (41, .iload_n 3, 1), (42, .invokevirtual 414, 3), (45, .iinc 3 1, 3), (48, .goto (-37), 3), (51, .return_, 1)]
theorem LX12_otherGoes_ok : LX12_otherGoes.all (dk_q cX12_otherGoes) = true := by decide +kernel
def xX12_otherGoest : am_X := (SH, KF, none, FT_X12, PT_X12, CT_X12, KT_X12, LT_X12, NT_X12, [(306, 0, 2, 12, 0, 0, sp_w JJ BB SH 92 wX12_isRung), (348, 0, 3, 12, 0, 0, sp_w JJ BB SH 92 wX12_couldCome), (414, 0, 2, 12, 0, 0, t_wp cX12_marks xX12_marksi 400 2)])
def CX12_otherGoest (M : sa_M) : ta_C := [(306, 0, 2, 12, t_w M wX12_isRung), (348, 0, 3, 12, t_w M wX12_couldCome), (414, 0, 2, 12, t_in xX12_marksi BB 92 (CX12_marksi M) M LX12_marks [] 400 2)]
theorem hX12_otherGoest (M : sa_M) (σ0 : am_S) (hJ : ∀ τ, sb_fr M σ0 τ → JJ τ) : t_CS BB (am_SH xX12_otherGoest) 92 M σ0 (am_ML xX12_otherGoest) (CX12_otherGoest M) := t_cs_cons (t_w_ok hJ) (t_cs_cons (t_w_ok hJ) (t_cs_cons (t_in_ok (hX12_marksi M σ0) (dk_D_ok LX12_marks_ok)) (t_cs_nil)))
def og_M : sa_M := [(51, 44, 45), (77, 0, 9), (78, 0, 400), (84, 0, 144)]
def wyX12_otherGoes : am_Sp := sp_wc JJ BB SH 92 [.inr (.inl 51), .inl (0, 4)] [(80, 1, 0, 11)] og_M
set_option maxRecDepth 100000 in
theorem pX12_otherGoesy : am_B cX12_otherGoes xX12_otherGoest 4 0 wyX12_otherGoes := by
  refine t_flat (X := xX12_otherGoest) (B := BB) (N := 92) (CS := CX12_otherGoest og_M) (M := og_M) (D := LX12_otherGoes) (Fk := [7, 12, 19]) (fuel := 600) [.inr (.inl 51), .inl (0, 4)] [(80, (2, 0), 0, 11)] (fun _ _ v => v.isNone) (by decide) (dk_D_ok LX12_otherGoes_ok) ?_ (by decide +kernel)
  rintro as n σ post ⟨rfl, hB, hJ, has, hpre, h⟩
  have hJ' : ∀ τ, sb_fr og_M σ τ → JJ τ := fun τ hf => JJ_fr (sm := [([], [], og_M)]) (by decide +kernel) _ (List.mem_singleton.mpr rfl) σ τ hJ hf
  refine ⟨rfl, hB, has, hX12_otherGoest _ _ hJ', fun q hq => ?_, fun E' F' ρ' v' v τ hr hx hE hF hv hI => ?_⟩
  · have e : q = (80, (2, 0), 0, 11) := List.mem_singleton.mp hq
    subst e
    obtain ⟨x, x1, x2, x3⟩ := hpre _ (List.mem_singleton.mpr rfl)
    match as, has with
    | [v0, v1], ⟨h0, ⟨y, hy, _⟩, _⟩ =>
      have h0 : v0 = .ref 51 := h0
      subst h0; subst hy
      have e : y = x := by simpa using x1
      subst e
      have e2 : s_ρ (s_en 4 [.inr (.inl 51), .inl (0, 4)]) (am_entry 4 [.ref 51, .int y]) 2 = y.toInt := rfl
      refine ⟨by decide, by show 0 ≤ s_ρ _ (am_entry 4 [.ref 51, .int y]) 2 + 0; rw [e2]; omega, ?_⟩
      show 0 ≤ (σ.1 80 (s_ρ _ (am_entry 4 [.ref 51, .int y]) 2 + 0).toNat).toInt ∧ (σ.1 80 (s_ρ _ (am_entry 4 [.ref 51, .int y]) 2 + 0).toNat).toInt ≤ 11
      rw [e2, Int.add_zero]
      exact x3
  · cases v' with
    | some _ => cases hr
    | none =>
      cases v with
      | some _ => exact hv.elim
      | none => exact h τ hI.1 (hJ' τ hI.2) hI.2
theorem mX12_otherGoesy (l : Launch) : am_M l TB NB vwCl SH KF yX12_otherGoes cX12_otherGoes 4 none 7 0 0 (wyX12_otherGoes) := by
  refine am_M.of xX12_otherGoest (by decide +kernel) TB_good GF rfl rfl rfl (by decide) ⟨FT_X12_ok, PT_X12_ok _, CT_X12_ok, KT_X12_ok, LT_X12_ok, NT_X12_ok, ?_⟩ pX12_otherGoesy
  exact List.forall_mem_cons.mpr ⟨⟨yX12_isRung, cX12_isRung, 2, (some .boolean), 3, 1, nX12_isRung l, by decide, by decide, tk_1633, tk_120, ⟨by decide +kernel, by decide +kernel, by decide +kernel⟩, rfl, tk_1630, tk_1632, ⟨(RX12, TX12, 63), rfl, tb_at 63 (by decide +kernel) (by decide +kernel)⟩⟩, List.forall_mem_cons.mpr ⟨⟨yX12_couldCome, cX12_couldCome, 3, (some .boolean), 6, 2, nX12_couldCome l, by decide, by decide, tk_1687, tk_120, ⟨by decide +kernel, by decide +kernel, by decide +kernel⟩, rfl, tk_1684, tk_1686, ⟨(RX12, TX12, 63), rfl, tb_at 74 (by decide +kernel) (by decide +kernel)⟩⟩, List.forall_mem_cons.mpr ⟨⟨yX12_marks, cX12_marks, 2, none, 2, 1, mX12_marksi l, by decide, by decide, tk_1809, tk_120, ⟨by decide +kernel, by decide +kernel, by decide +kernel⟩, rfl, tk_1806, tk_1808, ⟨(RX12, TX12, 63), rfl, tb_at 93 (by decide +kernel) (by decide +kernel)⟩⟩, fun _ h => absurd h List.not_mem_nil⟩⟩⟩
def LX12_bothGo : List (Nat × Instr × Nat) := [(0, .iload_n 3, 1), (1, .iconst 1, 1), (2, .isub, 1), (3, .istore 5, 2), (5, .iload 5, 2), (7, .iload_n 3, 1), (8, .iconst 1, 1), (9, .iadd, 1), (10, .if_icmp .gt 71, 3), (13, .aload_n 0, 1), (14, .getfield 104, 3), (17, .iload_n 1, 1), (18, .iload_n 3, 1), (19, .iastore, 1), (20, .aload_n 0, 1), (21, .getfield 104, 3), (24, .iload_n 2, 1), (25, .iload 4, 2), (27, .iastore, 1), (28, .iload 5, 2), (30, .iload_n 3, 1), (31, .if_icmp .eq 25, 3), (34, .aload_n 0, 1), (35, .iload 5, 2), (37, .invokevirtual 306, 3), (40, .ifCond .eq 35, 3), (43, .aload_n 0, 1), (44, .iload_n 1, 1), (45, .iload 5, 2), (47, .invokevirtual 348, 3), (50, .ifCond .ne 6, 3), (53, .goto 22, 3), (56, .aload_n 0, 1), (57, .getfield 104, 3), (60, .iload_n 1, 1), (61, .iload 5, 2), (63, .iastore, 1), (64, .aload_n 0, 1), (65, .iload 5, 2), (67, .putfield 417, 3), (70, .aload_n 0, 1), (71, .iload_n 2, 1), (72, .invokevirtual 420, 3), (75, .iinc 5 1, 3), (78, .goto (-73), 3), (81, .return_, 1)]
theorem LX12_bothGo_ok : LX12_bothGo.all (dk_q cX12_bothGo) = true := by decide +kernel
def xX12_bothGot : am_X := (SH, KF, none, FT_X12, PT_X12, CT_X12, KT_X12, LT_X12, NT_X12, [(306, 0, 2, 12, 0, 0, sp_w JJ BB SH 92 wX12_isRung), (348, 0, 3, 12, 0, 0, sp_w JJ BB SH 92 wX12_couldCome), (420, 0, 2, 12, 0, 0, wyX12_otherGoes)])
def CX12_bothGot (M : sa_M) : ta_C := [(306, 0, 2, 12, t_w M wX12_isRung), (348, 0, 3, 12, t_w M wX12_couldCome), (420, 0, 2, 12, t_wc M [.inr (.inl 51), .inl (0, 4)] [(80, 1, 0, 11)] og_M)]
theorem hX12_bothGot (M : sa_M) (σ0 : am_S) (hJ : ∀ τ, sb_fr M σ0 τ → JJ τ) : t_CS BB (am_SH xX12_bothGot) 92 M σ0 (am_ML xX12_bothGot) (CX12_bothGot M) := t_cs_cons (t_w_ok hJ) (t_cs_cons (t_w_ok hJ) (t_cs_cons (t_wc_ok hJ) (t_cs_nil)))
def bg_M : sa_M := [(51, 44, 45), (51, 54, 55), (77, 0, 9), (78, 0, 400), (80, 0, 51), (84, 0, 144)]
def bg_cut (first : Bool) (pc : Nat) (E : sa_E) (_ : ta_F) (L : List (Option sa_V)) (S : List sa_V) : Bool := decide (pc = 5) && (S.isEmpty && (match L with
  | [some (.inr (.inl r)), some (.inl a), some (.inl b), some (.inl o), some (.inl w), some (.inl t)] => decide (r = 51 ∧ a = (2, 0) ∧ b = (3, 0) ∧ o = (4, 0) ∧ w = (5, 0) ∧ (if first then t = (4, -1) else t = (6, 1)) ∧ (sa_h E t).2 ≤ 13)
  | _ => false))
theorem bg_loop {σ0 : am_S} {post : Option Value → am_S → Prop} {AA : Nat → List (Option Value) → List Value → Nat → am_S → Prop} (hA : ∀ cuts f pc ls stk n τ, am_vc cX12_bothGo xX12_bothGot 92 post AA cuts f pc ls stk n τ → AA pc ls stk n τ) (hJ : ∀ τ, sb_fr bg_M σ0 τ → JJ τ) (hpost : ∀ τ, sI BB SH bg_M σ0 τ → post none τ) {a b one two : Int32} (ha : 0 ≤ a.toInt ∧ a.toInt ≤ 4) (hb : 0 ≤ b.toInt ∧ b.toInt ≤ 4) (ho : 0 ≤ one.toInt ∧ one.toInt ≤ 11) (hw : 0 ≤ two.toInt ∧ two.toInt ≤ 11) : ∀ (m : Nat) (t : Int) (σ : am_S), (20 - t).toNat = m → -1 ≤ t → t ≤ 13 → sI BB SH bg_M σ0 σ → AA 5 [some (.ref 51), some (.int a), some (.int b), some (.int one), some (.int two), some (.int (Int32.ofInt t))] [] 92 σ := by
  intro m
  induction m using Nat.strongRecOn with
  | ind m ih =>
  intro t σ hm h1 h2 hI
  have et0 : (Int32.ofInt t).toInt = t := ii_t (by omega) (by omega)
  refine t_seg (X := xX12_bothGot) (B := BB) (N := 92) (CS := CX12_bothGot bg_M) (M := bg_M) (D := LX12_bothGo) (cuts := [(5, 6)]) (Fk := [17, 24, 44, 60, 71]) (P := [some (.inr (.inl 51)), some (.inl (0, 4)), some (.inl (0, 4)), some (.inl (0, 11)), some (.inl (0, 11)), some (.inl (-1, 13))]) (σ0 := σ0) (σ := σ) [] (fun _ _ v => v.isNone) (bg_cut false) 600 hA (dk_D_ok LX12_bothGo_ok) (hX12_bothGot bg_M σ0 hJ) (s_P_r (s_P_i ha (s_P_i hb (s_P_i ho (s_P_i hw (s_P_i ⟨by rw [et0]; exact h1, by rw [et0]; exact h2⟩ s_P_nil)))))) t_sc_nil hI (by decide +kernel) (fun E' F' ρ' v' v τ hr hx hE hF hv hI' => ?_) (fun pc' E' F' L' S' hc' ρ' ls' st' τ hx hE hF hL hS hI' => ?_)
  · cases v' with
    | some _ => cases hr
    | none =>
      cases v with
      | some _ => exact hv.elim
      | none => exact hpost τ hI'
  · simp only [bg_cut, Bool.and_eq_true, decide_eq_true_eq, List.isEmpty_iff] at hc'
    obtain ⟨rfl, rfl, hc'⟩ := hc'
    cases st' with
    | cons _ _ => exact hS.elim
    | nil =>
      split at hc'
      · rename_i r a' b' o' w' t'
        have hc' := of_decide_eq_true hc'
        obtain ⟨rfl, rfl, rfl, rfl, rfl, rfl, hc6⟩ := hc'
        obtain ⟨v, v1, v2, x, rfl, v4⟩ := hL.2.1 5 _ rfl
        have hh := sa_h_ok hE v4
        have e := sg_L_eq rfl hL
        subst e
        have g : ∀ i, i < 7 → ρ' i = s_ρ [some (.inr (.inl 51)), some (.inl (0, 4)), some (.inl (0, 4)), some (.inl (0, 11)), some (.inl (0, 11)), some (.inl (-1, 13))] [some (.ref 51), some (.int a), some (.int b), some (.int one), some (.int two), some (.int (Int32.ofInt t))] i := fun i hi' => (hx.2 i (by show i < 7; exact hi')).trans (if_pos hi')
        have e2 : ρ' 2 = a.toInt := g 2 (by decide)
        have e3 : ρ' 3 = b.toInt := g 3 (by decide)
        have e4 : ρ' 4 = one.toInt := g 4 (by decide)
        have e5 : ρ' 5 = two.toInt := g 5 (by decide)
        have e6 : ρ' 6 = t := (g 6 (by decide)).trans et0
        simp only [e6] at v4 hh
        simp only [List.map_cons, List.map_nil, s_cl, e2, e3, e4, e5, e6, Int.add_zero, ← ii_of]
        exact ih _ (by omega) (t + 1) τ rfl (by omega) (by omega) hI'
      · cases hc'
theorem qX12_bothGo : am_B cX12_bothGo xX12_bothGot 6 0 (sp_w JJ BB SH 92 wX12_bothGo) := by
  intro n0 as σ post AA hA h
  obtain ⟨rfl, hB, hJ, w, hw, has, h⟩ := h
  have ew : w = ([.inr (.inl 51), .inl (0, 4), .inl (0, 4), .inl (0, 11), .inl (0, 11)], [(none, [])], bg_M) := List.mem_singleton.mp hw
  subst ew
  match as, has with
  | [v0, v1, v2, v3, v4], ⟨h0, ⟨a, ha0, ha⟩, ⟨b, hb0, hb⟩, ⟨one, ho0, ho⟩, ⟨two, hw0, hw2⟩, _⟩ =>
  have h0 : v0 = .ref 51 := h0
  subst h0; subst ha0; subst hb0; subst ho0; subst hw0
  have hJ' : ∀ τ, sb_fr bg_M σ τ → JJ τ := fun τ hf => JJ_fr (sm := [([], [], bg_M)]) (by decide +kernel) _ (List.mem_singleton.mpr rfl) σ τ hJ hf
  have hpost : ∀ τ, sI BB SH bg_M σ τ → post none τ := fun τ hI => h _ τ hI.1 (hJ' τ hI.2) hI.2 ⟨_, List.mem_cons_self, trivial, fun q hq => absurd hq List.not_mem_nil⟩
  have ho1 : 0 ≤ one.toInt := ho.1
  have ho2 : one.toInt ≤ 11 := ho.2
  refine ⟨by simp [am_sl, Value.category], ?_⟩
  show AA 0 [some (.ref 51), some (.int a), some (.int b), some (.int one), some (.int two), none] [] 92 σ
  refine t_seg (X := xX12_bothGot) (B := BB) (N := 92) (CS := CX12_bothGot bg_M) (M := bg_M) (D := LX12_bothGo) (cuts := [(5, 6)]) (Fk := []) (P := [some (.inr (.inl 51)), some (.inl (0, 4)), some (.inl (0, 4)), some (.inl (0, 11)), some (.inl (0, 11)), none]) (σ0 := σ) (σ := σ) [] t_no (bg_cut true) 300 hA (dk_D_ok LX12_bothGo_ok) (hX12_bothGot bg_M σ hJ') (s_P_r (s_P_i ha (s_P_i hb (s_P_i ho (s_P_i hw2 (s_P_n s_P_nil)))))) t_sc_nil ⟨hB, sb_fr_r _ _⟩ (by decide +kernel) (fun E' F' ρ' v' v τ hr hx hE hF hv hI' => by cases hr) (fun pc' E' F' L' S' hc' ρ' ls' st' τ hx hE hF hL hS hI' => ?_)
  simp only [bg_cut, Bool.and_eq_true, decide_eq_true_eq, List.isEmpty_iff] at hc'
  obtain ⟨rfl, rfl, hc'⟩ := hc'
  cases st' with
  | cons _ _ => exact hS.elim
  | nil =>
    split at hc'
    · rename_i r a' b' o' w' t'
      have hc' := of_decide_eq_true hc'
      obtain ⟨rfl, rfl, rfl, rfl, rfl, rfl, hc6⟩ := hc'
      have e := sg_L_eq rfl hL
      subst e
      have g : ∀ i, i < 7 → ρ' i = s_ρ [some (.inr (.inl 51)), some (.inl (0, 4)), some (.inl (0, 4)), some (.inl (0, 11)), some (.inl (0, 11)), none] [some (.ref 51), some (.int a), some (.int b), some (.int one), some (.int two), none] i := fun i hi' => (hx.2 i (by show i < 7; exact hi')).trans (if_pos hi')
      have e2 : ρ' 2 = a.toInt := g 2 (by decide)
      have e3 : ρ' 3 = b.toInt := g 3 (by decide)
      have e4 : ρ' 4 = one.toInt := g 4 (by decide)
      have e5 : ρ' 5 = two.toInt := g 5 (by decide)
      simp only [List.map_cons, List.map_nil, s_cl, e2, e3, e4, e5, Int.add_zero, ← ii_of]
      exact bg_loop hA hJ' hpost ha hb ho hw2 _ _ τ rfl (by omega) (by omega) hI'
    · cases hc'
theorem nX12_bothGo (l : Launch) : am_M l TB NB vwCl SH KF yX12_bothGo cX12_bothGo 6 none 8 0 0 (sp_w JJ BB SH 92 wX12_bothGo) := by
  refine am_M.of xX12_bothGot (by decide +kernel) TB_good GF rfl rfl rfl (by decide) ⟨FT_X12_ok, PT_X12_ok _, CT_X12_ok, KT_X12_ok, LT_X12_ok, NT_X12_ok, ?_⟩ qX12_bothGo
  exact List.forall_mem_cons.mpr ⟨⟨yX12_isRung, cX12_isRung, 2, (some .boolean), 3, 1, nX12_isRung l, by decide, by decide, tk_1633, tk_120, ⟨by decide +kernel, by decide +kernel, by decide +kernel⟩, rfl, tk_1630, tk_1632, ⟨(RX12, TX12, 63), rfl, tb_at 63 (by decide +kernel) (by decide +kernel)⟩⟩, List.forall_mem_cons.mpr ⟨⟨yX12_couldCome, cX12_couldCome, 3, (some .boolean), 6, 2, nX12_couldCome l, by decide, by decide, tk_1687, tk_120, ⟨by decide +kernel, by decide +kernel, by decide +kernel⟩, rfl, tk_1684, tk_1686, ⟨(RX12, TX12, 63), rfl, tb_at 74 (by decide +kernel) (by decide +kernel)⟩⟩, List.forall_mem_cons.mpr ⟨⟨yX12_otherGoes, cX12_otherGoes, 4, none, 7, 1, mX12_otherGoesy l, by decide, by decide, tk_1805, tk_120, ⟨by decide +kernel, by decide +kernel, by decide +kernel⟩, rfl, tk_1802, tk_1804, ⟨(RX12, TX12, 63), rfl, tb_at 92 (by decide +kernel) (by decide +kernel)⟩⟩, fun _ h => absurd h List.not_mem_nil⟩⟩⟩
