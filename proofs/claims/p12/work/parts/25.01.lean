/-! SAFETY WORDS of the reference. Printed by wip/am/chk. -/
def wX12_blockBits : List sa_A := [([.inr (.inl 51), .inl (0, 4), .inl (0, 11)], [(some (.inl ((-2147483648), 2147483647)), [])], [(51, 44, 45), (77, 0, 9), (78, 0, 400)])]
def xX12_towardsi : am_X := (SH, KF, (some .int), FT_X12, PT_X12, CT_X12, KT_X12, LT_X12, NT_X12, [])
def CX12_towardsi (M : sa_M) : ta_C := []
theorem hX12_towardsi (M : sa_M) (σ0 : am_S) : t_CS BB (am_SH xX12_towardsi) 92 M σ0 (am_ML xX12_towardsi) (CX12_towardsi M) := t_cs_nil
theorem mX12_towardsi (l : Launch) : am_M l TB NB vwCl SH KF yX12_towards cX12_towards 2 (some .int) 2 0 0 (t_wp cX12_towards xX12_towardsi 400 2) := by
  refine am_M.of xX12_towardsi (by decide +kernel) TB_good GF rfl rfl rfl (by decide) ⟨FT_X12_ok, PT_X12_ok _, CT_X12_ok, KT_X12_ok, LT_X12_ok, NT_X12_ok, ?_⟩ t_wp_B
  exact fun _ h => absurd h List.not_mem_nil
def LX12_blockBits : List (Nat × Instr × Nat) := [(0, .iconst 0, 1), (1, .istore_n 3, 1), (2, .aload_n 0, 1), (3, .getfield 104, 3), (6, .iload_n 1, 1), (7, .iaload, 1), (8, .istore 4, 2), (10, .iload 4, 2), (12, .iload_n 2, 1), (13, .if_icmp .eq 39, 3), (16, .iload 4, 2), (18, .iload_n 2, 1), (19, .invokestatic 345, 3), (22, .istore 5, 2), (24, .aload_n 0, 1), (25, .iload_n 1, 1), (26, .iload 5, 2), (28, .invokevirtual 348, 3), (31, .ifCond .ne 10, 3), (34, .iload_n 3, 1), (35, .iconst 1, 1), (36, .iload 5, 2), (38, .ishl, 1), (39, .ior, 1), (40, .istore_n 3, 1), (41, .iload 4, 2), (43, .iload_n 2, 1), (44, .invokestatic 345, 3), (47, .istore 4, 2), (49, .goto (-39), 3), (52, .iload_n 3, 1), (53, .ireturn, 1)]
theorem LX12_blockBits_ok : LX12_blockBits.all (dk_q cX12_blockBits) = true := by decide +kernel
def xX12_blockBitst : am_X := (SH, KF, (some .int), FT_X12, PT_X12, CT_X12, KT_X12, LT_X12, NT_X12, [(345, 1, 2, 12, 0, 0, t_wp cX12_towards xX12_towardsi 400 2), (348, 0, 3, 12, 0, 0, sp_w JJ BB SH 92 wX12_couldCome)])
def CX12_blockBitst (M : sa_M) : ta_C := [(345, 1, 2, 12, t_in xX12_towardsi BB 92 (CX12_towardsi M) M LX12_towards [] 400 2), (348, 0, 3, 12, t_w M wX12_couldCome)]
theorem hX12_blockBitst (M : sa_M) (σ0 : am_S) (hJ : ∀ τ, sb_fr M σ0 τ → JJ τ) : t_CS BB (am_SH xX12_blockBitst) 92 M σ0 (am_ML xX12_blockBitst) (CX12_blockBitst M) := t_cs_cons (t_in_ok (hX12_towardsi M σ0) (dk_D_ok LX12_towards_ok)) (t_cs_cons (t_w_ok hJ) (t_cs_nil))
def bb_M : sa_M := [(51, 44, 45), (77, 0, 9), (78, 0, 400)]
def bb_P (c lo hi : Int) : List (Option sa_P) := [some (.inr (.inl 51)), some (.inl (0, 4)), some (.inl (c, c)), some (.inl (-2147483648, 2147483647)), some (.inl (lo, hi)), none]
def bb_cut (dt : Int) (pc : Nat) (_ : sa_E) (_ : ta_F) (L : List (Option sa_V)) (S : List sa_V) : Bool := decide (pc = 10) && (S.isEmpty && (match L with
  | [some (.inr (.inl r)), some (.inl a), some (.inl c), some (.inl _), some (.inl t), none] => decide (r = 51 ∧ a = (2, 0) ∧ c = (3, 0) ∧ t = (5, dt))
  | _ => false))
def bb_run (c lo hi : Int) (cut : Nat → sa_E → ta_F → List (Option sa_V) → List sa_V → Bool) : Bool := t_run xX12_blockBitst BB 92 (CX12_blockBitst bb_M) bb_M LX12_blockBits [(10, 5)] [] t_int cut 300 10 (t_sE (bb_P c lo hi) []) (t_sF 7 []) (s_aL 1 (bb_P c lo hi)) []
def bb_never (_ : Nat) (_ : sa_E) (_ : ta_F) (_ : List (Option sa_V)) (_ : List sa_V) : Bool := false
theorem bb_runs : (List.range 12).all (fun c => bb_run (c : Nat) (-2147483648) ((c : Nat) - 1) (bb_cut 1) && (bb_run (c : Nat) ((c : Nat) + 1) 2147483647 (bb_cut (-1)) && bb_run (c : Nat) (c : Nat) (c : Nat) bb_never)) = true := by decide +kernel
theorem bb_loop {σ0 : am_S} {post : Option Value → am_S → Prop} {AA : Nat → List (Option Value) → List Value → Nat → am_S → Prop} (hA : ∀ cuts f pc ls stk n τ, am_vc cX12_blockBits xX12_blockBitst 92 post AA cuts f pc ls stk n τ → AA pc ls stk n τ) (hJ : ∀ τ, sb_fr bb_M σ0 τ → JJ τ) (hpost : ∀ x τ, sI BB SH bb_M σ0 τ → post (some (.int x)) τ) {a c : Int32} (ha : 0 ≤ a.toInt ∧ a.toInt ≤ 4) (hc : 0 ≤ c.toInt ∧ c.toInt ≤ 11) : ∀ (m : Nat) (s t : Int32) (σ : am_S), (t.toInt - c.toInt).natAbs = m → sI BB SH bb_M σ0 σ → AA 10 [some (.ref 51), some (.int a), some (.int c), some (.int s), some (.int t), none] [] 92 σ := by
  intro m
  induction m using Nat.strongRecOn with
  | ind m ih =>
  intro s t σ hm hI
  have l1 := ii_lo t
  have l2 := ii_hi t
  have q := List.all_eq_true.mp bb_runs c.toInt.toNat (List.mem_range.mpr (by omega))
  simp only [Bool.and_eq_true] at q
  rw [Int.toNat_of_nonneg hc.1] at q
  obtain ⟨q1, q2, q3⟩ := q
  have key : ∀ (lo hi : Int) (cut : Nat → sa_E → ta_F → List (Option sa_V) → List sa_V → Bool), lo ≤ t.toInt → t.toInt ≤ hi → bb_run c.toInt lo hi cut = true → (∀ pc' E' F' L' S', cut pc' E' F' L' S' = true → ∃ dt, bb_cut dt pc' E' F' L' S' = true ∧ (dt = 1 ∨ dt = -1) ∧ (t.toInt + dt - c.toInt).natAbs < m) → AA 10 [some (.ref 51), some (.int a), some (.int c), some (.int s), some (.int t), none] [] 92 σ := by
    intro lo hi cut h1 h2 hr h3
    refine t_seg (X := xX12_blockBitst) (B := BB) (N := 92) (CS := CX12_blockBitst bb_M) (M := bb_M) (D := LX12_blockBits) (cuts := [(10, 5)]) (Fk := []) (P := bb_P c.toInt lo hi) (σ0 := σ0) (σ := σ) [] t_int cut 300 hA (dk_D_ok LX12_blockBits_ok) (hX12_blockBitst bb_M σ0 hJ) (s_P_r (s_P_i ha (s_P_i ⟨Int.le_refl _, Int.le_refl _⟩ (s_P_f (s_P_i ⟨h1, h2⟩ (s_P_n s_P_nil)))))) t_sc_nil hI hr (fun E' F' ρ' v' v τ hr hx hE hF hv hI' => ?_) (fun pc' E' F' L' S' hc' ρ' ls' st' τ hx hE hF hL hS hI' => ?_)
    · obtain ⟨x, rfl⟩ := t_rok hr hv
      exact hpost x τ hI'
    · obtain ⟨dt, hb', hdt, hlt⟩ := h3 _ _ _ _ _ hc'
      clear hc'
      have hc' := hb'
      clear hb'
      simp only [bb_cut, Bool.and_eq_true, decide_eq_true_eq, List.isEmpty_iff] at hc'
      obtain ⟨rfl, rfl, hc'⟩ := hc'
      cases st' with
      | cons _ _ => exact hS.elim
      | nil =>
        split at hc'
        · rename_i r a' c' s' t'
          have hc' := of_decide_eq_true hc'
          obtain ⟨rfl, rfl, rfl, rfl⟩ := hc'
          have e := sg_L_eq rfl hL
          subst e
          have g : ∀ i, i < 7 → ρ' i = s_ρ (bb_P c.toInt lo hi) [some (.ref 51), some (.int a), some (.int c), some (.int s), some (.int t), none] i := fun i hi' => (hx.2 i (by show i < 7; exact hi')).trans (if_pos hi')
          have e2 : ρ' 2 = a.toInt := g 2 (by decide)
          have e3 : ρ' 3 = c.toInt := g 3 (by decide)
          have e5 : ρ' 5 = t.toInt := g 5 (by decide)
          simp only [List.map_cons, List.map_nil, s_cl, e2, e3, e5, Int.add_zero, ← ii_of]
          have et : (Int32.ofInt (t.toInt + dt)).toInt = t.toInt + dt := ii_t (by omega) (by omega)
          exact ih _ (by rw [et]; exact hlt) _ _ τ rfl hI'
        · cases hc'
  rcases Int.lt_trichotomy t.toInt c.toInt with h | h | h
  · exact key _ _ _ l1 (by omega) q1 (fun _ _ _ _ _ hh => ⟨1, hh, Or.inl rfl, by omega⟩)
  · exact key _ _ _ (by omega) (by omega) q3 (fun _ _ _ _ _ hh => by cases hh)
  · exact key _ _ _ (by omega) (by omega) q2 (fun _ _ _ _ _ hh => ⟨-1, hh, Or.inr rfl, by omega⟩)
def bb_ent (pc : Nat) (_ : sa_E) (_ : ta_F) (L : List (Option sa_V)) (S : List sa_V) : Bool := decide (pc = 10) && (S.isEmpty && (match L with
  | [some (.inr (.inl r)), some (.inl a), some (.inl c), some (.inl _), some (.inl _), none] => decide (r = 51 ∧ a = (2, 0) ∧ c = (3, 0))
  | _ => false))
theorem qX12_blockBits : am_B cX12_blockBits xX12_blockBitst 6 0 (sp_w JJ BB SH 92 wX12_blockBits) := by
  intro n0 as σ post AA hA h
  obtain ⟨rfl, hB, hJ, w, hw, has, h⟩ := h
  have ew : w = ([.inr (.inl 51), .inl (0, 4), .inl (0, 11)], [(some (.inl (-2147483648, 2147483647)), [])], bb_M) := List.mem_singleton.mp hw
  subst ew
  match as, has with
  | [v0, v1, v2], ⟨h0, ⟨a, ha0, ha⟩, ⟨c, hc0, hc⟩, _⟩ =>
  have h0 : v0 = .ref 51 := h0
  subst h0; subst ha0; subst hc0
  have hJ' : ∀ τ, sb_fr bb_M σ τ → JJ τ := fun τ hf => JJ_fr (sm := [([], [], bb_M)]) (by decide +kernel) _ (List.mem_singleton.mpr rfl) σ τ hJ hf
  have hpost : ∀ x τ, sI BB SH bb_M σ τ → post (some (.int x)) τ := fun x τ hI => h _ τ hI.1 (hJ' τ hI.2) hI.2 ⟨_, List.mem_cons_self, ⟨x, rfl, ii_lo x, by have := ii_hi x; show x.toInt ≤ 2147483647; omega⟩, fun q hq => absurd hq List.not_mem_nil⟩
  refine ⟨by simp [am_sl, Value.category], ?_⟩
  show AA 0 [some (.ref 51), some (.int a), some (.int c), none, none, none] [] 92 σ
  refine t_seg (X := xX12_blockBitst) (B := BB) (N := 92) (CS := CX12_blockBitst bb_M) (M := bb_M) (D := LX12_blockBits) (cuts := [(10, 5)]) (Fk := []) (P := [some (.inr (.inl 51)), some (.inl (0, 4)), some (.inl (0, 11)), none, none, none]) (σ0 := σ) (σ := σ) [] t_no bb_ent 300 hA (dk_D_ok LX12_blockBits_ok) (hX12_blockBitst bb_M σ hJ') (s_P_r (s_P_i ha (s_P_i hc (s_P_n (s_P_n (s_P_n s_P_nil)))))) t_sc_nil ⟨hB, sb_fr_r _ _⟩ (by decide +kernel) (fun E' F' ρ' v' v τ hr hx hE hF hv hI' => by cases hr) (fun pc' E' F' L' S' hc' ρ' ls' st' τ hx hE hF hL hS hI' => ?_)
  simp only [bb_ent, Bool.and_eq_true, decide_eq_true_eq, List.isEmpty_iff] at hc'
  obtain ⟨rfl, rfl, hc'⟩ := hc'
  cases st' with
  | cons _ _ => exact hS.elim
  | nil =>
    split at hc'
    · rename_i r a' c' s' t'
      have hc' := of_decide_eq_true hc'
      obtain ⟨rfl, rfl, rfl⟩ := hc'
      have e := sg_L_eq rfl hL
      subst e
      have g : ∀ i, i < 7 → ρ' i = s_ρ [some (.inr (.inl 51)), some (.inl (0, 4)), some (.inl (0, 11)), none, none, none] [some (.ref 51), some (.int a), some (.int c), none, none, none] i := fun i hi' => (hx.2 i (by show i < 7; exact hi')).trans (if_pos hi')
      have e2 : ρ' 2 = a.toInt := g 2 (by decide)
      have e3 : ρ' 3 = c.toInt := g 3 (by decide)
      simp only [List.map_cons, List.map_nil, s_cl, e2, e3, Int.add_zero, ← ii_of]
      exact bb_loop hA hJ' hpost ha hc _ _ _ τ rfl hI'
    · cases hc'
theorem nX12_blockBits (l : Launch) : am_M l TB NB vwCl SH KF yX12_blockBits cX12_blockBits 6 (some .int) 7 0 0 (sp_w JJ BB SH 92 wX12_blockBits) := by
  refine am_M.of xX12_blockBitst (by decide +kernel) TB_good GF rfl rfl rfl (by decide) ⟨FT_X12_ok, PT_X12_ok _, CT_X12_ok, KT_X12_ok, LT_X12_ok, NT_X12_ok, ?_⟩ qX12_blockBits
  exact List.forall_mem_cons.mpr ⟨⟨yX12_towards, cX12_towards, 2, (some .int), 2, 2, mX12_towardsi l, by decide, by decide, tk_1744, tk_120, ⟨by decide +kernel, by decide +kernel, by decide +kernel⟩, rfl, tk_1742, tk_1743⟩, List.forall_mem_cons.mpr ⟨⟨yX12_couldCome, cX12_couldCome, 3, (some .boolean), 6, 2, nX12_couldCome l, by decide, by decide, tk_1687, tk_120, ⟨by decide +kernel, by decide +kernel, by decide +kernel⟩, rfl, tk_1684, tk_1686, ⟨(RX12, TX12, 63), rfl, tb_at 74 (by decide +kernel) (by decide +kernel)⟩⟩, fun _ h => absurd h List.not_mem_nil⟩⟩
