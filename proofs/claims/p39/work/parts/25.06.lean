/-! SAFETY WORDS of the reference. Printed by wip/am/chk. -/
def wX12_findsHomes : List sa_A := [([.inr (.inl 51), .inl ((-2147483648), 2147483647)], [(some (.inl (0, 1)), [])], [(51, 44, 45), (77, 0, 9), (78, 0, 400), (85, 0, 5)])]
def LX12_findsHomes : List (Nat × Instr × Nat) := [(0, .iconst 0, 1), (1, .istore_n 2, 1), (2, .aload_n 0, 1), (3, .getfield 119, 3), (6, .iconst 0, 1), (7, .iconst (-1), 1), (8, .iastore, 1), (9, .iload_n 2, 1), (10, .ifCond .lt 122, 3), (13, .iload_n 2, 1), (14, .aload_n 0, 1), (15, .getfield 46, 3), (18, .aload_n 0, 1), (19, .getfield 221, 3), (22, .iaload, 1), (23, .if_icmp .ge 109, 3), (26, .aload_n 0, 1), (27, .getfield 119, 3), (30, .iload_n 2, 1), (31, .dup2, 1), (32, .iaload, 1), (33, .iconst 1, 1), (34, .iadd, 1), (35, .iastore, 1), (36, .aload_n 0, 1), (37, .getfield 119, 3), (40, .iload_n 2, 1), (41, .iaload, 1), (42, .aload_n 0, 1), (43, .getfield 43, 3), (46, .aload_n 0, 1), (47, .getfield 221, 3), (50, .iaload, 1), (51, .if_icmp .ge 31, 3), (54, .aload_n 0, 1), (55, .iload_n 2, 1), (56, .aload_n 0, 1), (57, .getfield 119, 3), (60, .iload_n 2, 1), (61, .iaload, 1), (62, .iload_n 1, 1), (63, .invokevirtual 436, 3), (66, .ifCond .ne 16, 3), (69, .aload_n 0, 1), (70, .getfield 119, 3), (73, .iload_n 2, 1), (74, .dup2, 1), (75, .iaload, 1), (76, .iconst 1, 1), (77, .iadd, 1), (78, .iastore, 1), (79, .goto (-43), 3), (82, .aload_n 0, 1), (83, .getfield 119, 3), (86, .iload_n 2, 1), (87, .iaload, 1), (88, .aload_n 0, 1), (89, .getfield 43, 3), (92, .aload_n 0, 1), (93, .getfield 221, 3), (96, .iaload, 1), (97, .if_icmp .ne 9, 3), (100, .iinc 2 (-1), 3), (103, .goto (-94), 3), (106, .iinc 2 1, 3), (109, .iload_n 2, 1), (110, .aload_n 0, 1), (111, .getfield 46, 3), (114, .aload_n 0, 1), (115, .getfield 221, 3), (118, .iaload, 1), (119, .if_icmp .ge (-110), 3), (122, .aload_n 0, 1), (123, .getfield 119, 3), (126, .iload_n 2, 1), (127, .iconst (-1), 1), (128, .iastore, 1), (129, .goto (-120), 3), (132, .iload_n 2, 1), (133, .ifCond .lt 7, 3), (136, .iconst 1, 1), (137, .goto 4, 3), (140, .iconst 0, 1), (141, .ireturn, 1)]
theorem LX12_findsHomes_ok : LX12_findsHomes.all (dk_q cX12_findsHomes) = true := by decide +kernel
def xX12_findsHomest : am_X := (SH, KF, (some .boolean), FT_X12, PT_X12, CT_X12, KT_X12, LT_X12, NT_X12, [(436, 0, 4, 12, 0, 0, sp_w JJ BB SH 92 wX12_canLive)])
def CX12_findsHomest (M : sa_M) : ta_C := [(436, 0, 4, 12, t_w M wX12_canLive)]
theorem hX12_findsHomest (M : sa_M) (σ0 : am_S) (hJ : ∀ τ, sb_fr M σ0 τ → JJ τ) : t_CS BB (am_SH xX12_findsHomest) 92 M σ0 (am_ML xX12_findsHomest) (CX12_findsHomest M) := t_cs_cons (t_w_ok hJ) (t_cs_nil)
def fh_M : sa_M := [(51, 44, 45), (77, 0, 9), (78, 0, 400), (85, 0, 5)]
def fh_H (σ : am_S) (j : Nat) : Int := (σ.1 85 j).toInt
def fh_P (a : Int) : List (Option sa_P) := [some (.inr (.inl 51)), some (.inl (-2147483648, 2147483647)), some (.inl (a, a))]
def fh_ls (d : Int32) (a : Int) : List (Option Value) := [some (.ref 51), some (.int d), some (.int (Int32.ofInt a))]
def fh_F (lv : Nat) (S pl ph : Int) (hi : Nat → Int) : List ta_B := [(51, (0, ((18 : Nat) : Int)), (lv : Int), (lv : Int)), (60, (0, (lv : Int)), S, S), (61, (0, (lv : Int)), pl, ph), (85, (0, ((0 : Nat) : Int)), -1, hi 0), (85, (0, ((1 : Nat) : Int)), -1, hi 1), (85, (0, ((2 : Nat) : Int)), -1, hi 2), (85, (0, ((3 : Nat) : Int)), -1, hi 3), (85, (0, ((4 : Nat) : Int)), -1, hi 4)]
/-- the cells but for those of X are as they were -/
def fh_same (F : ta_F) (X : List Nat) : Bool := (List.range 5).all (fun j => X.contains j || decide (t_lk F 85 (0, ((j : Nat) : Int)) = some (7 + j, 0)))
def fh_never (_ : Nat) (_ : sa_E) (_ : ta_F) (_ : List (Option sa_V)) (_ : List sa_V) : Bool := false
def fh_cut1 (a : Nat) (pc : Nat) (_ : sa_E) (F : ta_F) (L : List (Option sa_V)) (S : List sa_V) : Bool := decide (pc = 36) && (S.isEmpty && (decide (L = [some (.inr (.inl 51)), some (.inl (2, 0)), some (.inl (3, 0))]) && (fh_same F [a] && decide (t_lk F 85 (0, (a : Int)) = some (7 + a, 1)))))
def fh_cut2 (a : Nat) (Sh : Int) (pc : Nat) (E : sa_E) (F : ta_F) (L : List (Option sa_V)) (S : List sa_V) : Bool := S.isEmpty && (
  (decide (pc = 36) && (decide (L = [some (.inr (.inl 51)), some (.inl (2, 0)), some (.inl (3, 0))]) && (fh_same F [a] && (decide (t_lk F 85 (0, (a : Int)) = some (7 + a, 1)) && decide ((sa_h E (7 + a, 0)).2 ≤ Sh - 1))))) ||
  ((decide (pc = 9) && (decide (L = [some (.inr (.inl 51)), some (.inl (2, 0)), some (.inl (3, -1))]) && fh_same F [])) ||
  (decide (pc = 9) && (decide (L = [some (.inr (.inl 51)), some (.inl (2, 0)), some (.inl (3, 1))]) && (decide ((sa_h E (7 + a, 0)).2 ≤ Sh - 1) && (fh_same F [a + 1] && (decide (4 ≤ a) || (decide (t_lk F 85 (0, ((a + 1 : Nat) : Int)) = some (0, -1)) || (decide (t_lk F 85 (0, ((a + 1 : Nat) : Int)) = some (7 + (a + 1), 0)) && decide ((sa_h E (6, 0)).2 ≤ (a : Int) + 1))))))))))
/-- what is known of the town, and of the cells -/
def fh_I (σ0 σ : am_S) (lv : Nat) (S p : Int) : Prop := sI BB SH fh_M σ0 σ ∧ (σ.1 51 18).toInt = (lv : Int) ∧ (σ.1 60 lv).toInt = S ∧ (σ.1 61 lv).toInt = p
theorem fh_I_go {σ0 σ τ : am_S} {lv : Nat} {S p : Int} (h : fh_I σ0 σ lv S p) (hI : sI BB SH fh_M σ0 τ) : fh_I σ0 τ lv S p := by
  obtain ⟨h1, h2, h3, h4⟩ := h
  have g : ∀ o k, (∀ m ∈ fh_M, ¬ (m.1 = o ∧ m.2.1 ≤ k ∧ k < m.2.2)) → τ.1 o k = σ.1 o k := fun o k hn => (hI.2 o k hn).1.trans (h1.2 o k hn).1.symm
  refine ⟨hI, ?_, ?_, ?_⟩
  · rw [g _ _ (by decide)]; exact h2
  · rw [g _ _ (fun m hm => ?_)]
    · exact h3
    · have : ∀ m ∈ fh_M, m.1 ≠ 60 := by decide
      exact fun z => this m hm z.1
  · rw [g _ _ (fun m hm => ?_)]
    · exact h4
    · have : ∀ m ∈ fh_M, m.1 ≠ 61 := by decide
      exact fun z => this m hm z.1
theorem fh_sc {σ0 σ : am_S} {lv : Nat} {S p : Int} (hI : fh_I σ0 σ lv S p) (hlo : ∀ j, j < 5 → -1 ≤ fh_H σ j) {pl ph : Int} (hp : pl ≤ p ∧ p ≤ ph) {hi : Nat → Int} (hh : ∀ j, j < 5 → fh_H σ j ≤ hi j) {P : List (Option sa_P)} {ls : List (Option Value)} : t_sc P ls (fh_F lv S pl ph hi) σ :=
  t_sc_f (by rw [hI.2.1]; exact ⟨Int.le_refl _, Int.le_refl _⟩) (t_sc_f (by rw [hI.2.2.1]; exact ⟨Int.le_refl _, Int.le_refl _⟩) (t_sc_f (by rw [hI.2.2.2]; exact hp) (t_sc_f ⟨hlo 0 (by decide), hh 0 (by decide)⟩ (t_sc_f ⟨hlo 1 (by decide), hh 1 (by decide)⟩ (t_sc_f ⟨hlo 2 (by decide), hh 2 (by decide)⟩ (t_sc_f ⟨hlo 3 (by decide), hh 3 (by decide)⟩ (t_sc_f ⟨hlo 4 (by decide), hh 4 (by decide)⟩ t_sc_nil)))))))
section
variable {σ0 : am_S} {post : Option Value → am_S → Prop} {AA : Nat → List (Option Value) → List Value → Nat → am_S → Prop}
/-- a stretch: what it asks for, what it gives -/
theorem fh_seg (hA : ∀ cuts f pc ls stk n τ, am_vc cX12_findsHomes xX12_findsHomest 92 post AA cuts f pc ls stk n τ → AA pc ls stk n τ) (hJ : ∀ τ, sb_fr fh_M σ0 τ → JJ τ) (hpost : ∀ x τ, sI BB SH fh_M σ0 τ → (0 ≤ x.toInt ∧ x.toInt ≤ 1) → post (some (.int x)) τ) {σ : am_S} {d : Int32} {a : Int} {lv : Nat} {S p pl ph : Int} {hi : Nat → Int} {pc : Nat} (ha : -1 ≤ a ∧ a ≤ 5) (hI : fh_I σ0 σ lv S p) (hlo : ∀ j, j < 5 → -1 ≤ fh_H σ j) (hp : pl ≤ p ∧ p ≤ ph) (hh : ∀ j, j < 5 → fh_H σ j ≤ hi j) (cut : Nat → sa_E → ta_F → List (Option sa_V) → List sa_V → Bool) (hr : t_run xX12_findsHomest BB 92 (CX12_findsHomest fh_M) fh_M LX12_findsHomes [(9, 3), (36, 3)] [] (fun E _ v => match v with
    | some (.inl q) => sa_inB E (0, 1) q
    | _ => false) cut 400 pc (t_sE (fh_P a) (fh_F lv S pl ph hi)) (t_sF 4 (fh_F lv S pl ph hi)) (s_aL 1 (fh_P a)) [] = true)
    (hcut : ∀ pc' E' F' L' S', cut pc' E' F' L' S' = true → ∀ ρ' ls' st' τ, sg_E E' ρ' → tg_F E' ρ' F' τ → sg_L E' ρ' L' ls' → sg_S E' ρ' S' st' → sI BB SH fh_M σ0 τ → (ρ' 2 = d.toInt ∧ ρ' 3 = a ∧ ρ' 6 = p ∧ ∀ j, j < 5 → ρ' (7 + j) = fh_H σ j) → AA pc' ls' st' 92 τ) : AA pc (fh_ls d a) [] 92 σ := by
  have ea : (Int32.ofInt a).toInt = a := ii_t (by omega) (by omega)
  refine t_seg (X := xX12_findsHomest) (B := BB) (N := 92) (CS := CX12_findsHomest fh_M) (M := fh_M) (D := LX12_findsHomes) (cuts := [(9, 3), (36, 3)]) (Fk := []) (P := fh_P a) (σ0 := σ0) (σ := σ) (fh_F lv S pl ph hi) _ cut 400 hA (dk_D_ok LX12_findsHomes_ok) (hX12_findsHomest fh_M σ0 hJ) (s_P_r (s_P_f (s_P_i (by rw [ea]; exact ⟨Int.le_refl _, Int.le_refl _⟩) s_P_nil))) (fh_sc hI hlo hp hh) hI.1 hr (fun E' F' ρ' v' v τ hr hx hE hF hv hI' => ?_) (fun pc' E' F' L' S' hc' ρ' ls' st' τ hx hE hF hL hS hI' => ?_)
  · split at hr
    · cases v with
      | none => exact hv.elim
      | some w =>
        obtain ⟨_, x, rfl, hx⟩ := hv
        exact hpost x τ hI' (sa_inB_ok hE hx hr)
    · cases hr
  · have g : ∀ i, i < 12 → ρ' i = t_sρ (fh_P a) (fh_ls d a) (fh_F lv S pl ph hi) σ i := fun i hi' => hx.2 i (by show i < 12; exact hi')
    refine hcut _ _ _ _ _ hc' ρ' ls' st' τ hE hF hL hS hI' ⟨g 2 (by decide), (g 3 (by decide)).trans ea, (g 6 (by decide)).trans ?_, fun j hj => (g (7 + j) (by omega)).trans ?_⟩
    · show (σ.1 61 ((0 : Int) + (lv : Int)).toNat).toInt = p
      rw [show ((0 : Int) + (lv : Int)).toNat = lv by omega]
      exact hI.2.2.2
    · have hj' : j = 0 ∨ j = 1 ∨ j = 2 ∨ j = 3 ∨ j = 4 := by omega
      rcases hj' with rfl | rfl | rfl | rfl | rfl <;> rfl
theorem fh_cell {E : sa_E} {ρ : Nat → Int} {F : ta_F} {τ : am_S} {j : Nat} {v : Nat × Int} (hE : sg_E E ρ) (hF : tg_F E ρ F τ) (h : t_lk F 85 (0, (j : Int)) = some v) : fh_H τ j = ρ v.1 + v.2 := by
  have q := (t_lk_ok hF h).2
  simp only [hE.2.1] at q
  rw [show (0 + (j : Int)).toNat = j by omega] at q
  exact q
theorem fh_cells {E : sa_E} {ρ : Nat → Int} {F : ta_F} {σ τ : am_S} {X : List Nat} (hE : sg_E E ρ) (hF : tg_F E ρ F τ) (hρ : ∀ j, j < 5 → ρ (7 + j) = fh_H σ j) (h : fh_same F X = true) {j : Nat} (hj : j < 5) (hX : X.contains j = false) : fh_H τ j = fh_H σ j := by
  have q := List.all_eq_true.mp h j (List.mem_range.mpr hj)
  rw [hX, Bool.false_or] at q
  have q := of_decide_eq_true q
  rw [fh_cell hE hF q, hρ j hj]
  show fh_H σ j + 0 = _
  omega
theorem fh_x1 : (List.range 2).all (fun lv => (List.range 13).all (fun S => (List.range 6).all (fun p => t_run xX12_findsHomest BB 92 (CX12_findsHomest fh_M) fh_M LX12_findsHomes [(9, 3), (36, 3)] [] (fun E _ v => match v with
    | some (.inl q) => sa_inB E (0, 1) q
    | _ => false) (fh_never) 400 9 (t_sE (fh_P (-1)) (fh_F lv (S : Nat) (p : Nat) (p : Nat) (fun _ => 12))) (t_sF 4 (fh_F lv (S : Nat) (p : Nat) (p : Nat) (fun _ => 12))) (s_aL 1 (fh_P (-1))) []))) = true := by decide +kernel
theorem fh_x2 : (List.range 2).all (fun lv => (List.range 6).all (fun a => (List.range 13).all (fun S => t_run xX12_findsHomest BB 92 (CX12_findsHomest fh_M) fh_M LX12_findsHomes [(9, 3), (36, 3)] [] (fun E _ v => match v with
    | some (.inl q) => sa_inB E (0, 1) q
    | _ => false) (fh_never) 400 9 (t_sE (fh_P ((a : Nat) : Int)) (fh_F lv (S : Nat) 0 (a : Nat) (fun _ => 12))) (t_sF 4 (fh_F lv (S : Nat) 0 (a : Nat) (fun _ => 12))) (s_aL 1 (fh_P ((a : Nat) : Int))) []))) = true := by decide +kernel
theorem fh_r1 : (List.range 2).all (fun lv => (List.range 5).all (fun a => (List.range 13).all (fun S => t_run xX12_findsHomest BB 92 (CX12_findsHomest fh_M) fh_M LX12_findsHomes [(9, 3), (36, 3)] [] (fun E _ v => match v with
    | some (.inl q) => sa_inB E (0, 1) q
    | _ => false) (fh_cut1 a) 400 9 (t_sE (fh_P ((a : Nat) : Int)) (fh_F lv (S : Nat) ((a : Nat) + 1) 5 (fun j => if j = a then 11 else 12))) (t_sF 4 (fh_F lv (S : Nat) ((a : Nat) + 1) 5 (fun j => if j = a then 11 else 12))) (s_aL 1 (fh_P ((a : Nat) : Int))) []))) = true := by decide +kernel
theorem fh_r2 : (List.range 2).all (fun lv => (List.range 5).all (fun a => (List.range 13).all (fun S => t_run xX12_findsHomest BB 92 (CX12_findsHomest fh_M) fh_M LX12_findsHomes [(9, 3), (36, 3)] [] (fun E _ v => match v with
    | some (.inl q) => sa_inB E (0, 1) q
    | _ => false) (fh_cut2 a (S : Nat)) 400 36 (t_sE (fh_P ((a : Nat) : Int)) (fh_F lv (S : Nat) ((a : Nat) + 1) 5 (fun j => if j = a then ((S : Nat) : Int) else 12))) (t_sF 4 (fh_F lv (S : Nat) ((a : Nat) + 1) 5 (fun j => if j = a then ((S : Nat) : Int) else 12))) (s_aL 1 (fh_P ((a : Nat) : Int))) []))) = true := by decide +kernel
/-- how far the search has come -/
def fh_R (a : Nat) (H : Nat → Int) : Int := match a with
  | 0 => (H 0 + 2) * 50625
  | 1 => (H 0 + 1) * 50625 + (H 1 + 2) * 3375
  | 2 => (H 0 + 1) * 50625 + (H 1 + 1) * 3375 + (H 2 + 2) * 225
  | 3 => (H 0 + 1) * 50625 + (H 1 + 1) * 3375 + (H 2 + 1) * 225 + (H 3 + 2) * 15
  | _ => (H 0 + 1) * 50625 + (H 1 + 1) * 3375 + (H 2 + 1) * 225 + (H 3 + 1) * 15 + (H 4 + 2)
theorem fh_bd {σ0 σ : am_S} (hI : sI BB SH fh_M σ0 σ) : ∀ j, j < 5 → -1 ≤ fh_H σ j ∧ fh_H σ j ≤ 12 := fun j hj => by
  have q := hI.1.1 85 (0, 5) j rfl hj
  rw [sb_1 (q := (-1, 12)) rfl] at q
  exact q
theorem fh_loop (hA : ∀ cuts f pc ls stk n τ, am_vc cX12_findsHomes xX12_findsHomest 92 post AA cuts f pc ls stk n τ → AA pc ls stk n τ) (hJ : ∀ τ, sb_fr fh_M σ0 τ → JJ τ) (hpost : ∀ x τ, sI BB SH fh_M σ0 τ → (0 ≤ x.toInt ∧ x.toInt ≤ 1) → post (some (.int x)) τ) {d : Int32} {lv : Nat} {S p : Int} (hlv : lv < 2) (hS : 0 ≤ S ∧ S ≤ 12) (hp : 0 ≤ p ∧ p ≤ 5) : ∀ (m : Nat) (a : Nat) (σ : am_S), (a : Int) < p → fh_I σ0 σ lv S p → (∀ j, j ≤ a → fh_H σ j ≤ S - 1) → (2000000 - fh_R a (fh_H σ)).toNat = m → AA 9 (fh_ls d (a : Int)) [] 92 σ := by
  have eS : ((S.toNat : Nat) : Int) = S := Int.toNat_of_nonneg hS.1
  have out : ∀ (a : Int) (σ : am_S), (a = -1 ∨ (p ≤ a ∧ a ≤ 5)) → fh_I σ0 σ lv S p → AA 9 (fh_ls d a) [] 92 σ := by
    intro a σ ha hI
    have hb := fh_bd hI.1
    rcases ha with rfl | ⟨h1, h2⟩
    · have q := List.all_eq_true.mp (List.all_eq_true.mp (List.all_eq_true.mp fh_x1 lv (List.mem_range.mpr hlv)) S.toNat (List.mem_range.mpr (by omega))) p.toNat (List.mem_range.mpr (by omega))
      rw [eS, Int.toNat_of_nonneg hp.1] at q
      exact fh_seg hA hJ hpost (by omega) hI (fun j hj => (hb j hj).1) ⟨Int.le_refl _, Int.le_refl _⟩ (fun j hj => (hb j hj).2) fh_never q (fun _ _ _ _ _ hc => by cases hc)
    · have q := List.all_eq_true.mp (List.all_eq_true.mp (List.all_eq_true.mp fh_x2 lv (List.mem_range.mpr hlv)) a.toNat (List.mem_range.mpr (by omega))) S.toNat (List.mem_range.mpr (by omega))
      rw [eS, Int.toNat_of_nonneg (by omega : 0 ≤ a)] at q
      exact fh_seg hA hJ hpost (by omega) hI (fun j hj => (hb j hj).1) ⟨by omega, h1⟩ (fun j hj => (hb j hj).2) fh_never q (fun _ _ _ _ _ hc => by cases hc)
  intro m
  induction m using Nat.strongRecOn with
  | ind m ih =>
  intro a σ hap hI hle hm
  have ha5 : a < 5 := by omega
  have hb := fh_bd hI.1
  -- the inner loop
  have inner : ∀ (n : Nat) (τ : am_S), fh_I σ0 τ lv S p → (∀ j, j < 5 → j ≠ a → fh_H τ j = fh_H σ j) → fh_H σ a + 1 ≤ fh_H τ a → fh_H τ a ≤ S → (S - fh_H τ a).toNat = n → AA 36 (fh_ls d (a : Int)) [] 92 τ := by
    intro n
    induction n using Nat.strongRecOn with
    | ind n ihn =>
    intro τ hI hsame hw hS' hn
    have hb' := fh_bd hI.1
    have q := List.all_eq_true.mp (List.all_eq_true.mp (List.all_eq_true.mp fh_r2 lv (List.mem_range.mpr hlv)) a (List.mem_range.mpr ha5)) S.toNat (List.mem_range.mpr (by omega))
    rw [eS] at q
    refine fh_seg hA hJ hpost (by omega) hI (fun j hj => (hb' j hj).1) ⟨by omega, hp.2⟩ (fun j hj => ?_) (fh_cut2 a S) q (fun pc' E' F' L' S' hc ρ' ls' st' υ hE hF hL hSt hI' hρ => ?_)
    · show fh_H τ j ≤ if j = a then S else 12
      by_cases e : j = a
      · rw [if_pos e, e]; exact hS'
      · rw [if_neg e]; exact (hb' j hj).2
    · obtain ⟨ρ2, ρ3, ρ6, ρh⟩ := hρ
      have hIu := fh_I_go hI hI'
      have hbu := fh_bd hI'
      simp only [fh_cut2, Bool.or_eq_true, Bool.and_eq_true, decide_eq_true_eq, List.isEmpty_iff] at hc
      obtain ⟨rfl, hc⟩ := hc
      cases st' with
      | cons _ _ => exact hSt.elim
      | nil =>
      have hva := hb' a ha5
      rcases hc with ⟨rfl, rfl, c1, c2, c3⟩ | ⟨rfl, rfl, c1⟩ | ⟨rfl, rfl, c0, c1, c2⟩
      · have e := sg_L_eq rfl hL
        subst e
        simp only [List.map_cons, List.map_nil, s_cl, ρ2, ρ3, Int.add_zero, ← ii_of]
        have e1 := fh_cell hE hF c2
        simp only [ρh a ha5] at e1
        have hh := sa_h_ok (a := (7 + a, 0)) (x := τ.1 85 a) hE (by show fh_H τ a = ρ' (7 + a) + 0; rw [ρh a ha5]; omega)
        have hh2 : fh_H τ a ≤ S - 1 := Int.le_trans hh.2 c3
        exact ihn _ (by omega) υ hIu (fun j hj hne => by rw [fh_cells hE hF ρh c1 hj (by simp [hne]), hsame j hj hne]) (by omega) (by omega) rfl
      · have e := sg_L_eq rfl hL
        subst e
        simp only [List.map_cons, List.map_nil, s_cl, ρ2, ρ3, Int.add_zero, ← ii_of]
        have same : ∀ j, j < 5 → fh_H υ j = fh_H τ j := fun j hj => fh_cells hE hF ρh c1 hj rfl
        by_cases ha0 : a = 0
        · subst ha0
          exact out (((0 : Nat) : Int) + -1) υ (Or.inl (by omega)) hIu
        · have e9 : ((a : Int) + -1) = ((a - 1 : Nat) : Int) := by omega
          rw [e9]
          have hle' : ∀ j, j ≤ a - 1 → fh_H υ j ≤ S - 1 := fun j hj => by
            rw [same j (by omega), hsame j (by omega) (by omega)]
            exact hle j (by omega)
          refine ih _ ?_ (a - 1) υ (by omega) hIu hle' rfl
          have q0 := fun j hj => (same j hj)
          have w := hle a (Nat.le_refl _)
          have s0 := hsame 0 (by decide); have s1 := hsame 1 (by decide); have s2 := hsame 2 (by decide); have s3 := hsame 3 (by decide); have s4 := hsame 4 (by decide)
          have u0 := same 0 (by decide); have u1 := same 1 (by decide); have u2 := same 2 (by decide); have u3 := same 3 (by decide); have u4 := same 4 (by decide)
          have b0 := hbu 0 (by decide); have b1 := hbu 1 (by decide); have b2 := hbu 2 (by decide); have b3 := hbu 3 (by decide); have b4 := hbu 4 (by decide)
          have hac : a = 1 ∨ a = 2 ∨ a = 3 ∨ a = 4 := by omega
          rcases hac with rfl | rfl | rfl | rfl
          · have t0 := s0 (by decide)
            simp only [fh_R] at hm ⊢
            omega
          · have t0 := s0 (by decide); have t1 := s1 (by decide)
            simp only [fh_R] at hm ⊢
            omega
          · have t0 := s0 (by decide); have t1 := s1 (by decide); have t2 := s2 (by decide)
            simp only [fh_R] at hm ⊢
            omega
          · have t0 := s0 (by decide); have t1 := s1 (by decide); have t2 := s2 (by decide); have t3 := s3 (by decide)
            simp only [fh_R] at hm ⊢
            omega
      · have e := sg_L_eq rfl hL
        subst e
        simp only [List.map_cons, List.map_nil, s_cl, ρ2, ρ3, Int.add_zero, ← ii_of]
        have hh := sa_h_ok (a := (7 + a, 0)) (x := τ.1 85 a) hE (by show fh_H τ a = ρ' (7 + a) + 0; rw [ρh a ha5]; omega)
        have hh2 : fh_H τ a ≤ S - 1 := Int.le_trans hh.2 c0
        have same : ∀ j, j < 5 → j ≠ a + 1 → fh_H υ j = fh_H τ j := fun j hj hne => fh_cells hE hF ρh c1 hj (by simp [hne])
        have e9 : ((a : Int) + 1) = ((a + 1 : Nat) : Int) := by omega
        rw [e9]
        by_cases hend : p ≤ (a : Int) + 1
        · exact out ((a + 1 : Nat) : Int) υ (Or.inr ⟨by omega, by omega⟩) hIu
        · have hcell : fh_H υ (a + 1) = -1 := by
            rcases c2 with c2 | c2 | ⟨c2, c3⟩
            · omega
            · have := fh_cell hE hF c2
              simp only [hE.2.1] at this
              omega
            · exfalso
              have hh3 := sa_h_ok (a := (6, 0)) (x := τ.1 61 lv) hE (by show (τ.1 61 lv).toInt = ρ' 6 + 0; rw [hI.2.2.2, ρ6]; omega)
              have := Int.le_trans hh3.2 c3
              rw [hI.2.2.2] at this
              omega
          have hle' : ∀ j, j ≤ a + 1 → fh_H υ j ≤ S - 1 := fun j hj => by
            by_cases e : j = a + 1
            · rw [e, hcell]; omega
            · rw [same j (by omega) e]
              by_cases e2 : j = a
              · rw [e2]; exact hh2
              · rw [hsame j (by omega) e2]
                exact hle j (by omega)
          refine ih _ ?_ (a + 1) υ (by omega) hIu hle' rfl
          have b0 := hbu 0 (by decide); have b1 := hbu 1 (by decide); have b2 := hbu 2 (by decide); have b3 := hbu 3 (by decide); have b4 := hbu 4 (by decide)
          have g0 := hb 0 (by decide); have g1 := hb 1 (by decide); have g2 := hb 2 (by decide); have g3 := hb 3 (by decide); have g4 := hb 4 (by decide)
          have hac : a = 0 ∨ a = 1 ∨ a = 2 ∨ a = 3 := by omega
          rcases hac with rfl | rfl | rfl | rfl
          · have u0 := same 0 (by decide) (by decide)
            simp only [fh_R] at hm ⊢
            omega
          · have u0 := same 0 (by decide) (by decide); have u1 := same 1 (by decide) (by decide); have t0 := hsame 0 (by decide) (by decide)
            simp only [fh_R] at hm ⊢
            omega
          · have u0 := same 0 (by decide) (by decide); have u1 := same 1 (by decide) (by decide); have u2 := same 2 (by decide) (by decide); have t0 := hsame 0 (by decide) (by decide); have t1 := hsame 1 (by decide) (by decide)
            simp only [fh_R] at hm ⊢
            omega
          · have u0 := same 0 (by decide) (by decide); have u1 := same 1 (by decide) (by decide); have u2 := same 2 (by decide) (by decide); have u3 := same 3 (by decide) (by decide); have t0 := hsame 0 (by decide) (by decide); have t1 := hsame 1 (by decide) (by decide); have t2 := hsame 2 (by decide) (by decide)
            simp only [fh_R] at hm ⊢
            omega
  have q := List.all_eq_true.mp (List.all_eq_true.mp (List.all_eq_true.mp fh_r1 lv (List.mem_range.mpr hlv)) a (List.mem_range.mpr ha5)) S.toNat (List.mem_range.mpr (by omega))
  rw [eS] at q
  have hla := hle a (Nat.le_refl _)
  refine fh_seg hA hJ hpost (by omega) hI (fun j hj => (hb j hj).1) ⟨by omega, hp.2⟩ (fun j hj => ?_) (fh_cut1 a) q (fun pc' E' F' L' S' hc ρ' ls' st' υ hE hF hL hSt hI' hρ => ?_)
  · show fh_H σ j ≤ if j = a then 11 else 12
    by_cases e : j = a
    · rw [if_pos e, e]; omega
    · rw [if_neg e]; exact (hb j hj).2
  · obtain ⟨ρ2, ρ3, ρ6, ρh⟩ := hρ
    simp only [fh_cut1, Bool.and_eq_true, decide_eq_true_eq, List.isEmpty_iff] at hc
    obtain ⟨rfl, rfl, rfl, c1, c2⟩ := hc
    cases st' with
    | cons _ _ => exact hSt.elim
    | nil =>
      have e := sg_L_eq rfl hL
      subst e
      simp only [List.map_cons, List.map_nil, s_cl, ρ2, ρ3, Int.add_zero, ← ii_of]
      have e1 := fh_cell hE hF c2
      simp only [ρh a ha5] at e1
      exact inner _ υ (fh_I_go hI hI') (fun j hj hne => fh_cells hE hF ρh c1 hj (by simp [hne])) (by omega) (by omega) rfl
end
def fh_ent (pc : Nat) (_ : sa_E) (F : ta_F) (L : List (Option sa_V)) (S : List sa_V) : Bool := decide (pc = 9) && (S.isEmpty && (decide (L = [some (.inr (.inl 51)), some (.inl (2, 0)), some (.inl (0, 0))]) && decide (t_lk F 85 (0, ((0 : Nat) : Int)) = some (0, -1))))
theorem qX12_findsHomes : am_B cX12_findsHomes xX12_findsHomest 3 0 (sp_w JJ BB SH 92 wX12_findsHomes) := by
  intro n0 as σ post AA hA h
  obtain ⟨rfl, hB, hJ, w, hw, has, h⟩ := h
  have ew : w = ([.inr (.inl 51), .inl (-2147483648, 2147483647)], [(some (.inl (0, 1)), [])], fh_M) := List.mem_singleton.mp hw
  subst ew
  match as, has with
  | [v0, v1], ⟨h0, ⟨d, hd0, hd⟩, _⟩ =>
  have h0 : v0 = .ref 51 := h0
  subst h0; subst hd0
  have hJ' : ∀ τ, sb_fr fh_M σ τ → JJ τ := fun τ hf => JJ_fr (sm := [([], [], fh_M)]) (by decide +kernel) _ (List.mem_singleton.mpr rfl) σ τ hJ hf
  have hpost : ∀ x τ, sI BB SH fh_M σ τ → (0 ≤ x.toInt ∧ x.toInt ≤ 1) → post (some (.int x)) τ := fun x τ hI hx => h _ τ hI.1 (hJ' τ hI.2) hI.2 ⟨_, List.mem_cons_self, ⟨x, rfl, hx⟩, fun q hq => absurd hq List.not_mem_nil⟩
  refine ⟨by simp [am_sl, Value.category], ?_⟩
  show AA 0 [some (.ref 51), some (.int d), none] [] 92 σ
  refine t_seg (X := xX12_findsHomest) (B := BB) (N := 92) (CS := CX12_findsHomest fh_M) (M := fh_M) (D := LX12_findsHomes) (cuts := [(9, 3), (36, 3)]) (Fk := []) (P := [some (.inr (.inl 51)), some (.inl (-2147483648, 2147483647)), none]) (σ0 := σ) (σ := σ) [] t_no fh_ent 100 hA (dk_D_ok LX12_findsHomes_ok) (hX12_findsHomest fh_M σ hJ') (s_P_r (s_P_f (s_P_n s_P_nil))) t_sc_nil ⟨hB, sb_fr_r _ _⟩ (by decide +kernel) (fun E' F' ρ' v' v τ hr hx hE hF hv hI' => by cases hr) (fun pc' E' F' L' S' hc' ρ' ls' st' τ hx hE hF hL hSt hI' => ?_)
  simp only [fh_ent, Bool.and_eq_true, decide_eq_true_eq, List.isEmpty_iff] at hc'
  obtain ⟨rfl, rfl, rfl, hc⟩ := hc'
  cases st' with
  | cons _ _ => exact hSt.elim
  | nil =>
    have e := sg_L_eq rfl hL
    subst e
    have e2 : ρ' 2 = d.toInt := hx.2 2 (by decide)
    simp only [List.map_cons, List.map_nil, s_cl, e2, hE.2.1, Int.add_zero, ← ii_of]
    have hc0 := fh_cell hE hF hc
    simp only [hE.2.1] at hc0
    have l1 := hI'.1.2 51 12 18 rfl
    have l1a : (0 : Int) ≤ (τ.1 51 18).toInt := l1.1
    have l1b : (τ.1 51 18).toInt ≤ 1 := l1.2
    obtain ⟨lvn, elv⟩ : ∃ n : Nat, (τ.1 51 18).toInt = (n : Int) := ⟨_, (Int.toNat_of_nonneg l1a).symm⟩
    have s1 := (hJ' τ hI'.2).2
    unfold s_gd at s1
    simp only [elv, Int.toNat_natCast] at s1
    have p1 := hI'.1.1 61 (0, 2) lvn rfl (by show lvn < 2; omega)
    rw [sb_1 (q := (0, 5)) rfl] at p1
    have p1a : (0 : Int) ≤ (τ.1 61 lvn).toInt := p1.1
    have hI9 : fh_I σ τ lvn (τ.1 60 lvn).toInt (τ.1 61 lvn).toInt := ⟨hI', elv, rfl, rfl⟩
    by_cases hp0 : 0 < (τ.1 61 lvn).toInt
    · exact fh_loop hA hJ' hpost (by omega) s1 p1 _ 0 τ (by show ((0 : Nat) : Int) < _; omega) hI9 (fun j hj => by
        have : j = 0 := by omega
        subst this
        have := s1.1
        omega) rfl
    · have hb := fh_bd hI'
      have q := List.all_eq_true.mp (List.all_eq_true.mp (List.all_eq_true.mp fh_x2 lvn (List.mem_range.mpr (by omega))) 0 (List.mem_range.mpr (by omega))) (τ.1 60 lvn).toInt.toNat (List.mem_range.mpr (by have := s1.2; omega))
      rw [Int.toNat_of_nonneg s1.1] at q
      exact fh_seg (a := ((0 : Nat) : Int)) hA hJ' hpost (by omega) hI9 (fun j hj => (hb j hj).1) ⟨p1a, by omega⟩ (fun j hj => (hb j hj).2) fh_never q (fun _ _ _ _ _ hc => by cases hc)
theorem nX12_findsHomes (l : Launch) : am_M l TB NB vwCl SH KF yX12_findsHomes cX12_findsHomes 3 (some .boolean) 6 0 0 (sp_w JJ BB SH 92 wX12_findsHomes) := by
  refine am_M.of xX12_findsHomest (by decide +kernel) TB_good GF rfl rfl rfl (by decide) ⟨FT_X12_ok, PT_X12_ok _, CT_X12_ok, KT_X12_ok, LT_X12_ok, NT_X12_ok, ?_⟩ qX12_findsHomes
  exact List.forall_mem_cons.mpr ⟨⟨yX12_canLive, cX12_canLive, 6, (some .boolean), 5, 3, nX12_canLive l, by decide, by decide, tk_1856, tk_120, ⟨by decide +kernel, by decide +kernel, by decide +kernel⟩, rfl, tk_1853, tk_1855, ⟨(RX12, TX12, 63), rfl, tb_at 97 (by decide +kernel) (by decide +kernel)⟩⟩, fun _ h => absurd h List.not_mem_nil⟩
