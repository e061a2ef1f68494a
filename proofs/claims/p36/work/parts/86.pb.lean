/-! THE REFERENCE'S READER: are all on the ladder; the start, by the checker. Printed by wip/am/chk/do_read.py. -/
def JU (_ : am_S) : Prop := True
def s_MLu (CS : sa_C) : List (Nat × Nat × Nat × Nat × Nat × Nat × am_Sp) := CS.map (fun q => (q.1, q.2.1, q.2.2.1, q.2.2.2.1, 0, 0, sp_w JU BB SH 92 q.2.2.2.2))
theorem s_MLu_ok {X : am_X} {CS : sa_C} (h1 : am_ML X = s_MLu CS) (h2 : am_SH X = SH) : ∀ ix q, am_find CS ix = some q → am_find (am_ML X) ix = some (q.1, q.2.1, q.2.2.1, 0, 0, sp_w JU BB (am_SH X) 92 q.2.2.2) := by
  rw [h1, h2]
  clear h1 h2
  intro ix q
  induction CS with
  | nil => intro h; cases h
  | cons a t ih =>
    intro h
    obtain ⟨i, a⟩ := a
    simp only [am_find] at h
    simp only [s_MLu, List.map_cons, am_find]
    split at h
    · rename_i e
      cases h
      rw [if_pos e]
    · rename_i e
      rw [if_neg e]
      exact ih h
def LX12_areOn : List (Nat × Instr × Nat) := [(0, .iconst 0, 1), (1, .istore_n 1, 1), (2, .iload_n 1, 1), (3, .aload_n 0, 1), (4, .getfield 46, 3), (7, .aload_n 0, 1), (8, .getfield 224, 3), (11, .iaload, 1), (12, .if_icmp .ge 36, 3), (15, .aload_n 0, 1), (16, .getfield 49, 3), (19, .iconst 5, 1), (20, .aload_n 0, 1), (21, .getfield 224, 3), (24, .imul, 1), (25, .iload_n 1, 1), (26, .iadd, 1), (27, .iaload, 1), (28, .aload_n 0, 1), (29, .getfield 43, 3), (32, .aload_n 0, 1), (33, .getfield 224, 3), (36, .iaload, 1), (37, .if_icmp .lt 5, 3), (40, .iconst 0, 1), (41, .ireturn, 1), (42, .iinc 1 1, 3), (45, .goto (-43), 3), (48, .iconst 1, 1), (49, .ireturn, 1)]
theorem LX12_areOn_ok : LX12_areOn.all (s_Dc cX12_areOn) = true := by decide +kernel
def wX12_areOn_u : List sa_A := [([.inr (.inl 51)], [(some (.inl (1, 1)), []), (some (.inl (0, 0)), [])], [])]
def eX12_areOn_u : List (List sa_K) := [[(2, 2, [some (.inr (.inl 51)), some (.inl (0, 5))], [(0, 999), (1, 1), (0, 1000)], [])]]
def CX12_areOn_u : sa_C := []
def xX12_areOn_uz : am_X := (SH, KF, (some .boolean), FT_X12, PT_X12, CT_X12, KT_X12, LT_X12, NT_X12, s_MLu CX12_areOn_u)
theorem qX12_areOn_u : am_B cX12_areOn xX12_areOn_uz 2 0 (sp_w JU BB SH 92 wX12_areOn_u) := s_chk_ok (X := xX12_areOn_uz) (CS := CX12_areOn_u) (Fk := ([], [])) (fuel := 2000) (info := wX12_areOn_u.zip eX12_areOn_u) rfl (s_MLu_ok rfl rfl) (fun _ _ _ _ _ _ => trivial) (fun _ _ g hg => absurd hg List.not_mem_nil) (s_D_ok LX12_areOn_ok) (by decide +kernel)
theorem nX12_areOn_u (l : Launch) : am_M l TB NB vwCl SH KF yX12_areOn cX12_areOn 2 (some .boolean) 2 0 0 (sp_w JU BB SH 92 wX12_areOn_u) := by
  refine am_M.of xX12_areOn_uz (by decide +kernel) TB_good GF rfl rfl rfl (by decide) ⟨FT_X12_ok, PT_X12_ok _, CT_X12_ok, KT_X12_ok, LT_X12_ok, NT_X12_ok, ?_⟩ qX12_areOn_u
  exact fun _ h => absurd h List.not_mem_nil
def wX12_begins_u : List sa_A := [([.inr (.inl 51)], [(none, [])], [(51, 47, 48), (51, 48, 49), (80, 0, 51)])]
def eX12_begins_u : List (List sa_K) := [[(2, 2, [some (.inr (.inl 51)), some (.inl (0, 51))], [(0, 999), (1, 1), (0, 1000)], []), (23, 2, [some (.inr (.inl 51)), some (.inl (0, 5))], [(0, 998), (1, 1), (0, 1000)], [])]]
def CX12_begins_u : sa_C := []
def xX12_begins_uz : am_X := (SH, KF, none, FT_X12, PT_X12, CT_X12, KT_X12, LT_X12, NT_X12, s_MLu CX12_begins_u)
theorem qX12_begins_u : am_B cX12_begins xX12_begins_uz 2 0 (sp_w JU BB SH 92 wX12_begins_u) := s_chk_ok (X := xX12_begins_uz) (CS := CX12_begins_u) (Fk := ([], [])) (fuel := 2000) (info := wX12_begins_u.zip eX12_begins_u) rfl (s_MLu_ok rfl rfl) (fun _ _ _ _ _ _ => trivial) (fun _ _ g hg => absurd hg List.not_mem_nil) (s_D_ok LX12_begins_ok) (by decide +kernel)
theorem nX12_begins_u (l : Launch) : am_M l TB NB vwCl SH KF yX12_begins cX12_begins 2 none 2 0 0 (sp_w JU BB SH 92 wX12_begins_u) := by
  refine am_M.of xX12_begins_uz (by decide +kernel) TB_good GF rfl rfl rfl (by decide) ⟨FT_X12_ok, PT_X12_ok _, CT_X12_ok, KT_X12_ok, LT_X12_ok, NT_X12_ok, ?_⟩ qX12_begins_u
  exact fun _ h => absurd h List.not_mem_nil
