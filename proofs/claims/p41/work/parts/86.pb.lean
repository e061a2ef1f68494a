/-! THE REFERENCE'S READER: are all on the ladder; the start, by the checker. Printed by wip/am/chk/do_read.py. -/
def JU (_ : am_S) : Prop := True
def s_MLu (CS : sa_C) : List (Nat × Nat × Nat × Nat × Nat × Nat × am_Sp) := CS.map (fun q => (q.1, q.2.1, q.2.2.1, q.2.2.2.1, 0, 0, sp_w JU BB SH 92 q.2.2.2.2))
theorem s_MLu_ok {X : am_X} {CS : sa_C} (h1 : am_ML X = s_MLu CS) (h2 : am_SH X = SH) : ∀ ix q, am_find CS ix = some q → am_find (am_ML X) ix = some (q.1, q.2.1, q.2.2.1, 0, 0, sp_w JU BB (am_SH X) 92 q.2.2.2) := by
  rw [h1, h2]
  clear h1 h2
  intro ix q
  induction CS with
  | nil => intro h; cases h
  | cons a t ih =>
    intro h
    obtain ⟨i, a⟩ := a
    simp only [am_find] at h
    simp only [s_MLu, List.map_cons, am_find]
    split at h
    · rename_i e
      cases h
      rw [if_pos e]
    · rename_i e
      rw [if_neg e]
      exact ih h
def wX12_begins_u : List sa_A := [([.inr (.inl 51)], [(none, [])], [(51, 47, 48), (51, 48, 49), (80, 0, 51)])]
def eX12_begins_u : List (List sa_K) := [[(2, 2, [some (.inr (.inl 51)), some (.inl (0, 51))], [(0, 999), (1, 1), (0, 1000)], []), (23, 2, [some (.inr (.inl 51)), some (.inl (0, 5))], [(0, 998), (1, 1), (0, 1000)], [])]]
def CX12_begins_u : sa_C := []
def xX12_begins_uz : am_X := (SH, KF, none, FT_X12, PT_X12, CT_X12, KT_X12, LT_X12, NT_X12, s_MLu CX12_begins_u)
theorem qX12_begins_u : am_B cX12_begins xX12_begins_uz 2 0 (sp_w JU BB SH 92 wX12_begins_u) := s_chk_ok (X := xX12_begins_uz) (CS := CX12_begins_u) (Fk := ([], [])) (fuel := 2000) (info := wX12_begins_u.zip eX12_begins_u) rfl (s_MLu_ok rfl rfl) (fun _ _ _ _ _ _ => trivial) (fun _ _ g hg => absurd hg List.not_mem_nil) (dk_D_ok LX12_begins_ok) (by decide +kernel)
theorem nX12_begins_u (l : Launch) : am_M l TB NB vwCl SH KF yX12_begins cX12_begins 2 none 2 0 0 (sp_w JU BB SH 92 wX12_begins_u) := by
  refine am_M.of xX12_begins_uz (by decide +kernel) TB_good GF rfl rfl rfl (by decide) ⟨FT_X12_ok, PT_X12_ok _, CT_X12_ok, KT_X12_ok, LT_X12_ok, NT_X12_ok, ?_⟩ qX12_begins_u
  exact fun _ h => absurd h List.not_mem_nil
