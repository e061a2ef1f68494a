/-! SAFETY WORDS. Printed by wip/am/chk. -/
def LX11_can : List (Nat × Instr × Nat) := [(0, .aload_n 0, 1), (1, .iload_n 1, 1), (2, .iload_n 2, 1), (3, .invokevirtual 168, 3), (6, .ifCond .eq 21, 3), (9, .aload_n 0, 1), (10, .getfield 37, 3), (13, .iconst 3, 1), (14, .iload_n 1, 1), (15, .invokevirtual 135, 3), (18, .iload_n 2, 1), (19, .isub, 1), (20, .invokestatic 172, 3), (23, .iconst 1, 1), (24, .if_icmp .eq 5, 3), (27, .iconst (-1), 1), (28, .ireturn, 1), (29, .aload_n 0, 1), (30, .getfield 56, 3), (33, .aload_n 0, 1), (34, .getfield 37, 3), (37, .iload_n 2, 1), (38, .aload_n 0, 1), (39, .getfield 30, 3), (42, .iload_n 1, 1), (43, .invokevirtual 139, 3), (46, .invokevirtual 177, 3), (49, .ifCond .eq 7, 3), (52, .iconst 1, 1), (53, .goto 4, 3), (56, .iconst 0, 1), (57, .ireturn, 1)]
theorem LX11_can_ok : LX11_can.all (dk_q cX11_can) = true := by decide +kernel
def wX11_can : List sa_A := [([.inr (.inl 0), .inl ((-2147483648), 2147483647), .inl ((-2147483648), 2147483647)], [(some (.inl ((-1), 1)), [])], [(25, 0, 9), (26, 0, 24)])]
def eX11_can : List (List sa_K) := [[]]
def CX11_can : sa_C := [(135, 0, 3, 4, wX4_of), (139, 0, 2, 9, wX9_widthOf), (168, 0, 3, 11, wX11_areThere), (177, 0, 4, 0, wX0_fits)]
def xX11_canz : am_X := (SH, KF, (some .int), FT_X11, PT_X11, CT_X11, KT_X11, LT_X11, NT_X11, s_ML CX11_can)
theorem qX11_can : am_B cX11_can xX11_canz 3 0 (sp_w JJ BB SH 92 wX11_can) := s_chk_ok (X := xX11_canz) (CS := CX11_can) (Fk := ([], GG)) (fuel := 2000) (info := wX11_can.zip eX11_can) rfl (s_ML_ok rfl rfl) (JJ_fr (by decide +kernel)) JJ_G (dk_D_ok LX11_can_ok) (by decide +kernel)
theorem nX11_can (l : Launch) : am_M l TB NB vwCl SH KF yX11_can cX11_can 3 (some .int) 6 0 0 (sp_w JJ BB SH 92 wX11_can) := by
  refine am_M.of xX11_canz (by decide +kernel) TB_good GF rfl rfl rfl (by decide) ⟨FT_X11_ok, PT_X11_ok _, CT_X11_ok, KT_X11_ok, LT_X11_ok, NT_X11_ok, ?_⟩ qX11_can
  exact List.forall_mem_cons.mpr ⟨⟨yX4_of, cX4_of, 3, (some .int), 3, 2, nX4_of l, by decide, by decide, tk_702, tk_112, ⟨by decide +kernel, by decide +kernel, by decide +kernel⟩, rfl, tk_699, tk_700, ⟨(RX4, TX4, 1), rfl, tk_701⟩⟩, List.forall_mem_cons.mpr ⟨⟨yX9_widthOf, cX9_widthOf, 2, (some .int), 3, 1, nX9_widthOf l, by decide, by decide, tk_707, tk_105, ⟨by decide +kernel, by decide +kernel, by decide +kernel⟩, rfl, tk_704, tk_705, ⟨(RX9, TX9, 8), rfl, tk_706⟩⟩, List.forall_mem_cons.mpr ⟨⟨yX11_areThere, cX11_areThere, 3, (some .boolean), 3, 2, nX11_areThere l, by decide, by decide, tk_781, tk_103, ⟨by decide +kernel, by decide +kernel, by decide +kernel⟩, rfl, tk_778, tk_780, ⟨(RX11, TX11, 14), rfl, tb_at 15 (by decide +kernel) (by decide +kernel)⟩⟩, List.forall_mem_cons.mpr ⟨⟨yX0_fits, cX0_fits, 4, (some .boolean), 5, 3, nX0_fits l, by decide, by decide, tk_788, tk_114, ⟨by decide +kernel, by decide +kernel, by decide +kernel⟩, rfl, tk_785, tk_786, ⟨(RX0, TX0, 2), rfl, tk_787⟩⟩, fun _ h => absurd h List.not_mem_nil⟩⟩⟩⟩
def LX3_peopleOn : List (Nat × Instr × Nat) := [(0, .iconst 0, 1), (1, .istore_n 3, 1), (2, .iconst 0, 1), (3, .istore 4, 2), (5, .iload 4, 2), (7, .aload_n 0, 1), (8, .getfield 9, 3), (11, .getfield 19, 3), (14, .if_icmp .ge 27, 3), (17, .aload_n 1, 1), (18, .iconst 3, 1), (19, .iload 4, 2), (21, .invokevirtual 27, 3), (24, .iload_n 2, 1), (25, .if_icmp .ne 10, 3), (28, .iload_n 3, 1), (29, .iconst 1, 1), (30, .iload 4, 2), (32, .ishl, 1), (33, .ior, 1), (34, .istore_n 3, 1), (35, .iinc 4 1, 3), (38, .goto (-33), 3), (41, .iload_n 3, 1), (42, .ireturn, 1)]
theorem LX3_peopleOn_ok : LX3_peopleOn.all (dk_q cX3_peopleOn) = true := by decide +kernel
def wX3_peopleOn : List sa_A := [([.inr (.inl 43), .inr (.inl 31), .inl (0, 11)], [(some (.inl ((-2147483648), 2147483647)), [])], [])]
def eX3_peopleOn : List (List sa_K) := [[(5, 5, [some (.inr (.inl 43)), some (.inr (.inl 31)), some (.inl (0, 11)), some (.inl ((-2147483648), 2147483647)), some (.inl (0, 5))], [(0, 999), (1, 4), (0, 1000)], [])]]
def CX3_peopleOn : sa_C := [(27, 0, 3, 4, wX4_of)]
def xX3_peopleOnz : am_X := (SH, KF, (some .int), FT_X3, PT_X3, CT_X3, KT_X3, LT_X3, NT_X3, s_ML CX3_peopleOn)
theorem qX3_peopleOn : am_B cX3_peopleOn xX3_peopleOnz 5 0 (sp_w JJ BB SH 92 wX3_peopleOn) := s_chk_ok (X := xX3_peopleOnz) (CS := CX3_peopleOn) (Fk := ([], GG)) (fuel := 2000) (info := wX3_peopleOn.zip eX3_peopleOn) rfl (s_ML_ok rfl rfl) (JJ_fr (by decide +kernel)) JJ_G (dk_D_ok LX3_peopleOn_ok) (by decide +kernel)
theorem nX3_peopleOn (l : Launch) : am_M l TB NB vwCl SH KF yX3_peopleOn cX3_peopleOn 5 (some .int) 4 0 0 (sp_w JJ BB SH 92 wX3_peopleOn) := by
  refine am_M.of xX3_peopleOnz (by decide +kernel) TB_good GF rfl rfl rfl (by decide) ⟨FT_X3_ok, PT_X3_ok _, CT_X3_ok, KT_X3_ok, LT_X3_ok, NT_X3_ok, ?_⟩ qX3_peopleOn
  exact List.forall_mem_cons.mpr ⟨⟨yX4_of, cX4_of, 3, (some .int), 3, 2, nX4_of l, by decide, by decide, tk_702, tk_112, ⟨by decide +kernel, by decide +kernel, by decide +kernel⟩, rfl, tk_761, tk_700, ⟨(RX4, TX4, 1), rfl, tk_701⟩⟩, fun _ h => absurd h List.not_mem_nil⟩
def LX3_empty : List (Nat × Instr × Nat) := [(0, .iconst 0, 1), (1, .istore_n 2, 1), (2, .iconst 0, 1), (3, .istore_n 3, 1), (4, .iload_n 3, 1), (5, .aload_n 0, 1), (6, .getfield 9, 3), (9, .getfield 31, 3), (12, .if_icmp .ge 24, 3), (15, .aload_n 0, 1), (16, .aload_n 1, 1), (17, .iload_n 3, 1), (18, .invokevirtual 43, 3), (21, .ifCond .ne 9, 3), (24, .iload_n 2, 1), (25, .iconst 1, 1), (26, .iload_n 3, 1), (27, .ishl, 1), (28, .ior, 1), (29, .istore_n 2, 1), (30, .iinc 3 1, 3), (33, .goto (-29), 3), (36, .iload_n 2, 1), (37, .ireturn, 1)]
theorem LX3_empty_ok : LX3_empty.all (dk_q cX3_empty) = true := by decide +kernel
def wX3_empty : List sa_A := [([.inr (.inl 43), .inr (.inl 31)], [(some (.inl ((-2147483648), 2147483647)), [])], [])]
def eX3_empty : List (List sa_K) := [[(4, 4, [some (.inr (.inl 43)), some (.inr (.inl 31)), some (.inl ((-2147483648), 2147483647)), some (.inl (0, 12))], [(0, 999), (1, 3), (0, 1000)], [])]]
def CX3_empty : sa_C := [(43, 0, 3, 3, wX3_peopleOn)]
def xX3_emptyz : am_X := (SH, KF, (some .int), FT_X3, PT_X3, CT_X3, KT_X3, LT_X3, NT_X3, s_ML CX3_empty)
theorem qX3_empty : am_B cX3_empty xX3_emptyz 4 0 (sp_w JJ BB SH 92 wX3_empty) := s_chk_ok (X := xX3_emptyz) (CS := CX3_empty) (Fk := ([], GG)) (fuel := 2000) (info := wX3_empty.zip eX3_empty) rfl (s_ML_ok rfl rfl) (JJ_fr (by decide +kernel)) JJ_G (dk_D_ok LX3_empty_ok) (by decide +kernel)
theorem nX3_empty (l : Launch) : am_M l TB NB vwCl SH KF yX3_empty cX3_empty 4 (some .int) 5 0 0 (sp_w JJ BB SH 92 wX3_empty) := by
  refine am_M.of xX3_emptyz (by decide +kernel) TB_good GF rfl rfl rfl (by decide) ⟨FT_X3_ok, PT_X3_ok _, CT_X3_ok, KT_X3_ok, LT_X3_ok, NT_X3_ok, ?_⟩ qX3_empty
  exact List.forall_mem_cons.mpr ⟨⟨yX3_peopleOn, cX3_peopleOn, 5, (some .int), 4, 2, nX3_peopleOn l, by decide, by decide, tk_760, tk_116, ⟨by decide +kernel, by decide +kernel, by decide +kernel⟩, rfl, tk_847, tk_758, ⟨(RX3, TX3, 2), rfl, tk_759⟩⟩, fun _ h => absurd h List.not_mem_nil⟩
def LX3_overfull : List (Nat × Instr × Nat) := [(0, .iconst 0, 1), (1, .istore_n 2, 1), (2, .iconst 0, 1), (3, .istore_n 3, 1), (4, .iload_n 3, 1), (5, .aload_n 0, 1), (6, .getfield 9, 3), (9, .getfield 31, 3), (12, .if_icmp .ge 36, 3), (15, .aload_n 0, 1), (16, .getfield 15, 3), (19, .aload_n 1, 1), (20, .iload_n 3, 1), (21, .invokevirtual 34, 3), (24, .aload_n 0, 1), (25, .getfield 15, 3), (28, .aload_n 1, 1), (29, .iload_n 3, 1), (30, .invokevirtual 40, 3), (33, .if_icmp .le 9, 3), (36, .iload_n 2, 1), (37, .iconst 1, 1), (38, .iload_n 3, 1), (39, .ishl, 1), (40, .ior, 1), (41, .istore_n 2, 1), (42, .iinc 3 1, 3), (45, .goto (-41), 3), (48, .iload_n 2, 1), (49, .ireturn, 1)]
theorem LX3_overfull_ok : LX3_overfull.all (dk_q cX3_overfull) = true := by decide +kernel
def wX3_overfull : List sa_A := [([.inr (.inl 43), .inr (.inl 31)], [(some (.inl ((-2147483648), 2147483647)), [])], [(25, 0, 9), (26, 0, 24)])]
def eX3_overfull : List (List sa_K) := [[(4, 4, [some (.inr (.inl 43)), some (.inr (.inl 31)), some (.inl ((-2147483648), 2147483647)), some (.inl (0, 12))], [(0, 999), (1, 3), (0, 1000)], [])]]
def CX3_overfull : sa_C := [(34, 0, 3, 0, wX0_widthsOn), (40, 0, 3, 0, wX0_roomOf)]
def xX3_overfullz : am_X := (SH, KF, (some .int), FT_X3, PT_X3, CT_X3, KT_X3, LT_X3, NT_X3, s_ML CX3_overfull)
theorem qX3_overfull : am_B cX3_overfull xX3_overfullz 4 0 (sp_w JJ BB SH 92 wX3_overfull) := s_chk_ok (X := xX3_overfullz) (CS := CX3_overfull) (Fk := ([], GG)) (fuel := 2000) (info := wX3_overfull.zip eX3_overfull) rfl (s_ML_ok rfl rfl) (JJ_fr (by decide +kernel)) JJ_G (dk_D_ok LX3_overfull_ok) (by decide +kernel)
theorem nX3_overfull (l : Launch) : am_M l TB NB vwCl SH KF yX3_overfull cX3_overfull 4 (some .int) 5 0 0 (sp_w JJ BB SH 92 wX3_overfull) := by
  refine am_M.of xX3_overfullz (by decide +kernel) TB_good GF rfl rfl rfl (by decide) ⟨FT_X3_ok, PT_X3_ok _, CT_X3_ok, KT_X3_ok, LT_X3_ok, NT_X3_ok, ?_⟩ qX3_overfull
  exact List.forall_mem_cons.mpr ⟨⟨yX0_widthsOn, cX0_widthsOn, 5, (some .int), 4, 2, nX0_widthsOn l, by decide, by decide, tk_754, tk_114, ⟨by decide +kernel, by decide +kernel, by decide +kernel⟩, rfl, tk_841, tk_752, ⟨(RX0, TX0, 2), rfl, tk_753⟩⟩, List.forall_mem_cons.mpr ⟨⟨yX0_roomOf, cX0_roomOf, 3, (some .int), 4, 2, nX0_roomOf l, by decide, by decide, tk_724, tk_114, ⟨by decide +kernel, by decide +kernel, by decide +kernel⟩, rfl, tk_842, tk_722, ⟨(RX0, TX0, 2), rfl, tk_723⟩⟩, fun _ h => absurd h List.not_mem_nil⟩⟩
def LX3_peopleWithGoal : List (Nat × Instr × Nat) := [(0, .iconst 0, 1), (1, .istore_n 2, 1), (2, .iconst 0, 1), (3, .istore_n 3, 1), (4, .iload_n 3, 1), (5, .aload_n 0, 1), (6, .getfield 9, 3), (9, .getfield 19, 3), (12, .if_icmp .ge 27, 3), (15, .aload_n 1, 1), (16, .bipush 8, 2), (18, .iload_n 3, 1), (19, .invokevirtual 27, 3), (22, .bipush (-2), 2), (24, .if_icmp .eq 9, 3), (27, .iload_n 2, 1), (28, .iconst 1, 1), (29, .iload_n 3, 1), (30, .ishl, 1), (31, .ior, 1), (32, .istore_n 2, 1), (33, .iinc 3 1, 3), (36, .goto (-32), 3), (39, .iload_n 2, 1), (40, .ireturn, 1)]
theorem LX3_peopleWithGoal_ok : LX3_peopleWithGoal.all (dk_q cX3_peopleWithGoal) = true := by decide +kernel
def wX3_peopleWithGoal : List sa_A := [([.inr (.inl 43), .inr (.inl 31)], [(some (.inl ((-2147483648), 2147483647)), [])], [])]
def eX3_peopleWithGoal : List (List sa_K) := [[(4, 4, [some (.inr (.inl 43)), some (.inr (.inl 31)), some (.inl ((-2147483648), 2147483647)), some (.inl (0, 5))], [(0, 999), (1, 3), (0, 1000)], [])]]
def CX3_peopleWithGoal : sa_C := [(27, 0, 3, 4, wX4_of)]
def xX3_peopleWithGoalz : am_X := (SH, KF, (some .int), FT_X3, PT_X3, CT_X3, KT_X3, LT_X3, NT_X3, s_ML CX3_peopleWithGoal)
theorem qX3_peopleWithGoal : am_B cX3_peopleWithGoal xX3_peopleWithGoalz 4 0 (sp_w JJ BB SH 92 wX3_peopleWithGoal) := s_chk_ok (X := xX3_peopleWithGoalz) (CS := CX3_peopleWithGoal) (Fk := ([], GG)) (fuel := 2000) (info := wX3_peopleWithGoal.zip eX3_peopleWithGoal) rfl (s_ML_ok rfl rfl) (JJ_fr (by decide +kernel)) JJ_G (dk_D_ok LX3_peopleWithGoal_ok) (by decide +kernel)
theorem nX3_peopleWithGoal (l : Launch) : am_M l TB NB vwCl SH KF yX3_peopleWithGoal cX3_peopleWithGoal 4 (some .int) 4 0 0 (sp_w JJ BB SH 92 wX3_peopleWithGoal) := by
  refine am_M.of xX3_peopleWithGoalz (by decide +kernel) TB_good GF rfl rfl rfl (by decide) ⟨FT_X3_ok, PT_X3_ok _, CT_X3_ok, KT_X3_ok, LT_X3_ok, NT_X3_ok, ?_⟩ qX3_peopleWithGoal
  exact List.forall_mem_cons.mpr ⟨⟨yX4_of, cX4_of, 3, (some .int), 3, 2, nX4_of l, by decide, by decide, tk_702, tk_112, ⟨by decide +kernel, by decide +kernel, by decide +kernel⟩, rfl, tk_761, tk_700, ⟨(RX4, TX4, 1), rfl, tk_701⟩⟩, fun _ h => absurd h List.not_mem_nil⟩
def LX4_broken : List (Nat × Instr × Nat) := [(0, .aload_n 0, 1), (1, .getfield 11, 3), (4, .iconst 2, 1), (5, .iaload, 1), (6, .ireturn, 1)]
theorem LX4_broken_ok : LX4_broken.all (dk_q cX4_broken) = true := by decide +kernel
def wX4_broken : List sa_A := [([.inr (.inl 31)], [(some (.inl ((-2147483648), 2147483647)), [])], []), ([.inr (.inl 33)], [(some (.inl ((-2147483648), 2147483647)), [])], [])]
def eX4_broken : List (List sa_K) := [[], []]
def CX4_broken : sa_C := []
def xX4_brokenz : am_X := (SH, KF, (some .int), FT_X4, PT_X4, CT_X4, KT_X4, LT_X4, NT_X4, s_ML CX4_broken)
theorem qX4_broken : am_B cX4_broken xX4_brokenz 1 0 (sp_w JJ BB SH 92 wX4_broken) := s_chk_ok (X := xX4_brokenz) (CS := CX4_broken) (Fk := ([], GG)) (fuel := 2000) (info := wX4_broken.zip eX4_broken) rfl (s_ML_ok rfl rfl) (JJ_fr (by decide +kernel)) JJ_G (dk_D_ok LX4_broken_ok) (by decide +kernel)
theorem nX4_broken (l : Launch) : am_M l TB NB vwCl SH KF yX4_broken cX4_broken 1 (some .int) 2 0 0 (sp_w JJ BB SH 92 wX4_broken) := by
  refine am_M.of xX4_brokenz (by decide +kernel) TB_good GF rfl rfl rfl (by decide) ⟨FT_X4_ok, PT_X4_ok _, CT_X4_ok, KT_X4_ok, LT_X4_ok, NT_X4_ok, ?_⟩ qX4_broken
  exact fun _ h => absurd h List.not_mem_nil
def LX4_quarrels : List (Nat × Instr × Nat) := [(0, .aload_n 0, 1), (1, .getfield 11, 3), (4, .iconst 1, 1), (5, .iaload, 1), (6, .ireturn, 1)]
theorem LX4_quarrels_ok : LX4_quarrels.all (dk_q cX4_quarrels) = true := by decide +kernel
def wX4_quarrels : List sa_A := [([.inr (.inl 31)], [(some (.inl ((-2147483648), 2147483647)), [])], []), ([.inr (.inl 33)], [(some (.inl ((-2147483648), 2147483647)), [])], [])]
def eX4_quarrels : List (List sa_K) := [[], []]
def CX4_quarrels : sa_C := []
def xX4_quarrelsz : am_X := (SH, KF, (some .int), FT_X4, PT_X4, CT_X4, KT_X4, LT_X4, NT_X4, s_ML CX4_quarrels)
theorem qX4_quarrels : am_B cX4_quarrels xX4_quarrelsz 1 0 (sp_w JJ BB SH 92 wX4_quarrels) := s_chk_ok (X := xX4_quarrelsz) (CS := CX4_quarrels) (Fk := ([], GG)) (fuel := 2000) (info := wX4_quarrels.zip eX4_quarrels) rfl (s_ML_ok rfl rfl) (JJ_fr (by decide +kernel)) JJ_G (dk_D_ok LX4_quarrels_ok) (by decide +kernel)
theorem nX4_quarrels (l : Launch) : am_M l TB NB vwCl SH KF yX4_quarrels cX4_quarrels 1 (some .int) 2 0 0 (sp_w JJ BB SH 92 wX4_quarrels) := by
  refine am_M.of xX4_quarrelsz (by decide +kernel) TB_good GF rfl rfl rfl (by decide) ⟨FT_X4_ok, PT_X4_ok _, CT_X4_ok, KT_X4_ok, LT_X4_ok, NT_X4_ok, ?_⟩ qX4_quarrels
  exact fun _ h => absurd h List.not_mem_nil
def LX4_sumOf : List (Nat × Instr × Nat) := [(0, .iconst 0, 1), (1, .istore_n 2, 1), (2, .iconst 0, 1), (3, .istore_n 3, 1), (4, .iload_n 3, 1), (5, .iconst 5, 1), (6, .if_icmp .ge 18, 3), (9, .iload_n 2, 1), (10, .aload_n 0, 1), (11, .iload_n 1, 1), (12, .iload_n 3, 1), (13, .invokevirtual 41, 3), (16, .iadd, 1), (17, .istore_n 2, 1), (18, .iinc 3 1, 3), (21, .goto (-17), 3), (24, .iload_n 2, 1), (25, .ireturn, 1)]
theorem LX4_sumOf_ok : LX4_sumOf.all (dk_q cX4_sumOf) = true := by decide +kernel
def wX4_sumOf : List sa_A := [([.inr (.inl 31), .inl (13, 23)], [(some (.inl ((-2147483648), 2147483647)), [])], [])]
def eX4_sumOf : List (List sa_K) := [[(4, 4, [some (.inr (.inl 31)), some (.inl (13, 23)), some (.inl ((-2147483648), 2147483647)), some (.inl (0, 5))], [(0, 999), (1, 3), (0, 1000)], [])]]
def CX4_sumOf : sa_C := [(41, 0, 3, 4, wX4_of)]
def xX4_sumOfz : am_X := (SH, KF, (some .int), FT_X4, PT_X4, CT_X4, KT_X4, LT_X4, NT_X4, s_ML CX4_sumOf)
theorem qX4_sumOf : am_B cX4_sumOf xX4_sumOfz 4 0 (sp_w JJ BB SH 92 wX4_sumOf) := s_chk_ok (X := xX4_sumOfz) (CS := CX4_sumOf) (Fk := ([], GG)) (fuel := 2000) (info := wX4_sumOf.zip eX4_sumOf) rfl (s_ML_ok rfl rfl) (JJ_fr (by decide +kernel)) JJ_G (dk_D_ok LX4_sumOf_ok) (by decide +kernel)
theorem nX4_sumOf (l : Launch) : am_M l TB NB vwCl SH KF yX4_sumOf cX4_sumOf 4 (some .int) 4 0 0 (sp_w JJ BB SH 92 wX4_sumOf) := by
  refine am_M.of xX4_sumOfz (by decide +kernel) TB_good GF rfl rfl rfl (by decide) ⟨FT_X4_ok, PT_X4_ok _, CT_X4_ok, KT_X4_ok, LT_X4_ok, NT_X4_ok, ?_⟩ qX4_sumOf
  exact List.forall_mem_cons.mpr ⟨⟨yX4_of, cX4_of, 3, (some .int), 3, 2, nX4_of l, by decide, by decide, tk_702, tk_112, ⟨by decide +kernel, by decide +kernel, by decide +kernel⟩, rfl, tk_813, tk_700, ⟨(RX4, TX4, 1), rfl, tk_701⟩⟩, fun _ h => absurd h List.not_mem_nil⟩
def LX7_filledSlots : List (Nat × Instr × Nat) := [(0, .aload_n 0, 1), (1, .getfield 25, 3), (4, .invokestatic 28, 3), (7, .ireturn, 1)]
theorem LX7_filledSlots_ok : LX7_filledSlots.all (dk_q cX7_filledSlots) = true := by decide +kernel
def wX7_filledSlots : List sa_A := [([.inr (.inl 35)], [(some (.inl (0, 63)), [])], [])]
def eX7_filledSlots : List (List sa_K) := [[]]
def CX7_filledSlots : sa_C := [(28, 1, 1, 99, wJ6_bitCount_0f7a4)]
def xX7_filledSlotsz : am_X := (SH, KF, (some .int), FT_X7, PT_X7, CT_X7, KT_X7, LT_X7, NT_X7, s_ML CX7_filledSlots)
theorem qX7_filledSlots : am_B cX7_filledSlots xX7_filledSlotsz 1 0 (sp_w JJ BB SH 92 wX7_filledSlots) := s_chk_ok (X := xX7_filledSlotsz) (CS := CX7_filledSlots) (Fk := ([], GG)) (fuel := 2000) (info := wX7_filledSlots.zip eX7_filledSlots) rfl (s_ML_ok rfl rfl) (JJ_fr (by decide +kernel)) JJ_G (dk_D_ok LX7_filledSlots_ok) (by decide +kernel)
theorem nX7_filledSlots (l : Launch) : am_M l TB NB vwCl SH KF yX7_filledSlots cX7_filledSlots 1 (some .int) 3 0 0 (sp_w JJ BB SH 92 wX7_filledSlots) := by
  refine am_M.of xX7_filledSlotsz (by decide +kernel) TB_good GF rfl rfl rfl (by decide) ⟨FT_X7_ok, PT_X7_ok _, CT_X7_ok, KT_X7_ok, LT_X7_ok, NT_X7_ok, ?_⟩ qX7_filledSlots
  exact List.forall_mem_cons.mpr ⟨⟨yJ6_bitCount_0f7a4, cJ6_bitCount_0f7a4, 1, (some .int), 2, 1, nJ6_bitCount_0f7a4 l, by decide, by decide, tk_828, tk_123, ⟨by decide +kernel, by decide +kernel, by decide +kernel⟩, rfl, tk_826, tk_827⟩, fun _ h => absurd h List.not_mem_nil⟩
def LX7_undoable : List (Nat × Instr × Nat) := [(0, .aload_n 0, 1), (1, .getfield 22, 3), (4, .ireturn, 1)]
theorem LX7_undoable_ok : LX7_undoable.all (dk_q cX7_undoable) = true := by decide +kernel
def wX7_undoable : List sa_A := [([.inr (.inl 35)], [(some (.inl ((-2147483648), 2147483647)), [])], [])]
def eX7_undoable : List (List sa_K) := [[]]
def CX7_undoable : sa_C := []
def xX7_undoablez : am_X := (SH, KF, (some .int), FT_X7, PT_X7, CT_X7, KT_X7, LT_X7, NT_X7, s_ML CX7_undoable)
theorem qX7_undoable : am_B cX7_undoable xX7_undoablez 1 0 (sp_w JJ BB SH 92 wX7_undoable) := s_chk_ok (X := xX7_undoablez) (CS := CX7_undoable) (Fk := ([], GG)) (fuel := 2000) (info := wX7_undoable.zip eX7_undoable) rfl (s_ML_ok rfl rfl) (JJ_fr (by decide +kernel)) JJ_G (dk_D_ok LX7_undoable_ok) (by decide +kernel)
theorem nX7_undoable (l : Launch) : am_M l TB NB vwCl SH KF yX7_undoable cX7_undoable 1 (some .int) 2 0 0 (sp_w JJ BB SH 92 wX7_undoable) := by
  refine am_M.of xX7_undoablez (by decide +kernel) TB_good GF rfl rfl rfl (by decide) ⟨FT_X7_ok, PT_X7_ok _, CT_X7_ok, KT_X7_ok, LT_X7_ok, NT_X7_ok, ?_⟩ qX7_undoable
  exact fun _ h => absurd h List.not_mem_nil
def LX9_sumOfThirst : List (Nat × Instr × Nat) := [(0, .iconst 0, 1), (1, .istore_n 1, 1), (2, .iconst 0, 1), (3, .istore_n 2, 1), (4, .iload_n 2, 1), (5, .aload_n 0, 1), (6, .getfield 15, 3), (9, .if_icmp .ge 17, 3), (12, .iload_n 1, 1), (13, .aload_n 0, 1), (14, .iload_n 2, 1), (15, .invokevirtual 69, 3), (18, .iadd, 1), (19, .istore_n 1, 1), (20, .iinc 2 1, 3), (23, .goto (-19), 3), (26, .iload_n 1, 1), (27, .ireturn, 1)]
theorem LX9_sumOfThirst_ok : LX9_sumOfThirst.all (dk_q cX9_sumOfThirst) = true := by decide +kernel
def wX9_sumOfThirst : List sa_A := [([.inr (.inl 20)], [(some (.inl ((-2147483648), 2147483647)), [])], [])]
def eX9_sumOfThirst : List (List sa_K) := [[(4, 3, [some (.inr (.inl 20)), some (.inl ((-2147483648), 2147483647)), some (.inl (0, 5))], [(0, 999), (1, 2), (0, 1000)], [])]]
def CX9_sumOfThirst : sa_C := [(69, 0, 2, 9, wX9_thirstOf)]
def xX9_sumOfThirstz : am_X := (SH, KF, (some .int), FT_X9, PT_X9, CT_X9, KT_X9, LT_X9, NT_X9, s_ML CX9_sumOfThirst)
theorem qX9_sumOfThirst : am_B cX9_sumOfThirst xX9_sumOfThirstz 3 0 (sp_w JJ BB SH 92 wX9_sumOfThirst) := s_chk_ok (X := xX9_sumOfThirstz) (CS := CX9_sumOfThirst) (Fk := ([], GG)) (fuel := 2000) (info := wX9_sumOfThirst.zip eX9_sumOfThirst) rfl (s_ML_ok rfl rfl) (JJ_fr (by decide +kernel)) JJ_G (dk_D_ok LX9_sumOfThirst_ok) (by decide +kernel)
theorem nX9_sumOfThirst (l : Launch) : am_M l TB NB vwCl SH KF yX9_sumOfThirst cX9_sumOfThirst 3 (some .int) 4 0 0 (sp_w JJ BB SH 92 wX9_sumOfThirst) := by
  refine am_M.of xX9_sumOfThirstz (by decide +kernel) TB_good GF rfl rfl rfl (by decide) ⟨FT_X9_ok, PT_X9_ok _, CT_X9_ok, KT_X9_ok, LT_X9_ok, NT_X9_ok, ?_⟩ qX9_sumOfThirst
  exact List.forall_mem_cons.mpr ⟨⟨yX9_thirstOf, cX9_thirstOf, 2, (some .int), 3, 1, nX9_thirstOf l, by decide, by decide, tk_715, tk_105, ⟨by decide +kernel, by decide +kernel, by decide +kernel⟩, rfl, tk_852, tk_713, ⟨(RX9, TX9, 8), rfl, tk_714⟩⟩, fun _ h => absurd h List.not_mem_nil⟩
def LX9_sumOfWidths : List (Nat × Instr × Nat) := [(0, .iconst 0, 1), (1, .istore_n 1, 1), (2, .iconst 0, 1), (3, .istore_n 2, 1), (4, .iload_n 2, 1), (5, .aload_n 0, 1), (6, .getfield 15, 3), (9, .if_icmp .ge 17, 3), (12, .iload_n 1, 1), (13, .aload_n 0, 1), (14, .iload_n 2, 1), (15, .invokevirtual 66, 3), (18, .iadd, 1), (19, .istore_n 1, 1), (20, .iinc 2 1, 3), (23, .goto (-19), 3), (26, .iload_n 1, 1), (27, .ireturn, 1)]
theorem LX9_sumOfWidths_ok : LX9_sumOfWidths.all (dk_q cX9_sumOfWidths) = true := by decide +kernel
def wX9_sumOfWidths : List sa_A := [([.inr (.inl 20)], [(some (.inl ((-2147483648), 2147483647)), [])], [])]
def eX9_sumOfWidths : List (List sa_K) := [[(4, 3, [some (.inr (.inl 20)), some (.inl ((-2147483648), 2147483647)), some (.inl (0, 5))], [(0, 999), (1, 2), (0, 1000)], [])]]
def CX9_sumOfWidths : sa_C := [(66, 0, 2, 9, wX9_widthOf)]
def xX9_sumOfWidthsz : am_X := (SH, KF, (some .int), FT_X9, PT_X9, CT_X9, KT_X9, LT_X9, NT_X9, s_ML CX9_sumOfWidths)
theorem qX9_sumOfWidths : am_B cX9_sumOfWidths xX9_sumOfWidthsz 3 0 (sp_w JJ BB SH 92 wX9_sumOfWidths) := s_chk_ok (X := xX9_sumOfWidthsz) (CS := CX9_sumOfWidths) (Fk := ([], GG)) (fuel := 2000) (info := wX9_sumOfWidths.zip eX9_sumOfWidths) rfl (s_ML_ok rfl rfl) (JJ_fr (by decide +kernel)) JJ_G (dk_D_ok LX9_sumOfWidths_ok) (by decide +kernel)
theorem nX9_sumOfWidths (l : Launch) : am_M l TB NB vwCl SH KF yX9_sumOfWidths cX9_sumOfWidths 3 (some .int) 4 0 0 (sp_w JJ BB SH 92 wX9_sumOfWidths) := by
  refine am_M.of xX9_sumOfWidthsz (by decide +kernel) TB_good GF rfl rfl rfl (by decide) ⟨FT_X9_ok, PT_X9_ok _, CT_X9_ok, KT_X9_ok, LT_X9_ok, NT_X9_ok, ?_⟩ qX9_sumOfWidths
  exact List.forall_mem_cons.mpr ⟨⟨yX9_widthOf, cX9_widthOf, 2, (some .int), 3, 1, nX9_widthOf l, by decide, by decide, tk_707, tk_105, ⟨by decide +kernel, by decide +kernel, by decide +kernel⟩, rfl, tk_836, tk_705, ⟨(RX9, TX9, 8), rfl, tk_706⟩⟩, fun _ h => absurd h List.not_mem_nil⟩
