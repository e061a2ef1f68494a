/-! SAFETY WORDS of the reference. Printed by wip/am/chk. -/
def LX12_in : List (Nat × Instr × Nat) := [(0, .iload_n 0, 1), (1, .iload_n 1, 1), (2, .if_icmp .lt 12, 3), (5, .iload_n 0, 1), (6, .iload_n 2, 1), (7, .if_icmp .gt 7, 3), (10, .iconst 1, 1), (11, .goto 4, 3), (14, .iconst 0, 1), (15, .ireturn, 1)]
theorem LX12_in_ok : LX12_in.all (dk_q cX12_in) = true := by decide +kernel
def wX12_in : List sa_A := [([.inl ((-2147483648), 2147483647), .inl (0, 0), .inl (1, 1)], [(some (.inl (0, 0)), []), (some (.inl (1, 1)), [(0, 0, 1)])], []), ([.inl ((-2147483648), 2147483647), .inl (0, 0), .inl (11, 11)], [(some (.inl (0, 0)), []), (some (.inl (1, 1)), [(0, 0, 11)])], []), ([.inl ((-2147483648), 2147483647), .inl (0, 0), .inl (12, 12)], [(some (.inl (0, 0)), []), (some (.inl (1, 1)), [(0, 0, 12)])], []), ([.inl ((-2147483648), 2147483647), .inl (0, 0), .inl (2, 2)], [(some (.inl (0, 0)), [(0, (-2147483648), (-1))]), (some (.inl (0, 0)), [(0, 3, 2147483647)]), (some (.inl (1, 1)), [(0, 0, 2)])], []), ([.inl ((-2147483648), 2147483647), .inl (0, 0), .inl (3, 3)], [(some (.inl (0, 0)), []), (some (.inl (1, 1)), [(0, 0, 3)])], []), ([.inl ((-2147483648), 2147483647), .inl (0, 0), .inl (60, 60)], [(some (.inl (0, 0)), []), (some (.inl (1, 1)), [(0, 0, 60)])], []), ([.inl ((-2147483648), 2147483647), .inl (0, 0), .inl (99, 99)], [(some (.inl (0, 0)), []), (some (.inl (1, 1)), [(0, 0, 99)])], []), ([.inl ((-2147483648), 2147483647), .inl (1, 1), .inl (20, 20)], [(some (.inl (0, 0)), []), (some (.inl (1, 1)), [(0, 1, 20)])], []), ([.inl ((-2147483648), 2147483647), .inl (1, 1), .inl (9, 9)], [(some (.inl (0, 0)), []), (some (.inl (1, 1)), [(0, 1, 9)])], []), ([.inl ((-2147483648), 2147483647), .inl (0, 0), .inl ((-1), 4)], [(some (.inl (0, 0)), []), (some (.inl (1, 1)), [(0, 0, 4), (2, 0, 4)])], []), ([.inl ((-2147483648), 2147483647), .inl (0, 0), .inl ((-1), 11)], [(some (.inl (0, 0)), []), (some (.inl (1, 1)), [(0, 0, 11), (2, 0, 11)])], []), ([.inl ((-2147483648), 2147483647), .inl (0, 0), .inl (0, 20)], [(some (.inl (0, 0)), []), (some (.inl (1, 1)), [(0, 0, 20)])], []), ([.inl ((-2147483648), 2147483647), .inl (0, 2147483647), .inl ((-1), 2147483646)], [(some (.inl (0, 0)), []), (some (.inl (1, 1)), [(0, 0, 2147483646), (2, 0, 2147483646)])], []), ([.inl ((-2147483648), 2147483647), .inl ((-2147483647), 2147483647), .inl (0, 2147483647)], [(some (.inl (0, 0)), []), (some (.inl (1, 1)), [(0, (-2147483647), 2147483647)])], [])]
def eX12_in : List (List sa_K) := [[], [], [], [], [], [], [], [], [], [], [], [], [], []]
def CX12_in : sa_C := []
def xX12_inz : am_X := (SH, KF, (some .boolean), FT_X12, PT_X12, CT_X12, KT_X12, LT_X12, NT_X12, s_ML CX12_in)
theorem qX12_in : am_B cX12_in xX12_inz 3 0 (sp_w JJ BB SH 92 wX12_in) := s_chk_ok (X := xX12_inz) (CS := CX12_in) (Fk := ([], GG)) (fuel := 2000) (info := wX12_in.zip eX12_in) rfl (s_ML_ok rfl rfl) (JJ_fr (by decide +kernel)) JJ_G (dk_D_ok LX12_in_ok) (by decide +kernel)
theorem nX12_in (l : Launch) : am_M l TB NB vwCl SH KF yX12_in cX12_in 3 (some .boolean) 2 0 0 (sp_w JJ BB SH 92 wX12_in) := by
  refine am_M.of xX12_inz (by decide +kernel) TB_good GF rfl rfl rfl (by decide) ⟨FT_X12_ok, PT_X12_ok _, CT_X12_ok, KT_X12_ok, LT_X12_ok, NT_X12_ok, ?_⟩ qX12_in
  exact fun _ h => absurd h List.not_mem_nil
def LX12_isPerson : List (Nat × Instr × Nat) := [(0, .iload_n 1, 1), (1, .iconst 0, 1), (2, .aload_n 0, 1), (3, .getfield 46, 3), (6, .aload_n 0, 1), (7, .getfield 221, 3), (10, .iaload, 1), (11, .iconst 1, 1), (12, .isub, 1), (13, .invokestatic 292, 3), (16, .ireturn, 1)]
theorem LX12_isPerson_ok : LX12_isPerson.all (dk_q cX12_isPerson) = true := by decide +kernel
def wX12_isPerson : List sa_A := [([.inr (.inl 51), .inl ((-2147483648), 2147483647)], [(some (.inl (0, 0)), []), (some (.inl (1, 1)), [(1, 0, 4)])], [])]
def eX12_isPerson : List (List sa_K) := [[]]
def CX12_isPerson : sa_C := [(292, 1, 3, 12, wX12_in)]
def xX12_isPersonz : am_X := (SH, KF, (some .boolean), FT_X12, PT_X12, CT_X12, KT_X12, LT_X12, NT_X12, s_ML CX12_isPerson)
theorem qX12_isPerson : am_B cX12_isPerson xX12_isPersonz 2 0 (sp_w JJ BB SH 92 wX12_isPerson) := s_chk_ok (X := xX12_isPersonz) (CS := CX12_isPerson) (Fk := ([], GG)) (fuel := 2000) (info := wX12_isPerson.zip eX12_isPerson) rfl (s_ML_ok rfl rfl) (JJ_fr (by decide +kernel)) JJ_G (dk_D_ok LX12_isPerson_ok) (by decide +kernel)
theorem nX12_isPerson (l : Launch) : am_M l TB NB vwCl SH KF yX12_isPerson cX12_isPerson 2 (some .boolean) 3 0 0 (sp_w JJ BB SH 92 wX12_isPerson) := by
  refine am_M.of xX12_isPersonz (by decide +kernel) TB_good GF rfl rfl rfl (by decide) ⟨FT_X12_ok, PT_X12_ok _, CT_X12_ok, KT_X12_ok, LT_X12_ok, NT_X12_ok, ?_⟩ qX12_isPerson
  exact List.forall_mem_cons.mpr ⟨⟨yX12_in, cX12_in, 3, (some .boolean), 2, 3, nX12_in l, by decide, by decide, tk_1621, tk_120, ⟨by decide +kernel, by decide +kernel, by decide +kernel⟩, rfl, tk_1619, tk_1620⟩, fun _ h => absurd h List.not_mem_nil⟩
def LX12_above : List (Nat × Instr × Nat) := [(0, .aload_n 0, 1), (1, .iload_n 1, 1), (2, .invokevirtual 378, 3), (5, .ifCond .ne 5, 3), (8, .iconst (-1), 1), (9, .ireturn, 1), (10, .iconst 0, 1), (11, .istore_n 2, 1), (12, .iconst 0, 1), (13, .istore_n 3, 1), (14, .iload_n 3, 1), (15, .aload_n 0, 1), (16, .getfield 46, 3), (19, .aload_n 0, 1), (20, .getfield 221, 3), (23, .iaload, 1), (24, .if_icmp .ge 30, 3), (27, .aload_n 0, 1), (28, .getfield 101, 3), (31, .iload_n 3, 1), (32, .iaload, 1), (33, .aload_n 0, 1), (34, .getfield 101, 3), (37, .iload_n 1, 1), (38, .iaload, 1), (39, .if_icmp .ge 9, 3), (42, .iload_n 2, 1), (43, .iconst 1, 1), (44, .iload_n 3, 1), (45, .ishl, 1), (46, .ior, 1), (47, .istore_n 2, 1), (48, .iinc 3 1, 3), (51, .goto (-37), 3), (54, .iload_n 2, 1), (55, .ireturn, 1)]
theorem LX12_above_ok : LX12_above.all (dk_q cX12_above) = true := by decide +kernel
def wX12_above : List sa_A := [([.inr (.inl 51), .inl ((-2147483648), 2147483647)], [(some (.inl ((-2147483648), 2147483647)), [])], [])]
def eX12_above : List (List sa_K) := [[(14, 4, [some (.inr (.inl 51)), some (.inl (0, 4)), some (.inl ((-2147483648), 2147483647)), some (.inl (0, 5))], [(0, 999), (1, 3), (0, 1000)], [])]]
def CX12_above : sa_C := [(378, 0, 2, 12, wX12_isPerson)]
def xX12_abovez : am_X := (SH, KF, (some .int), FT_X12, PT_X12, CT_X12, KT_X12, LT_X12, NT_X12, s_ML CX12_above)
theorem qX12_above : am_B cX12_above xX12_abovez 4 0 (sp_w JJ BB SH 92 wX12_above) := s_chk_ok (X := xX12_abovez) (CS := CX12_above) (Fk := ([], GG)) (fuel := 2000) (info := wX12_above.zip eX12_above) rfl (s_ML_ok rfl rfl) (JJ_fr (by decide +kernel)) JJ_G (dk_D_ok LX12_above_ok) (by decide +kernel)
theorem nX12_above (l : Launch) : am_M l TB NB vwCl SH KF yX12_above cX12_above 4 (some .int) 4 0 0 (sp_w JJ BB SH 92 wX12_above) := by
  refine am_M.of xX12_abovez (by decide +kernel) TB_good GF rfl rfl rfl (by decide) ⟨FT_X12_ok, PT_X12_ok _, CT_X12_ok, KT_X12_ok, LT_X12_ok, NT_X12_ok, ?_⟩ qX12_above
  exact List.forall_mem_cons.mpr ⟨⟨yX12_isPerson, cX12_isPerson, 2, (some .boolean), 3, 1, nX12_isPerson l, by decide, by decide, tk_1618, tk_120, ⟨by decide +kernel, by decide +kernel, by decide +kernel⟩, rfl, tk_1615, tk_1617, ⟨(RX12, TX12, 63), rfl, tb_at 61 (by decide +kernel) (by decide +kernel)⟩⟩, fun _ h => absurd h List.not_mem_nil⟩
def LX12_isRung : List (Nat × Instr × Nat) := [(0, .iload_n 1, 1), (1, .iconst 0, 1), (2, .aload_n 0, 1), (3, .getfield 43, 3), (6, .aload_n 0, 1), (7, .getfield 221, 3), (10, .iaload, 1), (11, .iconst 1, 1), (12, .isub, 1), (13, .invokestatic 292, 3), (16, .ireturn, 1)]
theorem LX12_isRung_ok : LX12_isRung.all (dk_q cX12_isRung) = true := by decide +kernel
def wX12_isRung : List sa_A := [([.inr (.inl 51), .inl ((-2147483648), 2147483647)], [(some (.inl (0, 0)), []), (some (.inl (1, 1)), [(1, 0, 11)])], [])]
def eX12_isRung : List (List sa_K) := [[]]
def CX12_isRung : sa_C := [(292, 1, 3, 12, wX12_in)]
def xX12_isRungz : am_X := (SH, KF, (some .boolean), FT_X12, PT_X12, CT_X12, KT_X12, LT_X12, NT_X12, s_ML CX12_isRung)
theorem qX12_isRung : am_B cX12_isRung xX12_isRungz 2 0 (sp_w JJ BB SH 92 wX12_isRung) := s_chk_ok (X := xX12_isRungz) (CS := CX12_isRung) (Fk := ([], GG)) (fuel := 2000) (info := wX12_isRung.zip eX12_isRung) rfl (s_ML_ok rfl rfl) (JJ_fr (by decide +kernel)) JJ_G (dk_D_ok LX12_isRung_ok) (by decide +kernel)
theorem nX12_isRung (l : Launch) : am_M l TB NB vwCl SH KF yX12_isRung cX12_isRung 2 (some .boolean) 3 0 0 (sp_w JJ BB SH 92 wX12_isRung) := by
  refine am_M.of xX12_isRungz (by decide +kernel) TB_good GF rfl rfl rfl (by decide) ⟨FT_X12_ok, PT_X12_ok _, CT_X12_ok, KT_X12_ok, LT_X12_ok, NT_X12_ok, ?_⟩ qX12_isRung
  exact List.forall_mem_cons.mpr ⟨⟨yX12_in, cX12_in, 3, (some .boolean), 2, 3, nX12_in l, by decide, by decide, tk_1621, tk_120, ⟨by decide +kernel, by decide +kernel, by decide +kernel⟩, rfl, tk_1619, tk_1620⟩, fun _ h => absurd h List.not_mem_nil⟩
def LX12_isWhole : List (Nat × Instr × Nat) := [(0, .aload_n 0, 1), (1, .iload_n 1, 1), (2, .invokevirtual 306, 3), (5, .ifCond .eq 19, 3), (8, .aload_n 0, 1), (9, .getfield 104, 3), (12, .bipush 25, 2), (14, .iload_n 1, 1), (15, .iadd, 1), (16, .iaload, 1), (17, .ifCond .ne 7, 3), (20, .iconst 1, 1), (21, .goto 4, 3), (24, .iconst 0, 1), (25, .ireturn, 1)]
theorem LX12_isWhole_ok : LX12_isWhole.all (dk_q cX12_isWhole) = true := by decide +kernel
def wX12_isWhole : List sa_A := [([.inr (.inl 51), .inl ((-2147483648), 2147483647)], [(some (.inl (0, 0)), []), (some (.inl (1, 1)), [(1, 0, 11)])], [])]
def eX12_isWhole : List (List sa_K) := [[]]
def CX12_isWhole : sa_C := [(306, 0, 2, 12, wX12_isRung)]
def xX12_isWholez : am_X := (SH, KF, (some .boolean), FT_X12, PT_X12, CT_X12, KT_X12, LT_X12, NT_X12, s_ML CX12_isWhole)
theorem qX12_isWhole : am_B cX12_isWhole xX12_isWholez 2 0 (sp_w JJ BB SH 92 wX12_isWhole) := s_chk_ok (X := xX12_isWholez) (CS := CX12_isWhole) (Fk := ([], GG)) (fuel := 2000) (info := wX12_isWhole.zip eX12_isWhole) rfl (s_ML_ok rfl rfl) (JJ_fr (by decide +kernel)) JJ_G (dk_D_ok LX12_isWhole_ok) (by decide +kernel)
theorem nX12_isWhole (l : Launch) : am_M l TB NB vwCl SH KF yX12_isWhole cX12_isWhole 2 (some .boolean) 4 0 0 (sp_w JJ BB SH 92 wX12_isWhole) := by
  refine am_M.of xX12_isWholez (by decide +kernel) TB_good GF rfl rfl rfl (by decide) ⟨FT_X12_ok, PT_X12_ok _, CT_X12_ok, KT_X12_ok, LT_X12_ok, NT_X12_ok, ?_⟩ qX12_isWhole
  exact List.forall_mem_cons.mpr ⟨⟨yX12_isRung, cX12_isRung, 2, (some .boolean), 3, 1, nX12_isRung l, by decide, by decide, tk_1633, tk_120, ⟨by decide +kernel, by decide +kernel, by decide +kernel⟩, rfl, tk_1630, tk_1632, ⟨(RX12, TX12, 63), rfl, tb_at 63 (by decide +kernel) (by decide +kernel)⟩⟩, fun _ h => absurd h List.not_mem_nil⟩
def LX12_onRung : List (Nat × Instr × Nat) := [(0, .iconst 0, 1), (1, .istore_n 2, 1), (2, .iconst 0, 1), (3, .istore_n 3, 1), (4, .iload_n 3, 1), (5, .aload_n 0, 1), (6, .getfield 46, 3), (9, .aload_n 0, 1), (10, .getfield 221, 3), (13, .iaload, 1), (14, .if_icmp .ge 25, 3), (17, .aload_n 0, 1), (18, .getfield 104, 3), (21, .iload_n 3, 1), (22, .iaload, 1), (23, .iload_n 1, 1), (24, .if_icmp .ne 9, 3), (27, .iload_n 2, 1), (28, .iconst 1, 1), (29, .iload_n 3, 1), (30, .ishl, 1), (31, .ior, 1), (32, .istore_n 2, 1), (33, .iinc 3 1, 3), (36, .goto (-32), 3), (39, .iload_n 2, 1), (40, .ireturn, 1)]
theorem LX12_onRung_ok : LX12_onRung.all (dk_q cX12_onRung) = true := by decide +kernel
def wX12_onRung : List sa_A := [([.inr (.inl 51), .inl ((-2147483648), 2147483647)], [(some (.inl ((-2147483648), 2147483647)), [])], [])]
def eX12_onRung : List (List sa_K) := [[(4, 4, [some (.inr (.inl 51)), some (.inl ((-2147483648), 2147483647)), some (.inl ((-2147483648), 2147483647)), some (.inl (0, 5))], [(0, 999), (1, 3), (0, 1000)], [])]]
def CX12_onRung : sa_C := []
def xX12_onRungz : am_X := (SH, KF, (some .int), FT_X12, PT_X12, CT_X12, KT_X12, LT_X12, NT_X12, s_ML CX12_onRung)
theorem qX12_onRung : am_B cX12_onRung xX12_onRungz 4 0 (sp_w JJ BB SH 92 wX12_onRung) := s_chk_ok (X := xX12_onRungz) (CS := CX12_onRung) (Fk := ([], GG)) (fuel := 2000) (info := wX12_onRung.zip eX12_onRung) rfl (s_ML_ok rfl rfl) (JJ_fr (by decide +kernel)) JJ_G (dk_D_ok LX12_onRung_ok) (by decide +kernel)
theorem nX12_onRung (l : Launch) : am_M l TB NB vwCl SH KF yX12_onRung cX12_onRung 4 (some .int) 2 0 0 (sp_w JJ BB SH 92 wX12_onRung) := by
  refine am_M.of xX12_onRungz (by decide +kernel) TB_good GF rfl rfl rfl (by decide) ⟨FT_X12_ok, PT_X12_ok _, CT_X12_ok, KT_X12_ok, LT_X12_ok, NT_X12_ok, ?_⟩ qX12_onRung
  exact fun _ h => absurd h List.not_mem_nil
def LX12_looks : List (Nat × Instr × Nat) := [(0, .iconst 0, 1), (1, .istore_n 2, 1), (2, .iload_n 2, 1), (3, .bipush 9, 2), (5, .if_icmp .ge 16, 3), (8, .aload_n 0, 1), (9, .getfield 95, 3), (12, .iload_n 2, 1), (13, .iconst 0, 1), (14, .iastore, 1), (15, .iinc 2 1, 3), (18, .goto (-16), 3), (21, .aload_n 0, 1), (22, .getfield 95, 3), (25, .iconst 0, 1), (26, .iload_n 1, 1), (27, .iastore, 1), (28, .aload_n 0, 1), (29, .getfield 95, 3), (32, .iconst 1, 1), (33, .aload_n 0, 1), (34, .getfield 43, 3), (37, .aload_n 0, 1), (38, .getfield 221, 3), (41, .iaload, 1), (42, .iastore, 1), (43, .aload_n 0, 1), (44, .getfield 95, 3), (47, .iconst 2, 1), (48, .aload_n 0, 1), (49, .getfield 104, 3), (52, .bipush 49, 2), (54, .iaload, 1), (55, .iastore, 1), (56, .return_, 1)]
theorem LX12_looks_ok : LX12_looks.all (dk_q cX12_looks) = true := by decide +kernel
def wX12_looks : List sa_A := [([.inr (.inl 51), .inl ((-2147483648), 2147483647)], [(none, [])], [(77, 0, 9)])]
def eX12_looks : List (List sa_K) := [[(2, 3, [some (.inr (.inl 51)), some (.inl ((-2147483648), 2147483647)), some (.inl (0, 9))], [(0, 999), (1, 2), (0, 1000)], [])]]
def CX12_looks : sa_C := []
def xX12_looksz : am_X := (SH, KF, none, FT_X12, PT_X12, CT_X12, KT_X12, LT_X12, NT_X12, s_ML CX12_looks)
theorem qX12_looks : am_B cX12_looks xX12_looksz 3 0 (sp_w JJ BB SH 92 wX12_looks) := s_chk_ok (X := xX12_looksz) (CS := CX12_looks) (Fk := ([], GG)) (fuel := 2000) (info := wX12_looks.zip eX12_looks) rfl (s_ML_ok rfl rfl) (JJ_fr (by decide +kernel)) JJ_G (dk_D_ok LX12_looks_ok) (by decide +kernel)
theorem nX12_looks (l : Launch) : am_M l TB NB vwCl SH KF yX12_looks cX12_looks 3 none 2 0 0 (sp_w JJ BB SH 92 wX12_looks) := by
  refine am_M.of xX12_looksz (by decide +kernel) TB_good GF rfl rfl rfl (by decide) ⟨FT_X12_ok, PT_X12_ok _, CT_X12_ok, KT_X12_ok, LT_X12_ok, NT_X12_ok, ?_⟩ qX12_looks
  exact fun _ h => absurd h List.not_mem_nil
def LX12_within : List (Nat × Instr × Nat) := [(0, .iload_n 0, 1), (1, .iload_n 1, 1), (2, .if_icmp .ge 7, 3), (5, .iload_n 1, 1), (6, .goto 13, 3), (9, .iload_n 0, 1), (10, .iload_n 2, 1), (11, .if_icmp .le 7, 3), (14, .iload_n 2, 1), (15, .goto 4, 3), (18, .iload_n 0, 1), (19, .ireturn, 1)]
theorem LX12_within_ok : LX12_within.all (dk_q cX12_within) = true := by decide +kernel
def wX12_within : List sa_A := [([.inl ((-2147483648), 2147483647), .inl (0, 0), .inl (100, 100)], [(some (.inl (0, 100)), [])], []), ([.inl ((-2147483648), 2147483647), .inl (0, 0), .inl (99, 99)], [(some (.inl (0, 99)), [])], []), ([.inl ((-2147483648), 2147483647), .inl (0, 0), .inl (99999, 99999)], [(some (.inl (0, 99999)), [])], []), ([.inl ((-2147483648), 2147483647), .inl (0, 0), .inl (0, 99)], [(some (.inl (0, 99)), [])], []), ([.inl ((-2147483648), 2147483647), .inl (0, 0), .inl ((-2147483648), 2147483647)], [(some (.inl ((-2147483648), 2147483647)), [])], [])]
def eX12_within : List (List sa_K) := [[], [], [], [], []]
def CX12_within : sa_C := []
def xX12_withinz : am_X := (SH, KF, (some .int), FT_X12, PT_X12, CT_X12, KT_X12, LT_X12, NT_X12, s_ML CX12_within)
theorem qX12_within : am_B cX12_within xX12_withinz 3 0 (sp_w JJ BB SH 92 wX12_within) := s_chk_ok (X := xX12_withinz) (CS := CX12_within) (Fk := ([], GG)) (fuel := 2000) (info := wX12_within.zip eX12_within) rfl (s_ML_ok rfl rfl) (JJ_fr (by decide +kernel)) JJ_G (dk_D_ok LX12_within_ok) (by decide +kernel)
theorem nX12_within (l : Launch) : am_M l TB NB vwCl SH KF yX12_within cX12_within 3 (some .int) 2 0 0 (sp_w JJ BB SH 92 wX12_within) := by
  refine am_M.of xX12_withinz (by decide +kernel) TB_good GF rfl rfl rfl (by decide) ⟨FT_X12_ok, PT_X12_ok _, CT_X12_ok, KT_X12_ok, LT_X12_ok, NT_X12_ok, ?_⟩ qX12_within
  exact fun _ h => absurd h List.not_mem_nil
def LX12_roomOf : List (Nat × Instr × Nat) := [(0, .aload_n 0, 1), (1, .iload_n 1, 1), (2, .invokevirtual 318, 3), (5, .aload_n 0, 1), (6, .iconst 0, 1), (7, .bipush 9, 2), (9, .invokevirtual 324, 3), (12, .iconst 0, 1), (13, .bipush 99, 2), (15, .invokestatic 327, 3), (18, .ireturn, 1)]
theorem LX12_roomOf_ok : LX12_roomOf.all (dk_q cX12_roomOf) = true := by decide +kernel
def wX12_roomOf : List sa_A := [([.inr (.inl 51), .inl (0, 11)], [(some (.inl (0, 99)), [])], [(51, 44, 45), (77, 0, 9), (78, 0, 400)])]
def eX12_roomOf : List (List sa_K) := [[]]
def CX12_roomOf : sa_C := [(318, 0, 2, 12, wX12_looks), (324, 0, 3, 12, wX12_lawTells), (327, 1, 3, 12, wX12_within)]
def xX12_roomOfz : am_X := (SH, KF, (some .int), FT_X12, PT_X12, CT_X12, KT_X12, LT_X12, NT_X12, s_ML CX12_roomOf)
theorem qX12_roomOf : am_B cX12_roomOf xX12_roomOfz 2 0 (sp_w JJ BB SH 92 wX12_roomOf) := s_chk_ok (X := xX12_roomOfz) (CS := CX12_roomOf) (Fk := ([], GG)) (fuel := 2000) (info := wX12_roomOf.zip eX12_roomOf) rfl (s_ML_ok rfl rfl) (JJ_fr (by decide +kernel)) JJ_G (dk_D_ok LX12_roomOf_ok) (by decide +kernel)
theorem nX12_roomOf (l : Launch) : am_M l TB NB vwCl SH KF yX12_roomOf cX12_roomOf 2 (some .int) 4 0 0 (sp_w JJ BB SH 92 wX12_roomOf) := by
  refine am_M.of xX12_roomOfz (by decide +kernel) TB_good GF rfl rfl rfl (by decide) ⟨FT_X12_ok, PT_X12_ok _, CT_X12_ok, KT_X12_ok, LT_X12_ok, NT_X12_ok, ?_⟩ qX12_roomOf
  exact List.forall_mem_cons.mpr ⟨⟨yX12_looks, cX12_looks, 3, none, 2, 1, nX12_looks l, by decide, by decide, tk_1645, tk_120, ⟨by decide +kernel, by decide +kernel, by decide +kernel⟩, rfl, tk_1642, tk_1644, ⟨(RX12, TX12, 63), rfl, tb_at 66 (by decide +kernel) (by decide +kernel)⟩⟩, List.forall_mem_cons.mpr ⟨⟨yX12_lawTells, cX12_lawTells, 7, (some .int), 3, 2, nX12_lawTells l, by decide, by decide, tk_1649, tk_120, ⟨by decide +kernel, by decide +kernel, by decide +kernel⟩, rfl, tk_1646, tk_1648, ⟨(RX12, TX12, 63), rfl, tb_at 67 (by decide +kernel) (by decide +kernel)⟩⟩, List.forall_mem_cons.mpr ⟨⟨yX12_within, cX12_within, 3, (some .int), 2, 3, nX12_within l, by decide, by decide, tk_1656, tk_120, ⟨by decide +kernel, by decide +kernel, by decide +kernel⟩, rfl, tk_1654, tk_1655⟩, fun _ h => absurd h List.not_mem_nil⟩⟩⟩
def LX12_widthAt : List (Nat × Instr × Nat) := [(0, .aload_n 0, 1), (1, .getfield 52, 3), (4, .iconst 5, 1), (5, .aload_n 0, 1), (6, .getfield 221, 3), (9, .imul, 1), (10, .iload_n 1, 1), (11, .iadd, 1), (12, .iaload, 1), (13, .ireturn, 1)]
theorem LX12_widthAt_ok : LX12_widthAt.all (dk_q cX12_widthAt) = true := by decide +kernel
def wX12_widthAt : List sa_A := [([.inr (.inl 51), .inl (0, 4)], [(some (.inl ((-2147483648), 2147483647)), [])], [])]
def eX12_widthAt : List (List sa_K) := [[]]
def CX12_widthAt : sa_C := []
def xX12_widthAtz : am_X := (SH, KF, (some .int), FT_X12, PT_X12, CT_X12, KT_X12, LT_X12, NT_X12, s_ML CX12_widthAt)
theorem qX12_widthAt : am_B cX12_widthAt xX12_widthAtz 2 0 (sp_w JJ BB SH 92 wX12_widthAt) := s_chk_ok (X := xX12_widthAtz) (CS := CX12_widthAt) (Fk := ([], GG)) (fuel := 2000) (info := wX12_widthAt.zip eX12_widthAt) rfl (s_ML_ok rfl rfl) (JJ_fr (by decide +kernel)) JJ_G (dk_D_ok LX12_widthAt_ok) (by decide +kernel)
theorem nX12_widthAt (l : Launch) : am_M l TB NB vwCl SH KF yX12_widthAt cX12_widthAt 2 (some .int) 2 0 0 (sp_w JJ BB SH 92 wX12_widthAt) := by
  refine am_M.of xX12_widthAtz (by decide +kernel) TB_good GF rfl rfl rfl (by decide) ⟨FT_X12_ok, PT_X12_ok _, CT_X12_ok, KT_X12_ok, LT_X12_ok, NT_X12_ok, ?_⟩ qX12_widthAt
  exact fun _ h => absurd h List.not_mem_nil
def LX12_widthsOf : List (Nat × Instr × Nat) := [(0, .iconst 0, 1), (1, .istore_n 2, 1), (2, .iconst 0, 1), (3, .istore_n 3, 1), (4, .iload_n 3, 1), (5, .aload_n 0, 1), (6, .getfield 46, 3), (9, .aload_n 0, 1), (10, .getfield 221, 3), (13, .iaload, 1), (14, .if_icmp .ge 26, 3), (17, .iload_n 1, 1), (18, .iload_n 3, 1), (19, .ishr, 1), (20, .iconst 1, 1), (21, .iand, 1), (22, .iconst 1, 1), (23, .if_icmp .ne 11, 3), (26, .iload_n 2, 1), (27, .aload_n 0, 1), (28, .iload_n 3, 1), (29, .invokevirtual 309, 3), (32, .iadd, 1), (33, .istore_n 2, 1), (34, .iinc 3 1, 3), (37, .goto (-33), 3), (40, .iload_n 2, 1), (41, .ireturn, 1)]
theorem LX12_widthsOf_ok : LX12_widthsOf.all (dk_q cX12_widthsOf) = true := by decide +kernel
def wX12_widthsOf : List sa_A := [([.inr (.inl 51), .inl ((-2147483648), 2147483647)], [(some (.inl ((-2147483648), 2147483647)), [])], [])]
def eX12_widthsOf : List (List sa_K) := [[(4, 4, [some (.inr (.inl 51)), some (.inl ((-2147483648), 2147483647)), some (.inl ((-2147483648), 2147483647)), some (.inl (0, 5))], [(0, 999), (1, 3), (0, 1000)], [])]]
def CX12_widthsOf : sa_C := [(309, 0, 2, 12, wX12_widthAt)]
def xX12_widthsOfz : am_X := (SH, KF, (some .int), FT_X12, PT_X12, CT_X12, KT_X12, LT_X12, NT_X12, s_ML CX12_widthsOf)
theorem qX12_widthsOf : am_B cX12_widthsOf xX12_widthsOfz 4 0 (sp_w JJ BB SH 92 wX12_widthsOf) := s_chk_ok (X := xX12_widthsOfz) (CS := CX12_widthsOf) (Fk := ([], GG)) (fuel := 2000) (info := wX12_widthsOf.zip eX12_widthsOf) rfl (s_ML_ok rfl rfl) (JJ_fr (by decide +kernel)) JJ_G (dk_D_ok LX12_widthsOf_ok) (by decide +kernel)
theorem nX12_widthsOf (l : Launch) : am_M l TB NB vwCl SH KF yX12_widthsOf cX12_widthsOf 4 (some .int) 3 0 0 (sp_w JJ BB SH 92 wX12_widthsOf) := by
  refine am_M.of xX12_widthsOfz (by decide +kernel) TB_good GF rfl rfl rfl (by decide) ⟨FT_X12_ok, PT_X12_ok _, CT_X12_ok, KT_X12_ok, LT_X12_ok, NT_X12_ok, ?_⟩ qX12_widthsOf
  exact List.forall_mem_cons.mpr ⟨⟨yX12_widthAt, cX12_widthAt, 2, (some .int), 2, 1, nX12_widthAt l, by decide, by decide, tk_1625, tk_120, ⟨by decide +kernel, by decide +kernel, by decide +kernel⟩, rfl, tk_1622, tk_1624, ⟨(RX12, TX12, 63), rfl, tb_at 62 (by decide +kernel) (by decide +kernel)⟩⟩, fun _ h => absurd h List.not_mem_nil⟩
def LX12_hasRoom : List (Nat × Instr × Nat) := [(0, .aload_n 0, 1), (1, .iload_n 1, 1), (2, .invokevirtual 336, 3), (5, .ifCond .eq 30, 3), (8, .aload_n 0, 1), (9, .aload_n 0, 1), (10, .iload_n 1, 1), (11, .invokevirtual 312, 3), (14, .iload_n 3, 1), (15, .iconst (-1), 1), (16, .ixor, 1), (17, .iand, 1), (18, .invokevirtual 315, 3), (21, .iload_n 2, 1), (22, .iadd, 1), (23, .aload_n 0, 1), (24, .iload_n 1, 1), (25, .invokevirtual 339, 3), (28, .if_icmp .gt 7, 3), (31, .iconst 1, 1), (32, .goto 4, 3), (35, .iconst 0, 1), (36, .ireturn, 1)]
theorem LX12_hasRoom_ok : LX12_hasRoom.all (dk_q cX12_hasRoom) = true := by decide +kernel
def wX12_hasRoom : List sa_A := [([.inr (.inl 51), .inl ((-2147483648), 2147483647), .inl ((-2147483648), 2147483647), .inl ((-2147483648), 2147483647)], [(some (.inl (0, 0)), []), (some (.inl (1, 1)), [(1, 0, 11)])], [(51, 44, 45), (77, 0, 9), (78, 0, 400)])]
def eX12_hasRoom : List (List sa_K) := [[]]
def CX12_hasRoom : sa_C := [(312, 0, 2, 12, wX12_onRung), (315, 0, 2, 12, wX12_widthsOf), (336, 0, 2, 12, wX12_isWhole), (339, 0, 2, 12, wX12_roomOf)]
def xX12_hasRoomz : am_X := (SH, KF, (some .boolean), FT_X12, PT_X12, CT_X12, KT_X12, LT_X12, NT_X12, s_ML CX12_hasRoom)
theorem qX12_hasRoom : am_B cX12_hasRoom xX12_hasRoomz 4 0 (sp_w JJ BB SH 92 wX12_hasRoom) := s_chk_ok (X := xX12_hasRoomz) (CS := CX12_hasRoom) (Fk := ([], GG)) (fuel := 2000) (info := wX12_hasRoom.zip eX12_hasRoom) rfl (s_ML_ok rfl rfl) (JJ_fr (by decide +kernel)) JJ_G (dk_D_ok LX12_hasRoom_ok) (by decide +kernel)
theorem nX12_hasRoom (l : Launch) : am_M l TB NB vwCl SH KF yX12_hasRoom cX12_hasRoom 4 (some .boolean) 5 0 0 (sp_w JJ BB SH 92 wX12_hasRoom) := by
  refine am_M.of xX12_hasRoomz (by decide +kernel) TB_good GF rfl rfl rfl (by decide) ⟨FT_X12_ok, PT_X12_ok _, CT_X12_ok, KT_X12_ok, LT_X12_ok, NT_X12_ok, ?_⟩ qX12_hasRoom
  exact List.forall_mem_cons.mpr ⟨⟨yX12_onRung, cX12_onRung, 4, (some .int), 2, 1, nX12_onRung l, by decide, by decide, tk_1664, tk_120, ⟨by decide +kernel, by decide +kernel, by decide +kernel⟩, rfl, tk_1661, tk_1663, ⟨(RX12, TX12, 63), rfl, tb_at 70 (by decide +kernel) (by decide +kernel)⟩⟩, List.forall_mem_cons.mpr ⟨⟨yX12_widthsOf, cX12_widthsOf, 4, (some .int), 3, 1, nX12_widthsOf l, by decide, by decide, tk_1668, tk_120, ⟨by decide +kernel, by decide +kernel, by decide +kernel⟩, rfl, tk_1665, tk_1667, ⟨(RX12, TX12, 63), rfl, tb_at 71 (by decide +kernel) (by decide +kernel)⟩⟩, List.forall_mem_cons.mpr ⟨⟨yX12_isWhole, cX12_isWhole, 2, (some .boolean), 4, 1, nX12_isWhole l, by decide, by decide, tk_1672, tk_120, ⟨by decide +kernel, by decide +kernel, by decide +kernel⟩, rfl, tk_1669, tk_1671, ⟨(RX12, TX12, 63), rfl, tb_at 72 (by decide +kernel) (by decide +kernel)⟩⟩, List.forall_mem_cons.mpr ⟨⟨yX12_roomOf, cX12_roomOf, 2, (some .int), 4, 1, nX12_roomOf l, by decide, by decide, tk_1641, tk_120, ⟨by decide +kernel, by decide +kernel, by decide +kernel⟩, rfl, tk_1638, tk_1640, ⟨(RX12, TX12, 63), rfl, tb_at 65 (by decide +kernel) (by decide +kernel)⟩⟩, fun _ h => absurd h List.not_mem_nil⟩⟩⟩⟩
def LX12_couldCome : List (Nat × Instr × Nat) := [(0, .aload_n 0, 1), (1, .iload_n 2, 1), (2, .aload_n 0, 1), (3, .iload_n 1, 1), (4, .invokevirtual 309, 3), (7, .iconst 1, 1), (8, .iload_n 1, 1), (9, .ishl, 1), (10, .invokevirtual 342, 3), (13, .ireturn, 1)]
theorem LX12_couldCome_ok : LX12_couldCome.all (dk_q cX12_couldCome) = true := by decide +kernel
def wX12_couldCome : List sa_A := [([.inr (.inl 51), .inl (0, 4), .inl ((-2147483648), 2147483647)], [(some (.inl (0, 0)), []), (some (.inl (1, 1)), [(2, 0, 11)])], [(51, 44, 45), (77, 0, 9), (78, 0, 400)])]
def eX12_couldCome : List (List sa_K) := [[]]
def CX12_couldCome : sa_C := [(309, 0, 2, 12, wX12_widthAt), (342, 0, 4, 12, wX12_hasRoom)]
def xX12_couldComez : am_X := (SH, KF, (some .boolean), FT_X12, PT_X12, CT_X12, KT_X12, LT_X12, NT_X12, s_ML CX12_couldCome)
theorem qX12_couldCome : am_B cX12_couldCome xX12_couldComez 3 0 (sp_w JJ BB SH 92 wX12_couldCome) := s_chk_ok (X := xX12_couldComez) (CS := CX12_couldCome) (Fk := ([], GG)) (fuel := 2000) (info := wX12_couldCome.zip eX12_couldCome) rfl (s_ML_ok rfl rfl) (JJ_fr (by decide +kernel)) JJ_G (dk_D_ok LX12_couldCome_ok) (by decide +kernel)
theorem nX12_couldCome (l : Launch) : am_M l TB NB vwCl SH KF yX12_couldCome cX12_couldCome 3 (some .boolean) 6 0 0 (sp_w JJ BB SH 92 wX12_couldCome) := by
  refine am_M.of xX12_couldComez (by decide +kernel) TB_good GF rfl rfl rfl (by decide) ⟨FT_X12_ok, PT_X12_ok _, CT_X12_ok, KT_X12_ok, LT_X12_ok, NT_X12_ok, ?_⟩ qX12_couldCome
  exact List.forall_mem_cons.mpr ⟨⟨yX12_widthAt, cX12_widthAt, 2, (some .int), 2, 1, nX12_widthAt l, by decide, by decide, tk_1625, tk_120, ⟨by decide +kernel, by decide +kernel, by decide +kernel⟩, rfl, tk_1622, tk_1624, ⟨(RX12, TX12, 63), rfl, tb_at 62 (by decide +kernel) (by decide +kernel)⟩⟩, List.forall_mem_cons.mpr ⟨⟨yX12_hasRoom, cX12_hasRoom, 4, (some .boolean), 5, 3, nX12_hasRoom l, by decide, by decide, tk_1691, tk_120, ⟨by decide +kernel, by decide +kernel, by decide +kernel⟩, rfl, tk_1688, tk_1690, ⟨(RX12, TX12, 63), rfl, tb_at 75 (by decide +kernel) (by decide +kernel)⟩⟩, fun _ h => absurd h List.not_mem_nil⟩⟩
def LX12_towards : List (Nat × Instr × Nat) := [(0, .iload_n 1, 1), (1, .iload_n 0, 1), (2, .if_icmp .le 9, 3), (5, .iload_n 0, 1), (6, .iconst 1, 1), (7, .iadd, 1), (8, .goto 6, 3), (11, .iload_n 0, 1), (12, .iconst 1, 1), (13, .isub, 1), (14, .ireturn, 1)]
theorem LX12_towards_ok : LX12_towards.all (dk_q cX12_towards) = true := by decide +kernel
def wX12_towards : List sa_A := [([.inl ((-2147483648), 2147483647), .inl ((-2147483648), 2147483647)], [(some (.inl ((-2147483648), 2147483647)), [])], [])]
def eX12_towards : List (List sa_K) := [[]]
def CX12_towards : sa_C := []
def xX12_towardsz : am_X := (SH, KF, (some .int), FT_X12, PT_X12, CT_X12, KT_X12, LT_X12, NT_X12, s_ML CX12_towards)
theorem qX12_towards : am_B cX12_towards xX12_towardsz 2 0 (sp_w JJ BB SH 92 wX12_towards) := s_chk_ok (X := xX12_towardsz) (CS := CX12_towards) (Fk := ([], GG)) (fuel := 2000) (info := wX12_towards.zip eX12_towards) rfl (s_ML_ok rfl rfl) (JJ_fr (by decide +kernel)) JJ_G (dk_D_ok LX12_towards_ok) (by decide +kernel)
theorem nX12_towards (l : Launch) : am_M l TB NB vwCl SH KF yX12_towards cX12_towards 2 (some .int) 2 0 0 (sp_w JJ BB SH 92 wX12_towards) := by
  refine am_M.of xX12_towardsz (by decide +kernel) TB_good GF rfl rfl rfl (by decide) ⟨FT_X12_ok, PT_X12_ok _, CT_X12_ok, KT_X12_ok, LT_X12_ok, NT_X12_ok, ?_⟩ qX12_towards
  exact fun _ h => absurd h List.not_mem_nil
/-! SAFETY WORDS of the reference. Printed by wip/am/chk. -/
def wX12_blockBits : List sa_A := [([.inr (.inl 51), .inl (0, 4), .inl (0, 11)], [(some (.inl ((-2147483648), 2147483647)), [])], [(51, 44, 45), (77, 0, 9), (78, 0, 400)])]
def xX12_towardsi : am_X := (SH, KF, (some .int), FT_X12, PT_X12, CT_X12, KT_X12, LT_X12, NT_X12, [])
def CX12_towardsi (M : sa_M) : ta_C := []
theorem hX12_towardsi (M : sa_M) (σ0 : am_S) : t_CS BB (am_SH xX12_towardsi) 92 M σ0 (am_ML xX12_towardsi) (CX12_towardsi M) := t_cs_nil
theorem mX12_towardsi (l : Launch) : am_M l TB NB vwCl SH KF yX12_towards cX12_towards 2 (some .int) 2 0 0 (t_wp cX12_towards xX12_towardsi 400 2) := by
  refine am_M.of xX12_towardsi (by decide +kernel) TB_good GF rfl rfl rfl (by decide) ⟨FT_X12_ok, PT_X12_ok _, CT_X12_ok, KT_X12_ok, LT_X12_ok, NT_X12_ok, ?_⟩ t_wp_B
  exact fun _ h => absurd h List.not_mem_nil
def LX12_blockBits : List (Nat × Instr × Nat) := [(0, .iconst 0, 1), (1, .istore_n 3, 1), (2, .aload_n 0, 1), (3, .getfield 104, 3), (6, .iload_n 1, 1), (7, .iaload, 1), (8, .istore 4, 2), (10, .iload 4, 2), (12, .iload_n 2, 1), (13, .if_icmp .eq 39, 3), (16, .iload 4, 2), (18, .iload_n 2, 1), (19, .invokestatic 345, 3), (22, .istore 5, 2), (24, .aload_n 0, 1), (25, .iload_n 1, 1), (26, .iload 5, 2), (28, .invokevirtual 348, 3), (31, .ifCond .ne 10, 3), (34, .iload_n 3, 1), (35, .iconst 1, 1), (36, .iload 5, 2), (38, .ishl, 1), (39, .ior, 1), (40, .istore_n 3, 1), (41, .iload 4, 2), (43, .iload_n 2, 1), (44, .invokestatic 345, 3), (47, .istore 4, 2), (49, .goto (-39), 3), (52, .iload_n 3, 1), (53, .ireturn, 1)]
theorem LX12_blockBits_ok : LX12_blockBits.all (dk_q cX12_blockBits) = true := by decide +kernel
def xX12_blockBitst : am_X := (SH, KF, (some .int), FT_X12, PT_X12, CT_X12, KT_X12, LT_X12, NT_X12, [(345, 1, 2, 12, 0, 0, t_wp cX12_towards xX12_towardsi 400 2), (348, 0, 3, 12, 0, 0, sp_w JJ BB SH 92 wX12_couldCome)])
def CX12_blockBitst (M : sa_M) : ta_C := [(345, 1, 2, 12, t_in xX12_towardsi BB 92 (CX12_towardsi M) M LX12_towards [] 400 2), (348, 0, 3, 12, t_w M wX12_couldCome)]
theorem hX12_blockBitst (M : sa_M) (σ0 : am_S) (hJ : ∀ τ, sb_fr M σ0 τ → JJ τ) : t_CS BB (am_SH xX12_blockBitst) 92 M σ0 (am_ML xX12_blockBitst) (CX12_blockBitst M) := t_cs_cons (t_in_ok (hX12_towardsi M σ0) (dk_D_ok LX12_towards_ok)) (t_cs_cons (t_w_ok hJ) (t_cs_nil))
def bb_M : sa_M := [(51, 44, 45), (77, 0, 9), (78, 0, 400)]
def bb_P (c lo hi : Int) : List (Option sa_P) := [some (.inr (.inl 51)), some (.inl (0, 4)), some (.inl (c, c)), some (.inl (-2147483648, 2147483647)), some (.inl (lo, hi)), none]
def bb_cut (dt : Int) (pc : Nat) (_ : sa_E) (_ : ta_F) (L : List (Option sa_V)) (S : List sa_V) : Bool := decide (pc = 10) && (S.isEmpty && (match L with
  | [some (.inr (.inl r)), some (.inl a), some (.inl c), some (.inl _), some (.inl t), none] => decide (r = 51 ∧ a = (2, 0) ∧ c = (3, 0) ∧ t = (5, dt))
  | _ => false))
def bb_run (c lo hi : Int) (cut : Nat → sa_E → ta_F → List (Option sa_V) → List sa_V → Bool) : Bool := t_run xX12_blockBitst BB 92 (CX12_blockBitst bb_M) bb_M LX12_blockBits [(10, 5)] [] t_int cut 300 10 (t_sE (bb_P c lo hi) []) (t_sF 7 []) (s_aL 1 (bb_P c lo hi)) []
def bb_never (_ : Nat) (_ : sa_E) (_ : ta_F) (_ : List (Option sa_V)) (_ : List sa_V) : Bool := false
theorem bb_runs : (List.range 12).all (fun c => bb_run (c : Nat) (-2147483648) ((c : Nat) - 1) (bb_cut 1) && (bb_run (c : Nat) ((c : Nat) + 1) 2147483647 (bb_cut (-1)) && bb_run (c : Nat) (c : Nat) (c : Nat) bb_never)) = true := by decide +kernel
theorem bb_loop {σ0 : am_S} {post : Option Value → am_S → Prop} {AA : Nat → List (Option Value) → List Value → Nat → am_S → Prop} (hA : ∀ cuts f pc ls stk n τ, am_vc cX12_blockBits xX12_blockBitst 92 post AA cuts f pc ls stk n τ → AA pc ls stk n τ) (hJ : ∀ τ, sb_fr bb_M σ0 τ → JJ τ) (hpost : ∀ x τ, sI BB SH bb_M σ0 τ → post (some (.int x)) τ) {a c : Int32} (ha : 0 ≤ a.toInt ∧ a.toInt ≤ 4) (hc : 0 ≤ c.toInt ∧ c.toInt ≤ 11) : ∀ (m : Nat) (s t : Int32) (σ : am_S), (t.toInt - c.toInt).natAbs = m → sI BB SH bb_M σ0 σ → AA 10 [some (.ref 51), some (.int a), some (.int c), some (.int s), some (.int t), none] [] 92 σ := by
  intro m
  induction m using Nat.strongRecOn with
  | ind m ih =>
  intro s t σ hm hI
  have l1 := ii_lo t
  have l2 := ii_hi t
  have q := List.all_eq_true.mp bb_runs c.toInt.toNat (List.mem_range.mpr (by omega))
  simp only [Bool.and_eq_true] at q
  rw [Int.toNat_of_nonneg hc.1] at q
  obtain ⟨q1, q2, q3⟩ := q
  have key : ∀ (lo hi : Int) (cut : Nat → sa_E → ta_F → List (Option sa_V) → List sa_V → Bool), lo ≤ t.toInt → t.toInt ≤ hi → bb_run c.toInt lo hi cut = true → (∀ pc' E' F' L' S', cut pc' E' F' L' S' = true → ∃ dt, bb_cut dt pc' E' F' L' S' = true ∧ (dt = 1 ∨ dt = -1) ∧ (t.toInt + dt - c.toInt).natAbs < m) → AA 10 [some (.ref 51), some (.int a), some (.int c), some (.int s), some (.int t), none] [] 92 σ := by
    intro lo hi cut h1 h2 hr h3
    refine t_seg (X := xX12_blockBitst) (B := BB) (N := 92) (CS := CX12_blockBitst bb_M) (M := bb_M) (D := LX12_blockBits) (cuts := [(10, 5)]) (Fk := []) (P := bb_P c.toInt lo hi) (σ0 := σ0) (σ := σ) [] t_int cut 300 hA (dk_D_ok LX12_blockBits_ok) (hX12_blockBitst bb_M σ0 hJ) (s_P_r (s_P_i ha (s_P_i ⟨Int.le_refl _, Int.le_refl _⟩ (s_P_f (s_P_i ⟨h1, h2⟩ (s_P_n s_P_nil)))))) t_sc_nil hI hr (fun E' F' ρ' v' v τ hr hx hE hF hv hI' => ?_) (fun pc' E' F' L' S' hc' ρ' ls' st' τ hx hE hF hL hS hI' => ?_)
    · obtain ⟨x, rfl⟩ := t_rok hr hv
      exact hpost x τ hI'
    · obtain ⟨dt, hb', hdt, hlt⟩ := h3 _ _ _ _ _ hc'
      clear hc'
      have hc' := hb'
      clear hb'
      simp only [bb_cut, Bool.and_eq_true, decide_eq_true_eq, List.isEmpty_iff] at hc'
      obtain ⟨rfl, rfl, hc'⟩ := hc'
      cases st' with
      | cons _ _ => exact hS.elim
      | nil =>
        split at hc'
        · rename_i r a' c' s' t'
          have hc' := of_decide_eq_true hc'
          obtain ⟨rfl, rfl, rfl, rfl⟩ := hc'
          have e := sg_L_eq rfl hL
          subst e
          have g : ∀ i, i < 7 → ρ' i = s_ρ (bb_P c.toInt lo hi) [some (.ref 51), some (.int a), some (.int c), some (.int s), some (.int t), none] i := fun i hi' => (hx.2 i (by show i < 7; exact hi')).trans (if_pos hi')
          have e2 : ρ' 2 = a.toInt := g 2 (by decide)
          have e3 : ρ' 3 = c.toInt := g 3 (by decide)
          have e5 : ρ' 5 = t.toInt := g 5 (by decide)
          simp only [List.map_cons, List.map_nil, s_cl, e2, e3, e5, Int.add_zero, ← ii_of]
          have et : (Int32.ofInt (t.toInt + dt)).toInt = t.toInt + dt := ii_t (by omega) (by omega)
          exact ih _ (by rw [et]; exact hlt) _ _ τ rfl hI'
        · cases hc'
  rcases Int.lt_trichotomy t.toInt c.toInt with h | h | h
  · exact key _ _ _ l1 (by omega) q1 (fun _ _ _ _ _ hh => ⟨1, hh, Or.inl rfl, by omega⟩)
  · exact key _ _ _ (by omega) (by omega) q3 (fun _ _ _ _ _ hh => by cases hh)
  · exact key _ _ _ (by omega) (by omega) q2 (fun _ _ _ _ _ hh => ⟨-1, hh, Or.inr rfl, by omega⟩)
def bb_ent (pc : Nat) (_ : sa_E) (_ : ta_F) (L : List (Option sa_V)) (S : List sa_V) : Bool := decide (pc = 10) && (S.isEmpty && (match L with
  | [some (.inr (.inl r)), some (.inl a), some (.inl c), some (.inl _), some (.inl _), none] => decide (r = 51 ∧ a = (2, 0) ∧ c = (3, 0))
  | _ => false))
theorem qX12_blockBits : am_B cX12_blockBits xX12_blockBitst 6 0 (sp_w JJ BB SH 92 wX12_blockBits) := by
  intro n0 as σ post AA hA h
  obtain ⟨rfl, hB, hJ, w, hw, has, h⟩ := h
  have ew : w = ([.inr (.inl 51), .inl (0, 4), .inl (0, 11)], [(some (.inl (-2147483648, 2147483647)), [])], bb_M) := List.mem_singleton.mp hw
  subst ew
  match as, has with
  | [v0, v1, v2], ⟨h0, ⟨a, ha0, ha⟩, ⟨c, hc0, hc⟩, _⟩ =>
  have h0 : v0 = .ref 51 := h0
  subst h0; subst ha0; subst hc0
  have hJ' : ∀ τ, sb_fr bb_M σ τ → JJ τ := fun τ hf => JJ_fr (sm := [([], [], bb_M)]) (by decide +kernel) _ (List.mem_singleton.mpr rfl) σ τ hJ hf
  have hpost : ∀ x τ, sI BB SH bb_M σ τ → post (some (.int x)) τ := fun x τ hI => h _ τ hI.1 (hJ' τ hI.2) hI.2 ⟨_, List.mem_cons_self, ⟨x, rfl, ii_lo x, by have := ii_hi x; show x.toInt ≤ 2147483647; omega⟩, fun q hq => absurd hq List.not_mem_nil⟩
  refine ⟨by simp [am_sl, Value.category], ?_⟩
  show AA 0 [some (.ref 51), some (.int a), some (.int c), none, none, none] [] 92 σ
  refine t_seg (X := xX12_blockBitst) (B := BB) (N := 92) (CS := CX12_blockBitst bb_M) (M := bb_M) (D := LX12_blockBits) (cuts := [(10, 5)]) (Fk := []) (P := [some (.inr (.inl 51)), some (.inl (0, 4)), some (.inl (0, 11)), none, none, none]) (σ0 := σ) (σ := σ) [] t_no bb_ent 300 hA (dk_D_ok LX12_blockBits_ok) (hX12_blockBitst bb_M σ hJ') (s_P_r (s_P_i ha (s_P_i hc (s_P_n (s_P_n (s_P_n s_P_nil)))))) t_sc_nil ⟨hB, sb_fr_r _ _⟩ (by decide +kernel) (fun E' F' ρ' v' v τ hr hx hE hF hv hI' => by cases hr) (fun pc' E' F' L' S' hc' ρ' ls' st' τ hx hE hF hL hS hI' => ?_)
  simp only [bb_ent, Bool.and_eq_true, decide_eq_true_eq, List.isEmpty_iff] at hc'
  obtain ⟨rfl, rfl, hc'⟩ := hc'
  cases st' with
  | cons _ _ => exact hS.elim
  | nil =>
    split at hc'
    · rename_i r a' c' s' t'
      have hc' := of_decide_eq_true hc'
      obtain ⟨rfl, rfl, rfl⟩ := hc'
      have e := sg_L_eq rfl hL
      subst e
      have g : ∀ i, i < 7 → ρ' i = s_ρ [some (.inr (.inl 51)), some (.inl (0, 4)), some (.inl (0, 11)), none, none, none] [some (.ref 51), some (.int a), some (.int c), none, none, none] i := fun i hi' => (hx.2 i (by show i < 7; exact hi')).trans (if_pos hi')
      have e2 : ρ' 2 = a.toInt := g 2 (by decide)
      have e3 : ρ' 3 = c.toInt := g 3 (by decide)
      simp only [List.map_cons, List.map_nil, s_cl, e2, e3, Int.add_zero, ← ii_of]
      exact bb_loop hA hJ' hpost ha hc _ _ _ τ rfl hI'
    · cases hc'
theorem nX12_blockBits (l : Launch) : am_M l TB NB vwCl SH KF yX12_blockBits cX12_blockBits 6 (some .int) 7 0 0 (sp_w JJ BB SH 92 wX12_blockBits) := by
  refine am_M.of xX12_blockBitst (by decide +kernel) TB_good GF rfl rfl rfl (by decide) ⟨FT_X12_ok, PT_X12_ok _, CT_X12_ok, KT_X12_ok, LT_X12_ok, NT_X12_ok, ?_⟩ qX12_blockBits
  exact List.forall_mem_cons.mpr ⟨⟨yX12_towards, cX12_towards, 2, (some .int), 2, 2, mX12_towardsi l, by decide, by decide, tk_1744, tk_120, ⟨by decide +kernel, by decide +kernel, by decide +kernel⟩, rfl, tk_1742, tk_1743⟩, List.forall_mem_cons.mpr ⟨⟨yX12_couldCome, cX12_couldCome, 3, (some .boolean), 6, 2, nX12_couldCome l, by decide, by decide, tk_1687, tk_120, ⟨by decide +kernel, by decide +kernel, by decide +kernel⟩, rfl, tk_1684, tk_1686, ⟨(RX12, TX12, 63), rfl, tb_at 74 (by decide +kernel) (by decide +kernel)⟩⟩, fun _ h => absurd h List.not_mem_nil⟩⟩
/-! SAFETY WORDS of the reference. Printed by wip/am/chk. -/
def LX12_off : List (Nat × Instr × Nat) := [(0, .iload_n 0, 1), (1, .iload_n 1, 1), (2, .if_icmp .ge 9, 3), (5, .iload_n 1, 1), (6, .iload_n 0, 1), (7, .isub, 1), (8, .goto 6, 3), (11, .iload_n 0, 1), (12, .iload_n 1, 1), (13, .isub, 1), (14, .ireturn, 1)]
theorem LX12_off_ok : LX12_off.all (dk_q cX12_off) = true := by decide +kernel
def wX12_off : List sa_A := [([.inl ((-2147483648), 2147483647), .inl ((-2147483648), 2147483647)], [(some (.inl ((-2147483648), 2147483647)), [])], [])]
def eX12_off : List (List sa_K) := [[]]
def CX12_off : sa_C := []
def xX12_offz : am_X := (SH, KF, (some .int), FT_X12, PT_X12, CT_X12, KT_X12, LT_X12, NT_X12, s_ML CX12_off)
theorem qX12_off : am_B cX12_off xX12_offz 2 0 (sp_w JJ BB SH 92 wX12_off) := s_chk_ok (X := xX12_offz) (CS := CX12_off) (Fk := ([], GG)) (fuel := 2000) (info := wX12_off.zip eX12_off) rfl (s_ML_ok rfl rfl) (JJ_fr (by decide +kernel)) JJ_G (dk_D_ok LX12_off_ok) (by decide +kernel)
theorem nX12_off (l : Launch) : am_M l TB NB vwCl SH KF yX12_off cX12_off 2 (some .int) 2 0 0 (sp_w JJ BB SH 92 wX12_off) := by
  refine am_M.of xX12_offz (by decide +kernel) TB_good GF rfl rfl rfl (by decide) ⟨FT_X12_ok, PT_X12_ok _, CT_X12_ok, KT_X12_ok, LT_X12_ok, NT_X12_ok, ?_⟩ qX12_off
  exact fun _ h => absurd h List.not_mem_nil
def LX12_aloneTo : List (Nat × Instr × Nat) := [(0, .aload_n 0, 1), (1, .iload_n 1, 1), (2, .iload_n 2, 1), (3, .invokevirtual 405, 3), (6, .ifCond .ne 16, 3), (9, .aload_n 0, 1), (10, .getfield 104, 3), (13, .iload_n 1, 1), (14, .iaload, 1), (15, .iload_n 2, 1), (16, .invokestatic 384, 3), (19, .goto 5, 3), (22, .bipush (-2), 2), (24, .ireturn, 1)]
theorem LX12_aloneTo_ok : LX12_aloneTo.all (dk_q cX12_aloneTo) = true := by decide +kernel
def wX12_aloneTo : List sa_A := [([.inr (.inl 51), .inl (0, 4), .inl (0, 11)], [(some (.inl ((-2147483648), 2147483647)), [])], [(51, 44, 45), (77, 0, 9), (78, 0, 400)])]
def eX12_aloneTo : List (List sa_K) := [[]]
def CX12_aloneTo : sa_C := [(384, 1, 2, 12, wX12_off), (405, 0, 3, 12, wX12_blockBits)]
def xX12_aloneToz : am_X := (SH, KF, (some .int), FT_X12, PT_X12, CT_X12, KT_X12, LT_X12, NT_X12, s_ML CX12_aloneTo)
theorem qX12_aloneTo : am_B cX12_aloneTo xX12_aloneToz 3 0 (sp_w JJ BB SH 92 wX12_aloneTo) := s_chk_ok (X := xX12_aloneToz) (CS := CX12_aloneTo) (Fk := ([], GG)) (fuel := 2000) (info := wX12_aloneTo.zip eX12_aloneTo) rfl (s_ML_ok rfl rfl) (JJ_fr (by decide +kernel)) JJ_G (dk_D_ok LX12_aloneTo_ok) (by decide +kernel)
theorem nX12_aloneTo (l : Launch) : am_M l TB NB vwCl SH KF yX12_aloneTo cX12_aloneTo 3 (some .int) 8 0 0 (sp_w JJ BB SH 92 wX12_aloneTo) := by
  refine am_M.of xX12_aloneToz (by decide +kernel) TB_good GF rfl rfl rfl (by decide) ⟨FT_X12_ok, PT_X12_ok _, CT_X12_ok, KT_X12_ok, LT_X12_ok, NT_X12_ok, ?_⟩ qX12_aloneTo
  exact List.forall_mem_cons.mpr ⟨⟨yX12_off, cX12_off, 2, (some .int), 2, 2, nX12_off l, by decide, by decide, tk_1683, tk_120, ⟨by decide +kernel, by decide +kernel, by decide +kernel⟩, rfl, tk_1681, tk_1682⟩, List.forall_mem_cons.mpr ⟨⟨yX12_blockBits, cX12_blockBits, 6, (some .int), 7, 2, nX12_blockBits l, by decide, by decide, tk_1781, tk_120, ⟨by decide +kernel, by decide +kernel, by decide +kernel⟩, rfl, tk_1778, tk_1780, ⟨(RX12, TX12, 63), rfl, tb_at 88 (by decide +kernel) (by decide +kernel)⟩⟩, fun _ h => absurd h List.not_mem_nil⟩⟩
def LX12_copies : List (Nat × Instr × Nat) := [(0, .iconst 0, 1), (1, .istore_n 1, 1), (2, .iload_n 1, 1), (3, .bipush 51, 2), (5, .if_icmp .ge 21, 3), (8, .aload_n 0, 1), (9, .getfield 104, 3), (12, .iload_n 1, 1), (13, .aload_n 0, 1), (14, .getfield 101, 3), (17, .iload_n 1, 1), (18, .iaload, 1), (19, .iastore, 1), (20, .iinc 1 1, 3), (23, .goto (-21), 3), (26, .aload_n 0, 1), (27, .aload_n 0, 1), (28, .getfield 61, 3), (31, .aload_n 0, 1), (32, .getfield 221, 3), (35, .iaload, 1), (36, .putfield 296, 3), (39, .aload_n 0, 1), (40, .iconst 0, 1), (41, .putfield 299, 3), (44, .return_, 1)]
theorem LX12_copies_ok : LX12_copies.all (dk_q cX12_copies) = true := by decide +kernel
def wX12_copies : List sa_A := [([.inr (.inl 51)], [(none, [])], [(51, 47, 48), (51, 48, 49), (80, 0, 51)])]
def eX12_copies : List (List sa_K) := [[(2, 2, [some (.inr (.inl 51)), some (.inl (0, 51))], [(0, 999), (1, 1), (0, 1000)], [])]]
def CX12_copies : sa_C := []
def xX12_copiesz : am_X := (SH, KF, none, FT_X12, PT_X12, CT_X12, KT_X12, LT_X12, NT_X12, s_ML CX12_copies)
theorem qX12_copies : am_B cX12_copies xX12_copiesz 2 0 (sp_w JJ BB SH 92 wX12_copies) := s_chk_ok (X := xX12_copiesz) (CS := CX12_copies) (Fk := ([], GG)) (fuel := 2000) (info := wX12_copies.zip eX12_copies) rfl (s_ML_ok rfl rfl) (JJ_fr (by decide +kernel)) JJ_G (dk_D_ok LX12_copies_ok) (by decide +kernel)
theorem nX12_copies (l : Launch) : am_M l TB NB vwCl SH KF yX12_copies cX12_copies 2 none 2 0 0 (sp_w JJ BB SH 92 wX12_copies) := by
  refine am_M.of xX12_copiesz (by decide +kernel) TB_good GF rfl rfl rfl (by decide) ⟨FT_X12_ok, PT_X12_ok _, CT_X12_ok, KT_X12_ok, LT_X12_ok, NT_X12_ok, ?_⟩ qX12_copies
  exact fun _ h => absurd h List.not_mem_nil
def LX12_alone : List (Nat × Instr × Nat) := [(0, .aload_n 0, 1), (1, .iload_n 1, 1), (2, .invokevirtual 378, 3), (5, .ifCond .eq 11, 3), (8, .aload_n 0, 1), (9, .iload_n 2, 1), (10, .invokevirtual 306, 3), (13, .ifCond .ne 5, 3), (16, .iconst (-1), 1), (17, .ireturn, 1), (18, .aload_n 0, 1), (19, .invokevirtual 381, 3), (22, .aload_n 0, 1), (23, .iload_n 1, 1), (24, .iload_n 2, 1), (25, .invokevirtual 427, 3), (28, .ireturn, 1)]
theorem LX12_alone_ok : LX12_alone.all (dk_q cX12_alone) = true := by decide +kernel
def wX12_alone : List sa_A := [([.inr (.inl 51), .inl ((-2147483648), 2147483647), .inl ((-2147483648), 2147483647)], [(some (.inl ((-2147483648), 2147483647)), [])], [(51, 44, 45), (51, 47, 48), (51, 48, 49), (77, 0, 9), (78, 0, 400), (80, 0, 51)])]
def eX12_alone : List (List sa_K) := [[]]
def CX12_alone : sa_C := [(306, 0, 2, 12, wX12_isRung), (378, 0, 2, 12, wX12_isPerson), (381, 0, 1, 12, wX12_copies), (427, 0, 3, 12, wX12_aloneTo)]
def xX12_alonez : am_X := (SH, KF, (some .int), FT_X12, PT_X12, CT_X12, KT_X12, LT_X12, NT_X12, s_ML CX12_alone)
theorem qX12_alone : am_B cX12_alone xX12_alonez 3 0 (sp_w JJ BB SH 92 wX12_alone) := s_chk_ok (X := xX12_alonez) (CS := CX12_alone) (Fk := ([], GG)) (fuel := 2000) (info := wX12_alone.zip eX12_alone) rfl (s_ML_ok rfl rfl) (JJ_fr (by decide +kernel)) JJ_G (dk_D_ok LX12_alone_ok) (by decide +kernel)
theorem nX12_alone (l : Launch) : am_M l TB NB vwCl SH KF yX12_alone cX12_alone 3 (some .int) 9 0 0 (sp_w JJ BB SH 92 wX12_alone) := by
  refine am_M.of xX12_alonez (by decide +kernel) TB_good GF rfl rfl rfl (by decide) ⟨FT_X12_ok, PT_X12_ok _, CT_X12_ok, KT_X12_ok, LT_X12_ok, NT_X12_ok, ?_⟩ qX12_alone
  exact List.forall_mem_cons.mpr ⟨⟨yX12_isRung, cX12_isRung, 2, (some .boolean), 3, 1, nX12_isRung l, by decide, by decide, tk_1633, tk_120, ⟨by decide +kernel, by decide +kernel, by decide +kernel⟩, rfl, tk_1630, tk_1632, ⟨(RX12, TX12, 63), rfl, tb_at 63 (by decide +kernel) (by decide +kernel)⟩⟩, List.forall_mem_cons.mpr ⟨⟨yX12_isPerson, cX12_isPerson, 2, (some .boolean), 3, 1, nX12_isPerson l, by decide, by decide, tk_1618, tk_120, ⟨by decide +kernel, by decide +kernel, by decide +kernel⟩, rfl, tk_1615, tk_1617, ⟨(RX12, TX12, 63), rfl, tb_at 61 (by decide +kernel) (by decide +kernel)⟩⟩, List.forall_mem_cons.mpr ⟨⟨yX12_copies, cX12_copies, 2, none, 2, 0, nX12_copies l, by decide, by decide, tk_1637, tk_120, ⟨by decide +kernel, by decide +kernel, by decide +kernel⟩, rfl, tk_1634, tk_1636, ⟨(RX12, TX12, 63), rfl, tb_at 64 (by decide +kernel) (by decide +kernel)⟩⟩, List.forall_mem_cons.mpr ⟨⟨yX12_aloneTo, cX12_aloneTo, 3, (some .int), 8, 2, nX12_aloneTo l, by decide, by decide, tk_1817, tk_120, ⟨by decide +kernel, by decide +kernel, by decide +kernel⟩, rfl, tk_1814, tk_1816, ⟨(RX12, TX12, 63), rfl, tb_at 94 (by decide +kernel) (by decide +kernel)⟩⟩, fun _ h => absurd h List.not_mem_nil⟩⟩⟩⟩
def LX12_bits : List (Nat × Instr × Nat) := [(0, .iconst 0, 1), (1, .istore_n 1, 1), (2, .iconst 0, 1), (3, .istore_n 2, 1), (4, .iload_n 2, 1), (5, .bipush 12, 2), (7, .if_icmp .ge 17, 3), (10, .iload_n 1, 1), (11, .iload_n 0, 1), (12, .iload_n 2, 1), (13, .ishr, 1), (14, .iconst 1, 1), (15, .iand, 1), (16, .iadd, 1), (17, .istore_n 1, 1), (18, .iinc 2 1, 3), (21, .goto (-17), 3), (24, .iload_n 1, 1), (25, .ireturn, 1)]
theorem LX12_bits_ok : LX12_bits.all (dk_q cX12_bits) = true := by decide +kernel
def wX12_bits : List sa_A := [([.inl ((-2147483648), 2147483647)], [(some (.inl ((-2147483648), 2147483647)), [])], [])]
def eX12_bits : List (List sa_K) := [[(4, 3, [some (.inl ((-2147483648), 2147483647)), some (.inl ((-2147483648), 2147483647)), some (.inl (0, 12))], [(0, 999), (1, 2), (0, 1000)], [])]]
def CX12_bits : sa_C := []
def xX12_bitsz : am_X := (SH, KF, (some .int), FT_X12, PT_X12, CT_X12, KT_X12, LT_X12, NT_X12, s_ML CX12_bits)
theorem qX12_bits : am_B cX12_bits xX12_bitsz 3 0 (sp_w JJ BB SH 92 wX12_bits) := s_chk_ok (X := xX12_bitsz) (CS := CX12_bits) (Fk := ([], GG)) (fuel := 2000) (info := wX12_bits.zip eX12_bits) rfl (s_ML_ok rfl rfl) (JJ_fr (by decide +kernel)) JJ_G (dk_D_ok LX12_bits_ok) (by decide +kernel)
theorem nX12_bits (l : Launch) : am_M l TB NB vwCl SH KF yX12_bits cX12_bits 3 (some .int) 2 0 0 (sp_w JJ BB SH 92 wX12_bits) := by
  refine am_M.of xX12_bitsz (by decide +kernel) TB_good GF rfl rfl rfl (by decide) ⟨FT_X12_ok, PT_X12_ok _, CT_X12_ok, KT_X12_ok, LT_X12_ok, NT_X12_ok, ?_⟩ qX12_bits
  exact fun _ h => absurd h List.not_mem_nil
def LX12_treadsOn : List (Nat × Instr × Nat) := [(0, .aload_n 0, 1), (1, .getfield 101, 3), (4, .iload_n 1, 1), (5, .iaload, 1), (6, .istore_n 3, 1), (7, .aload_n 0, 1), (8, .getfield 101, 3), (11, .iconst 5, 1), (12, .iload_n 1, 1), (13, .iadd, 1), (14, .iaload, 1), (15, .istore 4, 2), (17, .iload 4, 2), (19, .ifCond .lt 40, 3), (22, .iload 4, 2), (24, .iload_n 3, 1), (25, .if_icmp .le 18, 3), (28, .iload_n 2, 1), (29, .iload_n 3, 1), (30, .iconst 1, 1), (31, .iadd, 1), (32, .iload 4, 2), (34, .invokestatic 292, 3), (37, .ifCond .eq 22, 3), (40, .goto 15, 3), (43, .iload_n 2, 1), (44, .iload 4, 2), (46, .iload_n 3, 1), (47, .iconst 1, 1), (48, .isub, 1), (49, .invokestatic 292, 3), (52, .ifCond .eq 7, 3), (55, .iconst 1, 1), (56, .goto 4, 3), (59, .iconst 0, 1), (60, .ireturn, 1)]
theorem LX12_treadsOn_ok : LX12_treadsOn.all (dk_q cX12_treadsOn) = true := by decide +kernel
def wX12_treadsOn : List sa_A := [([.inr (.inl 51), .inl (0, 4), .inl ((-2147483648), 2147483647)], [(some (.inl (0, 0)), []), (some (.inl (1, 1)), [(2, (-2147483647), 2147483647)])], [])]
def eX12_treadsOn : List (List sa_K) := [[]]
def CX12_treadsOn : sa_C := [(292, 1, 3, 12, wX12_in)]
def xX12_treadsOnz : am_X := (SH, KF, (some .boolean), FT_X12, PT_X12, CT_X12, KT_X12, LT_X12, NT_X12, s_ML CX12_treadsOn)
theorem qX12_treadsOn : am_B cX12_treadsOn xX12_treadsOnz 5 0 (sp_w JJ BB SH 92 wX12_treadsOn) := s_chk_ok (X := xX12_treadsOnz) (CS := CX12_treadsOn) (Fk := ([], GG)) (fuel := 2000) (info := wX12_treadsOn.zip eX12_treadsOn) rfl (s_ML_ok rfl rfl) (JJ_fr (by decide +kernel)) JJ_G (dk_D_ok LX12_treadsOn_ok) (by decide +kernel)
theorem nX12_treadsOn (l : Launch) : am_M l TB NB vwCl SH KF yX12_treadsOn cX12_treadsOn 5 (some .boolean) 3 0 0 (sp_w JJ BB SH 92 wX12_treadsOn) := by
  refine am_M.of xX12_treadsOnz (by decide +kernel) TB_good GF rfl rfl rfl (by decide) ⟨FT_X12_ok, PT_X12_ok _, CT_X12_ok, KT_X12_ok, LT_X12_ok, NT_X12_ok, ?_⟩ qX12_treadsOn
  exact List.forall_mem_cons.mpr ⟨⟨yX12_in, cX12_in, 3, (some .boolean), 2, 3, nX12_in l, by decide, by decide, tk_1621, tk_120, ⟨by decide +kernel, by decide +kernel, by decide +kernel⟩, rfl, tk_1619, tk_1620⟩, fun _ h => absurd h List.not_mem_nil⟩
def LX12_trodBits : List (Nat × Instr × Nat) := [(0, .iconst 0, 1), (1, .istore_n 2, 1), (2, .iconst 0, 1), (3, .istore_n 3, 1), (4, .iload_n 3, 1), (5, .aload_n 0, 1), (6, .getfield 46, 3), (9, .aload_n 0, 1), (10, .getfield 221, 3), (13, .iaload, 1), (14, .if_icmp .ge 88, 3), (17, .iconst 1, 1), (18, .istore 4, 2), (20, .iconst 0, 1), (21, .istore 5, 2), (23, .iload 5, 2), (25, .iload_n 1, 1), (26, .if_icmp .ge 59, 3), (29, .aload_n 0, 1), (30, .iload_n 3, 1), (31, .aload_n 0, 1), (32, .getfield 128, 3), (35, .iload 5, 2), (37, .iaload, 1), (38, .invokevirtual 448, 3), (41, .ifCond .eq 35, 3), (44, .aload_n 0, 1), (45, .getfield 101, 3), (48, .iconst 5, 1), (49, .iload_n 3, 1), (50, .iadd, 1), (51, .iaload, 1), (52, .aload_n 0, 1), (53, .getfield 101, 3), (56, .iload_n 3, 1), (57, .iaload, 1), (58, .if_icmp .le 7, 3), (61, .iconst 1, 1), (62, .goto 4, 3), (65, .iconst 0, 1), (66, .aload_n 0, 1), (67, .getfield 131, 3), (70, .iload 5, 2), (72, .baload, 1), (73, .if_icmp .eq 6, 3), (76, .iconst 0, 1), (77, .istore 4, 2), (79, .iinc 5 1, 3), (82, .goto (-59), 3), (85, .iload 4, 2), (87, .ifCond .eq 9, 3), (90, .iload_n 2, 1), (91, .iconst 1, 1), (92, .iload_n 3, 1), (93, .ishl, 1), (94, .ior, 1), (95, .istore_n 2, 1), (96, .iinc 3 1, 3), (99, .goto (-95), 3), (102, .iload_n 2, 1), (103, .ireturn, 1)]
theorem LX12_trodBits_ok : LX12_trodBits.all (dk_q cX12_trodBits) = true := by decide +kernel
def wX12_trodBits : List sa_A := [([.inr (.inl 51), .inl (0, 20)], [(some (.inl ((-2147483648), 2147483647)), [])], [])]
def eX12_trodBits : List (List sa_K) := [[(4, 4, [some (.inr (.inl 51)), some (.inl (0, 20)), some (.inl ((-2147483648), 2147483647)), some (.inl (0, 5)), none, none], [(0, 999), (1, 3), (0, 1000)], []), (23, 6, [some (.inr (.inl 51)), some (.inl (0, 20)), some (.inl ((-2147483648), 2147483647)), some (.inl (0, 4)), some (.inl (0, 1)), some (.inl (0, 20))], [(0, 999), (1, 3), (0, 998), (1, 5), (0, 1000)], [])]]
def CX12_trodBits : sa_C := [(448, 0, 3, 12, wX12_treadsOn)]
def xX12_trodBitsz : am_X := (SH, KF, (some .int), FT_X12, PT_X12, CT_X12, KT_X12, LT_X12, NT_X12, s_ML CX12_trodBits)
theorem qX12_trodBits : am_B cX12_trodBits xX12_trodBitsz 6 0 (sp_w JJ BB SH 92 wX12_trodBits) := s_chk_ok (X := xX12_trodBitsz) (CS := CX12_trodBits) (Fk := ([], GG)) (fuel := 2000) (info := wX12_trodBits.zip eX12_trodBits) rfl (s_ML_ok rfl rfl) (JJ_fr (by decide +kernel)) JJ_G (dk_D_ok LX12_trodBits_ok) (by decide +kernel)
theorem nX12_trodBits (l : Launch) : am_M l TB NB vwCl SH KF yX12_trodBits cX12_trodBits 6 (some .int) 4 0 0 (sp_w JJ BB SH 92 wX12_trodBits) := by
  refine am_M.of xX12_trodBitsz (by decide +kernel) TB_good GF rfl rfl rfl (by decide) ⟨FT_X12_ok, PT_X12_ok _, CT_X12_ok, KT_X12_ok, LT_X12_ok, NT_X12_ok, ?_⟩ qX12_trodBits
  exact List.forall_mem_cons.mpr ⟨⟨yX12_treadsOn, cX12_treadsOn, 5, (some .boolean), 3, 2, nX12_treadsOn l, by decide, by decide, tk_1931, tk_120, ⟨by decide +kernel, by decide +kernel, by decide +kernel⟩, rfl, tk_1928, tk_1930, ⟨(RX12, TX12, 63), rfl, tb_at 100 (by decide +kernel) (by decide +kernel)⟩⟩, fun _ h => absurd h List.not_mem_nil⟩
/-! SAFETY WORDS of the reference. Printed by wip/am/chk. -/
def wX12_bothGo : List sa_A := [([.inr (.inl 51), .inl (0, 4), .inl (0, 4), .inl (0, 11), .inl (0, 11)], [(none, [])], [(51, 44, 45), (51, 54, 55), (77, 0, 9), (78, 0, 400), (80, 0, 51), (84, 0, 144)])]
def LX12_marks : List (Nat × Instr × Nat) := [(0, .aload_n 0, 1), (1, .getfield 116, 3), (4, .bipush 12, 2), (6, .aload_n 0, 1), (7, .getfield 417, 3), (10, .imul, 1), (11, .iload_n 1, 1), (12, .iadd, 1), (13, .iconst 1, 1), (14, .bastore, 1), (15, .return_, 1)]
theorem LX12_marks_ok : LX12_marks.all (dk_q cX12_marks) = true := by decide +kernel
def xX12_marksi : am_X := (SH, KF, none, FT_X12, PT_X12, CT_X12, KT_X12, LT_X12, NT_X12, [])
def CX12_marksi (M : sa_M) : ta_C := []
theorem hX12_marksi (M : sa_M) (σ0 : am_S) : t_CS BB (am_SH xX12_marksi) 92 M σ0 (am_ML xX12_marksi) (CX12_marksi M) := t_cs_nil
theorem mX12_marksi (l : Launch) : am_M l TB NB vwCl SH KF yX12_marks cX12_marks 2 none 2 0 0 (t_wp cX12_marks xX12_marksi 400 2) := by
  refine am_M.of xX12_marksi (by decide +kernel) TB_good GF rfl rfl rfl (by decide) ⟨FT_X12_ok, PT_X12_ok _, CT_X12_ok, KT_X12_ok, LT_X12_ok, NT_X12_ok, ?_⟩ t_wp_B
  exact fun _ h => absurd h List.not_mem_nil
def LX12_otherGoes : List (Nat × Instr × Nat) := [(0, .aload_n 0, 1), (1, .getfield 104, 3), (4, .iload_n 1, 1), (5, .iaload, 1), (6, .istore_n 2, 1), (7, .iload_n 2, 1), (8, .iconst 1, 1), (9, .isub, 1), (10, .istore_n 3, 1), (11, .iload_n 3, 1), (12, .iload_n 2, 1), (13, .iconst 1, 1), (14, .iadd, 1), (15, .if_icmp .gt 36, 3), (18, .iload_n 3, 1), (19, .iload_n 2, 1), (20, .if_icmp .eq 20, 3), (23, .aload_n 0, 1), (24, .iload_n 3, 1), (25, .invokevirtual 306, 3), (28, .ifCond .eq 17, 3), (31, .aload_n 0, 1), (32, .iload_n 1, 1), (33, .iload_n 3, 1), (34, .invokevirtual 348, 3), (37, .ifCond .eq 8, 3), (40, .aload_n 0, 1), (41, .iload_n 3, 1), (42, .invokevirtual 414, 3), (45, .iinc 3 1, 3), (48, .goto (-37), 3), (51, .return_, 1)]
theorem LX12_otherGoes_ok : LX12_otherGoes.all (dk_q cX12_otherGoes) = true := by decide +kernel
def xX12_otherGoest : am_X := (SH, KF, none, FT_X12, PT_X12, CT_X12, KT_X12, LT_X12, NT_X12, [(306, 0, 2, 12, 0, 0, sp_w JJ BB SH 92 wX12_isRung), (348, 0, 3, 12, 0, 0, sp_w JJ BB SH 92 wX12_couldCome), (414, 0, 2, 12, 0, 0, t_wp cX12_marks xX12_marksi 400 2)])
def CX12_otherGoest (M : sa_M) : ta_C := [(306, 0, 2, 12, t_w M wX12_isRung), (348, 0, 3, 12, t_w M wX12_couldCome), (414, 0, 2, 12, t_in xX12_marksi BB 92 (CX12_marksi M) M LX12_marks [] 400 2)]
theorem hX12_otherGoest (M : sa_M) (σ0 : am_S) (hJ : ∀ τ, sb_fr M σ0 τ → JJ τ) : t_CS BB (am_SH xX12_otherGoest) 92 M σ0 (am_ML xX12_otherGoest) (CX12_otherGoest M) := t_cs_cons (t_w_ok hJ) (t_cs_cons (t_w_ok hJ) (t_cs_cons (t_in_ok (hX12_marksi M σ0) (dk_D_ok LX12_marks_ok)) (t_cs_nil)))
def og_M : sa_M := [(51, 44, 45), (77, 0, 9), (78, 0, 400), (84, 0, 144)]
def wyX12_otherGoes : am_Sp := sp_wc JJ BB SH 92 [.inr (.inl 51), .inl (0, 4)] [(80, 1, 0, 11)] og_M
set_option maxRecDepth 100000 in
theorem pX12_otherGoesy : am_B cX12_otherGoes xX12_otherGoest 4 0 wyX12_otherGoes := by
  refine t_flat (X := xX12_otherGoest) (B := BB) (N := 92) (CS := CX12_otherGoest og_M) (M := og_M) (D := LX12_otherGoes) (Fk := [7, 12, 19]) (fuel := 600) [.inr (.inl 51), .inl (0, 4)] [(80, (2, 0), 0, 11)] (fun _ _ v => v.isNone) (by decide) (dk_D_ok LX12_otherGoes_ok) ?_ (by decide +kernel)
  rintro as n σ post ⟨rfl, hB, hJ, has, hpre, h⟩
  have hJ' : ∀ τ, sb_fr og_M σ τ → JJ τ := fun τ hf => JJ_fr (sm := [([], [], og_M)]) (by decide +kernel) _ (List.mem_singleton.mpr rfl) σ τ hJ hf
  refine ⟨rfl, hB, has, hX12_otherGoest _ _ hJ', fun q hq => ?_, fun E' F' ρ' v' v τ hr hx hE hF hv hI => ?_⟩
  · have e : q = (80, (2, 0), 0, 11) := List.mem_singleton.mp hq
    subst e
    obtain ⟨x, x1, x2, x3⟩ := hpre _ (List.mem_singleton.mpr rfl)
    match as, has with
    | [v0, v1], ⟨h0, ⟨y, hy, _⟩, _⟩ =>
      have h0 : v0 = .ref 51 := h0
      subst h0; subst hy
      have e : y = x := by simpa using x1
      subst e
      have e2 : s_ρ (s_en 4 [.inr (.inl 51), .inl (0, 4)]) (am_entry 4 [.ref 51, .int y]) 2 = y.toInt := rfl
      refine ⟨by decide, by show 0 ≤ s_ρ _ (am_entry 4 [.ref 51, .int y]) 2 + 0; rw [e2]; omega, ?_⟩
      show 0 ≤ (σ.1 80 (s_ρ _ (am_entry 4 [.ref 51, .int y]) 2 + 0).toNat).toInt ∧ (σ.1 80 (s_ρ _ (am_entry 4 [.ref 51, .int y]) 2 + 0).toNat).toInt ≤ 11
      rw [e2, Int.add_zero]
      exact x3
  · cases v' with
    | some _ => cases hr
    | none =>
      cases v with
      | some _ => exact hv.elim
      | none => exact h τ hI.1 (hJ' τ hI.2) hI.2
theorem mX12_otherGoesy (l : Launch) : am_M l TB NB vwCl SH KF yX12_otherGoes cX12_otherGoes 4 none 7 0 0 (wyX12_otherGoes) := by
  refine am_M.of xX12_otherGoest (by decide +kernel) TB_good GF rfl rfl rfl (by decide) ⟨FT_X12_ok, PT_X12_ok _, CT_X12_ok, KT_X12_ok, LT_X12_ok, NT_X12_ok, ?_⟩ pX12_otherGoesy
  exact List.forall_mem_cons.mpr ⟨⟨yX12_isRung, cX12_isRung, 2, (some .boolean), 3, 1, nX12_isRung l, by decide, by decide, tk_1633, tk_120, ⟨by decide +kernel, by decide +kernel, by decide +kernel⟩, rfl, tk_1630, tk_1632, ⟨(RX12, TX12, 63), rfl, tb_at 63 (by decide +kernel) (by decide +kernel)⟩⟩, List.forall_mem_cons.mpr ⟨⟨yX12_couldCome, cX12_couldCome, 3, (some .boolean), 6, 2, nX12_couldCome l, by decide, by decide, tk_1687, tk_120, ⟨by decide +kernel, by decide +kernel, by decide +kernel⟩, rfl, tk_1684, tk_1686, ⟨(RX12, TX12, 63), rfl, tb_at 74 (by decide +kernel) (by decide +kernel)⟩⟩, List.forall_mem_cons.mpr ⟨⟨yX12_marks, cX12_marks, 2, none, 2, 1, mX12_marksi l, by decide, by decide, tk_1809, tk_120, ⟨by decide +kernel, by decide +kernel, by decide +kernel⟩, rfl, tk_1806, tk_1808, ⟨(RX12, TX12, 63), rfl, tb_at 93 (by decide +kernel) (by decide +kernel)⟩⟩, fun _ h => absurd h List.not_mem_nil⟩⟩⟩
def LX12_bothGo : List (Nat × Instr × Nat) := [(0, .iload_n 3, 1), (1, .iconst 1, 1), (2, .isub, 1), (3, .istore 5, 2), (5, .iload 5, 2), (7, .iload_n 3, 1), (8, .iconst 1, 1), (9, .iadd, 1), (10, .if_icmp .gt 71, 3), (13, .aload_n 0, 1), (14, .getfield 104, 3), (17, .iload_n 1, 1), (18, .iload_n 3, 1), (19, .iastore, 1), (20, .aload_n 0, 1), (21, .getfield 104, 3), (24, .iload_n 2, 1), (25, .iload 4, 2), (27, .iastore, 1), (28, .iload 5, 2), (30, .iload_n 3, 1), (31, .if_icmp .eq 25, 3), (34, .aload_n 0, 1), (35, .iload 5, 2), (37, .invokevirtual 306, 3), (40, .ifCond .eq 35, 3), (43, .aload_n 0, 1), (44, .iload_n 1, 1), (45, .iload 5, 2), (47, .invokevirtual 348, 3), (50, .ifCond .ne 6, 3), (53, .goto 22, 3), (56, .aload_n 0, 1), (57, .getfield 104, 3), (60, .iload_n 1, 1), (61, .iload 5, 2), (63, .iastore, 1), (64, .aload_n 0, 1), (65, .iload 5, 2), (67, .putfield 417, 3), (70, .aload_n 0, 1), (71, .iload_n 2, 1), (72, .invokevirtual 420, 3), (75, .iinc 5 1, 3), (78, .goto (-73), 3), (81, .return_, 1)]
theorem LX12_bothGo_ok : LX12_bothGo.all (dk_q cX12_bothGo) = true := by decide +kernel
def xX12_bothGot : am_X := (SH, KF, none, FT_X12, PT_X12, CT_X12, KT_X12, LT_X12, NT_X12, [(306, 0, 2, 12, 0, 0, sp_w JJ BB SH 92 wX12_isRung), (348, 0, 3, 12, 0, 0, sp_w JJ BB SH 92 wX12_couldCome), (420, 0, 2, 12, 0, 0, wyX12_otherGoes)])
def CX12_bothGot (M : sa_M) : ta_C := [(306, 0, 2, 12, t_w M wX12_isRung), (348, 0, 3, 12, t_w M wX12_couldCome), (420, 0, 2, 12, t_wc M [.inr (.inl 51), .inl (0, 4)] [(80, 1, 0, 11)] og_M)]
theorem hX12_bothGot (M : sa_M) (σ0 : am_S) (hJ : ∀ τ, sb_fr M σ0 τ → JJ τ) : t_CS BB (am_SH xX12_bothGot) 92 M σ0 (am_ML xX12_bothGot) (CX12_bothGot M) := t_cs_cons (t_w_ok hJ) (t_cs_cons (t_w_ok hJ) (t_cs_cons (t_wc_ok hJ) (t_cs_nil)))
def bg_M : sa_M := [(51, 44, 45), (51, 54, 55), (77, 0, 9), (78, 0, 400), (80, 0, 51), (84, 0, 144)]
def bg_cut (first : Bool) (pc : Nat) (E : sa_E) (_ : ta_F) (L : List (Option sa_V)) (S : List sa_V) : Bool := decide (pc = 5) && (S.isEmpty && (match L with
  | [some (.inr (.inl r)), some (.inl a), some (.inl b), some (.inl o), some (.inl w), some (.inl t)] => decide (r = 51 ∧ a = (2, 0) ∧ b = (3, 0) ∧ o = (4, 0) ∧ w = (5, 0) ∧ (if first then t = (4, -1) else t = (6, 1)) ∧ (sa_h E t).2 ≤ 13)
  | _ => false))
theorem bg_loop {σ0 : am_S} {post : Option Value → am_S → Prop} {AA : Nat → List (Option Value) → List Value → Nat → am_S → Prop} (hA : ∀ cuts f pc ls stk n τ, am_vc cX12_bothGo xX12_bothGot 92 post AA cuts f pc ls stk n τ → AA pc ls stk n τ) (hJ : ∀ τ, sb_fr bg_M σ0 τ → JJ τ) (hpost : ∀ τ, sI BB SH bg_M σ0 τ → post none τ) {a b one two : Int32} (ha : 0 ≤ a.toInt ∧ a.toInt ≤ 4) (hb : 0 ≤ b.toInt ∧ b.toInt ≤ 4) (ho : 0 ≤ one.toInt ∧ one.toInt ≤ 11) (hw : 0 ≤ two.toInt ∧ two.toInt ≤ 11) : ∀ (m : Nat) (t : Int) (σ : am_S), (20 - t).toNat = m → -1 ≤ t → t ≤ 13 → sI BB SH bg_M σ0 σ → AA 5 [some (.ref 51), some (.int a), some (.int b), some (.int one), some (.int two), some (.int (Int32.ofInt t))] [] 92 σ := by
  intro m
  induction m using Nat.strongRecOn with
  | ind m ih =>
  intro t σ hm h1 h2 hI
  have et0 : (Int32.ofInt t).toInt = t := ii_t (by omega) (by omega)
  refine t_seg (X := xX12_bothGot) (B := BB) (N := 92) (CS := CX12_bothGot bg_M) (M := bg_M) (D := LX12_bothGo) (cuts := [(5, 6)]) (Fk := [17, 24, 44, 60, 71]) (P := [some (.inr (.inl 51)), some (.inl (0, 4)), some (.inl (0, 4)), some (.inl (0, 11)), some (.inl (0, 11)), some (.inl (-1, 13))]) (σ0 := σ0) (σ := σ) [] (fun _ _ v => v.isNone) (bg_cut false) 600 hA (dk_D_ok LX12_bothGo_ok) (hX12_bothGot bg_M σ0 hJ) (s_P_r (s_P_i ha (s_P_i hb (s_P_i ho (s_P_i hw (s_P_i ⟨by rw [et0]; exact h1, by rw [et0]; exact h2⟩ s_P_nil)))))) t_sc_nil hI (by decide +kernel) (fun E' F' ρ' v' v τ hr hx hE hF hv hI' => ?_) (fun pc' E' F' L' S' hc' ρ' ls' st' τ hx hE hF hL hS hI' => ?_)
  · cases v' with
    | some _ => cases hr
    | none =>
      cases v with
      | some _ => exact hv.elim
      | none => exact hpost τ hI'
  · simp only [bg_cut, Bool.and_eq_true, decide_eq_true_eq, List.isEmpty_iff] at hc'
    obtain ⟨rfl, rfl, hc'⟩ := hc'
    cases st' with
    | cons _ _ => exact hS.elim
    | nil =>
      split at hc'
      · rename_i r a' b' o' w' t'
        have hc' := of_decide_eq_true hc'
        obtain ⟨rfl, rfl, rfl, rfl, rfl, rfl, hc6⟩ := hc'
        obtain ⟨v, v1, v2, x, rfl, v4⟩ := hL.2.1 5 _ rfl
        have hh := sa_h_ok hE v4
        have e := sg_L_eq rfl hL
        subst e
        have g : ∀ i, i < 7 → ρ' i = s_ρ [some (.inr (.inl 51)), some (.inl (0, 4)), some (.inl (0, 4)), some (.inl (0, 11)), some (.inl (0, 11)), some (.inl (-1, 13))] [some (.ref 51), some (.int a), some (.int b), some (.int one), some (.int two), some (.int (Int32.ofInt t))] i := fun i hi' => (hx.2 i (by show i < 7; exact hi')).trans (if_pos hi')
        have e2 : ρ' 2 = a.toInt := g 2 (by decide)
        have e3 : ρ' 3 = b.toInt := g 3 (by decide)
        have e4 : ρ' 4 = one.toInt := g 4 (by decide)
        have e5 : ρ' 5 = two.toInt := g 5 (by decide)
        have e6 : ρ' 6 = t := (g 6 (by decide)).trans et0
        simp only [e6] at v4 hh
        simp only [List.map_cons, List.map_nil, s_cl, e2, e3, e4, e5, e6, Int.add_zero, ← ii_of]
        exact ih _ (by omega) (t + 1) τ rfl (by omega) (by omega) hI'
      · cases hc'
theorem qX12_bothGo : am_B cX12_bothGo xX12_bothGot 6 0 (sp_w JJ BB SH 92 wX12_bothGo) := by
  intro n0 as σ post AA hA h
  obtain ⟨rfl, hB, hJ, w, hw, has, h⟩ := h
  have ew : w = ([.inr (.inl 51), .inl (0, 4), .inl (0, 4), .inl (0, 11), .inl (0, 11)], [(none, [])], bg_M) := List.mem_singleton.mp hw
  subst ew
  match as, has with
  | [v0, v1, v2, v3, v4], ⟨h0, ⟨a, ha0, ha⟩, ⟨b, hb0, hb⟩, ⟨one, ho0, ho⟩, ⟨two, hw0, hw2⟩, _⟩ =>
  have h0 : v0 = .ref 51 := h0
  subst h0; subst ha0; subst hb0; subst ho0; subst hw0
  have hJ' : ∀ τ, sb_fr bg_M σ τ → JJ τ := fun τ hf => JJ_fr (sm := [([], [], bg_M)]) (by decide +kernel) _ (List.mem_singleton.mpr rfl) σ τ hJ hf
  have hpost : ∀ τ, sI BB SH bg_M σ τ → post none τ := fun τ hI => h _ τ hI.1 (hJ' τ hI.2) hI.2 ⟨_, List.mem_cons_self, trivial, fun q hq => absurd hq List.not_mem_nil⟩
  have ho1 : 0 ≤ one.toInt := ho.1
  have ho2 : one.toInt ≤ 11 := ho.2
  refine ⟨by simp [am_sl, Value.category], ?_⟩
  show AA 0 [some (.ref 51), some (.int a), some (.int b), some (.int one), some (.int two), none] [] 92 σ
  refine t_seg (X := xX12_bothGot) (B := BB) (N := 92) (CS := CX12_bothGot bg_M) (M := bg_M) (D := LX12_bothGo) (cuts := [(5, 6)]) (Fk := []) (P := [some (.inr (.inl 51)), some (.inl (0, 4)), some (.inl (0, 4)), some (.inl (0, 11)), some (.inl (0, 11)), none]) (σ0 := σ) (σ := σ) [] t_no (bg_cut true) 300 hA (dk_D_ok LX12_bothGo_ok) (hX12_bothGot bg_M σ hJ') (s_P_r (s_P_i ha (s_P_i hb (s_P_i ho (s_P_i hw2 (s_P_n s_P_nil)))))) t_sc_nil ⟨hB, sb_fr_r _ _⟩ (by decide +kernel) (fun E' F' ρ' v' v τ hr hx hE hF hv hI' => by cases hr) (fun pc' E' F' L' S' hc' ρ' ls' st' τ hx hE hF hL hS hI' => ?_)
  simp only [bg_cut, Bool.and_eq_true, decide_eq_true_eq, List.isEmpty_iff] at hc'
  obtain ⟨rfl, rfl, hc'⟩ := hc'
  cases st' with
  | cons _ _ => exact hS.elim
  | nil =>
    split at hc'
    · rename_i r a' b' o' w' t'
      have hc' := of_decide_eq_true hc'
      obtain ⟨rfl, rfl, rfl, rfl, rfl, rfl, hc6⟩ := hc'
      have e := sg_L_eq rfl hL
      subst e
      have g : ∀ i, i < 7 → ρ' i = s_ρ [some (.inr (.inl 51)), some (.inl (0, 4)), some (.inl (0, 4)), some (.inl (0, 11)), some (.inl (0, 11)), none] [some (.ref 51), some (.int a), some (.int b), some (.int one), some (.int two), none] i := fun i hi' => (hx.2 i (by show i < 7; exact hi')).trans (if_pos hi')
      have e2 : ρ' 2 = a.toInt := g 2 (by decide)
      have e3 : ρ' 3 = b.toInt := g 3 (by decide)
      have e4 : ρ' 4 = one.toInt := g 4 (by decide)
      have e5 : ρ' 5 = two.toInt := g 5 (by decide)
      simp only [List.map_cons, List.map_nil, s_cl, e2, e3, e4, e5, Int.add_zero, ← ii_of]
      exact bg_loop hA hJ' hpost ha hb ho hw2 _ _ τ rfl (by omega) (by omega) hI'
    · cases hc'
theorem nX12_bothGo (l : Launch) : am_M l TB NB vwCl SH KF yX12_bothGo cX12_bothGo 6 none 8 0 0 (sp_w JJ BB SH 92 wX12_bothGo) := by
  refine am_M.of xX12_bothGot (by decide +kernel) TB_good GF rfl rfl rfl (by decide) ⟨FT_X12_ok, PT_X12_ok _, CT_X12_ok, KT_X12_ok, LT_X12_ok, NT_X12_ok, ?_⟩ qX12_bothGo
  exact List.forall_mem_cons.mpr ⟨⟨yX12_isRung, cX12_isRung, 2, (some .boolean), 3, 1, nX12_isRung l, by decide, by decide, tk_1633, tk_120, ⟨by decide +kernel, by decide +kernel, by decide +kernel⟩, rfl, tk_1630, tk_1632, ⟨(RX12, TX12, 63), rfl, tb_at 63 (by decide +kernel) (by decide +kernel)⟩⟩, List.forall_mem_cons.mpr ⟨⟨yX12_couldCome, cX12_couldCome, 3, (some .boolean), 6, 2, nX12_couldCome l, by decide, by decide, tk_1687, tk_120, ⟨by decide +kernel, by decide +kernel, by decide +kernel⟩, rfl, tk_1684, tk_1686, ⟨(RX12, TX12, 63), rfl, tb_at 74 (by decide +kernel) (by decide +kernel)⟩⟩, List.forall_mem_cons.mpr ⟨⟨yX12_otherGoes, cX12_otherGoes, 4, none, 7, 1, mX12_otherGoesy l, by decide, by decide, tk_1805, tk_120, ⟨by decide +kernel, by decide +kernel, by decide +kernel⟩, rfl, tk_1802, tk_1804, ⟨(RX12, TX12, 63), rfl, tb_at 92 (by decide +kernel) (by decide +kernel)⟩⟩, fun _ h => absurd h List.not_mem_nil⟩⟩⟩
/-! SAFETY WORDS of the reference. Printed by wip/am/chk. -/
def LX12_widthsOn : List (Nat × Instr × Nat) := [(0, .aload_n 0, 1), (1, .aload_n 0, 1), (2, .iload_n 1, 1), (3, .invokevirtual 312, 3), (6, .invokevirtual 315, 3), (9, .ireturn, 1)]
theorem LX12_widthsOn_ok : LX12_widthsOn.all (dk_q cX12_widthsOn) = true := by decide +kernel
def wX12_widthsOn : List sa_A := [([.inr (.inl 51), .inl ((-2147483648), 2147483647)], [(some (.inl ((-2147483648), 2147483647)), [])], [])]
def eX12_widthsOn : List (List sa_K) := [[]]
def CX12_widthsOn : sa_C := [(312, 0, 2, 12, wX12_onRung), (315, 0, 2, 12, wX12_widthsOf)]
def xX12_widthsOnz : am_X := (SH, KF, (some .int), FT_X12, PT_X12, CT_X12, KT_X12, LT_X12, NT_X12, s_ML CX12_widthsOn)
theorem qX12_widthsOn : am_B cX12_widthsOn xX12_widthsOnz 2 0 (sp_w JJ BB SH 92 wX12_widthsOn) := s_chk_ok (X := xX12_widthsOnz) (CS := CX12_widthsOn) (Fk := ([], GG)) (fuel := 2000) (info := wX12_widthsOn.zip eX12_widthsOn) rfl (s_ML_ok rfl rfl) (JJ_fr (by decide +kernel)) JJ_G (dk_D_ok LX12_widthsOn_ok) (by decide +kernel)
theorem nX12_widthsOn (l : Launch) : am_M l TB NB vwCl SH KF yX12_widthsOn cX12_widthsOn 2 (some .int) 4 0 0 (sp_w JJ BB SH 92 wX12_widthsOn) := by
  refine am_M.of xX12_widthsOnz (by decide +kernel) TB_good GF rfl rfl rfl (by decide) ⟨FT_X12_ok, PT_X12_ok _, CT_X12_ok, KT_X12_ok, LT_X12_ok, NT_X12_ok, ?_⟩ qX12_widthsOn
  exact List.forall_mem_cons.mpr ⟨⟨yX12_onRung, cX12_onRung, 4, (some .int), 2, 1, nX12_onRung l, by decide, by decide, tk_1664, tk_120, ⟨by decide +kernel, by decide +kernel, by decide +kernel⟩, rfl, tk_1661, tk_1663, ⟨(RX12, TX12, 63), rfl, tb_at 70 (by decide +kernel) (by decide +kernel)⟩⟩, List.forall_mem_cons.mpr ⟨⟨yX12_widthsOf, cX12_widthsOf, 4, (some .int), 3, 1, nX12_widthsOf l, by decide, by decide, tk_1668, tk_120, ⟨by decide +kernel, by decide +kernel, by decide +kernel⟩, rfl, tk_1665, tk_1667, ⟨(RX12, TX12, 63), rfl, tb_at 71 (by decide +kernel) (by decide +kernel)⟩⟩, fun _ h => absurd h List.not_mem_nil⟩⟩
def LX12_breaksOf : List (Nat × Instr × Nat) := [(0, .aload_n 0, 1), (1, .iload_n 1, 1), (2, .invokevirtual 318, 3), (5, .aload_n 0, 1), (6, .getfield 95, 3), (9, .bipush 7, 2), (11, .aload_n 0, 1), (12, .iload_n 1, 1), (13, .invokevirtual 333, 3), (16, .iastore, 1), (17, .aload_n 0, 1), (18, .iconst 3, 1), (19, .iconst 0, 1), (20, .invokevirtual 324, 3), (23, .iconst 0, 1), (24, .bipush 100, 2), (26, .invokestatic 327, 3), (29, .ireturn, 1)]
theorem LX12_breaksOf_ok : LX12_breaksOf.all (dk_q cX12_breaksOf) = true := by decide +kernel
def wX12_breaksOf : List sa_A := [([.inr (.inl 51), .inl (0, 11)], [(some (.inl (0, 100)), [])], [(51, 44, 45), (77, 0, 9), (78, 0, 400)])]
def eX12_breaksOf : List (List sa_K) := [[]]
def CX12_breaksOf : sa_C := [(318, 0, 2, 12, wX12_looks), (324, 0, 3, 12, wX12_lawTells), (327, 1, 3, 12, wX12_within), (333, 0, 2, 12, wX12_widthsOn)]
def xX12_breaksOfz : am_X := (SH, KF, (some .int), FT_X12, PT_X12, CT_X12, KT_X12, LT_X12, NT_X12, s_ML CX12_breaksOf)
theorem qX12_breaksOf : am_B cX12_breaksOf xX12_breaksOfz 2 0 (sp_w JJ BB SH 92 wX12_breaksOf) := s_chk_ok (X := xX12_breaksOfz) (CS := CX12_breaksOf) (Fk := ([], GG)) (fuel := 2000) (info := wX12_breaksOf.zip eX12_breaksOf) rfl (s_ML_ok rfl rfl) (JJ_fr (by decide +kernel)) JJ_G (dk_D_ok LX12_breaksOf_ok) (by decide +kernel)
theorem nX12_breaksOf (l : Launch) : am_M l TB NB vwCl SH KF yX12_breaksOf cX12_breaksOf 2 (some .int) 5 0 0 (sp_w JJ BB SH 92 wX12_breaksOf) := by
  refine am_M.of xX12_breaksOfz (by decide +kernel) TB_good GF rfl rfl rfl (by decide) ⟨FT_X12_ok, PT_X12_ok _, CT_X12_ok, KT_X12_ok, LT_X12_ok, NT_X12_ok, ?_⟩ qX12_breaksOf
  exact List.forall_mem_cons.mpr ⟨⟨yX12_looks, cX12_looks, 3, none, 2, 1, nX12_looks l, by decide, by decide, tk_1645, tk_120, ⟨by decide +kernel, by decide +kernel, by decide +kernel⟩, rfl, tk_1642, tk_1644, ⟨(RX12, TX12, 63), rfl, tb_at 66 (by decide +kernel) (by decide +kernel)⟩⟩, List.forall_mem_cons.mpr ⟨⟨yX12_lawTells, cX12_lawTells, 7, (some .int), 3, 2, nX12_lawTells l, by decide, by decide, tk_1649, tk_120, ⟨by decide +kernel, by decide +kernel, by decide +kernel⟩, rfl, tk_1646, tk_1648, ⟨(RX12, TX12, 63), rfl, tb_at 67 (by decide +kernel) (by decide +kernel)⟩⟩, List.forall_mem_cons.mpr ⟨⟨yX12_within, cX12_within, 3, (some .int), 2, 3, nX12_within l, by decide, by decide, tk_1656, tk_120, ⟨by decide +kernel, by decide +kernel, by decide +kernel⟩, rfl, tk_1654, tk_1655⟩, List.forall_mem_cons.mpr ⟨⟨yX12_widthsOn, cX12_widthsOn, 2, (some .int), 4, 1, nX12_widthsOn l, by decide, by decide, tk_1660, tk_120, ⟨by decide +kernel, by decide +kernel, by decide +kernel⟩, rfl, tk_1657, tk_1659, ⟨(RX12, TX12, 63), rfl, tb_at 69 (by decide +kernel) (by decide +kernel)⟩⟩, fun _ h => absurd h List.not_mem_nil⟩⟩⟩⟩
def LX12_mixed : List (Nat × Instr × Nat) := [(0, .iload_n 0, 1), (1, .iload_n 1, 1), (2, .ixor, 1), (3, .ldc_w 302, 3), (6, .imul, 1), (7, .sipush 12345, 3), (10, .iadd, 1), (11, .istore_n 2, 1), (12, .iload_n 2, 1), (13, .iload_n 2, 1), (14, .bipush 15, 2), (16, .iushr, 1), (17, .ixor, 1), (18, .ireturn, 1)]
theorem LX12_mixed_ok : LX12_mixed.all (dk_q cX12_mixed) = true := by decide +kernel
def wX12_mixed : List sa_A := [([.inl ((-2147483648), 2147483647), .inl ((-2147483648), 2147483647)], [(some (.inl ((-2147483648), 2147483647)), [])], [])]
def eX12_mixed : List (List sa_K) := [[]]
def CX12_mixed : sa_C := []
def xX12_mixedz : am_X := (SH, KF, (some .int), FT_X12, PT_X12, CT_X12, KT_X12, LT_X12, NT_X12, s_ML CX12_mixed)
theorem qX12_mixed : am_B cX12_mixed xX12_mixedz 3 0 (sp_w JJ BB SH 92 wX12_mixed) := s_chk_ok (X := xX12_mixedz) (CS := CX12_mixed) (Fk := ([], GG)) (fuel := 2000) (info := wX12_mixed.zip eX12_mixed) rfl (s_ML_ok rfl rfl) (JJ_fr (by decide +kernel)) JJ_G (dk_D_ok LX12_mixed_ok) (by decide +kernel)
theorem nX12_mixed (l : Launch) : am_M l TB NB vwCl SH KF yX12_mixed cX12_mixed 3 (some .int) 2 0 0 (sp_w JJ BB SH 92 wX12_mixed) := by
  refine am_M.of xX12_mixedz (by decide +kernel) TB_good GF rfl rfl rfl (by decide) ⟨FT_X12_ok, PT_X12_ok _, CT_X12_ok, KT_X12_ok, LT_X12_ok, NT_X12_ok, ?_⟩ qX12_mixed
  exact fun _ h => absurd h List.not_mem_nil
def LX12_lotOf : List (Nat × Instr × Nat) := [(0, .aload_n 0, 1), (1, .getfield 296, 3), (4, .sipush 131, 3), (7, .invokestatic 303, 3), (10, .iload_n 1, 1), (11, .invokestatic 303, 3), (14, .iconst 1, 1), (15, .iushr, 1), (16, .bipush 100, 2), (18, .irem, 1), (19, .ireturn, 1)]
theorem LX12_lotOf_ok : LX12_lotOf.all (dk_q cX12_lotOf) = true := by decide +kernel
def wX12_lotOf : List sa_A := [([.inr (.inl 51), .inl ((-2147483648), 2147483647)], [(some (.inl ((-2147483648), 2147483647)), [])], [])]
def eX12_lotOf : List (List sa_K) := [[]]
def CX12_lotOf : sa_C := [(303, 1, 2, 12, wX12_mixed)]
def xX12_lotOfz : am_X := (SH, KF, (some .int), FT_X12, PT_X12, CT_X12, KT_X12, LT_X12, NT_X12, s_ML CX12_lotOf)
theorem qX12_lotOf : am_B cX12_lotOf xX12_lotOfz 2 0 (sp_w JJ BB SH 92 wX12_lotOf) := s_chk_ok (X := xX12_lotOfz) (CS := CX12_lotOf) (Fk := ([], GG)) (fuel := 2000) (info := wX12_lotOf.zip eX12_lotOf) rfl (s_ML_ok rfl rfl) (JJ_fr (by decide +kernel)) JJ_G (dk_D_ok LX12_lotOf_ok) (by decide +kernel)
theorem nX12_lotOf (l : Launch) : am_M l TB NB vwCl SH KF yX12_lotOf cX12_lotOf 2 (some .int) 3 0 0 (sp_w JJ BB SH 92 wX12_lotOf) := by
  refine am_M.of xX12_lotOfz (by decide +kernel) TB_good GF rfl rfl rfl (by decide) ⟨FT_X12_ok, PT_X12_ok _, CT_X12_ok, KT_X12_ok, LT_X12_ok, NT_X12_ok, ?_⟩ qX12_lotOf
  exact List.forall_mem_cons.mpr ⟨⟨yX12_mixed, cX12_mixed, 3, (some .int), 2, 2, nX12_mixed l, by decide, by decide, tk_1760, tk_120, ⟨by decide +kernel, by decide +kernel, by decide +kernel⟩, rfl, tk_1758, tk_1759⟩, fun _ h => absurd h List.not_mem_nil⟩
def LX12_breakingBits : List (Nat × Instr × Nat) := [(0, .iconst 0, 1), (1, .istore_n 1, 1), (2, .iconst 0, 1), (3, .istore_n 2, 1), (4, .iload_n 2, 1), (5, .aload_n 0, 1), (6, .getfield 43, 3), (9, .aload_n 0, 1), (10, .getfield 221, 3), (13, .iaload, 1), (14, .if_icmp .ge 47, 3), (17, .aload_n 0, 1), (18, .iload_n 2, 1), (19, .invokevirtual 336, 3), (22, .ifCond .eq 33, 3), (25, .aload_n 0, 1), (26, .bipush 16, 2), (28, .aload_n 0, 1), (29, .getfield 104, 3), (32, .bipush 49, 2), (34, .iaload, 1), (35, .imul, 1), (36, .iload_n 2, 1), (37, .iadd, 1), (38, .invokevirtual 356, 3), (41, .aload_n 0, 1), (42, .iload_n 2, 1), (43, .invokevirtual 359, 3), (46, .if_icmp .ge 9, 3), (49, .iload_n 1, 1), (50, .iconst 1, 1), (51, .iload_n 2, 1), (52, .ishl, 1), (53, .ior, 1), (54, .istore_n 1, 1), (55, .iinc 2 1, 3), (58, .goto (-54), 3), (61, .iload_n 1, 1), (62, .ireturn, 1)]
theorem LX12_breakingBits_ok : LX12_breakingBits.all (dk_q cX12_breakingBits) = true := by decide +kernel
def wX12_breakingBits : List sa_A := [([.inr (.inl 51)], [(some (.inl ((-2147483648), 2147483647)), [])], [(51, 44, 45), (77, 0, 9), (78, 0, 400)])]
def eX12_breakingBits : List (List sa_K) := [[(4, 3, [some (.inr (.inl 51)), some (.inl ((-2147483648), 2147483647)), some (.inl (0, 12))], [(0, 999), (1, 2), (0, 1000)], [])]]
def CX12_breakingBits : sa_C := [(336, 0, 2, 12, wX12_isWhole), (356, 0, 2, 12, wX12_lotOf), (359, 0, 2, 12, wX12_breaksOf)]
def xX12_breakingBitsz : am_X := (SH, KF, (some .int), FT_X12, PT_X12, CT_X12, KT_X12, LT_X12, NT_X12, s_ML CX12_breakingBits)
theorem qX12_breakingBits : am_B cX12_breakingBits xX12_breakingBitsz 3 0 (sp_w JJ BB SH 92 wX12_breakingBits) := s_chk_ok (X := xX12_breakingBitsz) (CS := CX12_breakingBits) (Fk := ([], GG)) (fuel := 2000) (info := wX12_breakingBits.zip eX12_breakingBits) rfl (s_ML_ok rfl rfl) (JJ_fr (by decide +kernel)) JJ_G (dk_D_ok LX12_breakingBits_ok) (by decide +kernel)
theorem nX12_breakingBits (l : Launch) : am_M l TB NB vwCl SH KF yX12_breakingBits cX12_breakingBits 3 (some .int) 6 0 0 (sp_w JJ BB SH 92 wX12_breakingBits) := by
  refine am_M.of xX12_breakingBitsz (by decide +kernel) TB_good GF rfl rfl rfl (by decide) ⟨FT_X12_ok, PT_X12_ok _, CT_X12_ok, KT_X12_ok, LT_X12_ok, NT_X12_ok, ?_⟩ qX12_breakingBits
  exact List.forall_mem_cons.mpr ⟨⟨yX12_isWhole, cX12_isWhole, 2, (some .boolean), 4, 1, nX12_isWhole l, by decide, by decide, tk_1672, tk_120, ⟨by decide +kernel, by decide +kernel, by decide +kernel⟩, rfl, tk_1669, tk_1671, ⟨(RX12, TX12, 63), rfl, tb_at 72 (by decide +kernel) (by decide +kernel)⟩⟩, List.forall_mem_cons.mpr ⟨⟨yX12_lotOf, cX12_lotOf, 2, (some .int), 3, 1, nX12_lotOf l, by decide, by decide, tk_1757, tk_120, ⟨by decide +kernel, by decide +kernel, by decide +kernel⟩, rfl, tk_1754, tk_1756, ⟨(RX12, TX12, 63), rfl, tb_at 85 (by decide +kernel) (by decide +kernel)⟩⟩, List.forall_mem_cons.mpr ⟨⟨yX12_breaksOf, cX12_breaksOf, 2, (some .int), 5, 1, nX12_breaksOf l, by decide, by decide, tk_1676, tk_120, ⟨by decide +kernel, by decide +kernel, by decide +kernel⟩, rfl, tk_1673, tk_1675, ⟨(RX12, TX12, 63), rfl, tb_at 73 (by decide +kernel) (by decide +kernel)⟩⟩, fun _ h => absurd h List.not_mem_nil⟩⟩⟩
def LX12_brokenBits : List (Nat × Instr × Nat) := [(0, .iconst 0, 1), (1, .istore_n 1, 1), (2, .iconst 0, 1), (3, .istore_n 2, 1), (4, .iload_n 2, 1), (5, .aload_n 0, 1), (6, .getfield 43, 3), (9, .aload_n 0, 1), (10, .getfield 221, 3), (13, .iaload, 1), (14, .if_icmp .ge 28, 3), (17, .aload_n 0, 1), (18, .getfield 104, 3), (21, .bipush 25, 2), (23, .iload_n 2, 1), (24, .iadd, 1), (25, .iaload, 1), (26, .iconst 1, 1), (27, .if_icmp .ne 9, 3), (30, .iload_n 1, 1), (31, .iconst 1, 1), (32, .iload_n 2, 1), (33, .ishl, 1), (34, .ior, 1), (35, .istore_n 1, 1), (36, .iinc 2 1, 3), (39, .goto (-35), 3), (42, .iload_n 1, 1), (43, .ireturn, 1)]
theorem LX12_brokenBits_ok : LX12_brokenBits.all (dk_q cX12_brokenBits) = true := by decide +kernel
def wX12_brokenBits : List sa_A := [([.inr (.inl 51)], [(some (.inl ((-2147483648), 2147483647)), [])], [])]
def eX12_brokenBits : List (List sa_K) := [[(4, 3, [some (.inr (.inl 51)), some (.inl ((-2147483648), 2147483647)), some (.inl (0, 12))], [(0, 999), (1, 2), (0, 1000)], [])]]
def CX12_brokenBits : sa_C := []
def xX12_brokenBitsz : am_X := (SH, KF, (some .int), FT_X12, PT_X12, CT_X12, KT_X12, LT_X12, NT_X12, s_ML CX12_brokenBits)
theorem qX12_brokenBits : am_B cX12_brokenBits xX12_brokenBitsz 3 0 (sp_w JJ BB SH 92 wX12_brokenBits) := s_chk_ok (X := xX12_brokenBitsz) (CS := CX12_brokenBits) (Fk := ([], GG)) (fuel := 2000) (info := wX12_brokenBits.zip eX12_brokenBits) rfl (s_ML_ok rfl rfl) (JJ_fr (by decide +kernel)) JJ_G (dk_D_ok LX12_brokenBits_ok) (by decide +kernel)
theorem nX12_brokenBits (l : Launch) : am_M l TB NB vwCl SH KF yX12_brokenBits cX12_brokenBits 3 (some .int) 2 0 0 (sp_w JJ BB SH 92 wX12_brokenBits) := by
  refine am_M.of xX12_brokenBitsz (by decide +kernel) TB_good GF rfl rfl rfl (by decide) ⟨FT_X12_ok, PT_X12_ok _, CT_X12_ok, KT_X12_ok, LT_X12_ok, NT_X12_ok, ?_⟩ qX12_brokenBits
  exact fun _ h => absurd h List.not_mem_nil
def LX12_isWater : List (Nat × Instr × Nat) := [(0, .iload_n 0, 1), (1, .iconst 0, 1), (2, .bipush 99, 2), (4, .invokestatic 292, 3), (7, .ireturn, 1)]
theorem LX12_isWater_ok : LX12_isWater.all (dk_q cX12_isWater) = true := by decide +kernel
def wX12_isWater : List sa_A := [([.inl ((-2147483648), 2147483647)], [(some (.inl (0, 0)), []), (some (.inl (1, 1)), [(0, 0, 99)])], [])]
def eX12_isWater : List (List sa_K) := [[]]
def CX12_isWater : sa_C := [(292, 1, 3, 12, wX12_in)]
def xX12_isWaterz : am_X := (SH, KF, (some .boolean), FT_X12, PT_X12, CT_X12, KT_X12, LT_X12, NT_X12, s_ML CX12_isWater)
theorem qX12_isWater : am_B cX12_isWater xX12_isWaterz 1 0 (sp_w JJ BB SH 92 wX12_isWater) := s_chk_ok (X := xX12_isWaterz) (CS := CX12_isWater) (Fk := ([], GG)) (fuel := 2000) (info := wX12_isWater.zip eX12_isWater) rfl (s_ML_ok rfl rfl) (JJ_fr (by decide +kernel)) JJ_G (dk_D_ok LX12_isWater_ok) (by decide +kernel)
theorem nX12_isWater (l : Launch) : am_M l TB NB vwCl SH KF yX12_isWater cX12_isWater 1 (some .boolean) 3 0 0 (sp_w JJ BB SH 92 wX12_isWater) := by
  refine am_M.of xX12_isWaterz (by decide +kernel) TB_good GF rfl rfl rfl (by decide) ⟨FT_X12_ok, PT_X12_ok _, CT_X12_ok, KT_X12_ok, LT_X12_ok, NT_X12_ok, ?_⟩ qX12_isWater
  exact List.forall_mem_cons.mpr ⟨⟨yX12_in, cX12_in, 3, (some .boolean), 2, 3, nX12_in l, by decide, by decide, tk_1621, tk_120, ⟨by decide +kernel, by decide +kernel, by decide +kernel⟩, rfl, tk_1619, tk_1620⟩, fun _ h => absurd h List.not_mem_nil⟩
def LX12_looksAt : List (Nat × Instr × Nat) := [(0, .aload_n 0, 1), (1, .aload_n 0, 1), (2, .getfield 104, 3), (5, .iload_n 1, 1), (6, .iaload, 1), (7, .invokevirtual 318, 3), (10, .aload_n 0, 1), (11, .getfield 95, 3), (14, .iconst 3, 1), (15, .aload_n 0, 1), (16, .iload_n 1, 1), (17, .invokevirtual 309, 3), (20, .iastore, 1), (21, .aload_n 0, 1), (22, .getfield 95, 3), (25, .iconst 4, 1), (26, .aload_n 0, 1), (27, .getfield 55, 3), (30, .iconst 5, 1), (31, .aload_n 0, 1), (32, .getfield 221, 3), (35, .imul, 1), (36, .iload_n 1, 1), (37, .iadd, 1), (38, .iaload, 1), (39, .iastore, 1), (40, .aload_n 0, 1), (41, .getfield 95, 3), (44, .iconst 5, 1), (45, .aload_n 0, 1), (46, .getfield 58, 3), (49, .iconst 5, 1), (50, .aload_n 0, 1), (51, .getfield 221, 3), (54, .imul, 1), (55, .iload_n 1, 1), (56, .iadd, 1), (57, .iaload, 1), (58, .iastore, 1), (59, .return_, 1)]
theorem LX12_looksAt_ok : LX12_looksAt.all (dk_q cX12_looksAt) = true := by decide +kernel
def wX12_looksAt : List sa_A := [([.inr (.inl 51), .inl (0, 4)], [(none, [])], [(77, 0, 9)])]
def eX12_looksAt : List (List sa_K) := [[]]
def CX12_looksAt : sa_C := [(309, 0, 2, 12, wX12_widthAt), (318, 0, 2, 12, wX12_looks)]
def xX12_looksAtz : am_X := (SH, KF, none, FT_X12, PT_X12, CT_X12, KT_X12, LT_X12, NT_X12, s_ML CX12_looksAt)
theorem qX12_looksAt : am_B cX12_looksAt xX12_looksAtz 2 0 (sp_w JJ BB SH 92 wX12_looksAt) := s_chk_ok (X := xX12_looksAtz) (CS := CX12_looksAt) (Fk := ([], GG)) (fuel := 2000) (info := wX12_looksAt.zip eX12_looksAt) rfl (s_ML_ok rfl rfl) (JJ_fr (by decide +kernel)) JJ_G (dk_D_ok LX12_looksAt_ok) (by decide +kernel)
theorem nX12_looksAt (l : Launch) : am_M l TB NB vwCl SH KF yX12_looksAt cX12_looksAt 2 none 3 0 0 (sp_w JJ BB SH 92 wX12_looksAt) := by
  refine am_M.of xX12_looksAtz (by decide +kernel) TB_good GF rfl rfl rfl (by decide) ⟨FT_X12_ok, PT_X12_ok _, CT_X12_ok, KT_X12_ok, LT_X12_ok, NT_X12_ok, ?_⟩ qX12_looksAt
  exact List.forall_mem_cons.mpr ⟨⟨yX12_widthAt, cX12_widthAt, 2, (some .int), 2, 1, nX12_widthAt l, by decide, by decide, tk_1625, tk_120, ⟨by decide +kernel, by decide +kernel, by decide +kernel⟩, rfl, tk_1622, tk_1624, ⟨(RX12, TX12, 63), rfl, tb_at 62 (by decide +kernel) (by decide +kernel)⟩⟩, List.forall_mem_cons.mpr ⟨⟨yX12_looks, cX12_looks, 3, none, 2, 1, nX12_looks l, by decide, by decide, tk_1645, tk_120, ⟨by decide +kernel, by decide +kernel, by decide +kernel⟩, rfl, tk_1642, tk_1644, ⟨(RX12, TX12, 63), rfl, tb_at 66 (by decide +kernel) (by decide +kernel)⟩⟩, fun _ h => absurd h List.not_mem_nil⟩⟩
def LX12_cupOf : List (Nat × Instr × Nat) := [(0, .aload_n 0, 1), (1, .iload_n 1, 1), (2, .invokevirtual 330, 3), (5, .aload_n 0, 1), (6, .getfield 95, 3), (9, .bipush 8, 2), (11, .iload_n 2, 1), (12, .iastore, 1), (13, .aload_n 0, 1), (14, .iconst 2, 1), (15, .aload_n 0, 1), (16, .getfield 95, 3), (19, .iconst 5, 1), (20, .iaload, 1), (21, .invokevirtual 324, 3), (24, .iconst 0, 1), (25, .iload_n 2, 1), (26, .invokestatic 327, 3), (29, .ireturn, 1)]
theorem LX12_cupOf_ok : LX12_cupOf.all (dk_q cX12_cupOf) = true := by decide +kernel
def wX12_cupOf : List sa_A := [([.inr (.inl 51), .inl (0, 4), .inl ((-2147483648), 2147483647)], [(some (.inl ((-2147483648), 2147483647)), [])], [(51, 44, 45), (77, 0, 9), (78, 0, 400)])]
def eX12_cupOf : List (List sa_K) := [[]]
def CX12_cupOf : sa_C := [(324, 0, 3, 12, wX12_lawTells), (327, 1, 3, 12, wX12_within), (330, 0, 2, 12, wX12_looksAt)]
def xX12_cupOfz : am_X := (SH, KF, (some .int), FT_X12, PT_X12, CT_X12, KT_X12, LT_X12, NT_X12, s_ML CX12_cupOf)
theorem qX12_cupOf : am_B cX12_cupOf xX12_cupOfz 3 0 (sp_w JJ BB SH 92 wX12_cupOf) := s_chk_ok (X := xX12_cupOfz) (CS := CX12_cupOf) (Fk := ([], GG)) (fuel := 2000) (info := wX12_cupOf.zip eX12_cupOf) rfl (s_ML_ok rfl rfl) (JJ_fr (by decide +kernel)) JJ_G (dk_D_ok LX12_cupOf_ok) (by decide +kernel)
theorem nX12_cupOf (l : Launch) : am_M l TB NB vwCl SH KF yX12_cupOf cX12_cupOf 3 (some .int) 4 0 0 (sp_w JJ BB SH 92 wX12_cupOf) := by
  refine am_M.of xX12_cupOfz (by decide +kernel) TB_good GF rfl rfl rfl (by decide) ⟨FT_X12_ok, PT_X12_ok _, CT_X12_ok, KT_X12_ok, LT_X12_ok, NT_X12_ok, ?_⟩ qX12_cupOf
  exact List.forall_mem_cons.mpr ⟨⟨yX12_lawTells, cX12_lawTells, 7, (some .int), 3, 2, nX12_lawTells l, by decide, by decide, tk_1649, tk_120, ⟨by decide +kernel, by decide +kernel, by decide +kernel⟩, rfl, tk_1646, tk_1648, ⟨(RX12, TX12, 63), rfl, tb_at 67 (by decide +kernel) (by decide +kernel)⟩⟩, List.forall_mem_cons.mpr ⟨⟨yX12_within, cX12_within, 3, (some .int), 2, 3, nX12_within l, by decide, by decide, tk_1656, tk_120, ⟨by decide +kernel, by decide +kernel, by decide +kernel⟩, rfl, tk_1654, tk_1655⟩, List.forall_mem_cons.mpr ⟨⟨yX12_looksAt, cX12_looksAt, 2, none, 3, 1, nX12_looksAt l, by decide, by decide, tk_1722, tk_120, ⟨by decide +kernel, by decide +kernel, by decide +kernel⟩, rfl, tk_1719, tk_1721, ⟨(RX12, TX12, 63), rfl, tb_at 79 (by decide +kernel) (by decide +kernel)⟩⟩, fun _ h => absurd h List.not_mem_nil⟩⟩⟩
def LX12_pours : List (Nat × Instr × Nat) := [(0, .iload_n 1, 1), (1, .istore_n 2, 1), (2, .iconst 0, 1), (3, .istore_n 3, 1), (4, .iload_n 3, 1), (5, .aload_n 0, 1), (6, .getfield 43, 3), (9, .aload_n 0, 1), (10, .getfield 221, 3), (13, .iaload, 1), (14, .if_icmp .ge 70, 3), (17, .iconst 0, 1), (18, .istore 4, 2), (20, .iload 4, 2), (22, .aload_n 0, 1), (23, .getfield 46, 3), (26, .aload_n 0, 1), (27, .getfield 221, 3), (30, .iaload, 1), (31, .if_icmp .ge 47, 3), (34, .aload_n 0, 1), (35, .getfield 104, 3), (38, .iload 4, 2), (40, .iaload, 1), (41, .iload_n 3, 1), (42, .if_icmp .eq 6, 3), (45, .goto 27, 3), (48, .aload_n 0, 1), (49, .getfield 110, 3), (52, .iload 4, 2), (54, .aload_n 0, 1), (55, .iload 4, 2), (57, .iload_n 2, 1), (58, .invokevirtual 390, 3), (61, .iastore, 1), (62, .iload_n 2, 1), (63, .aload_n 0, 1), (64, .getfield 110, 3), (67, .iload 4, 2), (69, .iaload, 1), (70, .isub, 1), (71, .istore_n 2, 1), (72, .iinc 4 1, 3), (75, .goto (-55), 3), (78, .iinc 3 1, 3), (81, .goto (-77), 3), (84, .iload_n 2, 1), (85, .ireturn, 1)]
theorem LX12_pours_ok : LX12_pours.all (dk_q cX12_pours) = true := by decide +kernel
def wX12_pours : List sa_A := [([.inr (.inl 51), .inl (0, 99)], [(some (.inl ((-2147483648), 2147483647)), [])], [(51, 44, 45), (77, 0, 9), (78, 0, 400), (82, 0, 5)])]
def eX12_pours : List (List sa_K) := [[(4, 4, [some (.inr (.inl 51)), some (.inl (0, 99)), some (.inl ((-2147483648), 2147483647)), some (.inl (0, 12)), none], [(0, 999), (1, 3), (0, 1000)], []), (20, 5, [some (.inr (.inl 51)), some (.inl (0, 99)), some (.inl ((-2147483648), 2147483647)), some (.inl (0, 11)), some (.inl (0, 5))], [(0, 999), (1, 3), (0, 998), (1, 4), (0, 1000)], [])]]
def CX12_pours : sa_C := [(390, 0, 3, 12, wX12_cupOf)]
def xX12_poursz : am_X := (SH, KF, (some .int), FT_X12, PT_X12, CT_X12, KT_X12, LT_X12, NT_X12, s_ML CX12_pours)
theorem qX12_pours : am_B cX12_pours xX12_poursz 5 0 (sp_w JJ BB SH 92 wX12_pours) := s_chk_ok (X := xX12_poursz) (CS := CX12_pours) (Fk := ([], GG)) (fuel := 2000) (info := wX12_pours.zip eX12_pours) rfl (s_ML_ok rfl rfl) (JJ_fr (by decide +kernel)) JJ_G (dk_D_ok LX12_pours_ok) (by decide +kernel)
theorem nX12_pours (l : Launch) : am_M l TB NB vwCl SH KF yX12_pours cX12_pours 5 (some .int) 5 0 0 (sp_w JJ BB SH 92 wX12_pours) := by
  refine am_M.of xX12_poursz (by decide +kernel) TB_good GF rfl rfl rfl (by decide) ⟨FT_X12_ok, PT_X12_ok _, CT_X12_ok, KT_X12_ok, LT_X12_ok, NT_X12_ok, ?_⟩ qX12_pours
  exact List.forall_mem_cons.mpr ⟨⟨yX12_cupOf, cX12_cupOf, 3, (some .int), 4, 2, nX12_cupOf l, by decide, by decide, tk_1718, tk_120, ⟨by decide +kernel, by decide +kernel, by decide +kernel⟩, rfl, tk_1715, tk_1717, ⟨(RX12, TX12, 63), rfl, tb_at 78 (by decide +kernel) (by decide +kernel)⟩⟩, fun _ h => absurd h List.not_mem_nil⟩
def LX12_can : List (Nat × Instr × Nat) := [(0, .aload_n 0, 1), (1, .iload_n 1, 1), (2, .invokevirtual 378, 3), (5, .ifCond .eq 25, 3), (8, .aload_n 0, 1), (9, .iload_n 2, 1), (10, .invokevirtual 306, 3), (13, .ifCond .eq 17, 3), (16, .aload_n 0, 1), (17, .getfield 101, 3), (20, .iload_n 1, 1), (21, .iaload, 1), (22, .iload_n 2, 1), (23, .invokestatic 384, 3), (26, .iconst 1, 1), (27, .if_icmp .eq 5, 3), (30, .iconst (-1), 1), (31, .ireturn, 1), (32, .aload_n 0, 1), (33, .invokevirtual 381, 3), (36, .aload_n 0, 1), (37, .iload_n 1, 1), (38, .iload_n 2, 1), (39, .invokevirtual 348, 3), (42, .ifCond .eq 7, 3), (45, .iconst 1, 1), (46, .goto 4, 3), (49, .iconst 0, 1), (50, .ireturn, 1)]
theorem LX12_can_ok : LX12_can.all (dk_q cX12_can) = true := by decide +kernel
def wX12_can : List sa_A := [([.inr (.inl 51), .inl ((-2147483648), 2147483647), .inl ((-2147483648), 2147483647)], [(some (.inl ((-1), 1)), [])], [(51, 44, 45), (51, 47, 48), (51, 48, 49), (77, 0, 9), (78, 0, 400), (80, 0, 51)])]
def eX12_can : List (List sa_K) := [[]]
def CX12_can : sa_C := [(306, 0, 2, 12, wX12_isRung), (348, 0, 3, 12, wX12_couldCome), (378, 0, 2, 12, wX12_isPerson), (381, 0, 1, 12, wX12_copies), (384, 1, 2, 12, wX12_off)]
def xX12_canz : am_X := (SH, KF, (some .int), FT_X12, PT_X12, CT_X12, KT_X12, LT_X12, NT_X12, s_ML CX12_can)
theorem qX12_can : am_B cX12_can xX12_canz 3 0 (sp_w JJ BB SH 92 wX12_can) := s_chk_ok (X := xX12_canz) (CS := CX12_can) (Fk := ([], GG)) (fuel := 2000) (info := wX12_can.zip eX12_can) rfl (s_ML_ok rfl rfl) (JJ_fr (by decide +kernel)) JJ_G (dk_D_ok LX12_can_ok) (by decide +kernel)
theorem nX12_can (l : Launch) : am_M l TB NB vwCl SH KF yX12_can cX12_can 3 (some .int) 7 0 0 (sp_w JJ BB SH 92 wX12_can) := by
  refine am_M.of xX12_canz (by decide +kernel) TB_good GF rfl rfl rfl (by decide) ⟨FT_X12_ok, PT_X12_ok _, CT_X12_ok, KT_X12_ok, LT_X12_ok, NT_X12_ok, ?_⟩ qX12_can
  exact List.forall_mem_cons.mpr ⟨⟨yX12_isRung, cX12_isRung, 2, (some .boolean), 3, 1, nX12_isRung l, by decide, by decide, tk_1633, tk_120, ⟨by decide +kernel, by decide +kernel, by decide +kernel⟩, rfl, tk_1630, tk_1632, ⟨(RX12, TX12, 63), rfl, tb_at 63 (by decide +kernel) (by decide +kernel)⟩⟩, List.forall_mem_cons.mpr ⟨⟨yX12_couldCome, cX12_couldCome, 3, (some .boolean), 6, 2, nX12_couldCome l, by decide, by decide, tk_1687, tk_120, ⟨by decide +kernel, by decide +kernel, by decide +kernel⟩, rfl, tk_1684, tk_1686, ⟨(RX12, TX12, 63), rfl, tb_at 74 (by decide +kernel) (by decide +kernel)⟩⟩, List.forall_mem_cons.mpr ⟨⟨yX12_isPerson, cX12_isPerson, 2, (some .boolean), 3, 1, nX12_isPerson l, by decide, by decide, tk_1618, tk_120, ⟨by decide +kernel, by decide +kernel, by decide +kernel⟩, rfl, tk_1615, tk_1617, ⟨(RX12, TX12, 63), rfl, tb_at 61 (by decide +kernel) (by decide +kernel)⟩⟩, List.forall_mem_cons.mpr ⟨⟨yX12_copies, cX12_copies, 2, none, 2, 0, nX12_copies l, by decide, by decide, tk_1637, tk_120, ⟨by decide +kernel, by decide +kernel, by decide +kernel⟩, rfl, tk_1634, tk_1636, ⟨(RX12, TX12, 63), rfl, tb_at 64 (by decide +kernel) (by decide +kernel)⟩⟩, List.forall_mem_cons.mpr ⟨⟨yX12_off, cX12_off, 2, (some .int), 2, 2, nX12_off l, by decide, by decide, tk_1683, tk_120, ⟨by decide +kernel, by decide +kernel, by decide +kernel⟩, rfl, tk_1681, tk_1682⟩, fun _ h => absurd h List.not_mem_nil⟩⟩⟩⟩⟩
def LX12_canLive : List (Nat × Instr × Nat) := [(0, .aload_n 0, 1), (1, .iload_n 2, 1), (2, .invokevirtual 336, 3), (5, .ifCond .eq 17, 3), (8, .aload_n 0, 1), (9, .getfield 104, 3), (12, .iload_n 1, 1), (13, .iaload, 1), (14, .iload_n 2, 1), (15, .invokestatic 384, 3), (18, .iload_n 3, 1), (19, .if_icmp .le 5, 3), (22, .iconst 0, 1), (23, .ireturn, 1), (24, .aload_n 0, 1), (25, .iload_n 1, 1), (26, .invokevirtual 309, 3), (29, .istore 4, 2), (31, .iconst 0, 1), (32, .istore 5, 2), (34, .iload 5, 2), (36, .iload_n 1, 1), (37, .if_icmp .ge 31, 3), (40, .aload_n 0, 1), (41, .getfield 119, 3), (44, .iload 5, 2), (46, .iaload, 1), (47, .iload_n 2, 1), (48, .if_icmp .ne 14, 3), (51, .iload 4, 2), (53, .aload_n 0, 1), (54, .iload 5, 2), (56, .invokevirtual 309, 3), (59, .iadd, 1), (60, .istore 4, 2), (62, .iinc 5 1, 3), (65, .goto (-31), 3), (68, .iload 4, 2), (70, .aload_n 0, 1), (71, .iload_n 2, 1), (72, .invokevirtual 339, 3), (75, .if_icmp .gt 7, 3), (78, .iconst 1, 1), (79, .goto 4, 3), (82, .iconst 0, 1), (83, .ireturn, 1)]
theorem LX12_canLive_ok : LX12_canLive.all (dk_q cX12_canLive) = true := by decide +kernel
def wX12_canLive : List sa_A := [([.inr (.inl 51), .inl (0, 4), .inl ((-1), 12), .inl ((-2147483648), 2147483647)], [(some (.inl (0, 0)), []), (some (.inl (1, 1)), [])], [(51, 44, 45), (77, 0, 9), (78, 0, 400)])]
def eX12_canLive : List (List sa_K) := [[(34, 6, [some (.inr (.inl 51)), some (.inl (0, 4)), some (.inl (0, 11)), some (.inl ((-2147483648), 2147483647)), some (.inl ((-2147483648), 2147483647)), some (.inl (0, 4))], [(0, 999), (1, 5), (0, 1000)], [])]]
def CX12_canLive : sa_C := [(309, 0, 2, 12, wX12_widthAt), (336, 0, 2, 12, wX12_isWhole), (339, 0, 2, 12, wX12_roomOf), (384, 1, 2, 12, wX12_off)]
def xX12_canLivez : am_X := (SH, KF, (some .boolean), FT_X12, PT_X12, CT_X12, KT_X12, LT_X12, NT_X12, s_ML CX12_canLive)
theorem qX12_canLive : am_B cX12_canLive xX12_canLivez 6 0 (sp_w JJ BB SH 92 wX12_canLive) := s_chk_ok (X := xX12_canLivez) (CS := CX12_canLive) (Fk := ([], GG)) (fuel := 2000) (info := wX12_canLive.zip eX12_canLive) rfl (s_ML_ok rfl rfl) (JJ_fr (by decide +kernel)) JJ_G (dk_D_ok LX12_canLive_ok) (by decide +kernel)
theorem nX12_canLive (l : Launch) : am_M l TB NB vwCl SH KF yX12_canLive cX12_canLive 6 (some .boolean) 5 0 0 (sp_w JJ BB SH 92 wX12_canLive) := by
  refine am_M.of xX12_canLivez (by decide +kernel) TB_good GF rfl rfl rfl (by decide) ⟨FT_X12_ok, PT_X12_ok _, CT_X12_ok, KT_X12_ok, LT_X12_ok, NT_X12_ok, ?_⟩ qX12_canLive
  exact List.forall_mem_cons.mpr ⟨⟨yX12_widthAt, cX12_widthAt, 2, (some .int), 2, 1, nX12_widthAt l, by decide, by decide, tk_1625, tk_120, ⟨by decide +kernel, by decide +kernel, by decide +kernel⟩, rfl, tk_1622, tk_1624, ⟨(RX12, TX12, 63), rfl, tb_at 62 (by decide +kernel) (by decide +kernel)⟩⟩, List.forall_mem_cons.mpr ⟨⟨yX12_isWhole, cX12_isWhole, 2, (some .boolean), 4, 1, nX12_isWhole l, by decide, by decide, tk_1672, tk_120, ⟨by decide +kernel, by decide +kernel, by decide +kernel⟩, rfl, tk_1669, tk_1671, ⟨(RX12, TX12, 63), rfl, tb_at 72 (by decide +kernel) (by decide +kernel)⟩⟩, List.forall_mem_cons.mpr ⟨⟨yX12_roomOf, cX12_roomOf, 2, (some .int), 4, 1, nX12_roomOf l, by decide, by decide, tk_1641, tk_120, ⟨by decide +kernel, by decide +kernel, by decide +kernel⟩, rfl, tk_1638, tk_1640, ⟨(RX12, TX12, 63), rfl, tb_at 65 (by decide +kernel) (by decide +kernel)⟩⟩, List.forall_mem_cons.mpr ⟨⟨yX12_off, cX12_off, 2, (some .int), 2, 2, nX12_off l, by decide, by decide, tk_1683, tk_120, ⟨by decide +kernel, by decide +kernel, by decide +kernel⟩, rfl, tk_1681, tk_1682⟩, fun _ h => absurd h List.not_mem_nil⟩⟩⟩⟩
def LX12_goalBits : List (Nat × Instr × Nat) := [(0, .iconst 0, 1), (1, .istore_n 1, 1), (2, .iconst 0, 1), (3, .istore_n 2, 1), (4, .iload_n 2, 1), (5, .aload_n 0, 1), (6, .getfield 46, 3), (9, .aload_n 0, 1), (10, .getfield 221, 3), (13, .iaload, 1), (14, .if_icmp .ge 26, 3), (17, .aload_n 0, 1), (18, .getfield 104, 3), (21, .iconst 5, 1), (22, .iload_n 2, 1), (23, .iadd, 1), (24, .iaload, 1), (25, .ifCond .lt 9, 3), (28, .iload_n 1, 1), (29, .iconst 1, 1), (30, .iload_n 2, 1), (31, .ishl, 1), (32, .ior, 1), (33, .istore_n 1, 1), (34, .iinc 2 1, 3), (37, .goto (-33), 3), (40, .iload_n 1, 1), (41, .ireturn, 1)]
theorem LX12_goalBits_ok : LX12_goalBits.all (dk_q cX12_goalBits) = true := by decide +kernel
def wX12_goalBits : List sa_A := [([.inr (.inl 51)], [(some (.inl ((-2147483648), 2147483647)), [])], [])]
def eX12_goalBits : List (List sa_K) := [[(4, 3, [some (.inr (.inl 51)), some (.inl ((-2147483648), 2147483647)), some (.inl (0, 5))], [(0, 999), (1, 2), (0, 1000)], [])]]
def CX12_goalBits : sa_C := []
def xX12_goalBitsz : am_X := (SH, KF, (some .int), FT_X12, PT_X12, CT_X12, KT_X12, LT_X12, NT_X12, s_ML CX12_goalBits)
theorem qX12_goalBits : am_B cX12_goalBits xX12_goalBitsz 3 0 (sp_w JJ BB SH 92 wX12_goalBits) := s_chk_ok (X := xX12_goalBitsz) (CS := CX12_goalBits) (Fk := ([], GG)) (fuel := 2000) (info := wX12_goalBits.zip eX12_goalBits) rfl (s_ML_ok rfl rfl) (JJ_fr (by decide +kernel)) JJ_G (dk_D_ok LX12_goalBits_ok) (by decide +kernel)
theorem nX12_goalBits (l : Launch) : am_M l TB NB vwCl SH KF yX12_goalBits cX12_goalBits 3 (some .int) 2 0 0 (sp_w JJ BB SH 92 wX12_goalBits) := by
  refine am_M.of xX12_goalBitsz (by decide +kernel) TB_good GF rfl rfl rfl (by decide) ⟨FT_X12_ok, PT_X12_ok _, CT_X12_ok, KT_X12_ok, LT_X12_ok, NT_X12_ok, ?_⟩ qX12_goalBits
  exact fun _ h => absurd h List.not_mem_nil
def LX12_sumNow : List (Nat × Instr × Nat) := [(0, .iconst 0, 1), (1, .istore_n 2, 1), (2, .iload_n 1, 1), (3, .istore_n 3, 1), (4, .iload_n 3, 1), (5, .iload_n 1, 1), (6, .iconst 5, 1), (7, .iadd, 1), (8, .if_icmp .ge 18, 3), (11, .iload_n 2, 1), (12, .aload_n 0, 1), (13, .getfield 101, 3), (16, .iload_n 3, 1), (17, .iaload, 1), (18, .iadd, 1), (19, .istore_n 2, 1), (20, .iinc 3 1, 3), (23, .goto (-19), 3), (26, .iload_n 2, 1), (27, .ireturn, 1)]
theorem LX12_sumNow_ok : LX12_sumNow.all (dk_q cX12_sumNow) = true := by decide +kernel
def wX12_sumNow : List sa_A := [([.inr (.inl 51), .inl (10, 20)], [(some (.inl ((-2147483648), 2147483647)), [])], [])]
def eX12_sumNow : List (List sa_K) := [[(4, 4, [some (.inr (.inl 51)), some (.inl (10, 20)), some (.inl ((-2147483648), 2147483647)), some (.inl (10, 31))], [(0, 999), (1, 3), (0, 1000)], [])]]
def CX12_sumNow : sa_C := []
def xX12_sumNowz : am_X := (SH, KF, (some .int), FT_X12, PT_X12, CT_X12, KT_X12, LT_X12, NT_X12, s_ML CX12_sumNow)
theorem qX12_sumNow : am_B cX12_sumNow xX12_sumNowz 4 0 (sp_w JJ BB SH 92 wX12_sumNow) := s_chk_ok (X := xX12_sumNowz) (CS := CX12_sumNow) (Fk := ([], GG)) (fuel := 2000) (info := wX12_sumNow.zip eX12_sumNow) rfl (s_ML_ok rfl rfl) (JJ_fr (by decide +kernel)) JJ_G (dk_D_ok LX12_sumNow_ok) (by decide +kernel)
theorem nX12_sumNow (l : Launch) : am_M l TB NB vwCl SH KF yX12_sumNow cX12_sumNow 4 (some .int) 2 0 0 (sp_w JJ BB SH 92 wX12_sumNow) := by
  refine am_M.of xX12_sumNowz (by decide +kernel) TB_good GF rfl rfl rfl (by decide) ⟨FT_X12_ok, PT_X12_ok _, CT_X12_ok, KT_X12_ok, LT_X12_ok, NT_X12_ok, ?_⟩ qX12_sumNow
  exact fun _ h => absurd h List.not_mem_nil
def LX12_count : List (Nat × Instr × Nat) := [(0, .aload_n 0, 1), (1, .invokevirtual 381, 3), (4, .iconst 0, 1), (5, .istore_n 2, 1), (6, .iload_n 1, 1), (7, .tableswitch 333 0 16 #[81, 91, 101, 109, 117, 122, 127, 134, 141, 146, 151, 156, 201, 208, 250, 257, 294], 81), (88, .aload_n 0, 1), (89, .getfield 43, 3), (92, .aload_n 0, 1), (93, .getfield 221, 3), (96, .iaload, 1), (97, .ireturn, 1), (98, .aload_n 0, 1), (99, .getfield 46, 3), (102, .aload_n 0, 1), (103, .getfield 221, 3), (106, .iaload, 1), (107, .ireturn, 1), (108, .aload_n 0, 1), (109, .getfield 104, 3), (112, .bipush 49, 2), (114, .iaload, 1), (115, .ireturn, 1), (116, .aload_n 0, 1), (117, .getfield 104, 3), (120, .bipush 50, 2), (122, .iaload, 1), (123, .ireturn, 1), (124, .aload_n 0, 1), (125, .invokevirtual 442, 3), (128, .ireturn, 1), (129, .aload_n 0, 1), (130, .invokevirtual 408, 3), (133, .ireturn, 1), (134, .aload_n 0, 1), (135, .bipush 15, 2), (137, .invokevirtual 454, 3), (140, .ireturn, 1), (141, .aload_n 0, 1), (142, .bipush 20, 2), (144, .invokevirtual 454, 3), (147, .ireturn, 1), (148, .aload_n 0, 1), (149, .getfield 154, 3), (152, .ireturn, 1), (153, .aload_n 0, 1), (154, .getfield 247, 3), (157, .ireturn, 1), (158, .aload_n 0, 1), (159, .getfield 250, 3), (162, .ireturn, 1), (163, .aload_n 0, 1), (164, .getfield 134, 3), (167, .iconst 0, 1), (168, .baload, 1), (169, .ifCond .eq 7, 3), (172, .iconst 1, 1), (173, .goto 4, 3), (176, .iconst 0, 1), (177, .aload_n 0, 1), (178, .getfield 134, 3), (181, .iconst 1, 1), (182, .baload, 1), (183, .ifCond .eq 7, 3), (186, .iconst 1, 1), (187, .goto 4, 3), (190, .iconst 0, 1), (191, .iadd, 1), (192, .aload_n 0, 1), (193, .getfield 134, 3), (196, .iconst 2, 1), (197, .baload, 1), (198, .ifCond .eq 7, 3), (201, .iconst 1, 1), (202, .goto 4, 3), (205, .iconst 0, 1), (206, .iadd, 1), (207, .ireturn, 1), (208, .aload_n 0, 1), (209, .bipush 31, 2), (211, .invokevirtual 315, 3), (214, .ireturn, 1), (215, .iconst 0, 1), (216, .istore_n 3, 1), (217, .iload_n 3, 1), (218, .aload_n 0, 1), (219, .getfield 43, 3), (222, .aload_n 0, 1), (223, .getfield 221, 3), (226, .iaload, 1), (227, .if_icmp .ge 28, 3), (230, .aload_n 0, 1), (231, .iload_n 3, 1), (232, .invokevirtual 333, 3), (235, .aload_n 0, 1), (236, .iload_n 3, 1), (237, .invokevirtual 339, 3), (240, .if_icmp .le 9, 3), (243, .iload_n 2, 1), (244, .iconst 1, 1), (245, .iload_n 3, 1), (246, .ishl, 1), (247, .ior, 1), (248, .istore_n 2, 1), (249, .iinc 3 1, 3), (252, .goto (-35), 3), (255, .iload_n 2, 1), (256, .ireturn, 1), (257, .aload_n 0, 1), (258, .bipush 10, 2), (260, .invokevirtual 454, 3), (263, .ireturn, 1), (264, .iconst 0, 1), (265, .istore_n 3, 1), (266, .iload_n 3, 1), (267, .aload_n 0, 1), (268, .getfield 43, 3), (271, .aload_n 0, 1), (272, .getfield 221, 3), (275, .iaload, 1), (276, .if_icmp .ge 23, 3), (279, .aload_n 0, 1), (280, .iload_n 3, 1), (281, .invokevirtual 312, 3), (284, .ifCond .ne 9, 3), (287, .iload_n 2, 1), (288, .iconst 1, 1), (289, .iload_n 3, 1), (290, .ishl, 1), (291, .ior, 1), (292, .istore_n 2, 1), (293, .iinc 3 1, 3), (296, .goto (-30), 3), (299, .iload_n 2, 1), (300, .ireturn, 1), (301, .iconst 0, 1), (302, .istore_n 3, 1), (303, .iload_n 3, 1), (304, .aload_n 0, 1), (305, .getfield 46, 3), (308, .aload_n 0, 1), (309, .getfield 221, 3), (312, .iaload, 1), (313, .if_icmp .ge 25, 3), (316, .iload_n 2, 1), (317, .aload_n 0, 1), (318, .getfield 58, 3), (321, .iconst 5, 1), (322, .aload_n 0, 1), (323, .getfield 221, 3), (326, .imul, 1), (327, .iload_n 3, 1), (328, .iadd, 1), (329, .iaload, 1), (330, .iadd, 1), (331, .istore_n 2, 1), (332, .iinc 3 1, 3), (335, .goto (-32), 3), (338, .iload_n 2, 1), (339, .ireturn, 1), (340, .iconst (-1), 1), (341, .ireturn, 1)]
theorem LX12_count_ok : LX12_count.all (dk_q cX12_count) = true := by decide +kernel
def wX12_count : List sa_A := [([.inr (.inl 51), .inl ((-2147483648), 2147483647)], [(some (.inl ((-2147483648), 2147483647)), [])], [(51, 44, 45), (51, 47, 48), (51, 48, 49), (77, 0, 9), (78, 0, 400), (80, 0, 51)])]
def eX12_count : List (List sa_K) := [[(217, 4, [some (.inr (.inl 51)), some (.inl (13, 13)), some (.inl ((-2147483648), 2147483647)), some (.inl (0, 12))], [(0, 999), (1, 3), (0, 1000)], []), (266, 4, [some (.inr (.inl 51)), some (.inl (15, 15)), some (.inl ((-2147483648), 2147483647)), some (.inl (0, 12))], [(0, 998), (1, 3), (0, 1000)], []), (303, 4, [some (.inr (.inl 51)), some (.inl (16, 16)), some (.inl ((-2147483648), 2147483647)), some (.inl (0, 5))], [(0, 997), (1, 3), (0, 1000)], [])]]
def CX12_count : sa_C := [(312, 0, 2, 12, wX12_onRung), (315, 0, 2, 12, wX12_widthsOf), (333, 0, 2, 12, wX12_widthsOn), (339, 0, 2, 12, wX12_roomOf), (381, 0, 1, 12, wX12_copies), (408, 0, 1, 12, wX12_goalBits), (442, 0, 1, 12, wX12_brokenBits), (454, 0, 2, 12, wX12_sumNow)]
def xX12_countz : am_X := (SH, KF, (some .int), FT_X12, PT_X12, CT_X12, KT_X12, LT_X12, NT_X12, s_ML CX12_count)
theorem qX12_count : am_B cX12_count xX12_countz 4 0 (sp_w JJ BB SH 92 wX12_count) := s_chk_ok (X := xX12_countz) (CS := CX12_count) (Fk := ([], GG)) (fuel := 2000) (info := wX12_count.zip eX12_count) rfl (s_ML_ok rfl rfl) (JJ_fr (by decide +kernel)) JJ_G (dk_D_ok LX12_count_ok) (by decide +kernel)
theorem nX12_count (l : Launch) : am_M l TB NB vwCl SH KF yX12_count cX12_count 4 (some .int) 5 0 0 (sp_w JJ BB SH 92 wX12_count) := by
  refine am_M.of xX12_countz (by decide +kernel) TB_good GF rfl rfl rfl (by decide) ⟨FT_X12_ok, PT_X12_ok _, CT_X12_ok, KT_X12_ok, LT_X12_ok, NT_X12_ok, ?_⟩ qX12_count
  exact List.forall_mem_cons.mpr ⟨⟨yX12_onRung, cX12_onRung, 4, (some .int), 2, 1, nX12_onRung l, by decide, by decide, tk_1664, tk_120, ⟨by decide +kernel, by decide +kernel, by decide +kernel⟩, rfl, tk_1661, tk_1663, ⟨(RX12, TX12, 63), rfl, tb_at 70 (by decide +kernel) (by decide +kernel)⟩⟩, List.forall_mem_cons.mpr ⟨⟨yX12_widthsOf, cX12_widthsOf, 4, (some .int), 3, 1, nX12_widthsOf l, by decide, by decide, tk_1668, tk_120, ⟨by decide +kernel, by decide +kernel, by decide +kernel⟩, rfl, tk_1665, tk_1667, ⟨(RX12, TX12, 63), rfl, tb_at 71 (by decide +kernel) (by decide +kernel)⟩⟩, List.forall_mem_cons.mpr ⟨⟨yX12_widthsOn, cX12_widthsOn, 2, (some .int), 4, 1, nX12_widthsOn l, by decide, by decide, tk_1660, tk_120, ⟨by decide +kernel, by decide +kernel, by decide +kernel⟩, rfl, tk_1657, tk_1659, ⟨(RX12, TX12, 63), rfl, tb_at 69 (by decide +kernel) (by decide +kernel)⟩⟩, List.forall_mem_cons.mpr ⟨⟨yX12_roomOf, cX12_roomOf, 2, (some .int), 4, 1, nX12_roomOf l, by decide, by decide, tk_1641, tk_120, ⟨by decide +kernel, by decide +kernel, by decide +kernel⟩, rfl, tk_1638, tk_1640, ⟨(RX12, TX12, 63), rfl, tb_at 65 (by decide +kernel) (by decide +kernel)⟩⟩, List.forall_mem_cons.mpr ⟨⟨yX12_copies, cX12_copies, 2, none, 2, 0, nX12_copies l, by decide, by decide, tk_1637, tk_120, ⟨by decide +kernel, by decide +kernel, by decide +kernel⟩, rfl, tk_1634, tk_1636, ⟨(RX12, TX12, 63), rfl, tb_at 64 (by decide +kernel) (by decide +kernel)⟩⟩, List.forall_mem_cons.mpr ⟨⟨yX12_goalBits, cX12_goalBits, 3, (some .int), 2, 0, nX12_goalBits l, by decide, by decide, tk_1793, tk_120, ⟨by decide +kernel, by decide +kernel, by decide +kernel⟩, rfl, tk_1790, tk_1792, ⟨(RX12, TX12, 63), rfl, tb_at 90 (by decide +kernel) (by decide +kernel)⟩⟩, List.forall_mem_cons.mpr ⟨⟨yX12_brokenBits, cX12_brokenBits, 3, (some .int), 2, 0, nX12_brokenBits l, by decide, by decide, tk_1904, tk_120, ⟨by decide +kernel, by decide +kernel, by decide +kernel⟩, rfl, tk_1901, tk_1903, ⟨(RX12, TX12, 63), rfl, tb_at 98 (by decide +kernel) (by decide +kernel)⟩⟩, List.forall_mem_cons.mpr ⟨⟨yX12_sumNow, cX12_sumNow, 4, (some .int), 2, 1, nX12_sumNow l, by decide, by decide, tk_1951, tk_120, ⟨by decide +kernel, by decide +kernel, by decide +kernel⟩, rfl, tk_1948, tk_1950, ⟨(RX12, TX12, 63), rfl, tb_at 101 (by decide +kernel) (by decide +kernel)⟩⟩, fun _ h => absurd h List.not_mem_nil⟩⟩⟩⟩⟩⟩⟩⟩
def LX12_quarrelOf : List (Nat × Instr × Nat) := [(0, .aload_n 0, 1), (1, .iload_n 1, 1), (2, .invokevirtual 330, 3), (5, .aload_n 0, 1), (6, .getfield 95, 3), (9, .bipush 6, 2), (11, .aload_n 0, 1), (12, .getfield 104, 3), (15, .bipush 10, 2), (17, .iload_n 1, 1), (18, .iadd, 1), (19, .iaload, 1), (20, .iastore, 1), (21, .aload_n 0, 1), (22, .getfield 95, 3), (25, .bipush 7, 2), (27, .aload_n 0, 1), (28, .iload_n 2, 1), (29, .invokevirtual 333, 3), (32, .iastore, 1), (33, .aload_n 0, 1), (34, .iconst 1, 1), (35, .iconst 0, 1), (36, .invokevirtual 324, 3), (39, .iconst 0, 1), (40, .bipush 99, 2), (42, .invokestatic 327, 3), (45, .ireturn, 1)]
theorem LX12_quarrelOf_ok : LX12_quarrelOf.all (dk_q cX12_quarrelOf) = true := by decide +kernel
def wX12_quarrelOf : List sa_A := [([.inr (.inl 51), .inl (0, 4), .inl ((-2147483648), 2147483647)], [(some (.inl (0, 99)), [])], [(51, 44, 45), (77, 0, 9), (78, 0, 400)])]
def eX12_quarrelOf : List (List sa_K) := [[]]
def CX12_quarrelOf : sa_C := [(324, 0, 3, 12, wX12_lawTells), (327, 1, 3, 12, wX12_within), (330, 0, 2, 12, wX12_looksAt), (333, 0, 2, 12, wX12_widthsOn)]
def xX12_quarrelOfz : am_X := (SH, KF, (some .int), FT_X12, PT_X12, CT_X12, KT_X12, LT_X12, NT_X12, s_ML CX12_quarrelOf)
theorem qX12_quarrelOf : am_B cX12_quarrelOf xX12_quarrelOfz 3 0 (sp_w JJ BB SH 92 wX12_quarrelOf) := s_chk_ok (X := xX12_quarrelOfz) (CS := CX12_quarrelOf) (Fk := ([], GG)) (fuel := 2000) (info := wX12_quarrelOf.zip eX12_quarrelOf) rfl (s_ML_ok rfl rfl) (JJ_fr (by decide +kernel)) JJ_G (dk_D_ok LX12_quarrelOf_ok) (by decide +kernel)
theorem nX12_quarrelOf (l : Launch) : am_M l TB NB vwCl SH KF yX12_quarrelOf cX12_quarrelOf 3 (some .int) 5 0 0 (sp_w JJ BB SH 92 wX12_quarrelOf) := by
  refine am_M.of xX12_quarrelOfz (by decide +kernel) TB_good GF rfl rfl rfl (by decide) ⟨FT_X12_ok, PT_X12_ok _, CT_X12_ok, KT_X12_ok, LT_X12_ok, NT_X12_ok, ?_⟩ qX12_quarrelOf
  exact List.forall_mem_cons.mpr ⟨⟨yX12_lawTells, cX12_lawTells, 7, (some .int), 3, 2, nX12_lawTells l, by decide, by decide, tk_1649, tk_120, ⟨by decide +kernel, by decide +kernel, by decide +kernel⟩, rfl, tk_1646, tk_1648, ⟨(RX12, TX12, 63), rfl, tb_at 67 (by decide +kernel) (by decide +kernel)⟩⟩, List.forall_mem_cons.mpr ⟨⟨yX12_within, cX12_within, 3, (some .int), 2, 3, nX12_within l, by decide, by decide, tk_1656, tk_120, ⟨by decide +kernel, by decide +kernel, by decide +kernel⟩, rfl, tk_1654, tk_1655⟩, List.forall_mem_cons.mpr ⟨⟨yX12_looksAt, cX12_looksAt, 2, none, 3, 1, nX12_looksAt l, by decide, by decide, tk_1722, tk_120, ⟨by decide +kernel, by decide +kernel, by decide +kernel⟩, rfl, tk_1719, tk_1721, ⟨(RX12, TX12, 63), rfl, tb_at 79 (by decide +kernel) (by decide +kernel)⟩⟩, List.forall_mem_cons.mpr ⟨⟨yX12_widthsOn, cX12_widthsOn, 2, (some .int), 4, 1, nX12_widthsOn l, by decide, by decide, tk_1660, tk_120, ⟨by decide +kernel, by decide +kernel, by decide +kernel⟩, rfl, tk_1657, tk_1659, ⟨(RX12, TX12, 63), rfl, tb_at 69 (by decide +kernel) (by decide +kernel)⟩⟩, fun _ h => absurd h List.not_mem_nil⟩⟩⟩⟩
