/-! NUMBERS, behind the words: the classes. Printed by wip/am/gen_glob.py and chk/mktk.py. -/
def tyc : Nat → Nat → FieldType := fun c k => match c with
  | 0 => tyX0 k
  | 1 => tyX1 k
  | 2 => tyX2 k
  | 3 => tyX3 k
  | 4 => tyX4 k
  | 5 => tyX5 k
  | 6 => tyX6 k
  | 7 => tyX7 k
  | 8 => tyX8 k
  | 9 => tyX9 k
  | 10 => tyX10 k
  | 11 => tyX11 k
  | 12 => tyX12 k
  | _ => .int
theorem iTB_X0 : ∀ w ∈ u_ws RX0 TX0 2, w ∈ TB := List.forall_mem_cons.mpr ⟨tk_377, List.forall_mem_cons.mpr ⟨tk_379, fun _ h => absurd h List.not_mem_nil⟩⟩
theorem iTB_X1 : ∀ w ∈ u_ws RX1 TX1 4, w ∈ TB := List.forall_mem_cons.mpr ⟨tk_427, List.forall_mem_cons.mpr ⟨tk_429, List.forall_mem_cons.mpr ⟨tk_431, List.forall_mem_cons.mpr ⟨tk_433, fun _ h => absurd h List.not_mem_nil⟩⟩⟩⟩
theorem iTB_X2 : ∀ w ∈ u_ws RX2 TX2 6, w ∈ TB := List.forall_mem_cons.mpr ⟨tk_156, List.forall_mem_cons.mpr ⟨tk_158, List.forall_mem_cons.mpr ⟨tk_160, List.forall_mem_cons.mpr ⟨tk_162, List.forall_mem_cons.mpr ⟨tk_164, List.forall_mem_cons.mpr ⟨tk_166, fun _ h => absurd h List.not_mem_nil⟩⟩⟩⟩⟩⟩
theorem iTB_X3 : ∀ w ∈ u_ws RX3 TX3 2, w ∈ TB := List.forall_mem_cons.mpr ⟨tk_412, List.forall_mem_cons.mpr ⟨tk_414, fun _ h => absurd h List.not_mem_nil⟩⟩
theorem iTB_X4 : ∀ w ∈ u_ws RX4 TX4 1, w ∈ TB := List.forall_mem_cons.mpr ⟨tk_344, fun _ h => absurd h List.not_mem_nil⟩
theorem iTB_X5 : ∀ w ∈ u_ws RX5 TX5 11, w ∈ TB := List.forall_mem_cons.mpr ⟨tk_312, List.forall_mem_cons.mpr ⟨tk_314, List.forall_mem_cons.mpr ⟨tk_316, List.forall_mem_cons.mpr ⟨tk_318, List.forall_mem_cons.mpr ⟨tk_320, List.forall_mem_cons.mpr ⟨tk_322, List.forall_mem_cons.mpr ⟨tk_324, List.forall_mem_cons.mpr ⟨tk_326, List.forall_mem_cons.mpr ⟨tk_328, List.forall_mem_cons.mpr ⟨tk_330, List.forall_mem_cons.mpr ⟨tk_332, fun _ h => absurd h List.not_mem_nil⟩⟩⟩⟩⟩⟩⟩⟩⟩⟩⟩
theorem iTB_X6 : ∀ w ∈ u_ws RX6 TX6 4, w ∈ TB := List.forall_mem_cons.mpr ⟨tk_446, List.forall_mem_cons.mpr ⟨tk_448, List.forall_mem_cons.mpr ⟨tk_450, List.forall_mem_cons.mpr ⟨tk_452, fun _ h => absurd h List.not_mem_nil⟩⟩⟩⟩
theorem iTB_X7 : ∀ w ∈ u_ws RX7 TX7 5, w ∈ TB := List.forall_mem_cons.mpr ⟨tk_358, List.forall_mem_cons.mpr ⟨tk_360, List.forall_mem_cons.mpr ⟨tk_362, List.forall_mem_cons.mpr ⟨tk_364, List.forall_mem_cons.mpr ⟨tk_366, fun _ h => absurd h List.not_mem_nil⟩⟩⟩⟩⟩
theorem iTB_X8 : ∀ w ∈ u_ws RX8 TX8 5, w ∈ TB := List.forall_mem_cons.mpr ⟨tk_288, List.forall_mem_cons.mpr ⟨tk_290, List.forall_mem_cons.mpr ⟨tk_292, List.forall_mem_cons.mpr ⟨tk_294, List.forall_mem_cons.mpr ⟨tk_296, fun _ h => absurd h List.not_mem_nil⟩⟩⟩⟩⟩
theorem iTB_X9 : ∀ w ∈ u_ws RX9 TX9 8, w ∈ TB := List.forall_mem_cons.mpr ⟨tk_207, List.forall_mem_cons.mpr ⟨tk_209, List.forall_mem_cons.mpr ⟨tk_211, List.forall_mem_cons.mpr ⟨tk_213, List.forall_mem_cons.mpr ⟨tk_215, List.forall_mem_cons.mpr ⟨tk_217, List.forall_mem_cons.mpr ⟨tk_219, List.forall_mem_cons.mpr ⟨tk_221, fun _ h => absurd h List.not_mem_nil⟩⟩⟩⟩⟩⟩⟩⟩
theorem iTB_X10 : ∀ w ∈ u_ws RX10 TX10 5, w ∈ TB := List.forall_mem_cons.mpr ⟨tk_393, List.forall_mem_cons.mpr ⟨tk_395, List.forall_mem_cons.mpr ⟨tk_397, List.forall_mem_cons.mpr ⟨tk_399, List.forall_mem_cons.mpr ⟨tk_401, fun _ h => absurd h List.not_mem_nil⟩⟩⟩⟩⟩
theorem iTB_X11 : ∀ w ∈ u_ws RX11 TX11 14, w ∈ TB := List.forall_mem_cons.mpr ⟨tk_488, List.forall_mem_cons.mpr ⟨tk_490, List.forall_mem_cons.mpr ⟨tk_492, List.forall_mem_cons.mpr ⟨tk_494, List.forall_mem_cons.mpr ⟨tk_496, List.forall_mem_cons.mpr ⟨tk_498, List.forall_mem_cons.mpr ⟨tk_500, List.forall_mem_cons.mpr ⟨tk_502, List.forall_mem_cons.mpr ⟨tk_504, List.forall_mem_cons.mpr ⟨tk_506, List.forall_mem_cons.mpr ⟨tk_508, List.forall_mem_cons.mpr ⟨tk_510, List.forall_mem_cons.mpr ⟨tk_512, List.forall_mem_cons.mpr ⟨tk_514, fun _ h => absurd h List.not_mem_nil⟩⟩⟩⟩⟩⟩⟩⟩⟩⟩⟩⟩⟩⟩
theorem iTB_X12 : ∀ w ∈ u_ws RX12 TX12 63, w ∈ TB := List.forall_mem_cons.mpr ⟨tk_1378, List.forall_mem_cons.mpr ⟨tk_1380, List.forall_mem_cons.mpr ⟨tk_1382, List.forall_mem_cons.mpr ⟨tk_1384, List.forall_mem_cons.mpr ⟨tk_1386, List.forall_mem_cons.mpr ⟨tk_1388, List.forall_mem_cons.mpr ⟨tk_1390, List.forall_mem_cons.mpr ⟨tk_1392, List.forall_mem_cons.mpr ⟨tk_1394, List.forall_mem_cons.mpr ⟨tk_1396, List.forall_mem_cons.mpr ⟨tk_1398, List.forall_mem_cons.mpr ⟨tk_1400, List.forall_mem_cons.mpr ⟨tk_1402, List.forall_mem_cons.mpr ⟨tk_1404, List.forall_mem_cons.mpr ⟨tk_1406, List.forall_mem_cons.mpr ⟨tk_1408, List.forall_mem_cons.mpr ⟨tk_1410, List.forall_mem_cons.mpr ⟨tk_1412, List.forall_mem_cons.mpr ⟨tk_1414, List.forall_mem_cons.mpr ⟨tk_1416, List.forall_mem_cons.mpr ⟨tk_1418, List.forall_mem_cons.mpr ⟨tk_1420, List.forall_mem_cons.mpr ⟨tk_1422, List.forall_mem_cons.mpr ⟨tk_1424, List.forall_mem_cons.mpr ⟨tk_1426, List.forall_mem_cons.mpr ⟨tk_1428, List.forall_mem_cons.mpr ⟨tk_1430, List.forall_mem_cons.mpr ⟨tk_1432, List.forall_mem_cons.mpr ⟨tk_1434, List.forall_mem_cons.mpr ⟨tk_1436, List.forall_mem_cons.mpr ⟨tk_1438, List.forall_mem_cons.mpr ⟨tk_1440, List.forall_mem_cons.mpr ⟨tk_1442, List.forall_mem_cons.mpr ⟨tk_1444, List.forall_mem_cons.mpr ⟨tk_1446, List.forall_mem_cons.mpr ⟨tk_1448, List.forall_mem_cons.mpr ⟨tk_1450, List.forall_mem_cons.mpr ⟨tk_1452, List.forall_mem_cons.mpr ⟨tk_1454, List.forall_mem_cons.mpr ⟨tk_1456, List.forall_mem_cons.mpr ⟨tk_1458, List.forall_mem_cons.mpr ⟨tk_1460, List.forall_mem_cons.mpr ⟨tk_1462, List.forall_mem_cons.mpr ⟨tk_1464, List.forall_mem_cons.mpr ⟨tk_1466, List.forall_mem_cons.mpr ⟨tk_1468, List.forall_mem_cons.mpr ⟨tk_1470, List.forall_mem_cons.mpr ⟨tk_1472, List.forall_mem_cons.mpr ⟨tk_1474, List.forall_mem_cons.mpr ⟨tk_1476, List.forall_mem_cons.mpr ⟨tk_1478, List.forall_mem_cons.mpr ⟨tk_1480, List.forall_mem_cons.mpr ⟨tk_1482, List.forall_mem_cons.mpr ⟨tk_1484, List.forall_mem_cons.mpr ⟨tk_1486, List.forall_mem_cons.mpr ⟨tk_1488, List.forall_mem_cons.mpr ⟨tk_1490, List.forall_mem_cons.mpr ⟨tk_1492, List.forall_mem_cons.mpr ⟨tk_1494, List.forall_mem_cons.mpr ⟨tk_1496, List.forall_mem_cons.mpr ⟨tk_1498, List.forall_mem_cons.mpr ⟨tk_1500, List.forall_mem_cons.mpr ⟨tk_1502, fun _ h => absurd h List.not_mem_nil⟩⟩⟩⟩⟩⟩⟩⟩⟩⟩⟩⟩⟩⟩⟩⟩⟩⟩⟩⟩⟩⟩⟩⟩⟩⟩⟩⟩⟩⟩⟩⟩⟩⟩⟩⟩⟩⟩⟩⟩⟩⟩⟩⟩⟩⟩⟩⟩⟩⟩⟩⟩⟩⟩⟩⟩⟩⟩⟩⟩⟩⟩⟩
def wf_at (KF : am_Kf) (o : Nat) : Bool := match SH o with
  | .inr _ => true
  | .inl ci => match vwCl[ci]? with
    | none => false
    | some q => decide ((KF o).length = q.2.2) && ((KF o).zipIdx.all fun z => decide (min z.1 3 = am_tk (tyc ci z.2)))
theorem wf_of {KF : am_Kf} (h : (List.range 92).all (wf_at KF) = true) : ∀ o ci, SH o = .inl ci → ∃ q : vw_C, vwCl[ci]? = some q ∧ (KF o).length = q.2.2 ∧ ∀ k kd, (KF o)[k]? = some kd → min kd 3 = am_tk (tyc ci k) := by
  intro o ci hs
  have ho : o < 92 := by
    rcases Nat.lt_or_ge o 92 with q | q
    · exact q
    · exfalso
      have : SH o = .inr (0, 0) := by
        unfold SH
        rw [List.getD_eq_getElem?_getD, List.getElem?_eq_none (show SHl.length ≤ o from Nat.le_trans (by decide) q)]
        rfl
      rw [this] at hs
      cases hs
  have h1 := List.all_eq_true.mp h o (List.mem_range.mpr ho)
  unfold wf_at at h1
  rw [hs] at h1
  simp only at h1
  split at h1
  · cases h1
  · rename_i q hq
    rw [Bool.and_eq_true] at h1
    refine ⟨q, hq, of_decide_eq_true h1.1, fun k kd hk => ?_⟩
    have h2 := List.all_eq_true.mp h1.2 (kd, k) (List.mem_zipIdx_iff_getElem?.mpr hk)
    exact of_decide_eq_true h2
theorem G_at {KF : am_Kf} (h : (List.range 92).all (wf_at KF) = true) : ∃ tyc, am_G TB vwCl SH KF tyc := by
  refine ⟨tyc, fun c q hq => ?_, wf_of h, fun k ty hk => ?_⟩
  · match c, hq with
    | 0, hq => cases hq; exact ⟨iTB_X0, tyX0_ok, nmX0⟩
    | 1, hq => cases hq; exact ⟨iTB_X1, tyX1_ok, nmX1⟩
    | 2, hq => cases hq; exact ⟨iTB_X2, tyX2_ok, nmX2⟩
    | 3, hq => cases hq; exact ⟨iTB_X3, tyX3_ok, nmX3⟩
    | 4, hq => cases hq; exact ⟨iTB_X4, tyX4_ok, nmX4⟩
    | 5, hq => cases hq; exact ⟨iTB_X5, tyX5_ok, nmX5⟩
    | 6, hq => cases hq; exact ⟨iTB_X6, tyX6_ok, nmX6⟩
    | 7, hq => cases hq; exact ⟨iTB_X7, tyX7_ok, nmX7⟩
    | 8, hq => cases hq; exact ⟨iTB_X8, tyX8_ok, nmX8⟩
    | 9, hq => cases hq; exact ⟨iTB_X9, tyX9_ok, nmX9⟩
    | 10, hq => cases hq; exact ⟨iTB_X10, tyX10_ok, nmX10⟩
    | 11, hq => cases hq; exact ⟨iTB_X11, tyX11_ok, nmX11⟩
    | 12, hq => cases hq; exact ⟨iTB_X12, tyX12_ok, nmX12⟩
    | c + 13, hq => simp [vwCl] at hq
  · match k, hk with
    | 0, hk => cases hk; exact tk_170
    | 1, hk => cases hk; exact tk_169
    | 2, hk => cases hk; exact tk_455
    | 3, hk => cases hk; exact tk_299
    | k + 4, hk => simp [am_ty] at hk
theorem GF : ∃ tyc, am_G TB vwCl SH KF tyc := G_at (by decide +kernel)
theorem G1 : ∃ tyc, am_G TB vwCl SH K1 tyc := G_at (by decide +kernel)
/-! LINKS: what each class's pool entries are. Printed by wip/am/gen_glob.py. -/
def FT_X0 : List (Nat × Nat × Nat) := [(9, 0, 0), (15, 9, 3), (21, 0, 1), (22, 9, 0), (74, 9, 1)]
theorem FT_X0_ok : ∀ q ∈ FT_X0, am_FO TB vwCl RX0 q := List.forall_mem_cons.mpr ⟨⟨(RX0, TX0, 2), rfl, by decide, tk_375⟩, List.forall_mem_cons.mpr ⟨⟨(RX9, TX9, 8), rfl, by decide, tk_200⟩, List.forall_mem_cons.mpr ⟨⟨(RX0, TX0, 2), rfl, by decide, tk_376⟩, List.forall_mem_cons.mpr ⟨⟨(RX9, TX9, 8), rfl, by decide, tk_184⟩, List.forall_mem_cons.mpr ⟨⟨(RX9, TX9, 8), rfl, by decide, tk_194⟩, fun _ h => absurd h List.not_mem_nil⟩⟩⟩⟩⟩
def PT_X0 : List (Nat × Nat × Nat) := [(22, 9, 0), (74, 9, 1)]
theorem PT_X0_ok (nm : String) : ∀ q ∈ PT_X0, am_PO TB vwCl RX0 nm q := List.forall_mem_cons.mpr ⟨⟨(RX9, TX9, 8), rfl, by decide, tk_184, Or.inl rfl⟩, List.forall_mem_cons.mpr ⟨⟨(RX9, TX9, 8), rfl, by decide, tk_194, Or.inl rfl⟩, fun _ h => absurd h List.not_mem_nil⟩⟩
def PI_X0 : List (Nat × Nat × Nat) := [(9, 0, 0), (21, 0, 1), (22, 9, 0), (74, 9, 1)]
theorem PI_X0_ok : ∀ q ∈ PI_X0, am_PO TB vwCl RX0 "<init>" q := List.forall_mem_cons.mpr ⟨⟨(RX0, TX0, 2), rfl, by decide, tk_375, Or.inr ⟨rfl, rfl, rfl⟩⟩, List.forall_mem_cons.mpr ⟨⟨(RX0, TX0, 2), rfl, by decide, tk_376, Or.inr ⟨rfl, rfl, rfl⟩⟩, List.forall_mem_cons.mpr ⟨⟨(RX9, TX9, 8), rfl, by decide, tk_184, Or.inl rfl⟩, List.forall_mem_cons.mpr ⟨⟨(RX9, TX9, 8), rfl, by decide, tk_194, Or.inl rfl⟩, fun _ h => absurd h List.not_mem_nil⟩⟩⟩⟩
theorem FT_X0_9 : am_find FT_X0 9 = some (0, 0) := rfl
theorem FT_X0_15 : am_find FT_X0 15 = some (9, 3) := rfl
theorem FT_X0_21 : am_find FT_X0 21 = some (0, 1) := rfl
theorem FT_X0_22 : am_find FT_X0 22 = some (9, 0) := rfl
theorem FT_X0_74 : am_find FT_X0 74 = some (9, 1) := rfl
theorem PI_X0_9 : am_find PI_X0 9 = some (0, 0) := rfl
theorem PI_X0_21 : am_find PI_X0 21 = some (0, 1) := rfl
def CT_X0 : List (Nat × Nat) := []
theorem CT_X0_ok : ∀ q ∈ CT_X0, am_CC TB vwCl RX0 q := fun _ h => absurd h List.not_mem_nil
def KT_X0 : List (Nat × Int32) := []
theorem KT_X0_ok : ∀ q ∈ KT_X0, Cond.constant RX0 q.1 q.2 ∈ TB := fun _ h => absurd h List.not_mem_nil
def LT_X0 : List (Nat × Int64) := []
theorem LT_X0_ok : ∀ q ∈ LT_X0, Cond.constantLong RX0 q.1 q.2 ∈ TB := fun _ h => absurd h List.not_mem_nil
def NT_X0 : List (Nat × Nat) := [(3, 3), (45, 1), (51, 0)]
theorem NT_X0_ok : ∀ q ∈ NT_X0, am_NO TB RX0 q := List.forall_mem_cons.mpr ⟨⟨tk_374, tk_130, tk_131⟩, List.forall_mem_cons.mpr ⟨⟨tk_747, tk_542, tk_121, tk_543⟩, List.forall_mem_cons.mpr ⟨⟨tk_748, tk_749, tk_121, tk_750⟩, fun _ h => absurd h List.not_mem_nil⟩⟩⟩
def FT_X1 : List (Nat × Nat × Nat) := [(9, 1, 2), (15, 1, 3), (18, 1, 0), (22, 1, 1), (51, 9, 1)]
theorem FT_X1_ok : ∀ q ∈ FT_X1, am_FO TB vwCl RX1 q := List.forall_mem_cons.mpr ⟨⟨(RX1, TX1, 4), rfl, by decide, tk_425⟩, List.forall_mem_cons.mpr ⟨⟨(RX1, TX1, 4), rfl, by decide, tk_426⟩, List.forall_mem_cons.mpr ⟨⟨(RX1, TX1, 4), rfl, by decide, tk_423⟩, List.forall_mem_cons.mpr ⟨⟨(RX1, TX1, 4), rfl, by decide, tk_424⟩, List.forall_mem_cons.mpr ⟨⟨(RX9, TX9, 8), rfl, by decide, tk_192⟩, fun _ h => absurd h List.not_mem_nil⟩⟩⟩⟩⟩
def PT_X1 : List (Nat × Nat × Nat) := [(51, 9, 1)]
theorem PT_X1_ok (nm : String) : ∀ q ∈ PT_X1, am_PO TB vwCl RX1 nm q := List.forall_mem_cons.mpr ⟨⟨(RX9, TX9, 8), rfl, by decide, tk_192, Or.inl rfl⟩, fun _ h => absurd h List.not_mem_nil⟩
def PI_X1 : List (Nat × Nat × Nat) := [(9, 1, 2), (15, 1, 3), (18, 1, 0), (22, 1, 1), (51, 9, 1)]
theorem PI_X1_ok : ∀ q ∈ PI_X1, am_PO TB vwCl RX1 "<init>" q := List.forall_mem_cons.mpr ⟨⟨(RX1, TX1, 4), rfl, by decide, tk_425, Or.inr ⟨rfl, rfl, rfl⟩⟩, List.forall_mem_cons.mpr ⟨⟨(RX1, TX1, 4), rfl, by decide, tk_426, Or.inr ⟨rfl, rfl, rfl⟩⟩, List.forall_mem_cons.mpr ⟨⟨(RX1, TX1, 4), rfl, by decide, tk_423, Or.inr ⟨rfl, rfl, rfl⟩⟩, List.forall_mem_cons.mpr ⟨⟨(RX1, TX1, 4), rfl, by decide, tk_424, Or.inr ⟨rfl, rfl, rfl⟩⟩, List.forall_mem_cons.mpr ⟨⟨(RX9, TX9, 8), rfl, by decide, tk_192, Or.inl rfl⟩, fun _ h => absurd h List.not_mem_nil⟩⟩⟩⟩⟩
theorem PI_X1_9 : am_find PI_X1 9 = some (1, 2) := rfl
theorem PI_X1_15 : am_find PI_X1 15 = some (1, 3) := rfl
theorem PI_X1_18 : am_find PI_X1 18 = some (1, 0) := rfl
theorem PI_X1_22 : am_find PI_X1 22 = some (1, 1) := rfl
def CT_X1 : List (Nat × Nat) := []
theorem CT_X1_ok : ∀ q ∈ CT_X1, am_CC TB vwCl RX1 q := fun _ h => absurd h List.not_mem_nil
def KT_X1 : List (Nat × Int32) := []
theorem KT_X1_ok : ∀ q ∈ KT_X1, Cond.constant RX1 q.1 q.2 ∈ TB := fun _ h => absurd h List.not_mem_nil
def LT_X1 : List (Nat × Int64) := []
theorem LT_X1_ok : ∀ q ∈ LT_X1, Cond.constantLong RX1 q.1 q.2 ∈ TB := fun _ h => absurd h List.not_mem_nil
def NT_X1 : List (Nat × Nat) := [(3, 3), (63, 2)]
theorem NT_X1_ok : ∀ q ∈ NT_X1, am_NO TB RX1 q := List.forall_mem_cons.mpr ⟨⟨tk_422, tk_130, tk_131⟩, List.forall_mem_cons.mpr ⟨⟨tk_1127, tk_783, tk_121, tk_784⟩, fun _ h => absurd h List.not_mem_nil⟩⟩
def FT_X2 : List (Nat × Nat × Nat) := [(11, 2, 0), (15, 2, 1), (18, 2, 2), (21, 2, 3), (24, 2, 4), (27, 2, 5)]
theorem FT_X2_ok : ∀ q ∈ FT_X2, am_FO TB vwCl RX2 q := List.forall_mem_cons.mpr ⟨⟨(RX2, TX2, 6), rfl, by decide, tk_150⟩, List.forall_mem_cons.mpr ⟨⟨(RX2, TX2, 6), rfl, by decide, tk_151⟩, List.forall_mem_cons.mpr ⟨⟨(RX2, TX2, 6), rfl, by decide, tk_152⟩, List.forall_mem_cons.mpr ⟨⟨(RX2, TX2, 6), rfl, by decide, tk_153⟩, List.forall_mem_cons.mpr ⟨⟨(RX2, TX2, 6), rfl, by decide, tk_154⟩, List.forall_mem_cons.mpr ⟨⟨(RX2, TX2, 6), rfl, by decide, tk_155⟩, fun _ h => absurd h List.not_mem_nil⟩⟩⟩⟩⟩⟩
def PT_X2 : List (Nat × Nat × Nat) := [(27, 2, 5)]
theorem PT_X2_ok (nm : String) : ∀ q ∈ PT_X2, am_PO TB vwCl RX2 nm q := List.forall_mem_cons.mpr ⟨⟨(RX2, TX2, 6), rfl, by decide, tk_155, Or.inl rfl⟩, fun _ h => absurd h List.not_mem_nil⟩
def PI_X2 : List (Nat × Nat × Nat) := [(11, 2, 0), (15, 2, 1), (18, 2, 2), (21, 2, 3), (24, 2, 4), (27, 2, 5)]
theorem PI_X2_ok : ∀ q ∈ PI_X2, am_PO TB vwCl RX2 "<init>" q := List.forall_mem_cons.mpr ⟨⟨(RX2, TX2, 6), rfl, by decide, tk_150, Or.inr ⟨rfl, rfl, rfl⟩⟩, List.forall_mem_cons.mpr ⟨⟨(RX2, TX2, 6), rfl, by decide, tk_151, Or.inr ⟨rfl, rfl, rfl⟩⟩, List.forall_mem_cons.mpr ⟨⟨(RX2, TX2, 6), rfl, by decide, tk_152, Or.inr ⟨rfl, rfl, rfl⟩⟩, List.forall_mem_cons.mpr ⟨⟨(RX2, TX2, 6), rfl, by decide, tk_153, Or.inr ⟨rfl, rfl, rfl⟩⟩, List.forall_mem_cons.mpr ⟨⟨(RX2, TX2, 6), rfl, by decide, tk_154, Or.inr ⟨rfl, rfl, rfl⟩⟩, List.forall_mem_cons.mpr ⟨⟨(RX2, TX2, 6), rfl, by decide, tk_155, Or.inl rfl⟩, fun _ h => absurd h List.not_mem_nil⟩⟩⟩⟩⟩⟩
theorem FT_X2_11 : am_find FT_X2 11 = some (2, 0) := rfl
theorem FT_X2_15 : am_find FT_X2 15 = some (2, 1) := rfl
theorem FT_X2_18 : am_find FT_X2 18 = some (2, 2) := rfl
theorem FT_X2_21 : am_find FT_X2 21 = some (2, 3) := rfl
theorem FT_X2_24 : am_find FT_X2 24 = some (2, 4) := rfl
theorem FT_X2_27 : am_find FT_X2 27 = some (2, 5) := rfl
theorem PT_X2_27 : am_find PT_X2 27 = some (2, 5) := rfl
theorem PI_X2_11 : am_find PI_X2 11 = some (2, 0) := rfl
theorem PI_X2_15 : am_find PI_X2 15 = some (2, 1) := rfl
theorem PI_X2_18 : am_find PI_X2 18 = some (2, 2) := rfl
theorem PI_X2_21 : am_find PI_X2 21 = some (2, 3) := rfl
theorem PI_X2_24 : am_find PI_X2 24 = some (2, 4) := rfl
theorem PI_X2_27 : am_find PI_X2 27 = some (2, 5) := rfl
def CT_X2 : List (Nat × Nat) := []
theorem CT_X2_ok : ∀ q ∈ CT_X2, am_CC TB vwCl RX2 q := fun _ h => absurd h List.not_mem_nil
def KT_X2 : List (Nat × Int32) := []
theorem KT_X2_ok : ∀ q ∈ KT_X2, Cond.constant RX2 q.1 q.2 ∈ TB := fun _ h => absurd h List.not_mem_nil
def LT_X2 : List (Nat × Int64) := []
theorem LT_X2_ok : ∀ q ∈ LT_X2, Cond.constantLong RX2 q.1 q.2 ∈ TB := fun _ h => absurd h List.not_mem_nil
def NT_X2 : List (Nat × Nat) := [(5, 3), (39, 4)]
theorem NT_X2_ok : ∀ q ∈ NT_X2, am_NO TB RX2 q := List.forall_mem_cons.mpr ⟨⟨tk_149, tk_130, tk_131⟩, List.forall_mem_cons.mpr ⟨⟨tk_675, tk_677, tk_676, tk_122⟩, fun _ h => absurd h List.not_mem_nil⟩⟩
def FT_X3 : List (Nat × Nat × Nat) := [(9, 3, 0), (15, 3, 1), (19, 9, 1), (31, 9, 0)]
theorem FT_X3_ok : ∀ q ∈ FT_X3, am_FO TB vwCl RX3 q := List.forall_mem_cons.mpr ⟨⟨(RX3, TX3, 2), rfl, by decide, tk_410⟩, List.forall_mem_cons.mpr ⟨⟨(RX3, TX3, 2), rfl, by decide, tk_411⟩, List.forall_mem_cons.mpr ⟨⟨(RX9, TX9, 8), rfl, by decide, tk_191⟩, List.forall_mem_cons.mpr ⟨⟨(RX9, TX9, 8), rfl, by decide, tk_186⟩, fun _ h => absurd h List.not_mem_nil⟩⟩⟩⟩
def PT_X3 : List (Nat × Nat × Nat) := [(19, 9, 1), (31, 9, 0)]
theorem PT_X3_ok (nm : String) : ∀ q ∈ PT_X3, am_PO TB vwCl RX3 nm q := List.forall_mem_cons.mpr ⟨⟨(RX9, TX9, 8), rfl, by decide, tk_191, Or.inl rfl⟩, List.forall_mem_cons.mpr ⟨⟨(RX9, TX9, 8), rfl, by decide, tk_186, Or.inl rfl⟩, fun _ h => absurd h List.not_mem_nil⟩⟩
def PI_X3 : List (Nat × Nat × Nat) := [(9, 3, 0), (15, 3, 1), (19, 9, 1), (31, 9, 0)]
theorem PI_X3_ok : ∀ q ∈ PI_X3, am_PO TB vwCl RX3 "<init>" q := List.forall_mem_cons.mpr ⟨⟨(RX3, TX3, 2), rfl, by decide, tk_410, Or.inr ⟨rfl, rfl, rfl⟩⟩, List.forall_mem_cons.mpr ⟨⟨(RX3, TX3, 2), rfl, by decide, tk_411, Or.inr ⟨rfl, rfl, rfl⟩⟩, List.forall_mem_cons.mpr ⟨⟨(RX9, TX9, 8), rfl, by decide, tk_191, Or.inl rfl⟩, List.forall_mem_cons.mpr ⟨⟨(RX9, TX9, 8), rfl, by decide, tk_186, Or.inl rfl⟩, fun _ h => absurd h List.not_mem_nil⟩⟩⟩⟩
theorem PI_X3_9 : am_find PI_X3 9 = some (3, 0) := rfl
theorem PI_X3_15 : am_find PI_X3 15 = some (3, 1) := rfl
def CT_X3 : List (Nat × Nat) := []
theorem CT_X3_ok : ∀ q ∈ CT_X3, am_CC TB vwCl RX3 q := fun _ h => absurd h List.not_mem_nil
def KT_X3 : List (Nat × Int32) := []
theorem KT_X3_ok : ∀ q ∈ KT_X3, Cond.constant RX3 q.1 q.2 ∈ TB := fun _ h => absurd h List.not_mem_nil
def LT_X3 : List (Nat × Int64) := []
theorem LT_X3_ok : ∀ q ∈ LT_X3, Cond.constantLong RX3 q.1 q.2 ∈ TB := fun _ h => absurd h List.not_mem_nil
def NT_X3 : List (Nat × Nat) := [(3, 3), (50, 1), (55, 0), (73, 2)]
theorem NT_X3_ok : ∀ q ∈ NT_X3, am_NO TB RX3 q := List.forall_mem_cons.mpr ⟨⟨tk_409, tk_130, tk_131⟩, List.forall_mem_cons.mpr ⟨⟨tk_991, tk_542, tk_121, tk_543⟩, List.forall_mem_cons.mpr ⟨⟨tk_992, tk_749, tk_121, tk_750⟩, List.forall_mem_cons.mpr ⟨⟨tk_1076, tk_783, tk_121, tk_784⟩, fun _ h => absurd h List.not_mem_nil⟩⟩⟩⟩
def FT_X4 : List (Nat × Nat × Nat) := [(11, 4, 0)]
theorem FT_X4_ok : ∀ q ∈ FT_X4, am_FO TB vwCl RX4 q := List.forall_mem_cons.mpr ⟨⟨(RX4, TX4, 1), rfl, by decide, tk_343⟩, fun _ h => absurd h List.not_mem_nil⟩
def PT_X4 : List (Nat × Nat × Nat) := []
theorem PT_X4_ok (nm : String) : ∀ q ∈ PT_X4, am_PO TB vwCl RX4 nm q := fun _ h => absurd h List.not_mem_nil
def PI_X4 : List (Nat × Nat × Nat) := [(11, 4, 0)]
theorem PI_X4_ok : ∀ q ∈ PI_X4, am_PO TB vwCl RX4 "<init>" q := List.forall_mem_cons.mpr ⟨⟨(RX4, TX4, 1), rfl, by decide, tk_343, Or.inr ⟨rfl, rfl, rfl⟩⟩, fun _ h => absurd h List.not_mem_nil⟩
theorem FT_X4_11 : am_find FT_X4 11 = some (4, 0) := rfl
theorem PI_X4_11 : am_find PI_X4 11 = some (4, 0) := rfl
def CT_X4 : List (Nat × Nat) := []
theorem CT_X4_ok : ∀ q ∈ CT_X4, am_CC TB vwCl RX4 q := fun _ h => absurd h List.not_mem_nil
def KT_X4 : List (Nat × Int32) := [(45, 99999)]
theorem KT_X4_ok : ∀ q ∈ KT_X4, Cond.constant RX4 q.1 q.2 ∈ TB := List.forall_mem_cons.mpr ⟨tk_923, fun _ h => absurd h List.not_mem_nil⟩
def LT_X4 : List (Nat × Int64) := []
theorem LT_X4_ok : ∀ q ∈ LT_X4, Cond.constantLong RX4 q.1 q.2 ∈ TB := fun _ h => absurd h List.not_mem_nil
def NT_X4 : List (Nat × Nat) := [(5, 3), (31, 4), (46, 1)]
theorem NT_X4_ok : ∀ q ∈ NT_X4, am_NO TB RX4 q := List.forall_mem_cons.mpr ⟨⟨tk_342, tk_130, tk_131⟩, List.forall_mem_cons.mpr ⟨⟨tk_865, tk_677, tk_676, tk_122⟩, List.forall_mem_cons.mpr ⟨⟨tk_924, tk_542, tk_121, tk_543⟩, fun _ h => absurd h List.not_mem_nil⟩⟩⟩
def FT_X5 : List (Nat × Nat × Nat) := [(12, 5, 0), (21, 5, 1), (25, 5, 2), (29, 5, 3), (33, 5, 4), (36, 5, 5), (39, 5, 6), (43, 5, 7), (46, 5, 8), (49, 5, 9), (52, 5, 10), (93, 9, 0), (102, 9, 2), (105, 9, 1), (115, 9, 3)]
theorem FT_X5_ok : ∀ q ∈ FT_X5, am_FO TB vwCl RX5 q := List.forall_mem_cons.mpr ⟨⟨(RX5, TX5, 11), rfl, by decide, tk_300⟩, List.forall_mem_cons.mpr ⟨⟨(RX5, TX5, 11), rfl, by decide, tk_302⟩, List.forall_mem_cons.mpr ⟨⟨(RX5, TX5, 11), rfl, by decide, tk_303⟩, List.forall_mem_cons.mpr ⟨⟨(RX5, TX5, 11), rfl, by decide, tk_304⟩, List.forall_mem_cons.mpr ⟨⟨(RX5, TX5, 11), rfl, by decide, tk_305⟩, List.forall_mem_cons.mpr ⟨⟨(RX5, TX5, 11), rfl, by decide, tk_306⟩, List.forall_mem_cons.mpr ⟨⟨(RX5, TX5, 11), rfl, by decide, tk_307⟩, List.forall_mem_cons.mpr ⟨⟨(RX5, TX5, 11), rfl, by decide, tk_308⟩, List.forall_mem_cons.mpr ⟨⟨(RX5, TX5, 11), rfl, by decide, tk_309⟩, List.forall_mem_cons.mpr ⟨⟨(RX5, TX5, 11), rfl, by decide, tk_310⟩, List.forall_mem_cons.mpr ⟨⟨(RX5, TX5, 11), rfl, by decide, tk_311⟩, List.forall_mem_cons.mpr ⟨⟨(RX9, TX9, 8), rfl, by decide, tk_188⟩, List.forall_mem_cons.mpr ⟨⟨(RX9, TX9, 8), rfl, by decide, tk_198⟩, List.forall_mem_cons.mpr ⟨⟨(RX9, TX9, 8), rfl, by decide, tk_196⟩, List.forall_mem_cons.mpr ⟨⟨(RX9, TX9, 8), rfl, by decide, tk_202⟩, fun _ h => absurd h List.not_mem_nil⟩⟩⟩⟩⟩⟩⟩⟩⟩⟩⟩⟩⟩⟩⟩
def PT_X5 : List (Nat × Nat × Nat) := [(29, 5, 3), (33, 5, 4), (36, 5, 5), (39, 5, 6), (43, 5, 7), (46, 5, 8), (49, 5, 9), (52, 5, 10), (93, 9, 0), (102, 9, 2), (105, 9, 1)]
theorem PT_X5_ok (nm : String) : ∀ q ∈ PT_X5, am_PO TB vwCl RX5 nm q := List.forall_mem_cons.mpr ⟨⟨(RX5, TX5, 11), rfl, by decide, tk_304, Or.inl rfl⟩, List.forall_mem_cons.mpr ⟨⟨(RX5, TX5, 11), rfl, by decide, tk_305, Or.inl rfl⟩, List.forall_mem_cons.mpr ⟨⟨(RX5, TX5, 11), rfl, by decide, tk_306, Or.inl rfl⟩, List.forall_mem_cons.mpr ⟨⟨(RX5, TX5, 11), rfl, by decide, tk_307, Or.inl rfl⟩, List.forall_mem_cons.mpr ⟨⟨(RX5, TX5, 11), rfl, by decide, tk_308, Or.inl rfl⟩, List.forall_mem_cons.mpr ⟨⟨(RX5, TX5, 11), rfl, by decide, tk_309, Or.inl rfl⟩, List.forall_mem_cons.mpr ⟨⟨(RX5, TX5, 11), rfl, by decide, tk_310, Or.inl rfl⟩, List.forall_mem_cons.mpr ⟨⟨(RX5, TX5, 11), rfl, by decide, tk_311, Or.inl rfl⟩, List.forall_mem_cons.mpr ⟨⟨(RX9, TX9, 8), rfl, by decide, tk_188, Or.inl rfl⟩, List.forall_mem_cons.mpr ⟨⟨(RX9, TX9, 8), rfl, by decide, tk_198, Or.inl rfl⟩, List.forall_mem_cons.mpr ⟨⟨(RX9, TX9, 8), rfl, by decide, tk_196, Or.inl rfl⟩, fun _ h => absurd h List.not_mem_nil⟩⟩⟩⟩⟩⟩⟩⟩⟩⟩⟩
def PI_X5 : List (Nat × Nat × Nat) := [(12, 5, 0), (21, 5, 1), (25, 5, 2), (29, 5, 3), (33, 5, 4), (36, 5, 5), (39, 5, 6), (43, 5, 7), (46, 5, 8), (49, 5, 9), (52, 5, 10), (93, 9, 0), (102, 9, 2), (105, 9, 1)]
theorem PI_X5_ok : ∀ q ∈ PI_X5, am_PO TB vwCl RX5 "<init>" q := List.forall_mem_cons.mpr ⟨⟨(RX5, TX5, 11), rfl, by decide, tk_300, Or.inr ⟨rfl, rfl, rfl⟩⟩, List.forall_mem_cons.mpr ⟨⟨(RX5, TX5, 11), rfl, by decide, tk_302, Or.inr ⟨rfl, rfl, rfl⟩⟩, List.forall_mem_cons.mpr ⟨⟨(RX5, TX5, 11), rfl, by decide, tk_303, Or.inr ⟨rfl, rfl, rfl⟩⟩, List.forall_mem_cons.mpr ⟨⟨(RX5, TX5, 11), rfl, by decide, tk_304, Or.inl rfl⟩, List.forall_mem_cons.mpr ⟨⟨(RX5, TX5, 11), rfl, by decide, tk_305, Or.inl rfl⟩, List.forall_mem_cons.mpr ⟨⟨(RX5, TX5, 11), rfl, by decide, tk_306, Or.inl rfl⟩, List.forall_mem_cons.mpr ⟨⟨(RX5, TX5, 11), rfl, by decide, tk_307, Or.inl rfl⟩, List.forall_mem_cons.mpr ⟨⟨(RX5, TX5, 11), rfl, by decide, tk_308, Or.inl rfl⟩, List.forall_mem_cons.mpr ⟨⟨(RX5, TX5, 11), rfl, by decide, tk_309, Or.inl rfl⟩, List.forall_mem_cons.mpr ⟨⟨(RX5, TX5, 11), rfl, by decide, tk_310, Or.inl rfl⟩, List.forall_mem_cons.mpr ⟨⟨(RX5, TX5, 11), rfl, by decide, tk_311, Or.inl rfl⟩, List.forall_mem_cons.mpr ⟨⟨(RX9, TX9, 8), rfl, by decide, tk_188, Or.inl rfl⟩, List.forall_mem_cons.mpr ⟨⟨(RX9, TX9, 8), rfl, by decide, tk_198, Or.inl rfl⟩, List.forall_mem_cons.mpr ⟨⟨(RX9, TX9, 8), rfl, by decide, tk_196, Or.inl rfl⟩, fun _ h => absurd h List.not_mem_nil⟩⟩⟩⟩⟩⟩⟩⟩⟩⟩⟩⟩⟩⟩
theorem FT_X5_12 : am_find FT_X5 12 = some (5, 0) := rfl
theorem FT_X5_21 : am_find FT_X5 21 = some (5, 1) := rfl
theorem FT_X5_25 : am_find FT_X5 25 = some (5, 2) := rfl
theorem FT_X5_29 : am_find FT_X5 29 = some (5, 3) := rfl
theorem FT_X5_33 : am_find FT_X5 33 = some (5, 4) := rfl
theorem FT_X5_36 : am_find FT_X5 36 = some (5, 5) := rfl
theorem FT_X5_39 : am_find FT_X5 39 = some (5, 6) := rfl
theorem FT_X5_43 : am_find FT_X5 43 = some (5, 7) := rfl
theorem FT_X5_46 : am_find FT_X5 46 = some (5, 8) := rfl
theorem FT_X5_49 : am_find FT_X5 49 = some (5, 9) := rfl
theorem FT_X5_52 : am_find FT_X5 52 = some (5, 10) := rfl
theorem FT_X5_105 : am_find FT_X5 105 = some (9, 1) := rfl
theorem FT_X5_115 : am_find FT_X5 115 = some (9, 3) := rfl
theorem PT_X5_29 : am_find PT_X5 29 = some (5, 3) := rfl
theorem PT_X5_33 : am_find PT_X5 33 = some (5, 4) := rfl
theorem PT_X5_36 : am_find PT_X5 36 = some (5, 5) := rfl
theorem PT_X5_39 : am_find PT_X5 39 = some (5, 6) := rfl
theorem PT_X5_43 : am_find PT_X5 43 = some (5, 7) := rfl
theorem PT_X5_46 : am_find PT_X5 46 = some (5, 8) := rfl
theorem PT_X5_49 : am_find PT_X5 49 = some (5, 9) := rfl
theorem PT_X5_52 : am_find PT_X5 52 = some (5, 10) := rfl
theorem PT_X5_93 : am_find PT_X5 93 = some (9, 0) := rfl
theorem PT_X5_102 : am_find PT_X5 102 = some (9, 2) := rfl
theorem PI_X5_12 : am_find PI_X5 12 = some (5, 0) := rfl
theorem PI_X5_21 : am_find PI_X5 21 = some (5, 1) := rfl
theorem PI_X5_25 : am_find PI_X5 25 = some (5, 2) := rfl
theorem PI_X5_29 : am_find PI_X5 29 = some (5, 3) := rfl
theorem PI_X5_33 : am_find PI_X5 33 = some (5, 4) := rfl
theorem PI_X5_36 : am_find PI_X5 36 = some (5, 5) := rfl
theorem PI_X5_39 : am_find PI_X5 39 = some (5, 6) := rfl
theorem PI_X5_43 : am_find PI_X5 43 = some (5, 7) := rfl
theorem PI_X5_46 : am_find PI_X5 46 = some (5, 8) := rfl
theorem PI_X5_49 : am_find PI_X5 49 = some (5, 9) := rfl
theorem PI_X5_52 : am_find PI_X5 52 = some (5, 10) := rfl
def CT_X5 : List (Nat × Nat) := [(9, 9), (18, 8)]
theorem CT_X5_ok : ∀ q ∈ CT_X5, am_CC TB vwCl RX5 q := List.forall_mem_cons.mpr ⟨⟨(RX9, TX9, 8), rfl, tk_138, tk_139, tk_105⟩, List.forall_mem_cons.mpr ⟨⟨(RX8, TX8, 5), rfl, tk_224, tk_225, tk_107⟩, fun _ h => absurd h List.not_mem_nil⟩⟩
def KT_X5 : List (Nat × Int32) := []
theorem KT_X5_ok : ∀ q ∈ KT_X5, Cond.constant RX5 q.1 q.2 ∈ TB := fun _ h => absurd h List.not_mem_nil
def LT_X5 : List (Nat × Int64) := []
theorem LT_X5_ok : ∀ q ∈ LT_X5, Cond.constantLong RX5 q.1 q.2 ∈ TB := fun _ h => absurd h List.not_mem_nil
def NT_X5 : List (Nat × Nat) := [(3, 3)]
theorem NT_X5_ok : ∀ q ∈ NT_X5, am_NO TB RX5 q := List.forall_mem_cons.mpr ⟨⟨tk_137, tk_130, tk_131⟩, fun _ h => absurd h List.not_mem_nil⟩
def FT_X6 : List (Nat × Nat × Nat) := [(11, 6, 1), (15, 6, 2), (19, 6, 3), (23, 6, 0), (27, 9, 1), (49, 9, 0)]
theorem FT_X6_ok : ∀ q ∈ FT_X6, am_FO TB vwCl RX6 q := List.forall_mem_cons.mpr ⟨⟨(RX6, TX6, 4), rfl, by decide, tk_443⟩, List.forall_mem_cons.mpr ⟨⟨(RX6, TX6, 4), rfl, by decide, tk_444⟩, List.forall_mem_cons.mpr ⟨⟨(RX6, TX6, 4), rfl, by decide, tk_445⟩, List.forall_mem_cons.mpr ⟨⟨(RX6, TX6, 4), rfl, by decide, tk_442⟩, List.forall_mem_cons.mpr ⟨⟨(RX9, TX9, 8), rfl, by decide, tk_193⟩, List.forall_mem_cons.mpr ⟨⟨(RX9, TX9, 8), rfl, by decide, tk_187⟩, fun _ h => absurd h List.not_mem_nil⟩⟩⟩⟩⟩⟩
def PT_X6 : List (Nat × Nat × Nat) := [(19, 6, 3), (27, 9, 1), (49, 9, 0)]
theorem PT_X6_ok (nm : String) : ∀ q ∈ PT_X6, am_PO TB vwCl RX6 nm q := List.forall_mem_cons.mpr ⟨⟨(RX6, TX6, 4), rfl, by decide, tk_445, Or.inl rfl⟩, List.forall_mem_cons.mpr ⟨⟨(RX9, TX9, 8), rfl, by decide, tk_193, Or.inl rfl⟩, List.forall_mem_cons.mpr ⟨⟨(RX9, TX9, 8), rfl, by decide, tk_187, Or.inl rfl⟩, fun _ h => absurd h List.not_mem_nil⟩⟩⟩
def PI_X6 : List (Nat × Nat × Nat) := [(11, 6, 1), (15, 6, 2), (19, 6, 3), (23, 6, 0), (27, 9, 1), (49, 9, 0)]
theorem PI_X6_ok : ∀ q ∈ PI_X6, am_PO TB vwCl RX6 "<init>" q := List.forall_mem_cons.mpr ⟨⟨(RX6, TX6, 4), rfl, by decide, tk_443, Or.inr ⟨rfl, rfl, rfl⟩⟩, List.forall_mem_cons.mpr ⟨⟨(RX6, TX6, 4), rfl, by decide, tk_444, Or.inr ⟨rfl, rfl, rfl⟩⟩, List.forall_mem_cons.mpr ⟨⟨(RX6, TX6, 4), rfl, by decide, tk_445, Or.inl rfl⟩, List.forall_mem_cons.mpr ⟨⟨(RX6, TX6, 4), rfl, by decide, tk_442, Or.inr ⟨rfl, rfl, rfl⟩⟩, List.forall_mem_cons.mpr ⟨⟨(RX9, TX9, 8), rfl, by decide, tk_193, Or.inl rfl⟩, List.forall_mem_cons.mpr ⟨⟨(RX9, TX9, 8), rfl, by decide, tk_187, Or.inl rfl⟩, fun _ h => absurd h List.not_mem_nil⟩⟩⟩⟩⟩⟩
theorem FT_X6_11 : am_find FT_X6 11 = some (6, 1) := rfl
theorem FT_X6_15 : am_find FT_X6 15 = some (6, 2) := rfl
theorem FT_X6_19 : am_find FT_X6 19 = some (6, 3) := rfl
theorem FT_X6_23 : am_find FT_X6 23 = some (6, 0) := rfl
theorem FT_X6_27 : am_find FT_X6 27 = some (9, 1) := rfl
theorem FT_X6_49 : am_find FT_X6 49 = some (9, 0) := rfl
theorem PT_X6_19 : am_find PT_X6 19 = some (6, 3) := rfl
theorem PI_X6_11 : am_find PI_X6 11 = some (6, 1) := rfl
theorem PI_X6_15 : am_find PI_X6 15 = some (6, 2) := rfl
theorem PI_X6_19 : am_find PI_X6 19 = some (6, 3) := rfl
theorem PI_X6_23 : am_find PI_X6 23 = some (6, 0) := rfl
def CT_X6 : List (Nat × Nat) := []
theorem CT_X6_ok : ∀ q ∈ CT_X6, am_CC TB vwCl RX6 q := fun _ h => absurd h List.not_mem_nil
def KT_X6 : List (Nat × Int32) := []
theorem KT_X6_ok : ∀ q ∈ KT_X6, Cond.constant RX6 q.1 q.2 ∈ TB := fun _ h => absurd h List.not_mem_nil
def LT_X6 : List (Nat × Int64) := []
theorem LT_X6_ok : ∀ q ∈ LT_X6, Cond.constantLong RX6 q.1 q.2 ∈ TB := fun _ h => absurd h List.not_mem_nil
def NT_X6 : List (Nat × Nat) := [(3, 3), (60, 0)]
theorem NT_X6_ok : ∀ q ∈ NT_X6, am_NO TB RX6 q := List.forall_mem_cons.mpr ⟨⟨tk_441, tk_130, tk_131⟩, List.forall_mem_cons.mpr ⟨⟨tk_1290, tk_749, tk_121, tk_750⟩, fun _ h => absurd h List.not_mem_nil⟩⟩
def FT_X7 : List (Nat × Nat × Nat) := [(11, 7, 0), (15, 7, 1), (18, 7, 2), (22, 7, 3), (25, 7, 4)]
theorem FT_X7_ok : ∀ q ∈ FT_X7, am_FO TB vwCl RX7 q := List.forall_mem_cons.mpr ⟨⟨(RX7, TX7, 5), rfl, by decide, tk_353⟩, List.forall_mem_cons.mpr ⟨⟨(RX7, TX7, 5), rfl, by decide, tk_354⟩, List.forall_mem_cons.mpr ⟨⟨(RX7, TX7, 5), rfl, by decide, tk_355⟩, List.forall_mem_cons.mpr ⟨⟨(RX7, TX7, 5), rfl, by decide, tk_356⟩, List.forall_mem_cons.mpr ⟨⟨(RX7, TX7, 5), rfl, by decide, tk_357⟩, fun _ h => absurd h List.not_mem_nil⟩⟩⟩⟩⟩
def PT_X7 : List (Nat × Nat × Nat) := [(18, 7, 2), (22, 7, 3), (25, 7, 4)]
theorem PT_X7_ok (nm : String) : ∀ q ∈ PT_X7, am_PO TB vwCl RX7 nm q := List.forall_mem_cons.mpr ⟨⟨(RX7, TX7, 5), rfl, by decide, tk_355, Or.inl rfl⟩, List.forall_mem_cons.mpr ⟨⟨(RX7, TX7, 5), rfl, by decide, tk_356, Or.inl rfl⟩, List.forall_mem_cons.mpr ⟨⟨(RX7, TX7, 5), rfl, by decide, tk_357, Or.inl rfl⟩, fun _ h => absurd h List.not_mem_nil⟩⟩⟩
def PI_X7 : List (Nat × Nat × Nat) := [(11, 7, 0), (15, 7, 1), (18, 7, 2), (22, 7, 3), (25, 7, 4)]
theorem PI_X7_ok : ∀ q ∈ PI_X7, am_PO TB vwCl RX7 "<init>" q := List.forall_mem_cons.mpr ⟨⟨(RX7, TX7, 5), rfl, by decide, tk_353, Or.inr ⟨rfl, rfl, rfl⟩⟩, List.forall_mem_cons.mpr ⟨⟨(RX7, TX7, 5), rfl, by decide, tk_354, Or.inr ⟨rfl, rfl, rfl⟩⟩, List.forall_mem_cons.mpr ⟨⟨(RX7, TX7, 5), rfl, by decide, tk_355, Or.inl rfl⟩, List.forall_mem_cons.mpr ⟨⟨(RX7, TX7, 5), rfl, by decide, tk_356, Or.inl rfl⟩, List.forall_mem_cons.mpr ⟨⟨(RX7, TX7, 5), rfl, by decide, tk_357, Or.inl rfl⟩, fun _ h => absurd h List.not_mem_nil⟩⟩⟩⟩⟩
theorem FT_X7_11 : am_find FT_X7 11 = some (7, 0) := rfl
theorem FT_X7_15 : am_find FT_X7 15 = some (7, 1) := rfl
theorem FT_X7_18 : am_find FT_X7 18 = some (7, 2) := rfl
theorem FT_X7_22 : am_find FT_X7 22 = some (7, 3) := rfl
theorem FT_X7_25 : am_find FT_X7 25 = some (7, 4) := rfl
theorem PT_X7_18 : am_find PT_X7 18 = some (7, 2) := rfl
theorem PT_X7_22 : am_find PT_X7 22 = some (7, 3) := rfl
theorem PT_X7_25 : am_find PT_X7 25 = some (7, 4) := rfl
theorem PI_X7_11 : am_find PI_X7 11 = some (7, 0) := rfl
theorem PI_X7_15 : am_find PI_X7 15 = some (7, 1) := rfl
theorem PI_X7_18 : am_find PI_X7 18 = some (7, 2) := rfl
theorem PI_X7_22 : am_find PI_X7 22 = some (7, 3) := rfl
theorem PI_X7_25 : am_find PI_X7 25 = some (7, 4) := rfl
def CT_X7 : List (Nat × Nat) := []
theorem CT_X7_ok : ∀ q ∈ CT_X7, am_CC TB vwCl RX7 q := fun _ h => absurd h List.not_mem_nil
def KT_X7 : List (Nat × Int32) := []
theorem KT_X7_ok : ∀ q ∈ KT_X7, Cond.constant RX7 q.1 q.2 ∈ TB := fun _ h => absurd h List.not_mem_nil
def LT_X7 : List (Nat × Int64) := []
theorem LT_X7_ok : ∀ q ∈ LT_X7, Cond.constantLong RX7 q.1 q.2 ∈ TB := fun _ h => absurd h List.not_mem_nil
def NT_X7 : List (Nat × Nat) := [(1, 3), (38, 1)]
theorem NT_X7_ok : ∀ q ∈ NT_X7, am_NO TB RX7 q := List.forall_mem_cons.mpr ⟨⟨tk_352, tk_130, tk_131⟩, List.forall_mem_cons.mpr ⟨⟨tk_866, tk_542, tk_121, tk_543⟩, fun _ h => absurd h List.not_mem_nil⟩⟩
def FT_X8 : List (Nat × Nat × Nat) := [(9, 8, 0), (13, 8, 1), (17, 8, 2), (20, 8, 3), (23, 8, 4)]
theorem FT_X8_ok : ∀ q ∈ FT_X8, am_FO TB vwCl RX8 q := List.forall_mem_cons.mpr ⟨⟨(RX8, TX8, 5), rfl, by decide, tk_283⟩, List.forall_mem_cons.mpr ⟨⟨(RX8, TX8, 5), rfl, by decide, tk_284⟩, List.forall_mem_cons.mpr ⟨⟨(RX8, TX8, 5), rfl, by decide, tk_285⟩, List.forall_mem_cons.mpr ⟨⟨(RX8, TX8, 5), rfl, by decide, tk_286⟩, List.forall_mem_cons.mpr ⟨⟨(RX8, TX8, 5), rfl, by decide, tk_287⟩, fun _ h => absurd h List.not_mem_nil⟩⟩⟩⟩⟩
def PT_X8 : List (Nat × Nat × Nat) := [(23, 8, 4)]
theorem PT_X8_ok (nm : String) : ∀ q ∈ PT_X8, am_PO TB vwCl RX8 nm q := List.forall_mem_cons.mpr ⟨⟨(RX8, TX8, 5), rfl, by decide, tk_287, Or.inl rfl⟩, fun _ h => absurd h List.not_mem_nil⟩
def PI_X8 : List (Nat × Nat × Nat) := [(9, 8, 0), (13, 8, 1), (17, 8, 2), (20, 8, 3), (23, 8, 4)]
theorem PI_X8_ok : ∀ q ∈ PI_X8, am_PO TB vwCl RX8 "<init>" q := List.forall_mem_cons.mpr ⟨⟨(RX8, TX8, 5), rfl, by decide, tk_283, Or.inr ⟨rfl, rfl, rfl⟩⟩, List.forall_mem_cons.mpr ⟨⟨(RX8, TX8, 5), rfl, by decide, tk_284, Or.inr ⟨rfl, rfl, rfl⟩⟩, List.forall_mem_cons.mpr ⟨⟨(RX8, TX8, 5), rfl, by decide, tk_285, Or.inr ⟨rfl, rfl, rfl⟩⟩, List.forall_mem_cons.mpr ⟨⟨(RX8, TX8, 5), rfl, by decide, tk_286, Or.inr ⟨rfl, rfl, rfl⟩⟩, List.forall_mem_cons.mpr ⟨⟨(RX8, TX8, 5), rfl, by decide, tk_287, Or.inl rfl⟩, fun _ h => absurd h List.not_mem_nil⟩⟩⟩⟩⟩
theorem FT_X8_9 : am_find FT_X8 9 = some (8, 0) := rfl
theorem FT_X8_13 : am_find FT_X8 13 = some (8, 1) := rfl
theorem FT_X8_17 : am_find FT_X8 17 = some (8, 2) := rfl
theorem FT_X8_20 : am_find FT_X8 20 = some (8, 3) := rfl
theorem FT_X8_23 : am_find FT_X8 23 = some (8, 4) := rfl
theorem PT_X8_23 : am_find PT_X8 23 = some (8, 4) := rfl
theorem PI_X8_9 : am_find PI_X8 9 = some (8, 0) := rfl
theorem PI_X8_13 : am_find PI_X8 13 = some (8, 1) := rfl
theorem PI_X8_17 : am_find PI_X8 17 = some (8, 2) := rfl
theorem PI_X8_20 : am_find PI_X8 20 = some (8, 3) := rfl
theorem PI_X8_23 : am_find PI_X8 23 = some (8, 4) := rfl
def CT_X8 : List (Nat × Nat) := []
theorem CT_X8_ok : ∀ q ∈ CT_X8, am_CC TB vwCl RX8 q := fun _ h => absurd h List.not_mem_nil
def KT_X8 : List (Nat × Int32) := []
theorem KT_X8_ok : ∀ q ∈ KT_X8, Cond.constant RX8 q.1 q.2 ∈ TB := fun _ h => absurd h List.not_mem_nil
def LT_X8 : List (Nat × Int64) := [(43, 27)]
theorem LT_X8_ok : ∀ q ∈ LT_X8, Cond.constantLong RX8 q.1 q.2 ∈ TB := List.forall_mem_cons.mpr ⟨tk_282, fun _ h => absurd h List.not_mem_nil⟩
def NT_X8 : List (Nat × Nat) := [(1, 3), (45, 1)]
theorem NT_X8_ok : ∀ q ∈ NT_X8, am_NO TB RX8 q := List.forall_mem_cons.mpr ⟨⟨tk_229, tk_130, tk_131⟩, List.forall_mem_cons.mpr ⟨⟨tk_541, tk_542, tk_121, tk_543⟩, fun _ h => absurd h List.not_mem_nil⟩⟩
def FT_X9 : List (Nat × Nat × Nat) := [(9, 9, 0), (15, 9, 1), (18, 9, 2), (24, 9, 3), (28, 9, 4), (32, 9, 5), (35, 9, 6), (38, 9, 7)]
theorem FT_X9_ok : ∀ q ∈ FT_X9, am_FO TB vwCl RX9 q := List.forall_mem_cons.mpr ⟨⟨(RX9, TX9, 8), rfl, by decide, tk_183⟩, List.forall_mem_cons.mpr ⟨⟨(RX9, TX9, 8), rfl, by decide, tk_190⟩, List.forall_mem_cons.mpr ⟨⟨(RX9, TX9, 8), rfl, by decide, tk_197⟩, List.forall_mem_cons.mpr ⟨⟨(RX9, TX9, 8), rfl, by decide, tk_201⟩, List.forall_mem_cons.mpr ⟨⟨(RX9, TX9, 8), rfl, by decide, tk_203⟩, List.forall_mem_cons.mpr ⟨⟨(RX9, TX9, 8), rfl, by decide, tk_204⟩, List.forall_mem_cons.mpr ⟨⟨(RX9, TX9, 8), rfl, by decide, tk_205⟩, List.forall_mem_cons.mpr ⟨⟨(RX9, TX9, 8), rfl, by decide, tk_206⟩, fun _ h => absurd h List.not_mem_nil⟩⟩⟩⟩⟩⟩⟩⟩
def PT_X9 : List (Nat × Nat × Nat) := [(9, 9, 0), (15, 9, 1), (18, 9, 2)]
theorem PT_X9_ok (nm : String) : ∀ q ∈ PT_X9, am_PO TB vwCl RX9 nm q := List.forall_mem_cons.mpr ⟨⟨(RX9, TX9, 8), rfl, by decide, tk_183, Or.inl rfl⟩, List.forall_mem_cons.mpr ⟨⟨(RX9, TX9, 8), rfl, by decide, tk_190, Or.inl rfl⟩, List.forall_mem_cons.mpr ⟨⟨(RX9, TX9, 8), rfl, by decide, tk_197, Or.inl rfl⟩, fun _ h => absurd h List.not_mem_nil⟩⟩⟩
def PI_X9 : List (Nat × Nat × Nat) := [(9, 9, 0), (15, 9, 1), (18, 9, 2), (24, 9, 3), (28, 9, 4), (32, 9, 5), (35, 9, 6), (38, 9, 7)]
theorem PI_X9_ok : ∀ q ∈ PI_X9, am_PO TB vwCl RX9 "<init>" q := List.forall_mem_cons.mpr ⟨⟨(RX9, TX9, 8), rfl, by decide, tk_183, Or.inl rfl⟩, List.forall_mem_cons.mpr ⟨⟨(RX9, TX9, 8), rfl, by decide, tk_190, Or.inl rfl⟩, List.forall_mem_cons.mpr ⟨⟨(RX9, TX9, 8), rfl, by decide, tk_197, Or.inl rfl⟩, List.forall_mem_cons.mpr ⟨⟨(RX9, TX9, 8), rfl, by decide, tk_201, Or.inr ⟨rfl, rfl, rfl⟩⟩, List.forall_mem_cons.mpr ⟨⟨(RX9, TX9, 8), rfl, by decide, tk_203, Or.inr ⟨rfl, rfl, rfl⟩⟩, List.forall_mem_cons.mpr ⟨⟨(RX9, TX9, 8), rfl, by decide, tk_204, Or.inr ⟨rfl, rfl, rfl⟩⟩, List.forall_mem_cons.mpr ⟨⟨(RX9, TX9, 8), rfl, by decide, tk_205, Or.inr ⟨rfl, rfl, rfl⟩⟩, List.forall_mem_cons.mpr ⟨⟨(RX9, TX9, 8), rfl, by decide, tk_206, Or.inr ⟨rfl, rfl, rfl⟩⟩, fun _ h => absurd h List.not_mem_nil⟩⟩⟩⟩⟩⟩⟩⟩
theorem FT_X9_9 : am_find FT_X9 9 = some (9, 0) := rfl
theorem FT_X9_15 : am_find FT_X9 15 = some (9, 1) := rfl
theorem FT_X9_18 : am_find FT_X9 18 = some (9, 2) := rfl
theorem FT_X9_24 : am_find FT_X9 24 = some (9, 3) := rfl
theorem FT_X9_28 : am_find FT_X9 28 = some (9, 4) := rfl
theorem FT_X9_32 : am_find FT_X9 32 = some (9, 5) := rfl
theorem FT_X9_35 : am_find FT_X9 35 = some (9, 6) := rfl
theorem FT_X9_38 : am_find FT_X9 38 = some (9, 7) := rfl
theorem PT_X9_9 : am_find PT_X9 9 = some (9, 0) := rfl
theorem PT_X9_15 : am_find PT_X9 15 = some (9, 1) := rfl
theorem PT_X9_18 : am_find PT_X9 18 = some (9, 2) := rfl
theorem PI_X9_9 : am_find PI_X9 9 = some (9, 0) := rfl
theorem PI_X9_15 : am_find PI_X9 15 = some (9, 1) := rfl
theorem PI_X9_18 : am_find PI_X9 18 = some (9, 2) := rfl
theorem PI_X9_24 : am_find PI_X9 24 = some (9, 3) := rfl
theorem PI_X9_28 : am_find PI_X9 28 = some (9, 4) := rfl
theorem PI_X9_32 : am_find PI_X9 32 = some (9, 5) := rfl
theorem PI_X9_35 : am_find PI_X9 35 = some (9, 6) := rfl
theorem PI_X9_38 : am_find PI_X9 38 = some (9, 7) := rfl
def CT_X9 : List (Nat × Nat) := [(21, 2)]
theorem CT_X9_ok : ∀ q ∈ CT_X9, am_CC TB vwCl RX9 q := List.forall_mem_cons.mpr ⟨⟨(RX2, TX2, 6), rfl, tk_144, tk_145, tk_106⟩, fun _ h => absurd h List.not_mem_nil⟩
def KT_X9 : List (Nat × Int32) := []
theorem KT_X9_ok : ∀ q ∈ KT_X9, Cond.constant RX9 q.1 q.2 ∈ TB := fun _ h => absurd h List.not_mem_nil
def LT_X9 : List (Nat × Int64) := []
theorem LT_X9_ok : ∀ q ∈ LT_X9, Cond.constantLong RX9 q.1 q.2 ∈ TB := fun _ h => absurd h List.not_mem_nil
def NT_X9 : List (Nat × Nat) := [(3, 3), (48, 4)]
theorem NT_X9_ok : ∀ q ∈ NT_X9, am_NO TB RX9 q := List.forall_mem_cons.mpr ⟨⟨tk_143, tk_130, tk_131⟩, List.forall_mem_cons.mpr ⟨⟨tk_678, tk_677, tk_676, tk_122⟩, fun _ h => absurd h List.not_mem_nil⟩⟩
def FT_X10 : List (Nat × Nat × Nat) := [(9, 10, 2), (15, 10, 3), (18, 10, 4), (21, 10, 0), (25, 10, 1), (60, 9, 0)]
theorem FT_X10_ok : ∀ q ∈ FT_X10, am_FO TB vwCl RX10 q := List.forall_mem_cons.mpr ⟨⟨(RX10, TX10, 5), rfl, by decide, tk_390⟩, List.forall_mem_cons.mpr ⟨⟨(RX10, TX10, 5), rfl, by decide, tk_391⟩, List.forall_mem_cons.mpr ⟨⟨(RX10, TX10, 5), rfl, by decide, tk_392⟩, List.forall_mem_cons.mpr ⟨⟨(RX10, TX10, 5), rfl, by decide, tk_388⟩, List.forall_mem_cons.mpr ⟨⟨(RX10, TX10, 5), rfl, by decide, tk_389⟩, List.forall_mem_cons.mpr ⟨⟨(RX9, TX9, 8), rfl, by decide, tk_185⟩, fun _ h => absurd h List.not_mem_nil⟩⟩⟩⟩⟩⟩
def PT_X10 : List (Nat × Nat × Nat) := [(15, 10, 3), (18, 10, 4), (60, 9, 0)]
theorem PT_X10_ok (nm : String) : ∀ q ∈ PT_X10, am_PO TB vwCl RX10 nm q := List.forall_mem_cons.mpr ⟨⟨(RX10, TX10, 5), rfl, by decide, tk_391, Or.inl rfl⟩, List.forall_mem_cons.mpr ⟨⟨(RX10, TX10, 5), rfl, by decide, tk_392, Or.inl rfl⟩, List.forall_mem_cons.mpr ⟨⟨(RX9, TX9, 8), rfl, by decide, tk_185, Or.inl rfl⟩, fun _ h => absurd h List.not_mem_nil⟩⟩⟩
def PI_X10 : List (Nat × Nat × Nat) := [(9, 10, 2), (15, 10, 3), (18, 10, 4), (21, 10, 0), (25, 10, 1), (60, 9, 0)]
theorem PI_X10_ok : ∀ q ∈ PI_X10, am_PO TB vwCl RX10 "<init>" q := List.forall_mem_cons.mpr ⟨⟨(RX10, TX10, 5), rfl, by decide, tk_390, Or.inr ⟨rfl, rfl, rfl⟩⟩, List.forall_mem_cons.mpr ⟨⟨(RX10, TX10, 5), rfl, by decide, tk_391, Or.inl rfl⟩, List.forall_mem_cons.mpr ⟨⟨(RX10, TX10, 5), rfl, by decide, tk_392, Or.inl rfl⟩, List.forall_mem_cons.mpr ⟨⟨(RX10, TX10, 5), rfl, by decide, tk_388, Or.inr ⟨rfl, rfl, rfl⟩⟩, List.forall_mem_cons.mpr ⟨⟨(RX10, TX10, 5), rfl, by decide, tk_389, Or.inr ⟨rfl, rfl, rfl⟩⟩, List.forall_mem_cons.mpr ⟨⟨(RX9, TX9, 8), rfl, by decide, tk_185, Or.inl rfl⟩, fun _ h => absurd h List.not_mem_nil⟩⟩⟩⟩⟩⟩
theorem PI_X10_9 : am_find PI_X10 9 = some (10, 2) := rfl
theorem PI_X10_15 : am_find PI_X10 15 = some (10, 3) := rfl
theorem PI_X10_18 : am_find PI_X10 18 = some (10, 4) := rfl
theorem PI_X10_21 : am_find PI_X10 21 = some (10, 0) := rfl
theorem PI_X10_25 : am_find PI_X10 25 = some (10, 1) := rfl
def CT_X10 : List (Nat × Nat) := []
theorem CT_X10_ok : ∀ q ∈ CT_X10, am_CC TB vwCl RX10 q := fun _ h => absurd h List.not_mem_nil
def KT_X10 : List (Nat × Int32) := []
theorem KT_X10_ok : ∀ q ∈ KT_X10, Cond.constant RX10 q.1 q.2 ∈ TB := fun _ h => absurd h List.not_mem_nil
def LT_X10 : List (Nat × Int64) := []
theorem LT_X10_ok : ∀ q ∈ LT_X10, Cond.constantLong RX10 q.1 q.2 ∈ TB := fun _ h => absurd h List.not_mem_nil
def NT_X10 : List (Nat × Nat) := [(3, 3), (43, 2), (103, 0)]
theorem NT_X10_ok : ∀ q ∈ NT_X10, am_NO TB RX10 q := List.forall_mem_cons.mpr ⟨⟨tk_387, tk_130, tk_131⟩, List.forall_mem_cons.mpr ⟨⟨tk_1054, tk_783, tk_121, tk_784⟩, List.forall_mem_cons.mpr ⟨⟨tk_1032, tk_749, tk_121, tk_750⟩, fun _ h => absurd h List.not_mem_nil⟩⟩⟩
def FT_X11 : List (Nat × Nat × Nat) := [(9, 11, 0), (13, 11, 1), (17, 11, 2), (23, 11, 3), (30, 11, 4), (37, 11, 5), (41, 11, 6), (47, 11, 7), (56, 11, 8), (65, 11, 9), (72, 11, 10), (79, 11, 11), (86, 11, 12), (90, 11, 13), (120, 5, 0), (181, 9, 0), (184, 9, 1), (242, 9, 2)]
theorem FT_X11_ok : ∀ q ∈ FT_X11, am_FO TB vwCl RX11 q := List.forall_mem_cons.mpr ⟨⟨(RX11, TX11, 14), rfl, by decide, tk_474⟩, List.forall_mem_cons.mpr ⟨⟨(RX11, TX11, 14), rfl, by decide, tk_475⟩, List.forall_mem_cons.mpr ⟨⟨(RX11, TX11, 14), rfl, by decide, tk_476⟩, List.forall_mem_cons.mpr ⟨⟨(RX11, TX11, 14), rfl, by decide, tk_477⟩, List.forall_mem_cons.mpr ⟨⟨(RX11, TX11, 14), rfl, by decide, tk_478⟩, List.forall_mem_cons.mpr ⟨⟨(RX11, TX11, 14), rfl, by decide, tk_479⟩, List.forall_mem_cons.mpr ⟨⟨(RX11, TX11, 14), rfl, by decide, tk_480⟩, List.forall_mem_cons.mpr ⟨⟨(RX11, TX11, 14), rfl, by decide, tk_481⟩, List.forall_mem_cons.mpr ⟨⟨(RX11, TX11, 14), rfl, by decide, tk_482⟩, List.forall_mem_cons.mpr ⟨⟨(RX11, TX11, 14), rfl, by decide, tk_483⟩, List.forall_mem_cons.mpr ⟨⟨(RX11, TX11, 14), rfl, by decide, tk_484⟩, List.forall_mem_cons.mpr ⟨⟨(RX11, TX11, 14), rfl, by decide, tk_485⟩, List.forall_mem_cons.mpr ⟨⟨(RX11, TX11, 14), rfl, by decide, tk_486⟩, List.forall_mem_cons.mpr ⟨⟨(RX11, TX11, 14), rfl, by decide, tk_487⟩, List.forall_mem_cons.mpr ⟨⟨(RX5, TX5, 11), rfl, by decide, tk_301⟩, List.forall_mem_cons.mpr ⟨⟨(RX9, TX9, 8), rfl, by decide, tk_189⟩, List.forall_mem_cons.mpr ⟨⟨(RX9, TX9, 8), rfl, by decide, tk_195⟩, List.forall_mem_cons.mpr ⟨⟨(RX9, TX9, 8), rfl, by decide, tk_199⟩, fun _ h => absurd h List.not_mem_nil⟩⟩⟩⟩⟩⟩⟩⟩⟩⟩⟩⟩⟩⟩⟩⟩⟩⟩
def PT_X11 : List (Nat × Nat × Nat) := [(13, 11, 1), (17, 11, 2), (181, 9, 0), (184, 9, 1), (242, 9, 2)]
theorem PT_X11_ok (nm : String) : ∀ q ∈ PT_X11, am_PO TB vwCl RX11 nm q := List.forall_mem_cons.mpr ⟨⟨(RX11, TX11, 14), rfl, by decide, tk_475, Or.inl rfl⟩, List.forall_mem_cons.mpr ⟨⟨(RX11, TX11, 14), rfl, by decide, tk_476, Or.inl rfl⟩, List.forall_mem_cons.mpr ⟨⟨(RX9, TX9, 8), rfl, by decide, tk_189, Or.inl rfl⟩, List.forall_mem_cons.mpr ⟨⟨(RX9, TX9, 8), rfl, by decide, tk_195, Or.inl rfl⟩, List.forall_mem_cons.mpr ⟨⟨(RX9, TX9, 8), rfl, by decide, tk_199, Or.inl rfl⟩, fun _ h => absurd h List.not_mem_nil⟩⟩⟩⟩⟩
def PI_X11 : List (Nat × Nat × Nat) := [(9, 11, 0), (13, 11, 1), (17, 11, 2), (23, 11, 3), (30, 11, 4), (37, 11, 5), (41, 11, 6), (47, 11, 7), (56, 11, 8), (65, 11, 9), (72, 11, 10), (79, 11, 11), (86, 11, 12), (90, 11, 13), (181, 9, 0), (184, 9, 1), (242, 9, 2)]
theorem PI_X11_ok : ∀ q ∈ PI_X11, am_PO TB vwCl RX11 "<init>" q := List.forall_mem_cons.mpr ⟨⟨(RX11, TX11, 14), rfl, by decide, tk_474, Or.inr ⟨rfl, rfl, rfl⟩⟩, List.forall_mem_cons.mpr ⟨⟨(RX11, TX11, 14), rfl, by decide, tk_475, Or.inl rfl⟩, List.forall_mem_cons.mpr ⟨⟨(RX11, TX11, 14), rfl, by decide, tk_476, Or.inl rfl⟩, List.forall_mem_cons.mpr ⟨⟨(RX11, TX11, 14), rfl, by decide, tk_477, Or.inr ⟨rfl, rfl, rfl⟩⟩, List.forall_mem_cons.mpr ⟨⟨(RX11, TX11, 14), rfl, by decide, tk_478, Or.inr ⟨rfl, rfl, rfl⟩⟩, List.forall_mem_cons.mpr ⟨⟨(RX11, TX11, 14), rfl, by decide, tk_479, Or.inr ⟨rfl, rfl, rfl⟩⟩, List.forall_mem_cons.mpr ⟨⟨(RX11, TX11, 14), rfl, by decide, tk_480, Or.inr ⟨rfl, rfl, rfl⟩⟩, List.forall_mem_cons.mpr ⟨⟨(RX11, TX11, 14), rfl, by decide, tk_481, Or.inr ⟨rfl, rfl, rfl⟩⟩, List.forall_mem_cons.mpr ⟨⟨(RX11, TX11, 14), rfl, by decide, tk_482, Or.inr ⟨rfl, rfl, rfl⟩⟩, List.forall_mem_cons.mpr ⟨⟨(RX11, TX11, 14), rfl, by decide, tk_483, Or.inr ⟨rfl, rfl, rfl⟩⟩, List.forall_mem_cons.mpr ⟨⟨(RX11, TX11, 14), rfl, by decide, tk_484, Or.inr ⟨rfl, rfl, rfl⟩⟩, List.forall_mem_cons.mpr ⟨⟨(RX11, TX11, 14), rfl, by decide, tk_485, Or.inr ⟨rfl, rfl, rfl⟩⟩, List.forall_mem_cons.mpr ⟨⟨(RX11, TX11, 14), rfl, by decide, tk_486, Or.inr ⟨rfl, rfl, rfl⟩⟩, List.forall_mem_cons.mpr ⟨⟨(RX11, TX11, 14), rfl, by decide, tk_487, Or.inr ⟨rfl, rfl, rfl⟩⟩, List.forall_mem_cons.mpr ⟨⟨(RX9, TX9, 8), rfl, by decide, tk_189, Or.inl rfl⟩, List.forall_mem_cons.mpr ⟨⟨(RX9, TX9, 8), rfl, by decide, tk_195, Or.inl rfl⟩, List.forall_mem_cons.mpr ⟨⟨(RX9, TX9, 8), rfl, by decide, tk_199, Or.inl rfl⟩, fun _ h => absurd h List.not_mem_nil⟩⟩⟩⟩⟩⟩⟩⟩⟩⟩⟩⟩⟩⟩⟩⟩⟩
theorem FT_X11_9 : am_find FT_X11 9 = some (11, 0) := rfl
theorem FT_X11_13 : am_find FT_X11 13 = some (11, 1) := rfl
theorem FT_X11_17 : am_find FT_X11 17 = some (11, 2) := rfl
theorem FT_X11_23 : am_find FT_X11 23 = some (11, 3) := rfl
theorem FT_X11_30 : am_find FT_X11 30 = some (11, 4) := rfl
theorem FT_X11_37 : am_find FT_X11 37 = some (11, 5) := rfl
theorem FT_X11_47 : am_find FT_X11 47 = some (11, 7) := rfl
theorem FT_X11_56 : am_find FT_X11 56 = some (11, 8) := rfl
theorem FT_X11_86 : am_find FT_X11 86 = some (11, 12) := rfl
theorem FT_X11_120 : am_find FT_X11 120 = some (5, 0) := rfl
theorem FT_X11_242 : am_find FT_X11 242 = some (9, 2) := rfl
theorem PT_X11_13 : am_find PT_X11 13 = some (11, 1) := rfl
theorem PT_X11_17 : am_find PT_X11 17 = some (11, 2) := rfl
theorem PI_X11_9 : am_find PI_X11 9 = some (11, 0) := rfl
theorem PI_X11_13 : am_find PI_X11 13 = some (11, 1) := rfl
theorem PI_X11_17 : am_find PI_X11 17 = some (11, 2) := rfl
theorem PI_X11_23 : am_find PI_X11 23 = some (11, 3) := rfl
theorem PI_X11_30 : am_find PI_X11 30 = some (11, 4) := rfl
theorem PI_X11_37 : am_find PI_X11 37 = some (11, 5) := rfl
theorem PI_X11_41 : am_find PI_X11 41 = some (11, 6) := rfl
theorem PI_X11_47 : am_find PI_X11 47 = some (11, 7) := rfl
theorem PI_X11_56 : am_find PI_X11 56 = some (11, 8) := rfl
theorem PI_X11_65 : am_find PI_X11 65 = some (11, 9) := rfl
theorem PI_X11_72 : am_find PI_X11 72 = some (11, 10) := rfl
theorem PI_X11_79 : am_find PI_X11 79 = some (11, 11) := rfl
theorem PI_X11_86 : am_find PI_X11 86 = some (11, 12) := rfl
theorem PI_X11_90 : am_find PI_X11 90 = some (11, 13) := rfl
def CT_X11 : List (Nat × Nat) := [(20, 5), (27, 9), (34, 4), (44, 7), (51, 0), (60, 10), (69, 3), (76, 1), (83, 6)]
theorem CT_X11_ok : ∀ q ∈ CT_X11, am_CC TB vwCl RX11 q := List.forall_mem_cons.mpr ⟨⟨(RX5, TX5, 11), rfl, tk_132, tk_133, tk_104⟩, List.forall_mem_cons.mpr ⟨⟨(RX9, TX9, 8), rfl, tk_335, tk_139, tk_105⟩, List.forall_mem_cons.mpr ⟨⟨(RX4, TX4, 1), rfl, tk_337, tk_338, tk_112⟩, List.forall_mem_cons.mpr ⟨⟨(RX7, TX7, 5), rfl, tk_347, tk_348, tk_113⟩, List.forall_mem_cons.mpr ⟨⟨(RX0, TX0, 2), rfl, tk_369, tk_370, tk_114⟩, List.forall_mem_cons.mpr ⟨⟨(RX10, TX10, 5), rfl, tk_382, tk_383, tk_115⟩, List.forall_mem_cons.mpr ⟨⟨(RX3, TX3, 2), rfl, tk_404, tk_405, tk_116⟩, List.forall_mem_cons.mpr ⟨⟨(RX1, TX1, 4), rfl, tk_417, tk_418, tk_117⟩, List.forall_mem_cons.mpr ⟨⟨(RX6, TX6, 4), rfl, tk_436, tk_437, tk_118⟩, fun _ h => absurd h List.not_mem_nil⟩⟩⟩⟩⟩⟩⟩⟩⟩
def KT_X11 : List (Nat × Int32) := [(359, 1103515245)]
theorem KT_X11_ok : ∀ q ∈ KT_X11, Cond.constant RX11 q.1 q.2 ∈ TB := List.forall_mem_cons.mpr ⟨tk_939, fun _ h => absurd h List.not_mem_nil⟩
def LT_X11 : List (Nat × Int64) := []
theorem LT_X11_ok : ∀ q ∈ LT_X11, Cond.constantLong RX11 q.1 q.2 ∈ TB := fun _ h => absurd h List.not_mem_nil
def NT_X11 : List (Nat × Nat) := [(1, 3), (172, 2)]
theorem NT_X11_ok : ∀ q ∈ NT_X11, am_NO TB RX11 q := List.forall_mem_cons.mpr ⟨⟨tk_129, tk_130, tk_131⟩, List.forall_mem_cons.mpr ⟨⟨tk_782, tk_783, tk_121, tk_784⟩, fun _ h => absurd h List.not_mem_nil⟩⟩
def FT_X12 : List (Nat × Nat × Nat) := [(13, 12, 1), (17, 12, 3), (20, 12, 5), (24, 12, 6), (27, 12, 7), (30, 12, 8), (34, 12, 9), (37, 12, 17), (40, 12, 21), (43, 12, 22), (46, 12, 23), (49, 12, 24), (52, 12, 25), (55, 12, 26), (58, 12, 27), (61, 12, 28), (64, 12, 29), (67, 12, 30), (70, 12, 32), (74, 12, 33), (77, 12, 34), (80, 12, 35), (83, 12, 36), (86, 12, 38), (89, 12, 39), (92, 12, 40), (95, 12, 42), (98, 12, 43), (101, 12, 45), (104, 12, 46), (107, 12, 50), (110, 12, 51), (113, 12, 52), (116, 12, 53), (119, 12, 55), (122, 12, 56), (125, 12, 57), (128, 12, 59), (131, 12, 60), (134, 12, 61), (137, 12, 62), (154, 12, 2), (160, 12, 4), (169, 12, 10), (191, 12, 13), (194, 12, 11), (197, 12, 14), (200, 12, 15), (203, 12, 16), (218, 12, 12), (221, 12, 18), (224, 12, 19), (227, 12, 20), (230, 12, 31), (233, 12, 37), (247, 12, 49), (250, 12, 58), (275, 12, 41), (288, 12, 44), (296, 12, 47), (299, 12, 48), (417, 12, 54)]
theorem FT_X12_ok : ∀ q ∈ FT_X12, am_FO TB vwCl RX12 q := List.forall_mem_cons.mpr ⟨⟨(RX12, TX12, 63), rfl, by decide, tk_1316⟩, List.forall_mem_cons.mpr ⟨⟨(RX12, TX12, 63), rfl, by decide, tk_1318⟩, List.forall_mem_cons.mpr ⟨⟨(RX12, TX12, 63), rfl, by decide, tk_1320⟩, List.forall_mem_cons.mpr ⟨⟨(RX12, TX12, 63), rfl, by decide, tk_1321⟩, List.forall_mem_cons.mpr ⟨⟨(RX12, TX12, 63), rfl, by decide, tk_1322⟩, List.forall_mem_cons.mpr ⟨⟨(RX12, TX12, 63), rfl, by decide, tk_1323⟩, List.forall_mem_cons.mpr ⟨⟨(RX12, TX12, 63), rfl, by decide, tk_1324⟩, List.forall_mem_cons.mpr ⟨⟨(RX12, TX12, 63), rfl, by decide, tk_1332⟩, List.forall_mem_cons.mpr ⟨⟨(RX12, TX12, 63), rfl, by decide, tk_1336⟩, List.forall_mem_cons.mpr ⟨⟨(RX12, TX12, 63), rfl, by decide, tk_1337⟩, List.forall_mem_cons.mpr ⟨⟨(RX12, TX12, 63), rfl, by decide, tk_1338⟩, List.forall_mem_cons.mpr ⟨⟨(RX12, TX12, 63), rfl, by decide, tk_1339⟩, List.forall_mem_cons.mpr ⟨⟨(RX12, TX12, 63), rfl, by decide, tk_1340⟩, List.forall_mem_cons.mpr ⟨⟨(RX12, TX12, 63), rfl, by decide, tk_1341⟩, List.forall_mem_cons.mpr ⟨⟨(RX12, TX12, 63), rfl, by decide, tk_1342⟩, List.forall_mem_cons.mpr ⟨⟨(RX12, TX12, 63), rfl, by decide, tk_1343⟩, List.forall_mem_cons.mpr ⟨⟨(RX12, TX12, 63), rfl, by decide, tk_1344⟩, List.forall_mem_cons.mpr ⟨⟨(RX12, TX12, 63), rfl, by decide, tk_1345⟩, List.forall_mem_cons.mpr ⟨⟨(RX12, TX12, 63), rfl, by decide, tk_1347⟩, List.forall_mem_cons.mpr ⟨⟨(RX12, TX12, 63), rfl, by decide, tk_1348⟩, List.forall_mem_cons.mpr ⟨⟨(RX12, TX12, 63), rfl, by decide, tk_1349⟩, List.forall_mem_cons.mpr ⟨⟨(RX12, TX12, 63), rfl, by decide, tk_1350⟩, List.forall_mem_cons.mpr ⟨⟨(RX12, TX12, 63), rfl, by decide, tk_1351⟩, List.forall_mem_cons.mpr ⟨⟨(RX12, TX12, 63), rfl, by decide, tk_1353⟩, List.forall_mem_cons.mpr ⟨⟨(RX12, TX12, 63), rfl, by decide, tk_1354⟩, List.forall_mem_cons.mpr ⟨⟨(RX12, TX12, 63), rfl, by decide, tk_1355⟩, List.forall_mem_cons.mpr ⟨⟨(RX12, TX12, 63), rfl, by decide, tk_1357⟩, List.forall_mem_cons.mpr ⟨⟨(RX12, TX12, 63), rfl, by decide, tk_1358⟩, List.forall_mem_cons.mpr ⟨⟨(RX12, TX12, 63), rfl, by decide, tk_1360⟩, List.forall_mem_cons.mpr ⟨⟨(RX12, TX12, 63), rfl, by decide, tk_1361⟩, List.forall_mem_cons.mpr ⟨⟨(RX12, TX12, 63), rfl, by decide, tk_1365⟩, List.forall_mem_cons.mpr ⟨⟨(RX12, TX12, 63), rfl, by decide, tk_1366⟩, List.forall_mem_cons.mpr ⟨⟨(RX12, TX12, 63), rfl, by decide, tk_1367⟩, List.forall_mem_cons.mpr ⟨⟨(RX12, TX12, 63), rfl, by decide, tk_1368⟩, List.forall_mem_cons.mpr ⟨⟨(RX12, TX12, 63), rfl, by decide, tk_1370⟩, List.forall_mem_cons.mpr ⟨⟨(RX12, TX12, 63), rfl, by decide, tk_1371⟩, List.forall_mem_cons.mpr ⟨⟨(RX12, TX12, 63), rfl, by decide, tk_1372⟩, List.forall_mem_cons.mpr ⟨⟨(RX12, TX12, 63), rfl, by decide, tk_1374⟩, List.forall_mem_cons.mpr ⟨⟨(RX12, TX12, 63), rfl, by decide, tk_1375⟩, List.forall_mem_cons.mpr ⟨⟨(RX12, TX12, 63), rfl, by decide, tk_1376⟩, List.forall_mem_cons.mpr ⟨⟨(RX12, TX12, 63), rfl, by decide, tk_1377⟩, List.forall_mem_cons.mpr ⟨⟨(RX12, TX12, 63), rfl, by decide, tk_1317⟩, List.forall_mem_cons.mpr ⟨⟨(RX12, TX12, 63), rfl, by decide, tk_1319⟩, List.forall_mem_cons.mpr ⟨⟨(RX12, TX12, 63), rfl, by decide, tk_1325⟩, List.forall_mem_cons.mpr ⟨⟨(RX12, TX12, 63), rfl, by decide, tk_1328⟩, List.forall_mem_cons.mpr ⟨⟨(RX12, TX12, 63), rfl, by decide, tk_1326⟩, List.forall_mem_cons.mpr ⟨⟨(RX12, TX12, 63), rfl, by decide, tk_1329⟩, List.forall_mem_cons.mpr ⟨⟨(RX12, TX12, 63), rfl, by decide, tk_1330⟩, List.forall_mem_cons.mpr ⟨⟨(RX12, TX12, 63), rfl, by decide, tk_1331⟩, List.forall_mem_cons.mpr ⟨⟨(RX12, TX12, 63), rfl, by decide, tk_1327⟩, List.forall_mem_cons.mpr ⟨⟨(RX12, TX12, 63), rfl, by decide, tk_1333⟩, List.forall_mem_cons.mpr ⟨⟨(RX12, TX12, 63), rfl, by decide, tk_1334⟩, List.forall_mem_cons.mpr ⟨⟨(RX12, TX12, 63), rfl, by decide, tk_1335⟩, List.forall_mem_cons.mpr ⟨⟨(RX12, TX12, 63), rfl, by decide, tk_1346⟩, List.forall_mem_cons.mpr ⟨⟨(RX12, TX12, 63), rfl, by decide, tk_1352⟩, List.forall_mem_cons.mpr ⟨⟨(RX12, TX12, 63), rfl, by decide, tk_1364⟩, List.forall_mem_cons.mpr ⟨⟨(RX12, TX12, 63), rfl, by decide, tk_1373⟩, List.forall_mem_cons.mpr ⟨⟨(RX12, TX12, 63), rfl, by decide, tk_1356⟩, List.forall_mem_cons.mpr ⟨⟨(RX12, TX12, 63), rfl, by decide, tk_1359⟩, List.forall_mem_cons.mpr ⟨⟨(RX12, TX12, 63), rfl, by decide, tk_1362⟩, List.forall_mem_cons.mpr ⟨⟨(RX12, TX12, 63), rfl, by decide, tk_1363⟩, List.forall_mem_cons.mpr ⟨⟨(RX12, TX12, 63), rfl, by decide, tk_1369⟩, fun _ h => absurd h List.not_mem_nil⟩⟩⟩⟩⟩⟩⟩⟩⟩⟩⟩⟩⟩⟩⟩⟩⟩⟩⟩⟩⟩⟩⟩⟩⟩⟩⟩⟩⟩⟩⟩⟩⟩⟩⟩⟩⟩⟩⟩⟩⟩⟩⟩⟩⟩⟩⟩⟩⟩⟩⟩⟩⟩⟩⟩⟩⟩⟩⟩⟩⟩⟩
def PT_X12 : List (Nat × Nat × Nat) := [(37, 12, 17), (154, 12, 2), (160, 12, 4), (169, 12, 10), (191, 12, 13), (194, 12, 11), (197, 12, 14), (200, 12, 15), (203, 12, 16), (218, 12, 12), (221, 12, 18), (224, 12, 19), (227, 12, 20), (230, 12, 31), (233, 12, 37), (247, 12, 49), (250, 12, 58), (275, 12, 41), (288, 12, 44), (296, 12, 47), (299, 12, 48), (417, 12, 54)]
theorem PT_X12_ok (nm : String) : ∀ q ∈ PT_X12, am_PO TB vwCl RX12 nm q := List.forall_mem_cons.mpr ⟨⟨(RX12, TX12, 63), rfl, by decide, tk_1332, Or.inl rfl⟩, List.forall_mem_cons.mpr ⟨⟨(RX12, TX12, 63), rfl, by decide, tk_1317, Or.inl rfl⟩, List.forall_mem_cons.mpr ⟨⟨(RX12, TX12, 63), rfl, by decide, tk_1319, Or.inl rfl⟩, List.forall_mem_cons.mpr ⟨⟨(RX12, TX12, 63), rfl, by decide, tk_1325, Or.inl rfl⟩, List.forall_mem_cons.mpr ⟨⟨(RX12, TX12, 63), rfl, by decide, tk_1328, Or.inl rfl⟩, List.forall_mem_cons.mpr ⟨⟨(RX12, TX12, 63), rfl, by decide, tk_1326, Or.inl rfl⟩, List.forall_mem_cons.mpr ⟨⟨(RX12, TX12, 63), rfl, by decide, tk_1329, Or.inl rfl⟩, List.forall_mem_cons.mpr ⟨⟨(RX12, TX12, 63), rfl, by decide, tk_1330, Or.inl rfl⟩, List.forall_mem_cons.mpr ⟨⟨(RX12, TX12, 63), rfl, by decide, tk_1331, Or.inl rfl⟩, List.forall_mem_cons.mpr ⟨⟨(RX12, TX12, 63), rfl, by decide, tk_1327, Or.inl rfl⟩, List.forall_mem_cons.mpr ⟨⟨(RX12, TX12, 63), rfl, by decide, tk_1333, Or.inl rfl⟩, List.forall_mem_cons.mpr ⟨⟨(RX12, TX12, 63), rfl, by decide, tk_1334, Or.inl rfl⟩, List.forall_mem_cons.mpr ⟨⟨(RX12, TX12, 63), rfl, by decide, tk_1335, Or.inl rfl⟩, List.forall_mem_cons.mpr ⟨⟨(RX12, TX12, 63), rfl, by decide, tk_1346, Or.inl rfl⟩, List.forall_mem_cons.mpr ⟨⟨(RX12, TX12, 63), rfl, by decide, tk_1352, Or.inl rfl⟩, List.forall_mem_cons.mpr ⟨⟨(RX12, TX12, 63), rfl, by decide, tk_1364, Or.inl rfl⟩, List.forall_mem_cons.mpr ⟨⟨(RX12, TX12, 63), rfl, by decide, tk_1373, Or.inl rfl⟩, List.forall_mem_cons.mpr ⟨⟨(RX12, TX12, 63), rfl, by decide, tk_1356, Or.inl rfl⟩, List.forall_mem_cons.mpr ⟨⟨(RX12, TX12, 63), rfl, by decide, tk_1359, Or.inl rfl⟩, List.forall_mem_cons.mpr ⟨⟨(RX12, TX12, 63), rfl, by decide, tk_1362, Or.inl rfl⟩, List.forall_mem_cons.mpr ⟨⟨(RX12, TX12, 63), rfl, by decide, tk_1363, Or.inl rfl⟩, List.forall_mem_cons.mpr ⟨⟨(RX12, TX12, 63), rfl, by decide, tk_1369, Or.inl rfl⟩, fun _ h => absurd h List.not_mem_nil⟩⟩⟩⟩⟩⟩⟩⟩⟩⟩⟩⟩⟩⟩⟩⟩⟩⟩⟩⟩⟩⟩
def PI_X12 : List (Nat × Nat × Nat) := [(13, 12, 1), (17, 12, 3), (20, 12, 5), (24, 12, 6), (27, 12, 7), (30, 12, 8), (34, 12, 9), (37, 12, 17), (40, 12, 21), (43, 12, 22), (46, 12, 23), (49, 12, 24), (52, 12, 25), (55, 12, 26), (58, 12, 27), (61, 12, 28), (64, 12, 29), (67, 12, 30), (70, 12, 32), (74, 12, 33), (77, 12, 34), (80, 12, 35), (83, 12, 36), (86, 12, 38), (89, 12, 39), (92, 12, 40), (95, 12, 42), (98, 12, 43), (101, 12, 45), (104, 12, 46), (107, 12, 50), (110, 12, 51), (113, 12, 52), (116, 12, 53), (119, 12, 55), (122, 12, 56), (125, 12, 57), (128, 12, 59), (131, 12, 60), (134, 12, 61), (137, 12, 62), (154, 12, 2), (160, 12, 4), (169, 12, 10), (191, 12, 13), (194, 12, 11), (197, 12, 14), (200, 12, 15), (203, 12, 16), (218, 12, 12), (221, 12, 18), (224, 12, 19), (227, 12, 20), (230, 12, 31), (233, 12, 37), (247, 12, 49), (250, 12, 58), (275, 12, 41), (288, 12, 44), (296, 12, 47), (299, 12, 48), (417, 12, 54)]
theorem PI_X12_ok : ∀ q ∈ PI_X12, am_PO TB vwCl RX12 "<init>" q := List.forall_mem_cons.mpr ⟨⟨(RX12, TX12, 63), rfl, by decide, tk_1316, Or.inr ⟨rfl, rfl, rfl⟩⟩, List.forall_mem_cons.mpr ⟨⟨(RX12, TX12, 63), rfl, by decide, tk_1318, Or.inr ⟨rfl, rfl, rfl⟩⟩, List.forall_mem_cons.mpr ⟨⟨(RX12, TX12, 63), rfl, by decide, tk_1320, Or.inr ⟨rfl, rfl, rfl⟩⟩, List.forall_mem_cons.mpr ⟨⟨(RX12, TX12, 63), rfl, by decide, tk_1321, Or.inr ⟨rfl, rfl, rfl⟩⟩, List.forall_mem_cons.mpr ⟨⟨(RX12, TX12, 63), rfl, by decide, tk_1322, Or.inr ⟨rfl, rfl, rfl⟩⟩, List.forall_mem_cons.mpr ⟨⟨(RX12, TX12, 63), rfl, by decide, tk_1323, Or.inr ⟨rfl, rfl, rfl⟩⟩, List.forall_mem_cons.mpr ⟨⟨(RX12, TX12, 63), rfl, by decide, tk_1324, Or.inr ⟨rfl, rfl, rfl⟩⟩, List.forall_mem_cons.mpr ⟨⟨(RX12, TX12, 63), rfl, by decide, tk_1332, Or.inl rfl⟩, List.forall_mem_cons.mpr ⟨⟨(RX12, TX12, 63), rfl, by decide, tk_1336, Or.inr ⟨rfl, rfl, rfl⟩⟩, List.forall_mem_cons.mpr ⟨⟨(RX12, TX12, 63), rfl, by decide, tk_1337, Or.inr ⟨rfl, rfl, rfl⟩⟩, List.forall_mem_cons.mpr ⟨⟨(RX12, TX12, 63), rfl, by decide, tk_1338, Or.inr ⟨rfl, rfl, rfl⟩⟩, List.forall_mem_cons.mpr ⟨⟨(RX12, TX12, 63), rfl, by decide, tk_1339, Or.inr ⟨rfl, rfl, rfl⟩⟩, List.forall_mem_cons.mpr ⟨⟨(RX12, TX12, 63), rfl, by decide, tk_1340, Or.inr ⟨rfl, rfl, rfl⟩⟩, List.forall_mem_cons.mpr ⟨⟨(RX12, TX12, 63), rfl, by decide, tk_1341, Or.inr ⟨rfl, rfl, rfl⟩⟩, List.forall_mem_cons.mpr ⟨⟨(RX12, TX12, 63), rfl, by decide, tk_1342, Or.inr ⟨rfl, rfl, rfl⟩⟩, List.forall_mem_cons.mpr ⟨⟨(RX12, TX12, 63), rfl, by decide, tk_1343, Or.inr ⟨rfl, rfl, rfl⟩⟩, List.forall_mem_cons.mpr ⟨⟨(RX12, TX12, 63), rfl, by decide, tk_1344, Or.inr ⟨rfl, rfl, rfl⟩⟩, List.forall_mem_cons.mpr ⟨⟨(RX12, TX12, 63), rfl, by decide, tk_1345, Or.inr ⟨rfl, rfl, rfl⟩⟩, List.forall_mem_cons.mpr ⟨⟨(RX12, TX12, 63), rfl, by decide, tk_1347, Or.inr ⟨rfl, rfl, rfl⟩⟩, List.forall_mem_cons.mpr ⟨⟨(RX12, TX12, 63), rfl, by decide, tk_1348, Or.inr ⟨rfl, rfl, rfl⟩⟩, List.forall_mem_cons.mpr ⟨⟨(RX12, TX12, 63), rfl, by decide, tk_1349, Or.inr ⟨rfl, rfl, rfl⟩⟩, List.forall_mem_cons.mpr ⟨⟨(RX12, TX12, 63), rfl, by decide, tk_1350, Or.inr ⟨rfl, rfl, rfl⟩⟩, List.forall_mem_cons.mpr ⟨⟨(RX12, TX12, 63), rfl, by decide, tk_1351, Or.inr ⟨rfl, rfl, rfl⟩⟩, List.forall_mem_cons.mpr ⟨⟨(RX12, TX12, 63), rfl, by decide, tk_1353, Or.inr ⟨rfl, rfl, rfl⟩⟩, List.forall_mem_cons.mpr ⟨⟨(RX12, TX12, 63), rfl, by decide, tk_1354, Or.inr ⟨rfl, rfl, rfl⟩⟩, List.forall_mem_cons.mpr ⟨⟨(RX12, TX12, 63), rfl, by decide, tk_1355, Or.inr ⟨rfl, rfl, rfl⟩⟩, List.forall_mem_cons.mpr ⟨⟨(RX12, TX12, 63), rfl, by decide, tk_1357, Or.inr ⟨rfl, rfl, rfl⟩⟩, List.forall_mem_cons.mpr ⟨⟨(RX12, TX12, 63), rfl, by decide, tk_1358, Or.inr ⟨rfl, rfl, rfl⟩⟩, List.forall_mem_cons.mpr ⟨⟨(RX12, TX12, 63), rfl, by decide, tk_1360, Or.inr ⟨rfl, rfl, rfl⟩⟩, List.forall_mem_cons.mpr ⟨⟨(RX12, TX12, 63), rfl, by decide, tk_1361, Or.inr ⟨rfl, rfl, rfl⟩⟩, List.forall_mem_cons.mpr ⟨⟨(RX12, TX12, 63), rfl, by decide, tk_1365, Or.inr ⟨rfl, rfl, rfl⟩⟩, List.forall_mem_cons.mpr ⟨⟨(RX12, TX12, 63), rfl, by decide, tk_1366, Or.inr ⟨rfl, rfl, rfl⟩⟩, List.forall_mem_cons.mpr ⟨⟨(RX12, TX12, 63), rfl, by decide, tk_1367, Or.inr ⟨rfl, rfl, rfl⟩⟩, List.forall_mem_cons.mpr ⟨⟨(RX12, TX12, 63), rfl, by decide, tk_1368, Or.inr ⟨rfl, rfl, rfl⟩⟩, List.forall_mem_cons.mpr ⟨⟨(RX12, TX12, 63), rfl, by decide, tk_1370, Or.inr ⟨rfl, rfl, rfl⟩⟩, List.forall_mem_cons.mpr ⟨⟨(RX12, TX12, 63), rfl, by decide, tk_1371, Or.inr ⟨rfl, rfl, rfl⟩⟩, List.forall_mem_cons.mpr ⟨⟨(RX12, TX12, 63), rfl, by decide, tk_1372, Or.inr ⟨rfl, rfl, rfl⟩⟩, List.forall_mem_cons.mpr ⟨⟨(RX12, TX12, 63), rfl, by decide, tk_1374, Or.inr ⟨rfl, rfl, rfl⟩⟩, List.forall_mem_cons.mpr ⟨⟨(RX12, TX12, 63), rfl, by decide, tk_1375, Or.inr ⟨rfl, rfl, rfl⟩⟩, List.forall_mem_cons.mpr ⟨⟨(RX12, TX12, 63), rfl, by decide, tk_1376, Or.inr ⟨rfl, rfl, rfl⟩⟩, List.forall_mem_cons.mpr ⟨⟨(RX12, TX12, 63), rfl, by decide, tk_1377, Or.inr ⟨rfl, rfl, rfl⟩⟩, List.forall_mem_cons.mpr ⟨⟨(RX12, TX12, 63), rfl, by decide, tk_1317, Or.inl rfl⟩, List.forall_mem_cons.mpr ⟨⟨(RX12, TX12, 63), rfl, by decide, tk_1319, Or.inl rfl⟩, List.forall_mem_cons.mpr ⟨⟨(RX12, TX12, 63), rfl, by decide, tk_1325, Or.inl rfl⟩, List.forall_mem_cons.mpr ⟨⟨(RX12, TX12, 63), rfl, by decide, tk_1328, Or.inl rfl⟩, List.forall_mem_cons.mpr ⟨⟨(RX12, TX12, 63), rfl, by decide, tk_1326, Or.inl rfl⟩, List.forall_mem_cons.mpr ⟨⟨(RX12, TX12, 63), rfl, by decide, tk_1329, Or.inl rfl⟩, List.forall_mem_cons.mpr ⟨⟨(RX12, TX12, 63), rfl, by decide, tk_1330, Or.inl rfl⟩, List.forall_mem_cons.mpr ⟨⟨(RX12, TX12, 63), rfl, by decide, tk_1331, Or.inl rfl⟩, List.forall_mem_cons.mpr ⟨⟨(RX12, TX12, 63), rfl, by decide, tk_1327, Or.inl rfl⟩, List.forall_mem_cons.mpr ⟨⟨(RX12, TX12, 63), rfl, by decide, tk_1333, Or.inl rfl⟩, List.forall_mem_cons.mpr ⟨⟨(RX12, TX12, 63), rfl, by decide, tk_1334, Or.inl rfl⟩, List.forall_mem_cons.mpr ⟨⟨(RX12, TX12, 63), rfl, by decide, tk_1335, Or.inl rfl⟩, List.forall_mem_cons.mpr ⟨⟨(RX12, TX12, 63), rfl, by decide, tk_1346, Or.inl rfl⟩, List.forall_mem_cons.mpr ⟨⟨(RX12, TX12, 63), rfl, by decide, tk_1352, Or.inl rfl⟩, List.forall_mem_cons.mpr ⟨⟨(RX12, TX12, 63), rfl, by decide, tk_1364, Or.inl rfl⟩, List.forall_mem_cons.mpr ⟨⟨(RX12, TX12, 63), rfl, by decide, tk_1373, Or.inl rfl⟩, List.forall_mem_cons.mpr ⟨⟨(RX12, TX12, 63), rfl, by decide, tk_1356, Or.inl rfl⟩, List.forall_mem_cons.mpr ⟨⟨(RX12, TX12, 63), rfl, by decide, tk_1359, Or.inl rfl⟩, List.forall_mem_cons.mpr ⟨⟨(RX12, TX12, 63), rfl, by decide, tk_1362, Or.inl rfl⟩, List.forall_mem_cons.mpr ⟨⟨(RX12, TX12, 63), rfl, by decide, tk_1363, Or.inl rfl⟩, List.forall_mem_cons.mpr ⟨⟨(RX12, TX12, 63), rfl, by decide, tk_1369, Or.inl rfl⟩, fun _ h => absurd h List.not_mem_nil⟩⟩⟩⟩⟩⟩⟩⟩⟩⟩⟩⟩⟩⟩⟩⟩⟩⟩⟩⟩⟩⟩⟩⟩⟩⟩⟩⟩⟩⟩⟩⟩⟩⟩⟩⟩⟩⟩⟩⟩⟩⟩⟩⟩⟩⟩⟩⟩⟩⟩⟩⟩⟩⟩⟩⟩⟩⟩⟩⟩⟩⟩
theorem FT_X12_13 : am_find FT_X12 13 = some (12, 1) := rfl
theorem FT_X12_17 : am_find FT_X12 17 = some (12, 3) := rfl
theorem FT_X12_20 : am_find FT_X12 20 = some (12, 5) := rfl
theorem FT_X12_24 : am_find FT_X12 24 = some (12, 6) := rfl
theorem FT_X12_27 : am_find FT_X12 27 = some (12, 7) := rfl
theorem FT_X12_30 : am_find FT_X12 30 = some (12, 8) := rfl
theorem FT_X12_34 : am_find FT_X12 34 = some (12, 9) := rfl
theorem FT_X12_37 : am_find FT_X12 37 = some (12, 17) := rfl
theorem FT_X12_40 : am_find FT_X12 40 = some (12, 21) := rfl
theorem FT_X12_43 : am_find FT_X12 43 = some (12, 22) := rfl
theorem FT_X12_46 : am_find FT_X12 46 = some (12, 23) := rfl
theorem FT_X12_49 : am_find FT_X12 49 = some (12, 24) := rfl
theorem FT_X12_52 : am_find FT_X12 52 = some (12, 25) := rfl
theorem FT_X12_55 : am_find FT_X12 55 = some (12, 26) := rfl
theorem FT_X12_58 : am_find FT_X12 58 = some (12, 27) := rfl
theorem FT_X12_61 : am_find FT_X12 61 = some (12, 28) := rfl
theorem FT_X12_64 : am_find FT_X12 64 = some (12, 29) := rfl
theorem FT_X12_67 : am_find FT_X12 67 = some (12, 30) := rfl
theorem FT_X12_70 : am_find FT_X12 70 = some (12, 32) := rfl
theorem FT_X12_74 : am_find FT_X12 74 = some (12, 33) := rfl
theorem FT_X12_77 : am_find FT_X12 77 = some (12, 34) := rfl
theorem FT_X12_80 : am_find FT_X12 80 = some (12, 35) := rfl
theorem FT_X12_83 : am_find FT_X12 83 = some (12, 36) := rfl
theorem FT_X12_86 : am_find FT_X12 86 = some (12, 38) := rfl
theorem FT_X12_89 : am_find FT_X12 89 = some (12, 39) := rfl
theorem FT_X12_92 : am_find FT_X12 92 = some (12, 40) := rfl
theorem FT_X12_95 : am_find FT_X12 95 = some (12, 42) := rfl
theorem FT_X12_98 : am_find FT_X12 98 = some (12, 43) := rfl
theorem FT_X12_101 : am_find FT_X12 101 = some (12, 45) := rfl
theorem FT_X12_104 : am_find FT_X12 104 = some (12, 46) := rfl
theorem FT_X12_107 : am_find FT_X12 107 = some (12, 50) := rfl
theorem FT_X12_110 : am_find FT_X12 110 = some (12, 51) := rfl
theorem FT_X12_128 : am_find FT_X12 128 = some (12, 59) := rfl
theorem FT_X12_131 : am_find FT_X12 131 = some (12, 60) := rfl
theorem FT_X12_134 : am_find FT_X12 134 = some (12, 61) := rfl
theorem FT_X12_137 : am_find FT_X12 137 = some (12, 62) := rfl
theorem FT_X12_154 : am_find FT_X12 154 = some (12, 2) := rfl
theorem FT_X12_160 : am_find FT_X12 160 = some (12, 4) := rfl
theorem FT_X12_169 : am_find FT_X12 169 = some (12, 10) := rfl
theorem FT_X12_191 : am_find FT_X12 191 = some (12, 13) := rfl
theorem FT_X12_194 : am_find FT_X12 194 = some (12, 11) := rfl
theorem FT_X12_197 : am_find FT_X12 197 = some (12, 14) := rfl
theorem FT_X12_200 : am_find FT_X12 200 = some (12, 15) := rfl
theorem FT_X12_203 : am_find FT_X12 203 = some (12, 16) := rfl
theorem FT_X12_218 : am_find FT_X12 218 = some (12, 12) := rfl
theorem FT_X12_221 : am_find FT_X12 221 = some (12, 18) := rfl
theorem FT_X12_224 : am_find FT_X12 224 = some (12, 19) := rfl
theorem FT_X12_227 : am_find FT_X12 227 = some (12, 20) := rfl
theorem FT_X12_230 : am_find FT_X12 230 = some (12, 31) := rfl
theorem FT_X12_233 : am_find FT_X12 233 = some (12, 37) := rfl
theorem FT_X12_247 : am_find FT_X12 247 = some (12, 49) := rfl
theorem FT_X12_250 : am_find FT_X12 250 = some (12, 58) := rfl
theorem FT_X12_275 : am_find FT_X12 275 = some (12, 41) := rfl
theorem FT_X12_288 : am_find FT_X12 288 = some (12, 44) := rfl
theorem FT_X12_296 : am_find FT_X12 296 = some (12, 47) := rfl
theorem FT_X12_299 : am_find FT_X12 299 = some (12, 48) := rfl
theorem PT_X12_37 : am_find PT_X12 37 = some (12, 17) := rfl
theorem PT_X12_154 : am_find PT_X12 154 = some (12, 2) := rfl
theorem PT_X12_160 : am_find PT_X12 160 = some (12, 4) := rfl
theorem PT_X12_169 : am_find PT_X12 169 = some (12, 10) := rfl
theorem PT_X12_191 : am_find PT_X12 191 = some (12, 13) := rfl
theorem PT_X12_194 : am_find PT_X12 194 = some (12, 11) := rfl
theorem PT_X12_197 : am_find PT_X12 197 = some (12, 14) := rfl
theorem PT_X12_200 : am_find PT_X12 200 = some (12, 15) := rfl
theorem PT_X12_203 : am_find PT_X12 203 = some (12, 16) := rfl
theorem PT_X12_218 : am_find PT_X12 218 = some (12, 12) := rfl
theorem PT_X12_221 : am_find PT_X12 221 = some (12, 18) := rfl
theorem PT_X12_224 : am_find PT_X12 224 = some (12, 19) := rfl
theorem PT_X12_227 : am_find PT_X12 227 = some (12, 20) := rfl
theorem PT_X12_230 : am_find PT_X12 230 = some (12, 31) := rfl
theorem PT_X12_233 : am_find PT_X12 233 = some (12, 37) := rfl
theorem PT_X12_247 : am_find PT_X12 247 = some (12, 49) := rfl
theorem PT_X12_250 : am_find PT_X12 250 = some (12, 58) := rfl
theorem PT_X12_275 : am_find PT_X12 275 = some (12, 41) := rfl
theorem PT_X12_288 : am_find PT_X12 288 = some (12, 44) := rfl
theorem PT_X12_296 : am_find PT_X12 296 = some (12, 47) := rfl
theorem PT_X12_299 : am_find PT_X12 299 = some (12, 48) := rfl
theorem PI_X12_13 : am_find PI_X12 13 = some (12, 1) := rfl
theorem PI_X12_17 : am_find PI_X12 17 = some (12, 3) := rfl
theorem PI_X12_20 : am_find PI_X12 20 = some (12, 5) := rfl
theorem PI_X12_24 : am_find PI_X12 24 = some (12, 6) := rfl
theorem PI_X12_27 : am_find PI_X12 27 = some (12, 7) := rfl
theorem PI_X12_30 : am_find PI_X12 30 = some (12, 8) := rfl
theorem PI_X12_34 : am_find PI_X12 34 = some (12, 9) := rfl
theorem PI_X12_37 : am_find PI_X12 37 = some (12, 17) := rfl
theorem PI_X12_40 : am_find PI_X12 40 = some (12, 21) := rfl
theorem PI_X12_43 : am_find PI_X12 43 = some (12, 22) := rfl
theorem PI_X12_46 : am_find PI_X12 46 = some (12, 23) := rfl
theorem PI_X12_49 : am_find PI_X12 49 = some (12, 24) := rfl
theorem PI_X12_52 : am_find PI_X12 52 = some (12, 25) := rfl
theorem PI_X12_55 : am_find PI_X12 55 = some (12, 26) := rfl
theorem PI_X12_58 : am_find PI_X12 58 = some (12, 27) := rfl
theorem PI_X12_61 : am_find PI_X12 61 = some (12, 28) := rfl
theorem PI_X12_64 : am_find PI_X12 64 = some (12, 29) := rfl
theorem PI_X12_67 : am_find PI_X12 67 = some (12, 30) := rfl
theorem PI_X12_70 : am_find PI_X12 70 = some (12, 32) := rfl
theorem PI_X12_74 : am_find PI_X12 74 = some (12, 33) := rfl
theorem PI_X12_77 : am_find PI_X12 77 = some (12, 34) := rfl
theorem PI_X12_80 : am_find PI_X12 80 = some (12, 35) := rfl
theorem PI_X12_83 : am_find PI_X12 83 = some (12, 36) := rfl
theorem PI_X12_86 : am_find PI_X12 86 = some (12, 38) := rfl
theorem PI_X12_89 : am_find PI_X12 89 = some (12, 39) := rfl
theorem PI_X12_92 : am_find PI_X12 92 = some (12, 40) := rfl
theorem PI_X12_95 : am_find PI_X12 95 = some (12, 42) := rfl
theorem PI_X12_98 : am_find PI_X12 98 = some (12, 43) := rfl
theorem PI_X12_101 : am_find PI_X12 101 = some (12, 45) := rfl
theorem PI_X12_104 : am_find PI_X12 104 = some (12, 46) := rfl
theorem PI_X12_107 : am_find PI_X12 107 = some (12, 50) := rfl
theorem PI_X12_110 : am_find PI_X12 110 = some (12, 51) := rfl
theorem PI_X12_113 : am_find PI_X12 113 = some (12, 52) := rfl
theorem PI_X12_116 : am_find PI_X12 116 = some (12, 53) := rfl
theorem PI_X12_119 : am_find PI_X12 119 = some (12, 55) := rfl
theorem PI_X12_122 : am_find PI_X12 122 = some (12, 56) := rfl
theorem PI_X12_125 : am_find PI_X12 125 = some (12, 57) := rfl
theorem PI_X12_128 : am_find PI_X12 128 = some (12, 59) := rfl
theorem PI_X12_131 : am_find PI_X12 131 = some (12, 60) := rfl
theorem PI_X12_134 : am_find PI_X12 134 = some (12, 61) := rfl
theorem PI_X12_137 : am_find PI_X12 137 = some (12, 62) := rfl
def CT_X12 : List (Nat × Nat) := []
theorem CT_X12_ok : ∀ q ∈ CT_X12, am_CC TB vwCl RX12 q := fun _ h => absurd h List.not_mem_nil
def KT_X12 : List (Nat × Int32) := [(302, 1103515245), (355, 99999)]
theorem KT_X12_ok : ∀ q ∈ KT_X12, Cond.constant RX12 q.1 q.2 ∈ TB := List.forall_mem_cons.mpr ⟨tk_1761, List.forall_mem_cons.mpr ⟨tk_1749, fun _ h => absurd h List.not_mem_nil⟩⟩
def LT_X12 : List (Nat × Int64) := [(163, 27)]
theorem LT_X12_ok : ∀ q ∈ LT_X12, Cond.constantLong RX12 q.1 q.2 ∈ TB := List.forall_mem_cons.mpr ⟨tk_1307, fun _ h => absurd h List.not_mem_nil⟩
def NT_X12 : List (Nat × Nat) := [(7, 3)]
theorem NT_X12_ok : ∀ q ∈ NT_X12, am_NO TB RX12 q := List.forall_mem_cons.mpr ⟨⟨tk_1296, tk_130, tk_131⟩, fun _ h => absurd h List.not_mem_nil⟩
def FT_J6 : List (Nat × Nat × Nat) := []
theorem FT_J6_ok : ∀ q ∈ FT_J6, am_FO TB vwCl RJ6 q := fun _ h => absurd h List.not_mem_nil
def PT_J6 : List (Nat × Nat × Nat) := []
theorem PT_J6_ok (nm : String) : ∀ q ∈ PT_J6, am_PO TB vwCl RJ6 nm q := fun _ h => absurd h List.not_mem_nil
def CT_J6 : List (Nat × Nat) := []
theorem CT_J6_ok : ∀ q ∈ CT_J6, am_CC TB vwCl RJ6 q := fun _ h => absurd h List.not_mem_nil
def KT_J6 : List (Nat × Int32) := [(265, 1431655765), (266, 858993459), (267, 252645135)]
theorem KT_J6_ok : ∀ q ∈ KT_J6, Cond.constant RJ6 q.1 q.2 ∈ TB := List.forall_mem_cons.mpr ⟨tk_829, List.forall_mem_cons.mpr ⟨tk_830, List.forall_mem_cons.mpr ⟨tk_831, fun _ h => absurd h List.not_mem_nil⟩⟩⟩
def LT_J6 : List (Nat × Int64) := []
theorem LT_J6_ok : ∀ q ∈ LT_J6, Cond.constantLong RJ6 q.1 q.2 ∈ TB := fun _ h => absurd h List.not_mem_nil
def NT_J6 : List (Nat × Nat) := []
theorem NT_J6_ok : ∀ q ∈ NT_J6, am_NO TB RJ6 q := fun _ h => absurd h List.not_mem_nil
def FT_J7 : List (Nat × Nat × Nat) := []
theorem FT_J7_ok : ∀ q ∈ FT_J7, am_FO TB vwCl RJ7 q := fun _ h => absurd h List.not_mem_nil
def PT_J7 : List (Nat × Nat × Nat) := []
theorem PT_J7_ok (nm : String) : ∀ q ∈ PT_J7, am_PO TB vwCl RJ7 nm q := fun _ h => absurd h List.not_mem_nil
def CT_J7 : List (Nat × Nat) := []
theorem CT_J7_ok : ∀ q ∈ CT_J7, am_CC TB vwCl RJ7 q := fun _ h => absurd h List.not_mem_nil
def KT_J7 : List (Nat × Int32) := []
theorem KT_J7_ok : ∀ q ∈ KT_J7, Cond.constant RJ7 q.1 q.2 ∈ TB := fun _ h => absurd h List.not_mem_nil
def LT_J7 : List (Nat × Int64) := []
theorem LT_J7_ok : ∀ q ∈ LT_J7, Cond.constantLong RJ7 q.1 q.2 ∈ TB := fun _ h => absurd h List.not_mem_nil
def NT_J7 : List (Nat × Nat) := []
theorem NT_J7_ok : ∀ q ∈ NT_J7, am_NO TB RJ7 q := fun _ h => absurd h List.not_mem_nil