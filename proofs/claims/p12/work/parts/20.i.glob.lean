/-! NUMBERS, behind the words: the classes. Printed by wip/am/gen_glob.py and chk/mktk.py. -/
def tyc : Nat → Nat → FieldType := fun c k => match c with
  | 0 => tyX0 k
  | 1 => tyX1 k
  | 2 => tyX2 k
  | 3 => tyX3 k
  | 4 => tyX4 k
  | 5 => tyX5 k
  | 6 => tyX6 k
  | 7 => tyX7 k
  | 8 => tyX8 k
  | 9 => tyX9 k
  | 10 => tyX10 k
  | 11 => tyX11 k
  | 12 => tyX12 k
  | _ => .int
theorem iTB_X0 : ∀ w ∈ u_ws RX0 TX0 2, w ∈ TB := List.forall_mem_cons.mpr ⟨tk_377, List.forall_mem_cons.mpr ⟨tk_379, fun _ h => absurd h List.not_mem_nil⟩⟩
theorem iTB_X1 : ∀ w ∈ u_ws RX1 TX1 4, w ∈ TB := List.forall_mem_cons.mpr ⟨tk_427, List.forall_mem_cons.mpr ⟨tk_429, List.forall_mem_cons.mpr ⟨tk_431, List.forall_mem_cons.mpr ⟨tk_433, fun _ h => absurd h List.not_mem_nil⟩⟩⟩⟩
theorem iTB_X2 : ∀ w ∈ u_ws RX2 TX2 6, w ∈ TB := List.forall_mem_cons.mpr ⟨tk_156, List.forall_mem_cons.mpr ⟨tk_158, List.forall_mem_cons.mpr ⟨tk_160, List.forall_mem_cons.mpr ⟨tk_162, List.forall_mem_cons.mpr ⟨tk_164, List.forall_mem_cons.mpr ⟨tk_166, fun _ h => absurd h List.not_mem_nil⟩⟩⟩⟩⟩⟩
theorem iTB_X3 : ∀ w ∈ u_ws RX3 TX3 2, w ∈ TB := List.forall_mem_cons.mpr ⟨tk_412, List.forall_mem_cons.mpr ⟨tk_414, fun _ h => absurd h List.not_mem_nil⟩⟩
theorem iTB_X4 : ∀ w ∈ u_ws RX4 TX4 1, w ∈ TB := List.forall_mem_cons.mpr ⟨tk_344, fun _ h => absurd h List.not_mem_nil⟩
theorem iTB_X5 : ∀ w ∈ u_ws RX5 TX5 11, w ∈ TB := List.forall_mem_cons.mpr ⟨tk_312, List.forall_mem_cons.mpr ⟨tk_314, List.forall_mem_cons.mpr ⟨tk_316, List.forall_mem_cons.mpr ⟨tk_318, List.forall_mem_cons.mpr ⟨tk_320, List.forall_mem_cons.mpr ⟨tk_322, List.forall_mem_cons.mpr ⟨tk_324, List.forall_mem_cons.mpr ⟨tk_326, List.forall_mem_cons.mpr ⟨tk_328, List.forall_mem_cons.mpr ⟨tk_330, List.forall_mem_cons.mpr ⟨tk_332, fun _ h => absurd h List.not_mem_nil⟩⟩⟩⟩⟩⟩⟩⟩⟩⟩⟩
theorem iTB_X6 : ∀ w ∈ u_ws RX6 TX6 4, w ∈ TB := List.forall_mem_cons.mpr ⟨tk_446, List.forall_mem_cons.mpr ⟨tk_448, List.forall_mem_cons.mpr ⟨tk_450, List.forall_mem_cons.mpr ⟨tk_452, fun _ h => absurd h List.not_mem_nil⟩⟩⟩⟩
theorem iTB_X7 : ∀ w ∈ u_ws RX7 TX7 5, w ∈ TB := List.forall_mem_cons.mpr ⟨tk_358, List.forall_mem_cons.mpr ⟨tk_360, List.forall_mem_cons.mpr ⟨tk_362, List.forall_mem_cons.mpr ⟨tk_364, List.forall_mem_cons.mpr ⟨tk_366, fun _ h => absurd h List.not_mem_nil⟩⟩⟩⟩⟩
theorem iTB_X8 : ∀ w ∈ u_ws RX8 TX8 5, w ∈ TB := List.forall_mem_cons.mpr ⟨tk_288, List.forall_mem_cons.mpr ⟨tk_290, List.forall_mem_cons.mpr ⟨tk_292, List.forall_mem_cons.mpr ⟨tk_294, List.forall_mem_cons.mpr ⟨tk_296, fun _ h => absurd h List.not_mem_nil⟩⟩⟩⟩⟩
theorem iTB_X9 : ∀ w ∈ u_ws RX9 TX9 8, w ∈ TB := List.forall_mem_cons.mpr ⟨tk_207, List.forall_mem_cons.mpr ⟨tk_209, List.forall_mem_cons.mpr ⟨tk_211, List.forall_mem_cons.mpr ⟨tk_213, List.forall_mem_cons.mpr ⟨tk_215, List.forall_mem_cons.mpr ⟨tk_217, List.forall_mem_cons.mpr ⟨tk_219, List.forall_mem_cons.mpr ⟨tk_221, fun _ h => absurd h List.not_mem_nil⟩⟩⟩⟩⟩⟩⟩⟩
theorem iTB_X10 : ∀ w ∈ u_ws RX10 TX10 5, w ∈ TB := List.forall_mem_cons.mpr ⟨tk_393, List.forall_mem_cons.mpr ⟨tk_395, List.forall_mem_cons.mpr ⟨tk_397, List.forall_mem_cons.mpr ⟨tk_399, List.forall_mem_cons.mpr ⟨tk_401, fun _ h => absurd h List.not_mem_nil⟩⟩⟩⟩⟩
theorem iTB_X11 : ∀ w ∈ u_ws RX11 TX11 14, w ∈ TB := List.forall_mem_cons.mpr ⟨tk_488, List.forall_mem_cons.mpr ⟨tk_490, List.forall_mem_cons.mpr ⟨tk_492, List.forall_mem_cons.mpr ⟨tk_494, List.forall_mem_cons.mpr ⟨tk_496, List.forall_mem_cons.mpr ⟨tk_498, List.forall_mem_cons.mpr ⟨tk_500, List.forall_mem_cons.mpr ⟨tk_502, List.forall_mem_cons.mpr ⟨tk_504, List.forall_mem_cons.mpr ⟨tk_506, List.forall_mem_cons.mpr ⟨tk_508, List.forall_mem_cons.mpr ⟨tk_510, List.forall_mem_cons.mpr ⟨tk_512, List.forall_mem_cons.mpr ⟨tk_514, fun _ h => absurd h List.not_mem_nil⟩⟩⟩⟩⟩⟩⟩⟩⟩⟩⟩⟩⟩⟩
theorem iTB_X12 : ∀ w ∈ u_ws RX12 TX12 63, w ∈ TB := List.forall_mem_cons.mpr ⟨tk_1378, List.forall_mem_cons.mpr ⟨tk_1380, List.forall_mem_cons.mpr ⟨tk_1382, List.forall_mem_cons.mpr ⟨tk_1384, List.forall_mem_cons.mpr ⟨tk_1386, List.forall_mem_cons.mpr ⟨tk_1388, List.forall_mem_cons.mpr ⟨tk_1390, List.forall_mem_cons.mpr ⟨tk_1392, List.forall_mem_cons.mpr ⟨tk_1394, List.forall_mem_cons.mpr ⟨tk_1396, List.forall_mem_cons.mpr ⟨tk_1398, List.forall_mem_cons.mpr ⟨tk_1400, List.forall_mem_cons.mpr ⟨tk_1402, List.forall_mem_cons.mpr ⟨tk_1404, List.forall_mem_cons.mpr ⟨tk_1406, List.forall_mem_cons.mpr ⟨tk_1408, List.forall_mem_cons.mpr ⟨tk_1410, List.forall_mem_cons.mpr ⟨tk_1412, List.forall_mem_cons.mpr ⟨tk_1414, List.forall_mem_cons.mpr ⟨tk_1416, List.forall_mem_cons.mpr ⟨tk_1418, List.forall_mem_cons.mpr ⟨tk_1420, List.forall_mem_cons.mpr ⟨tk_1422, List.forall_mem_cons.mpr ⟨tk_1424, List.forall_mem_cons.mpr ⟨tk_1426, List.forall_mem_cons.mpr ⟨tk_1428, List.forall_mem_cons.mpr ⟨tk_1430, List.forall_mem_cons.mpr ⟨tk_1432, List.forall_mem_cons.mpr ⟨tk_1434, List.forall_mem_cons.mpr ⟨tk_1436, List.forall_mem_cons.mpr ⟨tk_1438, List.forall_mem_cons.mpr ⟨tk_1440, List.forall_mem_cons.mpr ⟨tk_1442, List.forall_mem_cons.mpr ⟨tk_1444, List.forall_mem_cons.mpr ⟨tk_1446, List.forall_mem_cons.mpr ⟨tk_1448, List.forall_mem_cons.mpr ⟨tk_1450, List.forall_mem_cons.mpr ⟨tk_1452, List.forall_mem_cons.mpr ⟨tk_1454, List.forall_mem_cons.mpr ⟨tk_1456, List.forall_mem_cons.mpr ⟨tk_1458, List.forall_mem_cons.mpr ⟨tk_1460, List.forall_mem_cons.mpr ⟨tk_1462, List.forall_mem_cons.mpr ⟨tk_1464, List.forall_mem_cons.mpr ⟨tk_1466, List.forall_mem_cons.mpr ⟨tk_1468, List.forall_mem_cons.mpr ⟨tk_1470, List.forall_mem_cons.mpr ⟨tk_1472, List.forall_mem_cons.mpr ⟨tk_1474, List.forall_mem_cons.mpr ⟨tk_1476, List.forall_mem_cons.mpr ⟨tk_1478, List.forall_mem_cons.mpr ⟨tk_1480, List.forall_mem_cons.mpr ⟨tk_1482, List.forall_mem_cons.mpr ⟨tk_1484, List.forall_mem_cons.mpr ⟨tk_1486, List.forall_mem_cons.mpr ⟨tk_1488, List.forall_mem_cons.mpr ⟨tk_1490, List.forall_mem_cons.mpr ⟨tk_1492, List.forall_mem_cons.mpr ⟨tk_1494, List.forall_mem_cons.mpr ⟨tk_1496, List.forall_mem_cons.mpr ⟨tk_1498, List.forall_mem_cons.mpr ⟨tk_1500, List.forall_mem_cons.mpr ⟨tk_1502, fun _ h => absurd h List.not_mem_nil⟩⟩⟩⟩⟩⟩⟩⟩⟩⟩⟩⟩⟩⟩⟩⟩⟩⟩⟩⟩⟩⟩⟩⟩⟩⟩⟩⟩⟩⟩⟩⟩⟩⟩⟩⟩⟩⟩⟩⟩⟩⟩⟩⟩⟩⟩⟩⟩⟩⟩⟩⟩⟩⟩⟩⟩⟩⟩⟩⟩⟩⟩⟩
def wf_at (KF : am_Kf) (o : Nat) : Bool := match SH o with
  | .inr _ => true
  | .inl ci => match vwCl[ci]? with
    | none => false
    | some q => decide ((KF o).length = q.2.2) && ((KF o).zipIdx.all fun z => decide (min z.1 3 = am_tk (tyc ci z.2)))
theorem wf_of {KF : am_Kf} (h : (List.range 92).all (wf_at KF) = true) : ∀ o ci, SH o = .inl ci → ∃ q : vw_C, vwCl[ci]? = some q ∧ (KF o).length = q.2.2 ∧ ∀ k kd, (KF o)[k]? = some kd → min kd 3 = am_tk (tyc ci k) := by
  intro o ci hs
  have ho : o < 92 := by
    rcases Nat.lt_or_ge o 92 with q | q
    · exact q
    · exfalso
      have : SH o = .inr (0, 0) := by
        unfold SH
        rw [List.getD_eq_getElem?_getD, List.getElem?_eq_none (show SHl.length ≤ o from Nat.le_trans (by decide) q)]
        rfl
      rw [this] at hs
      cases hs
  have h1 := List.all_eq_true.mp h o (List.mem_range.mpr ho)
  unfold wf_at at h1
  rw [hs] at h1
  simp only at h1
  split at h1
  · cases h1
  · rename_i q hq
    rw [Bool.and_eq_true] at h1
    refine ⟨q, hq, of_decide_eq_true h1.1, fun k kd hk => ?_⟩
    have h2 := List.all_eq_true.mp h1.2 (kd, k) (List.mem_zipIdx_iff_getElem?.mpr hk)
    exact of_decide_eq_true h2
theorem G_at {KF : am_Kf} (h : (List.range 92).all (wf_at KF) = true) : ∃ tyc, am_G TB vwCl SH KF tyc := by
  refine ⟨tyc, fun c q hq => ?_, wf_of h, fun k ty hk => ?_⟩
  · match c, hq with
    | 0, hq => cases hq; exact ⟨iTB_X0, tyX0_ok, nmX0⟩
    | 1, hq => cases hq; exact ⟨iTB_X1, tyX1_ok, nmX1⟩
    | 2, hq => cases hq; exact ⟨iTB_X2, tyX2_ok, nmX2⟩
    | 3, hq => cases hq; exact ⟨iTB_X3, tyX3_ok, nmX3⟩
    | 4, hq => cases hq; exact ⟨iTB_X4, tyX4_ok, nmX4⟩
    | 5, hq => cases hq; exact ⟨iTB_X5, tyX5_ok, nmX5⟩
    | 6, hq => cases hq; exact ⟨iTB_X6, tyX6_ok, nmX6⟩
    | 7, hq => cases hq; exact ⟨iTB_X7, tyX7_ok, nmX7⟩
    | 8, hq => cases hq; exact ⟨iTB_X8, tyX8_ok, nmX8⟩
    | 9, hq => cases hq; exact ⟨iTB_X9, tyX9_ok, nmX9⟩
    | 10, hq => cases hq; exact ⟨iTB_X10, tyX10_ok, nmX10⟩
    | 11, hq => cases hq; exact ⟨iTB_X11, tyX11_ok, nmX11⟩
    | 12, hq => cases hq; exact ⟨iTB_X12, tyX12_ok, nmX12⟩
    | c + 13, hq => simp [vwCl] at hq
  · match k, hk with
    | 0, hk => cases hk; exact tk_170
    | 1, hk => cases hk; exact tk_169
    | 2, hk => cases hk; exact tk_455
    | 3, hk => cases hk; exact tk_299
    | k + 4, hk => simp [am_ty] at hk
theorem GF : ∃ tyc, am_G TB vwCl SH KF tyc := G_at (by decide +kernel)
theorem G1 : ∃ tyc, am_G TB vwCl SH K1 tyc := G_at (by decide +kernel)
