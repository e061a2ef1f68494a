/-! THE CHARS of the two texts, exactly. Printed by wip/am/chk/hand/ud.py out of 21.m82.s and 22.c. -/
def chx (i : Nat) (k : Int32) : Int32 := (((am_stb.getD i []).getD k.toNatClampNeg 0 &&& 255).toUInt32 % 65536).toInt32
set_option maxRecDepth 100000 in
theorem jm_charAt1E (l : Launch) (b : Nat) (adK adV : Nat → Nat) (H0 : Heap) {i : Nat} (hi : i < 2) {k : Int32} (h1 : ¬ k < 0) (h2 : k < Int32.ofNat (am_stl.getD i 0)) (h3 : vp_in k (am_stl.getD i 0)) : Met l yJ1_charAt_3b067 (.code yJ1_charAt_3b067 cJ1_charAt_3b067 2 (some .char) :: am_gb TB) (am_rm 3 0 0) (va_Pc [.ref (adV i), .int k] (fun U => U.heap = H0 ∧ am_StA adK adV b U)) (va_Qi (fun (r : Int32) (_ : Unit) => narrow .char (.int r) = .int r ∧ r = chx i k) (fun _ t => t.heap = H0) (fun q => b ≤ q)) 0 0 (fun q => b ≤ q) := by
  refine Met.ofW (cc := cJ1_charAt_3b067) (maxL := 2) (ret := (some .char)) (by decide +kernel) rfl ?_
  intro p e s m args below meth c s₁ B hml hv
  obtain ⟨rfl, hH, hA⟩ := hv
  have hx := B.exec
  have hb := B.bytes
  have hr := B.returns
  have hts : ∀ w ∈ TB, w.before ([.ref (adV i), .int k] : List Value).toArray s = true := fun w hw => atoms_spec (ws := .code yJ1_charAt_3b067 cJ1_charAt_3b067 2 (some .char) :: am_gb TB) B.pre w (List.mem_cons_of_mem _ (List.mem_filter.mpr ⟨hw, TB_good w hw⟩))
  have hown : s.vm.findClass RJ1 = some m.cls := findClass_of_methodNamed B.named
  have hlocks := B.notSynchronized
  have hS : va_S (fun q => b ≤ q) s.heap s.heap [] := va_S.rf
  have hl := lv_entry ([.ref (adV i), .int k]) (n := 2) (Nat.le_of_ble_eq_true rfl)
  rw [lg_entry_eq]
  generalize (lg_sl ([.ref (adV i), .int k]) ++ List.replicate (2 - (lg_sl ([.ref (adV i), .int k])).length) Slot.unset).toArray = ls at hl ⊢
  have hl : lv_has ls 2 [(0, .ref (adV i)), (1, .int k)] := hl
  obtain ⟨hk0, hk1, hs, hz, hq⟩ := id hA
  refine lv_iload_n hx hb dJ1_charAt_3b067_0 rfl (lv_at hl 1 rfl) ?_
  refine lv_aload_n hx hb dJ1_charAt_3b067_1 rfl (lv_at hl 0 rfl) ?_
  refine va_tlen hx hb (hs.1 i hi).2.2.2 hS rfl dJ1_charAt_3b067_2 ?_
  refine va_callv (va_runS (As := [.int k, .int (Int32.ofNat (am_stl.getD i 0))]) (rest := []) (n := 2) ⟨hx, hb, hml, hown, hts⟩ (jm_check0 l b adK adV s.heap h1 h2) ⟨⟨rfl, rfl, by decide, by decide, am_words hts (tb_at 254 (by decide +kernel) (by decide +kernel)), am_code_in, hts _ (tb_at 254 (by decide +kernel) (by decide +kernel)), hts _ (tb_at 108 (by decide +kernel) (by decide +kernel)), ⟨by decide +kernel, by decide +kernel⟩, am_sig (na := 2) (by decide +kernel), hts _ (tb_at 252 (by decide +kernel) (by decide +kernel))⟩, hts _ (tb_at 253 (by decide +kernel) (by decide +kernel))⟩ ⟨am_blS, (fun U hU hW => ⟨rfl, by rw [hU], hA.at hU hS hW⟩)⟩ rfl rfl hl.1 rfl (lv_room (Nat.le_of_ble_eq_true rfl)) dJ1_charAt_3b067_3 ⟨Nat.le_refl _, Nat.le_refl _⟩) hS (fun q _ h => h) (fun q h => h) (fun u t H1 locs1 ht hvm hw hB hz1 hk1 hS1 => ?_)
  have hH1 : H1 = s.heap := by rw [← ht]; exact hB
  refine lv_aload_n hx hb dJ1_charAt_3b067_6 rfl (lv_at hl 0 rfl) ?_
  refine lv_iload_n hx hb dJ1_charAt_3b067_7 rfl (lv_at hl 1 rfl) ?_
  refine va_tb hx hb (hs.1 i hi).2.2.2 hS1 h3 rfl dJ1_charAt_3b067_8 ?_
  refine lv_sipush hx hb dJ1_charAt_3b067_9 (v := 255) (by decide) ?_
  refine lv_iand hx hb dJ1_charAt_3b067_12 ?_
  refine lv_i2c hx hb dJ1_charAt_3b067_13 rfl ?_
  have e : ∀ x : Int32, narrow .char (.int (((x &&& 255).toUInt32 % 65536).toInt32)) = .int (((x &&& 255).toUInt32 % 65536).toInt32) := by
    intro x
    exact pk_nc _
  exact W.zret hx hb hr (e _) (fun t ht hW => ⟨⟨_, (), rfl, ⟨e _, rfl⟩, ht.trans (hH1.trans hH)⟩, hS1.F ht⟩) hS1.2.2 dJ1_charAt_3b067_14
set_option maxRecDepth 100000 in
theorem jm_charAtE (l : Launch) (b : Nat) (adK adV : Nat → Nat) (H0 : Heap) {i : Nat} (hi : i < 2) {k : Int32} (h1 : ¬ k < 0) (h2 : k < Int32.ofNat (am_stl.getD i 0)) (h3 : vp_in k (am_stl.getD i 0)) : Met l yJ0_charAt_5068e (.code yJ0_charAt_5068e cJ0_charAt_5068e 2 (some .char) :: am_gb TB) (am_rm 4 0 0) (va_Pc [.ref (adK i), .int k] (fun U => U.heap = H0 ∧ am_StA adK adV b U)) (va_Qi (fun (r : Int32) (_ : Unit) => narrow .char (.int r) = .int r ∧ r = chx i k) (fun _ t => t.heap = H0) (fun q => b ≤ q)) 0 0 (fun q => b ≤ q) := by
  refine Met.ofW (cc := cJ0_charAt_5068e) (maxL := 2) (ret := (some .char)) (by decide +kernel) rfl ?_
  intro p e s m args below meth c s₁ B hml hv
  obtain ⟨rfl, hH, hA⟩ := hv
  have hx := B.exec
  have hb := B.bytes
  have hr := B.returns
  have hts : ∀ w ∈ TB, w.before ([.ref (adK i), .int k] : List Value).toArray s = true := fun w hw => atoms_spec (ws := .code yJ0_charAt_5068e cJ0_charAt_5068e 2 (some .char) :: am_gb TB) B.pre w (List.mem_cons_of_mem _ (List.mem_filter.mpr ⟨hw, TB_good w hw⟩))
  have hown : s.vm.findClass RJ0 = some m.cls := findClass_of_methodNamed B.named
  have hlocks := B.notSynchronized
  have hS : va_S (fun q => b ≤ q) s.heap s.heap [] := va_S.rf
  have hl := lv_entry ([.ref (adK i), .int k]) (n := 2) (Nat.le_of_ble_eq_true rfl)
  rw [lg_entry_eq]
  generalize (lg_sl ([.ref (adK i), .int k]) ++ List.replicate (2 - (lg_sl ([.ref (adK i), .int k])).length) Slot.unset).toArray = ls at hl ⊢
  have hl : lv_has ls 2 [(0, .ref (adK i)), (1, .int k)] := hl
  obtain ⟨hk0, hk1, hs, hz, hq⟩ := id hA
  refine lv_aload_n hx hb dJ0_charAt_5068e_0 rfl (lv_at hl 0 rfl) ?_
  refine va_calli (va_runV (As := []) (rest := []) (C := "java/lang/String") (n := 0) ⟨hx, hb, hml, hown, hts⟩ (jm_isLatin1 l b adK adV s.heap hi) ⟨⟨rfl, rfl, by decide, by decide, am_words hts (tb_at 248 (by decide +kernel) (by decide +kernel)), am_code_in, hts _ (tb_at 248 (by decide +kernel) (by decide +kernel)), hts _ (tb_at 108 (by decide +kernel) (by decide +kernel)), ⟨by decide +kernel, by decide +kernel⟩, am_sig (na := 0) (by decide +kernel), hts _ (tb_at 245 (by decide +kernel) (by decide +kernel))⟩, hts _ (tb_at 246 (by decide +kernel) (by decide +kernel)), hts _ (tb_at 247 (by decide +kernel) (by decide +kernel))⟩ ⟨am_blS, vk_recv hs hi hS, (fun U hU hW => ⟨rfl, by rw [hU], hA.at hU hS hW⟩)⟩ rfl rfl hl.1 rfl (lv_room (Nat.le_of_ble_eq_true rfl)) dJ0_charAt_5068e_1 ⟨Nat.le_refl _, Nat.le_refl _⟩) hS (fun q _ h => h) (fun q h => h) (fun r u t H1 locs1 ht hvm hr0 hB hz1 hk1 hS1 => ?_)
  subst hr0
  have hH1 : H1 = s.heap := by rw [← ht]; exact hB
  subst hH1
  refine lv_if_eq (tgt := 16) hx hb dJ0_charAt_5068e_4 rfl (fun h => absurd h (by decide)) (fun _ => ?_)
  refine lv_aload_n hx hb dJ0_charAt_5068e_7 rfl (lv_at hl 0 rfl) ?_
  refine vk_getf hx hb (hs.1 i hi).2.2.1 hS1 hown (hts (.fieldLink "java/lang/String" 9 "java/lang/String" "value" "[B") (tb_at 1952 (by decide +kernel) (by decide +kernel))) (fun _ h => h) dJ0_charAt_5068e_8 ?_
  refine lv_iload_n hx hb dJ0_charAt_5068e_11 rfl (lv_at hl 1 rfl) ?_
  refine va_calli (va_runS (As := [.ref (adV i), .int k]) (rest := []) (n := 2) ⟨hx, hb, hml, hown, hts⟩ (jm_charAt1E l b adK adV s.heap hi h1 h2 h3) ⟨⟨rfl, rfl, by decide, by decide, am_words hts (tb_at 251 (by decide +kernel) (by decide +kernel)), am_code_in, hts _ (tb_at 251 (by decide +kernel) (by decide +kernel)), hts _ (tb_at 109 (by decide +kernel) (by decide +kernel)), ⟨by decide +kernel, by decide +kernel⟩, am_sig (na := 2) (by decide +kernel), hts _ (tb_at 249 (by decide +kernel) (by decide +kernel))⟩, hts _ (tb_at 250 (by decide +kernel) (by decide +kernel))⟩ ⟨am_blS, (fun U hU hW => ⟨rfl, by rw [hU], hA.at hU hS1 hW⟩)⟩ rfl rfl hl.1 rfl (lv_room (Nat.le_of_ble_eq_true rfl)) dJ0_charAt_5068e_12 ⟨Nat.le_refl _, Nat.le_refl _⟩) hS1 (fun q _ h => h) (fun q h => h) (fun r u t H2 locs2 ht2 hvm2 hr0 hB2 hz2 hk2 hS2 => ?_)
  have hH2 : H2 = s.heap := by rw [← ht2]; exact hB2
  exact W.zret hx hb hr hr0.1 (fun t ht hW => ⟨⟨r, (), rfl, hr0, ht.trans (hH2.trans hH)⟩, hS2.F ht⟩) hS2.2.2 dJ0_charAt_5068e_15
theorem am_M.ofTE {l : Launch} {cl : List vw_C} {SH : am_Sh} {KF : am_Kf} {y : MethodName} {cc : ByteArray} {maxL : Nat} {ret : Option FieldType} {d mc ms : Nat} {sp : am_Sp} (X : am_X) (hy : plainName y.cls = true) (hyc : y.cls = "LadderStreet$Tokens") (hG : ∃ tyc, am_G TB cl SH KF tyc) (hSH : am_SH X = SH) (hKF : am_KF X = KF) (hrt : am_rt X = ret) (hd : 6 ≤ d) (hO : am_O l TB NB cl y.cls y.name d X)
    (body : ∀ (n0 : Nat) (as : List Value) (σ : am_S) (post : Option Value → am_S → Prop) (AA : Nat → List (Option Value) → List Value → Nat → am_S → Prop), (∀ cuts f pc ls stk n τ, am_vc cc X (n0 + mc) post AA cuts f pc ls stk n τ → AA pc ls stk n τ) →
      (∀ pc ls stk n τ, decode cc pc = .ok (.ldc 27, 2) → decode cc (pc + 2) = .ok (.invokevirtual 29, 3) → (stk.map fun v => v.category).sum ≤ 8 → AA (pc + 5) ls (.int (Int32.ofInt 110) :: stk) n τ → AA pc ls stk n τ) →
      (∀ pc (k : Fin 4) (j : Nat) ls stk n τ, decode cc pc = .ok (.ldc 27, 2) → decode cc (pc + 2) = .ok (.iload_n k, 1) → decode cc (pc + 3) = .ok (.invokevirtual 35, 3) → (stk.map fun v => v.category).sum ≤ 8 → j < 110 → ls[(k : Nat)]? = some (some (.int (Int32.ofInt (j : Int)))) → AA (pc + 6) ls (.int (chx 0 (Int32.ofInt (j : Int))) :: stk) n τ → AA pc ls stk n τ) →
      sp as n0 σ post → (am_sl as).length ≤ maxL ∧ AA 0 (am_entry maxL as) [] n0 σ) : am_M l TB NB cl SH KF y cc maxL ret d mc ms sp := by
  subst hSH; subst hKF; subst hrt
  intro D aC b n0 as σ post hsp hszm
  refine Met.ofW (cc := cc) (maxL := maxL) (ret := am_rt X) hy rfl ?_
  intro p e s m args below meth c s₁ B hml hv
  obtain ⟨rfl, hsz, hP, hK, hN⟩ := hv
  have hts : ∀ w ∈ TB, w.before (as.map (am_c b)).toArray s = true := fun w hw => atoms_spec (ws := .code y cc maxL (am_rt X) :: am_gb TB) B.pre w (List.mem_cons_of_mem _ (List.mem_filter.mpr ⟨hw, TB_good w hw⟩))
  have hown : s.vm.findClass y.cls = some m.cls := findClass_of_methodNamed B.named
  have hownT : s.vm.findClass "LadderStreet$Tokens" = some m.cls := by rw [← hyc]; exact hown
  have hnm : meth.name = y.name := (name_of_methodNamed B.named B.method).1
  have C : am_C p l (am_rm d mc ms) s m (as.map (am_c b)).toArray meth c cl TB NB D aC b n0 (n0 + mc) maxL cc y.cls X (am_KF X) := ⟨B.exec, B.bytes, hml, hown, hts, hN, hK, B.notSynchronized, hsz, Or.inl ⟨B.returns, rfl⟩, ⟨d, by omega, by rw [Nat.add_sub_cancel_left, hszm, Nat.add_sub_cancel_left], by rw [hnm]; exact hO⟩, hG⟩
  have fx : CallFix p m c cc maxL s (as.map (am_c b)).toArray TB "LadderStreet$Tokens" := ⟨B.exec, B.bytes, hml, hownT, hts⟩
  obtain ⟨adK, adV, hA⟩ := hN.2
  have hA : am_StA adK adV b s := hA
  obtain ⟨h1, h2⟩ := body n0 as σ post _ (fun cuts f pc ls stk n τ h => am_vc_ok (e := e) (below := below) (cuts := cuts) C f pc ls stk n τ h)
    (fun pc ls stk n τ g1 g2 g3 g4 q1 q2 q3 H locs lc hP hS hl => by
      have hsn : am_sz (am_SH X) (am_KF X) n - am_sz (am_SH X) (am_KF X) n0 ≤ ms := by have := am_sz_le (SH := am_SH X) (KF := am_KF X) q2; omega
      refine va_ldcS B.exec B.bytes hownT hA.1 g1 ?_
      refine va_calli (va_runV (As := []) (rest := stk.map (am_c b)) (C := "java/lang/String") (n := 0) fx (jm_length l b adK adV H (i := 0) (by decide)) ⟨⟨rfl, rfl, by show 2 + 1 ≤ d; omega, by show 8 + (1 + 11) + 64 * 2 ≤ 64 * d; omega, am_words hts (tb_at 234 (by decide +kernel) (by decide +kernel)), am_code_in, hts _ (tb_at 234 (by decide +kernel) (by decide +kernel)), hts _ (tb_at 108 (by decide +kernel) (by decide +kernel)), ⟨by decide +kernel, by decide +kernel⟩, am_sig (na := 0) (by decide +kernel), hts _ (tb_at 231 (by decide +kernel) (by decide +kernel))⟩, hts _ (tb_at 232 (by decide +kernel) (by decide +kernel)), hts _ (tb_at 233 (by decide +kernel) (by decide +kernel))⟩ ⟨am_blS, vk_recv hA.2.2.1 (by decide) hS, fun U hU hW => ⟨rfl, hU, hA.at hU hS hW⟩⟩ rfl rfl hl.1 rfl (lv_room (by rw [am_cats]; exact g3)) g2 ⟨by show n - n0 + 0 ≤ mc; omega, by show _ + 0 ≤ ms; omega⟩) hS (fun q _ h => h) (fun q h => h) (fun r u t H1 locs1 ht hvm hr0 hB hz1 hk1 hS1 => ?_)
      have hH1 : H1 = H := by rw [← ht]; exact hB
      subst hH1
      have e0 : r = Int32.ofInt 110 := hr0.trans (by decide +kernel)
      subst e0
      exact g4 q1 q2 q3 H1 locs1 lc hP hS1 hl)
    (fun pc k j ls stk n τ g1 g2 g2b g3 gj gl g4 q1 q2 q3 H locs lc hP hS hl => by
      have hsn : am_sz (am_SH X) (am_KF X) n - am_sz (am_SH X) (am_KF X) n0 ≤ ms := by have := am_sz_le (SH := am_SH X) (KF := am_KF X) q2; omega
      have jb : ∀ j : Nat, j < 110 → ¬ Int32.ofInt (j : Int) < 0 ∧ Int32.ofInt (j : Int) < Int32.ofNat (am_stl.getD 0 0) ∧ ¬ (am_stl.getD 0 0 ≤ (Int32.ofInt (j : Int)).toNatClampNeg) := by decide +kernel
      obtain ⟨j1, j2, j3⟩ := jb j gj
      refine va_ldcS B.exec B.bytes hownT hA.1 g1 ?_
      refine lv_iload_n B.exec B.bytes g2 rfl (am_lv_at hl gl) ?_
      refine va_calli (va_runV (As := [.int (Int32.ofInt (j : Int))]) (rest := stk.map (am_c b)) (C := "java/lang/String") (n := 1) fx (jm_charAtE l b adK adV H (i := 0) (by decide) (k := Int32.ofInt (j : Int)) j1 j2 (fun z => z.elim j1 j3)) ⟨⟨rfl, rfl, by show 4 + 1 ≤ d; omega, by show 8 + (2 + 11) + 64 * 4 ≤ 64 * d; omega, am_words hts (tb_at 244 (by decide +kernel) (by decide +kernel)), am_code_in, hts _ (tb_at 244 (by decide +kernel) (by decide +kernel)), hts _ (tb_at 108 (by decide +kernel) (by decide +kernel)), ⟨by decide +kernel, by decide +kernel⟩, am_sig (na := 1) (by decide +kernel), hts _ (tb_at 241 (by decide +kernel) (by decide +kernel))⟩, hts _ (tb_at 242 (by decide +kernel) (by decide +kernel)), hts _ (tb_at 243 (by decide +kernel) (by decide +kernel))⟩ ⟨am_blS, vk_recv hA.2.2.1 (by decide) hS, fun U hU hW => ⟨rfl, hU, hA.at hU hS hW⟩⟩ rfl rfl hl.1 rfl (lv_room (by rw [am_cats]; exact g3)) g2b ⟨by show n - n0 + 0 ≤ mc; omega, by show _ + 0 ≤ ms; omega⟩) hS (fun q _ h => h) (fun q h => h) (fun r u t H1 locs1 ht hvm hr0 hB hz1 hk1 hS1 => ?_)
      have hH1 : H1 = H := by rw [← ht]; exact hB
      subst hH1
      have e9 := hr0.2
      subst e9
      exact g4 q1 q2 q3 H1 locs1 lc hP hS1 hl) hsp
  have hl := lv_entry (as.map (am_c b)) (n := maxL) (by rw [am_sl_len]; exact h1)
  have h3 := h2 (Nat.le_refl _) (Nat.le_add_right _ _) (by simp [am_entry]; omega) s.heap [] _ hP va_S.rf (am_entry_lv hl)
  rw [Nat.sub_self, Nat.sub_self, Nat.add_sub_cancel_left, hszm, Nat.add_sub_cancel_left] at h3
  rw [lg_entry_eq]
  exact h3
theorem am_M.ofT2E {l : Launch} {cl : List vw_C} {SH : am_Sh} {KF : am_Kf} {y : MethodName} {cc : ByteArray} {maxL : Nat} {ret : Option FieldType} {d mc ms : Nat} {sp : am_Sp} (X : am_X) (hy : plainName y.cls = true) (hyc : y.cls = "LadderStreet$Tokens") (hG : ∃ tyc, am_G TB cl SH KF tyc) (hSH : am_SH X = SH) (hKF : am_KF X = KF) (hrt : am_rt X = ret) (hd : 6 ≤ d) (hO : am_O l TB NB cl y.cls y.name d X)
    (body : ∀ (n0 : Nat) (as : List Value) (σ : am_S) (post : Option Value → am_S → Prop) (AA : Nat → List (Option Value) → List Value → Nat → am_S → Prop), (∀ cuts f pc ls stk n τ, am_vc cc X (n0 + mc) post AA cuts f pc ls stk n τ → AA pc ls stk n τ) →
      (∀ pc ls stk n τ, decode cc pc = .ok (.ldc 82, 2) → decode cc (pc + 2) = .ok (.invokevirtual 29, 3) → (stk.map fun v => v.category).sum ≤ 8 → AA (pc + 5) ls (.int (Int32.ofInt 9) :: stk) n τ → AA pc ls stk n τ) →
      (∀ pc (k : Fin 4) (j : Nat) ls stk n τ, decode cc pc = .ok (.ldc 82, 2) → decode cc (pc + 2) = .ok (.iload_n k, 1) → decode cc (pc + 3) = .ok (.invokevirtual 35, 3) → (stk.map fun v => v.category).sum ≤ 8 → j < 9 → ls[(k : Nat)]? = some (some (.int (Int32.ofInt (j : Int)))) → AA (pc + 6) ls (.int (chx 1 (Int32.ofInt (j : Int))) :: stk) n τ → AA pc ls stk n τ) →
      sp as n0 σ post → (am_sl as).length ≤ maxL ∧ AA 0 (am_entry maxL as) [] n0 σ) : am_M l TB NB cl SH KF y cc maxL ret d mc ms sp := by
  subst hSH; subst hKF; subst hrt
  intro D aC b n0 as σ post hsp hszm
  refine Met.ofW (cc := cc) (maxL := maxL) (ret := am_rt X) hy rfl ?_
  intro p e s m args below meth c s₁ B hml hv
  obtain ⟨rfl, hsz, hP, hK, hN⟩ := hv
  have hts : ∀ w ∈ TB, w.before (as.map (am_c b)).toArray s = true := fun w hw => atoms_spec (ws := .code y cc maxL (am_rt X) :: am_gb TB) B.pre w (List.mem_cons_of_mem _ (List.mem_filter.mpr ⟨hw, TB_good w hw⟩))
  have hown : s.vm.findClass y.cls = some m.cls := findClass_of_methodNamed B.named
  have hownT : s.vm.findClass "LadderStreet$Tokens" = some m.cls := by rw [← hyc]; exact hown
  have hnm : meth.name = y.name := (name_of_methodNamed B.named B.method).1
  have C : am_C p l (am_rm d mc ms) s m (as.map (am_c b)).toArray meth c cl TB NB D aC b n0 (n0 + mc) maxL cc y.cls X (am_KF X) := ⟨B.exec, B.bytes, hml, hown, hts, hN, hK, B.notSynchronized, hsz, Or.inl ⟨B.returns, rfl⟩, ⟨d, by omega, by rw [Nat.add_sub_cancel_left, hszm, Nat.add_sub_cancel_left], by rw [hnm]; exact hO⟩, hG⟩
  have fx : CallFix p m c cc maxL s (as.map (am_c b)).toArray TB "LadderStreet$Tokens" := ⟨B.exec, B.bytes, hml, hownT, hts⟩
  obtain ⟨adK, adV, hA⟩ := hN.2
  have hA : am_StA adK adV b s := hA
  obtain ⟨h1, h2⟩ := body n0 as σ post _ (fun cuts f pc ls stk n τ h => am_vc_ok (e := e) (below := below) (cuts := cuts) C f pc ls stk n τ h)
    (fun pc ls stk n τ g1 g2 g3 g4 q1 q2 q3 H locs lc hP hS hl => by
      have hsn : am_sz (am_SH X) (am_KF X) n - am_sz (am_SH X) (am_KF X) n0 ≤ ms := by have := am_sz_le (SH := am_SH X) (KF := am_KF X) q2; omega
      refine va_ldcS B.exec B.bytes hownT hA.2.1 g1 ?_
      refine va_calli (va_runV (As := []) (rest := stk.map (am_c b)) (C := "java/lang/String") (n := 0) fx (jm_length l b adK adV H (i := 1) (by decide)) ⟨⟨rfl, rfl, by show 2 + 1 ≤ d; omega, by show 8 + (1 + 11) + 64 * 2 ≤ 64 * d; omega, am_words hts (tb_at 234 (by decide +kernel) (by decide +kernel)), am_code_in, hts _ (tb_at 234 (by decide +kernel) (by decide +kernel)), hts _ (tb_at 108 (by decide +kernel) (by decide +kernel)), ⟨by decide +kernel, by decide +kernel⟩, am_sig (na := 0) (by decide +kernel), hts _ (tb_at 231 (by decide +kernel) (by decide +kernel))⟩, hts _ (tb_at 232 (by decide +kernel) (by decide +kernel)), hts _ (tb_at 233 (by decide +kernel) (by decide +kernel))⟩ ⟨am_blS, vk_recv hA.2.2.1 (by decide) hS, fun U hU hW => ⟨rfl, hU, hA.at hU hS hW⟩⟩ rfl rfl hl.1 rfl (lv_room (by rw [am_cats]; exact g3)) g2 ⟨by show n - n0 + 0 ≤ mc; omega, by show _ + 0 ≤ ms; omega⟩) hS (fun q _ h => h) (fun q h => h) (fun r u t H1 locs1 ht hvm hr0 hB hz1 hk1 hS1 => ?_)
      have hH1 : H1 = H := by rw [← ht]; exact hB
      subst hH1
      have e0 : r = Int32.ofInt 9 := hr0.trans (by decide +kernel)
      subst e0
      exact g4 q1 q2 q3 H1 locs1 lc hP hS1 hl)
    (fun pc k j ls stk n τ g1 g2 g2b g3 gj gl g4 q1 q2 q3 H locs lc hP hS hl => by
      have hsn : am_sz (am_SH X) (am_KF X) n - am_sz (am_SH X) (am_KF X) n0 ≤ ms := by have := am_sz_le (SH := am_SH X) (KF := am_KF X) q2; omega
      have jb : ∀ j : Nat, j < 9 → ¬ Int32.ofInt (j : Int) < 0 ∧ Int32.ofInt (j : Int) < Int32.ofNat (am_stl.getD 1 0) ∧ ¬ (am_stl.getD 1 0 ≤ (Int32.ofInt (j : Int)).toNatClampNeg) := by decide +kernel
      obtain ⟨j1, j2, j3⟩ := jb j gj
      refine va_ldcS B.exec B.bytes hownT hA.2.1 g1 ?_
      refine lv_iload_n B.exec B.bytes g2 rfl (am_lv_at hl gl) ?_
      refine va_calli (va_runV (As := [.int (Int32.ofInt (j : Int))]) (rest := stk.map (am_c b)) (C := "java/lang/String") (n := 1) fx (jm_charAtE l b adK adV H (i := 1) (by decide) (k := Int32.ofInt (j : Int)) j1 j2 (fun z => z.elim j1 j3)) ⟨⟨rfl, rfl, by show 4 + 1 ≤ d; omega, by show 8 + (2 + 11) + 64 * 4 ≤ 64 * d; omega, am_words hts (tb_at 244 (by decide +kernel) (by decide +kernel)), am_code_in, hts _ (tb_at 244 (by decide +kernel) (by decide +kernel)), hts _ (tb_at 108 (by decide +kernel) (by decide +kernel)), ⟨by decide +kernel, by decide +kernel⟩, am_sig (na := 1) (by decide +kernel), hts _ (tb_at 241 (by decide +kernel) (by decide +kernel))⟩, hts _ (tb_at 242 (by decide +kernel) (by decide +kernel)), hts _ (tb_at 243 (by decide +kernel) (by decide +kernel))⟩ ⟨am_blS, vk_recv hA.2.2.1 (by decide) hS, fun U hU hW => ⟨rfl, hU, hA.at hU hS hW⟩⟩ rfl rfl hl.1 rfl (lv_room (by rw [am_cats]; exact g3)) g2b ⟨by show n - n0 + 0 ≤ mc; omega, by show _ + 0 ≤ ms; omega⟩) hS (fun q _ h => h) (fun q h => h) (fun r u t H1 locs1 ht hvm hr0 hB hz1 hk1 hS1 => ?_)
      have hH1 : H1 = H := by rw [← ht]; exact hB
      subst hH1
      have e9 := hr0.2
      subst e9
      exact g4 q1 q2 q3 H1 locs1 lc hP hS1 hl) hsp
  have hl := lv_entry (as.map (am_c b)) (n := maxL) (by rw [am_sl_len]; exact h1)
  have h3 := h2 (Nat.le_refl _) (Nat.le_add_right _ _) (by simp [am_entry]; omega) s.heap [] _ hP va_S.rf (am_entry_lv hl)
  rw [Nat.sub_self, Nat.sub_self, Nat.add_sub_cancel_left, hszm, Nat.add_sub_cancel_left] at h3
  rw [lg_entry_eq]
  exact h3
