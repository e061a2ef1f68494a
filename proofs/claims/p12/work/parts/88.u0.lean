/-! THE CHARS of the text of signs, exactly. Printed by wip/am/chk/hand/ud.py out of 22.c. -/
theorem am_M.ofT2E {l : Launch} {cl : List vw_C} {SH : am_Sh} {KF : am_Kf} {y : MethodName} {cc : ByteArray} {maxL : Nat} {ret : Option FieldType} {d mc ms : Nat} {sp : am_Sp} (X : am_X) (hy : plainName y.cls = true) (hyc : y.cls = "LadderStreet$Tokens") (hG : ∃ tyc, am_G TB cl SH KF tyc) (hSH : am_SH X = SH) (hKF : am_KF X = KF) (hrt : am_rt X = ret) (hd : 6 ≤ d) (hO : am_O l TB NB cl y.cls y.name d X)
    (body : ∀ (n0 : Nat) (as : List Value) (σ : am_S) (post : Option Value → am_S → Prop) (AA : Nat → List (Option Value) → List Value → Nat → am_S → Prop), (∀ cuts f pc ls stk n τ, am_vc cc X (n0 + mc) post AA cuts f pc ls stk n τ → AA pc ls stk n τ) →
      (∀ pc ls stk n τ, decode cc pc = .ok (.ldc 82, 2) → decode cc (pc + 2) = .ok (.invokevirtual 29, 3) → (stk.map fun v => v.category).sum ≤ 8 → AA (pc + 5) ls (.int (Int32.ofInt 9) :: stk) n τ → AA pc ls stk n τ) →
      (∀ pc (k : Fin 4) (j : Nat) ls stk n τ, decode cc pc = .ok (.ldc 82, 2) → decode cc (pc + 2) = .ok (.iload_n k, 1) → decode cc (pc + 3) = .ok (.invokevirtual 35, 3) → (stk.map fun v => v.category).sum ≤ 8 → j < 9 → ls[(k : Nat)]? = some (some (.int (Int32.ofInt (j : Int)))) → AA (pc + 6) ls (.int (chx 1 (Int32.ofInt (j : Int))) :: stk) n τ → AA pc ls stk n τ) →
      sp as n0 σ post → (am_sl as).length ≤ maxL ∧ AA 0 (am_entry maxL as) [] n0 σ) : am_M l TB NB cl SH KF y cc maxL ret d mc ms sp := by
  subst hSH; subst hKF; subst hrt
  intro D aC b n0 as σ post hsp hszm
  refine Met.ofW (cc := cc) (maxL := maxL) (ret := am_rt X) hy rfl ?_
  intro p e s m args below meth c s₁ B hml hv
  obtain ⟨rfl, hsz, hP, hK, hN⟩ := hv
  have hts : ∀ w ∈ TB, w.before (as.map (am_c b)).toArray s = true := fun w hw => atoms_spec (ws := .code y cc maxL (am_rt X) :: am_gb TB) B.pre w (List.mem_cons_of_mem _ (List.mem_filter.mpr ⟨hw, TB_good w hw⟩))
  have hown : s.vm.findClass y.cls = some m.cls := findClass_of_methodNamed B.named
  have hownT : s.vm.findClass "LadderStreet$Tokens" = some m.cls := by rw [← hyc]; exact hown
  have hnm : meth.name = y.name := (name_of_methodNamed B.named B.method).1
  have C : am_C p l (am_rm d mc ms) s m (as.map (am_c b)).toArray meth c cl TB NB D aC b n0 (n0 + mc) maxL cc y.cls X (am_KF X) := ⟨B.exec, B.bytes, hml, hown, hts, hN, hK, B.notSynchronized, hsz, Or.inl ⟨B.returns, rfl⟩, ⟨d, by omega, by rw [Nat.add_sub_cancel_left, hszm, Nat.add_sub_cancel_left], by rw [hnm]; exact hO⟩, hG⟩
  have fx : CallFix p m c cc maxL s (as.map (am_c b)).toArray TB "LadderStreet$Tokens" := ⟨B.exec, B.bytes, hml, hownT, hts⟩
  obtain ⟨adK, adV, hA⟩ := hN.2
  have hA : am_StA adK adV b s := hA
  obtain ⟨h1, h2⟩ := body n0 as σ post _ (fun cuts f pc ls stk n τ h => am_vc_ok (e := e) (below := below) (cuts := cuts) C f pc ls stk n τ h)
    (fun pc ls stk n τ g1 g2 g3 g4 q1 q2 q3 H locs lc hP hS hl => by
      have hsn : am_sz (am_SH X) (am_KF X) n - am_sz (am_SH X) (am_KF X) n0 ≤ ms := by have := am_sz_le (SH := am_SH X) (KF := am_KF X) q2; omega
      refine va_ldcS B.exec B.bytes hownT hA.2.1 g1 ?_
      refine va_calli (va_runV (As := []) (rest := stk.map (am_c b)) (C := "java/lang/String") (n := 0) fx (jm_length l b adK adV H (i := 1) (by decide)) ⟨⟨rfl, rfl, by show 2 + 1 ≤ d; omega, by show 8 + (1 + 11) + 64 * 2 ≤ 64 * d; omega, am_words hts (tk_234), am_code_in, hts _ (tk_234), hts _ (tk_108), ⟨by decide +kernel, by decide +kernel⟩, am_sig (na := 0) (by decide +kernel), hts _ (tk_231)⟩, hts _ (tk_232), hts _ (tk_233)⟩ ⟨am_blS, vk_recv hA.2.2.1 (by decide) hS, fun U hU hW => ⟨rfl, hU, hA.at hU hS hW⟩⟩ rfl rfl hl.1 rfl (lv_room (by rw [am_cats]; exact g3)) g2 ⟨by show n - n0 + 0 ≤ mc; omega, by show _ + 0 ≤ ms; omega⟩) hS (fun q _ h => h) (fun q h => h) (fun r u t H1 locs1 ht hvm hr0 hB hz1 hk1 hS1 => ?_)
      have hH1 : H1 = H := by rw [← ht]; exact hB
      subst hH1
      have e0 : r = Int32.ofInt 9 := hr0.trans (by decide +kernel)
      subst e0
      exact g4 q1 q2 q3 H1 locs1 lc hP hS1 hl)
    (fun pc k j ls stk n τ g1 g2 g2b g3 gj gl g4 q1 q2 q3 H locs lc hP hS hl => by
      have hsn : am_sz (am_SH X) (am_KF X) n - am_sz (am_SH X) (am_KF X) n0 ≤ ms := by have := am_sz_le (SH := am_SH X) (KF := am_KF X) q2; omega
      have jb : ∀ j : Nat, j < 9 → ¬ Int32.ofInt (j : Int) < 0 ∧ Int32.ofInt (j : Int) < Int32.ofNat (am_stl.getD 1 0) ∧ ¬ (am_stl.getD 1 0 ≤ (Int32.ofInt (j : Int)).toNatClampNeg) := by decide +kernel
      obtain ⟨j1, j2, j3⟩ := jb j gj
      refine va_ldcS B.exec B.bytes hownT hA.2.1 g1 ?_
      refine lv_iload_n B.exec B.bytes g2 rfl (am_lv_at hl gl) ?_
      refine va_calli (va_runV (As := [.int (Int32.ofInt (j : Int))]) (rest := stk.map (am_c b)) (C := "java/lang/String") (n := 1) fx (jm_charAtE l b adK adV H (i := 1) (by decide) (k := Int32.ofInt (j : Int)) j1 j2 (fun z => z.elim j1 j3)) ⟨⟨rfl, rfl, by show 4 + 1 ≤ d; omega, by show 8 + (2 + 11) + 64 * 4 ≤ 64 * d; omega, am_words hts (tk_244), am_code_in, hts _ (tk_244), hts _ (tk_108), ⟨by decide +kernel, by decide +kernel⟩, am_sig (na := 1) (by decide +kernel), hts _ (tk_241)⟩, hts _ (tk_242), hts _ (tk_243)⟩ ⟨am_blS, vk_recv hA.2.2.1 (by decide) hS, fun U hU hW => ⟨rfl, hU, hA.at hU hS hW⟩⟩ rfl rfl hl.1 rfl (lv_room (by rw [am_cats]; exact g3)) g2b ⟨by show n - n0 + 0 ≤ mc; omega, by show _ + 0 ≤ ms; omega⟩) hS (fun q _ h => h) (fun q h => h) (fun r u t H1 locs1 ht hvm hr0 hB hz1 hk1 hS1 => ?_)
      have hH1 : H1 = H := by rw [← ht]; exact hB
      subst hH1
      have e9 := hr0.2
      subst e9
      exact g4 q1 q2 q3 H1 locs1 lc hP hS1 hl) hsp
  have hl := lv_entry (as.map (am_c b)) (n := maxL) (by rw [am_sl_len]; exact h1)
  have h3 := h2 (Nat.le_refl _) (Nat.le_add_right _ _) (by simp [am_entry]; omega) s.heap [] _ hP va_S.rf (am_entry_lv hl)
  rw [Nat.sub_self, Nat.sub_self, Nat.add_sub_cancel_left, hszm, Nat.add_sub_cancel_left] at h3
  rw [lg_entry_eq]
  exact h3
