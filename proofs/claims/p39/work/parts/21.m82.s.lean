/-! TEXTS: String.length and charAt, over what the machine holds of the class's two texts; the JDK's own code, by the kit's rows. -/
theorem dJ0_length_8abf5_0 : decode cJ0_length_8abf5 0 = .ok (.aload_n 0, 1) := dk_ok (by decide +kernel)
theorem dJ0_length_8abf5_1 : decode cJ0_length_8abf5 1 = .ok (.getfield 9, 3) := dk_ok (by decide +kernel)
theorem dJ0_length_8abf5_4 : decode cJ0_length_8abf5 4 = .ok (.arraylength, 1) := dk_ok (by decide +kernel)
theorem dJ0_length_8abf5_5 : decode cJ0_length_8abf5 5 = .ok (.aload_n 0, 1) := dk_ok (by decide +kernel)
theorem dJ0_length_8abf5_6 : decode cJ0_length_8abf5 6 = .ok (.invokevirtual 335, 3) := dk_ok (by decide +kernel)
theorem dJ0_length_8abf5_9 : decode cJ0_length_8abf5 9 = .ok (.ishr, 1) := dk_ok (by decide +kernel)
theorem dJ0_length_8abf5_10 : decode cJ0_length_8abf5 10 = .ok (.ireturn, 1) := dk_ok (by decide +kernel)
theorem dJ0_charAt_5068e_0 : decode cJ0_charAt_5068e 0 = .ok (.aload_n 0, 1) := dk_ok (by decide +kernel)
theorem dJ0_charAt_5068e_1 : decode cJ0_charAt_5068e 1 = .ok (.invokevirtual 492, 3) := dk_ok (by decide +kernel)
theorem dJ0_charAt_5068e_4 : decode cJ0_charAt_5068e 4 = .ok (.ifCond .eq 12, 3) := dk_ok (by decide +kernel)
theorem dJ0_charAt_5068e_7 : decode cJ0_charAt_5068e 7 = .ok (.aload_n 0, 1) := dk_ok (by decide +kernel)
theorem dJ0_charAt_5068e_8 : decode cJ0_charAt_5068e 8 = .ok (.getfield 9, 3) := dk_ok (by decide +kernel)
theorem dJ0_charAt_5068e_11 : decode cJ0_charAt_5068e 11 = .ok (.iload_n 1, 1) := dk_ok (by decide +kernel)
theorem dJ0_charAt_5068e_12 : decode cJ0_charAt_5068e 12 = .ok (.invokestatic 495, 3) := dk_ok (by decide +kernel)
theorem dJ0_charAt_5068e_15 : decode cJ0_charAt_5068e 15 = .ok (.ireturn, 1) := dk_ok (by decide +kernel)
theorem dJ0_coder_7d493_0 : decode cJ0_coder_7d493 0 = .ok (.getstatic 38, 3) := dk_ok (by decide +kernel)
theorem dJ0_coder_7d493_3 : decode cJ0_coder_7d493 3 = .ok (.ifCond .eq 10, 3) := dk_ok (by decide +kernel)
theorem dJ0_coder_7d493_6 : decode cJ0_coder_7d493 6 = .ok (.aload_n 0, 1) := dk_ok (by decide +kernel)
theorem dJ0_coder_7d493_7 : decode cJ0_coder_7d493 7 = .ok (.getfield 15, 3) := dk_ok (by decide +kernel)
theorem dJ0_coder_7d493_10 : decode cJ0_coder_7d493 10 = .ok (.goto 4, 3) := dk_ok (by decide +kernel)
theorem dJ0_coder_7d493_14 : decode cJ0_coder_7d493 14 = .ok (.ireturn, 1) := dk_ok (by decide +kernel)
theorem dJ0_isLatin1_aae02_0 : decode cJ0_isLatin1_aae02 0 = .ok (.getstatic 38, 3) := dk_ok (by decide +kernel)
theorem dJ0_isLatin1_aae02_3 : decode cJ0_isLatin1_aae02 3 = .ok (.ifCond .eq 14, 3) := dk_ok (by decide +kernel)
theorem dJ0_isLatin1_aae02_6 : decode cJ0_isLatin1_aae02 6 = .ok (.aload_n 0, 1) := dk_ok (by decide +kernel)
theorem dJ0_isLatin1_aae02_7 : decode cJ0_isLatin1_aae02 7 = .ok (.getfield 15, 3) := dk_ok (by decide +kernel)
theorem dJ0_isLatin1_aae02_10 : decode cJ0_isLatin1_aae02 10 = .ok (.ifCond .ne 7, 3) := dk_ok (by decide +kernel)
theorem dJ0_isLatin1_aae02_13 : decode cJ0_isLatin1_aae02 13 = .ok (.iconst 1, 1) := dk_ok (by decide +kernel)
theorem dJ0_isLatin1_aae02_14 : decode cJ0_isLatin1_aae02 14 = .ok (.goto 4, 3) := dk_ok (by decide +kernel)
theorem dJ0_isLatin1_aae02_18 : decode cJ0_isLatin1_aae02 18 = .ok (.ireturn, 1) := dk_ok (by decide +kernel)
theorem dJ0_checkIndex_df160_0 : decode cJ0_checkIndex_df160 0 = .ok (.iload_n 0, 1) := dk_ok (by decide +kernel)
theorem dJ0_checkIndex_df160_1 : decode cJ0_checkIndex_df160 1 = .ok (.iload_n 1, 1) := dk_ok (by decide +kernel)
theorem dJ0_checkIndex_df160_2 : decode cJ0_checkIndex_df160 2 = .ok (.getstatic 1053, 3) := dk_ok (by decide +kernel)
theorem dJ0_checkIndex_df160_5 : decode cJ0_checkIndex_df160 5 = .ok (.invokestatic 1059, 3) := dk_ok (by decide +kernel)
theorem dJ0_checkIndex_df160_8 : decode cJ0_checkIndex_df160 8 = .ok (.pop, 1) := dk_ok (by decide +kernel)
theorem dJ0_checkIndex_df160_9 : decode cJ0_checkIndex_df160 9 = .ok (.return_, 1) := dk_ok (by decide +kernel)
theorem dJ1_charAt_3b067_0 : decode cJ1_charAt_3b067 0 = .ok (.iload_n 1, 1) := dk_ok (by decide +kernel)
theorem dJ1_charAt_3b067_1 : decode cJ1_charAt_3b067 1 = .ok (.aload_n 0, 1) := dk_ok (by decide +kernel)
theorem dJ1_charAt_3b067_2 : decode cJ1_charAt_3b067 2 = .ok (.arraylength, 1) := dk_ok (by decide +kernel)
theorem dJ1_charAt_3b067_3 : decode cJ1_charAt_3b067 3 = .ok (.invokestatic 9, 3) := dk_ok (by decide +kernel)
theorem dJ1_charAt_3b067_6 : decode cJ1_charAt_3b067 6 = .ok (.aload_n 0, 1) := dk_ok (by decide +kernel)
theorem dJ1_charAt_3b067_7 : decode cJ1_charAt_3b067 7 = .ok (.iload_n 1, 1) := dk_ok (by decide +kernel)
theorem dJ1_charAt_3b067_8 : decode cJ1_charAt_3b067 8 = .ok (.baload, 1) := dk_ok (by decide +kernel)
theorem dJ1_charAt_3b067_9 : decode cJ1_charAt_3b067 9 = .ok (.sipush 255, 3) := dk_ok (by decide +kernel)
theorem dJ1_charAt_3b067_12 : decode cJ1_charAt_3b067 12 = .ok (.iand, 1) := dk_ok (by decide +kernel)
theorem dJ1_charAt_3b067_13 : decode cJ1_charAt_3b067 13 = .ok (.i2c, 1) := dk_ok (by decide +kernel)
theorem dJ1_charAt_3b067_14 : decode cJ1_charAt_3b067 14 = .ok (.ireturn, 1) := dk_ok (by decide +kernel)
theorem dJ3_checkIndex_8e157_0 : decode cJ3_checkIndex_8e157 0 = .ok (.iload_n 0, 1) := dk_ok (by decide +kernel)
theorem dJ3_checkIndex_8e157_1 : decode cJ3_checkIndex_8e157 1 = .ok (.ifCond .lt 8, 3) := dk_ok (by decide +kernel)
theorem dJ3_checkIndex_8e157_4 : decode cJ3_checkIndex_8e157 4 = .ok (.iload_n 0, 1) := dk_ok (by decide +kernel)
theorem dJ3_checkIndex_8e157_5 : decode cJ3_checkIndex_8e157 5 = .ok (.iload_n 1, 1) := dk_ok (by decide +kernel)
theorem dJ3_checkIndex_8e157_6 : decode cJ3_checkIndex_8e157 6 = .ok (.if_icmp .lt 10, 3) := dk_ok (by decide +kernel)
theorem dJ3_checkIndex_8e157_16 : decode cJ3_checkIndex_8e157 16 = .ok (.iload_n 0, 1) := dk_ok (by decide +kernel)
theorem dJ3_checkIndex_8e157_17 : decode cJ3_checkIndex_8e157 17 = .ok (.ireturn, 1) := dk_ok (by decide +kernel)

def am_StA (adK adV : Nat → Nat) (b : Nat) (U : State) : Prop := vk_R "LadderStreet$Tokens" 27 am_sl0 (adK 0) U ∧ vk_R "LadderStreet$Tokens" 82 am_sl1 (adK 1) U ∧ vk_S 2 am_stl am_stb adK adV (fun q => b ≤ q) U U.heap ∧ va_Z "java/lang/String" "COMPACT_STRINGS" "Z" (.int 1) (fun q => b ≤ q) U U.heap ∧ va_Zq "jdk/internal/util/Preconditions" "SIOOBE_FORMATTER" "Ljava/util/function/BiFunction;" (fun q => b ≤ q) U U.heap
theorem am_StA.go {adK adV : Nat → Nat} {b : Nat} {s U : State} {locs : List Loc} (h : am_StA adK adV b s) (hS : va_S (fun q => b ≤ q) s.heap U.heap locs) (hW : s.WarmedH U.vm) : am_StA adK adV b U := by
  obtain ⟨h1, h2, h3, h4, h5⟩ := h
  exact ⟨h1.warm hW, h2.warm hW, (h3.kept hS.2.1).moved hW.alike, (h4.kept hS.2.1).moved hW.alike, (h5.kept hS.2.1).moved hW.alike⟩
theorem am_StA.blind {adK adV : Nat → Nat} {b : Nat} {u U : State} (hv : U.vm = u.vm) (hH : U.heap = u.heap) (h : am_StA adK adV b u) : am_StA adK adV b U := by
  obtain ⟨h1, h2, h3, h4, h5⟩ := h
  have ha : u.vm.Alike U.vm := by rw [hv]; exact Vm.Alike.refl u.vm
  refine ⟨h1.same hv, h2.same hv, ?_, ?_, ?_⟩
  · rw [hH]; exact h3.moved ha
  · rw [hH]; exact h4.moved ha
  · rw [hH]; exact h5.moved ha
theorem am_StA.at {adK adV : Nat → Nat} {b : Nat} {s U : State} {H : Heap} {locs : List Loc} (h : am_StA adK adV b s) (hU : U.heap = H) (hS : va_S (fun q => b ≤ q) s.heap H locs) (hW : s.WarmedH U.vm) : am_StA adK adV b U := h.go (by rw [hU]; exact hS) hW
theorem am_blS {as : List Value} {adK adV : Nat → Nat} {b : Nat} {H0 : Heap} : FrameBlind (va_Pc as (fun U => U.heap = H0 ∧ am_StA adK adV b U)) := fun a U g mk q => by
  obtain ⟨q0, q1, q2⟩ := q
  exact ⟨q0, q1, q2.blind (u := U) (U := U.calling g mk a) rfl rfl⟩
set_option maxRecDepth 100000 in
theorem jm_coder (l : Launch) (b : Nat) (adK adV : Nat → Nat) (H0 : Heap) {i : Nat} (hi : i < 2) : Met l yJ0_coder_7d493 (.code yJ0_coder_7d493 cJ0_coder_7d493 1 (some .byte) :: am_gb TB) (am_rm 1 0 0) (va_Pc [.ref (adK i)] (fun U => U.heap = H0 ∧ am_StA adK adV b U)) (va_Qi (fun (r : Int32) (_ : Unit) => r = 0) (fun _ t => t.heap = H0) (fun q => b ≤ q)) 0 0 (fun q => b ≤ q) := by
  refine Met.ofW (cc := cJ0_coder_7d493) (maxL := 1) (ret := (some .byte)) (by decide +kernel) rfl ?_
  intro p e s m args below meth c s₁ B hml hv
  obtain ⟨rfl, hH, hA⟩ := hv
  have hx := B.exec
  have hb := B.bytes
  have hr := B.returns
  have hts : ∀ w ∈ TB, w.before ([.ref (adK i)] : List Value).toArray s = true := fun w hw => atoms_spec (ws := .code yJ0_coder_7d493 cJ0_coder_7d493 1 (some .byte) :: am_gb TB) B.pre w (List.mem_cons_of_mem _ (List.mem_filter.mpr ⟨hw, TB_good w hw⟩))
  have hown : s.vm.findClass RJ0 = some m.cls := findClass_of_methodNamed B.named
  have hlocks := B.notSynchronized
  have hS : va_S (fun q => b ≤ q) s.heap s.heap [] := va_S.rf
  have hl := lv_entry ([.ref (adK i)]) (n := 1) (Nat.le_of_ble_eq_true rfl)
  rw [lg_entry_eq]
  generalize (lg_sl ([.ref (adK i)]) ++ List.replicate (1 - (lg_sl ([.ref (adK i)])).length) Slot.unset).toArray = ls at hl ⊢
  have hl : lv_has ls 1 [(0, .ref (adK i))] := hl
  obtain ⟨hk0, hk1, hs, hz, hq⟩ := id hA
  refine va_gets hx hb hz hS hown (hts (.fieldLink "java/lang/String" 38 "java/lang/String" "COMPACT_STRINGS" "Z") (tk_239)) (fun _ h => h) dJ0_coder_7d493_0 ?_
  refine lv_if_eq (tgt := 13) hx hb dJ0_coder_7d493_3 rfl (fun h => absurd h (by decide)) (fun _ => ?_)
  refine lv_aload_n hx hb dJ0_coder_7d493_6 rfl (lv_at hl 0 rfl) ?_
  refine vk_getf hx hb (hs.1 i hi).2.1 hS hown (hts (.fieldLink "java/lang/String" 15 "java/lang/String" "coder" "B") (tk_1953)) (fun _ h => h) dJ0_coder_7d493_7 ?_
  refine lv_goto (tgt := 14) hx hb dJ0_coder_7d493_10 rfl ?_
  exact W.zret hx hb hr (by decide) (fun t ht hW => ⟨⟨0, (), rfl, rfl, ht.trans hH⟩, hS.F ht⟩) hS.2.2 dJ0_coder_7d493_14
set_option maxRecDepth 100000 in
theorem jm_isLatin1 (l : Launch) (b : Nat) (adK adV : Nat → Nat) (H0 : Heap) {i : Nat} (hi : i < 2) : Met l yJ0_isLatin1_aae02 (.code yJ0_isLatin1_aae02 cJ0_isLatin1_aae02 1 (some .boolean) :: am_gb TB) (am_rm 1 0 0) (va_Pc [.ref (adK i)] (fun U => U.heap = H0 ∧ am_StA adK adV b U)) (va_Qi (fun (r : Int32) (_ : Unit) => r = 1) (fun _ t => t.heap = H0) (fun q => b ≤ q)) 0 0 (fun q => b ≤ q) := by
  refine Met.ofW (cc := cJ0_isLatin1_aae02) (maxL := 1) (ret := (some .boolean)) (by decide +kernel) rfl ?_
  intro p e s m args below meth c s₁ B hml hv
  obtain ⟨rfl, hH, hA⟩ := hv
  have hx := B.exec
  have hb := B.bytes
  have hr := B.returns
  have hts : ∀ w ∈ TB, w.before ([.ref (adK i)] : List Value).toArray s = true := fun w hw => atoms_spec (ws := .code yJ0_isLatin1_aae02 cJ0_isLatin1_aae02 1 (some .boolean) :: am_gb TB) B.pre w (List.mem_cons_of_mem _ (List.mem_filter.mpr ⟨hw, TB_good w hw⟩))
  have hown : s.vm.findClass RJ0 = some m.cls := findClass_of_methodNamed B.named
  have hlocks := B.notSynchronized
  have hS : va_S (fun q => b ≤ q) s.heap s.heap [] := va_S.rf
  have hl := lv_entry ([.ref (adK i)]) (n := 1) (Nat.le_of_ble_eq_true rfl)
  rw [lg_entry_eq]
  generalize (lg_sl ([.ref (adK i)]) ++ List.replicate (1 - (lg_sl ([.ref (adK i)])).length) Slot.unset).toArray = ls at hl ⊢
  have hl : lv_has ls 1 [(0, .ref (adK i))] := hl
  obtain ⟨hk0, hk1, hs, hz, hq⟩ := id hA
  refine va_gets hx hb hz hS hown (hts (.fieldLink "java/lang/String" 38 "java/lang/String" "COMPACT_STRINGS" "Z") (tk_239)) (fun _ h => h) dJ0_isLatin1_aae02_0 ?_
  refine lv_if_eq (tgt := 17) hx hb dJ0_isLatin1_aae02_3 rfl (fun h => absurd h (by decide)) (fun _ => ?_)
  refine lv_aload_n hx hb dJ0_isLatin1_aae02_6 rfl (lv_at hl 0 rfl) ?_
  refine vk_getf hx hb (hs.1 i hi).2.1 hS hown (hts (.fieldLink "java/lang/String" 15 "java/lang/String" "coder" "B") (tk_1953)) (fun _ h => h) dJ0_isLatin1_aae02_7 ?_
  refine lv_if_ne (tgt := 17) hx hb dJ0_isLatin1_aae02_10 rfl (fun h => absurd rfl h) (fun _ => ?_)
  refine lv_iconst hx hb dJ0_isLatin1_aae02_13 (v := 1) (by decide) ?_
  refine lv_goto (tgt := 18) hx hb dJ0_isLatin1_aae02_14 rfl ?_
  exact W.zret hx hb hr (by decide) (fun t ht hW => ⟨⟨1, (), rfl, rfl, ht.trans hH⟩, hS.F ht⟩) hS.2.2 dJ0_isLatin1_aae02_18
set_option maxRecDepth 100000 in
theorem jm_length (l : Launch) (b : Nat) (adK adV : Nat → Nat) (H0 : Heap) {i : Nat} (hi : i < 2) : Met l yJ0_length_8abf5 (.code yJ0_length_8abf5 cJ0_length_8abf5 1 (some .int) :: am_gb TB) (am_rm 2 0 0) (va_Pc [.ref (adK i)] (fun U => U.heap = H0 ∧ am_StA adK adV b U)) (va_Qi (fun (r : Int32) (_ : Unit) => r = Int32.ofNat (am_stl.getD i 0)) (fun _ t => t.heap = H0) (fun q => b ≤ q)) 0 0 (fun q => b ≤ q) := by
  refine Met.ofW (cc := cJ0_length_8abf5) (maxL := 1) (ret := (some .int)) (by decide +kernel) rfl ?_
  intro p e s m args below meth c s₁ B hml hv
  obtain ⟨rfl, hH, hA⟩ := hv
  have hx := B.exec
  have hb := B.bytes
  have hr := B.returns
  have hts : ∀ w ∈ TB, w.before ([.ref (adK i)] : List Value).toArray s = true := fun w hw => atoms_spec (ws := .code yJ0_length_8abf5 cJ0_length_8abf5 1 (some .int) :: am_gb TB) B.pre w (List.mem_cons_of_mem _ (List.mem_filter.mpr ⟨hw, TB_good w hw⟩))
  have hown : s.vm.findClass RJ0 = some m.cls := findClass_of_methodNamed B.named
  have hlocks := B.notSynchronized
  have hS : va_S (fun q => b ≤ q) s.heap s.heap [] := va_S.rf
  have hl := lv_entry ([.ref (adK i)]) (n := 1) (Nat.le_of_ble_eq_true rfl)
  rw [lg_entry_eq]
  generalize (lg_sl ([.ref (adK i)]) ++ List.replicate (1 - (lg_sl ([.ref (adK i)])).length) Slot.unset).toArray = ls at hl ⊢
  have hl : lv_has ls 1 [(0, .ref (adK i))] := hl
  obtain ⟨hk0, hk1, hs, hz, hq⟩ := id hA
  refine lv_aload_n hx hb dJ0_length_8abf5_0 rfl (lv_at hl 0 rfl) ?_
  refine vk_getf hx hb (hs.1 i hi).2.2.1 hS hown (hts (.fieldLink "java/lang/String" 9 "java/lang/String" "value" "[B") (tk_1952)) (fun _ h => h) dJ0_length_8abf5_1 ?_
  refine va_tlen hx hb (hs.1 i hi).2.2.2 hS rfl dJ0_length_8abf5_4 ?_
  refine lv_aload_n hx hb dJ0_length_8abf5_5 rfl (lv_at hl 0 rfl) ?_
  refine va_calli (va_runV (As := []) (rest := [.int (Int32.ofNat (am_stl.getD i 0))]) (C := "java/lang/String") (n := 0) ⟨hx, hb, hml, hown, hts⟩ (jm_coder l b adK adV s.heap hi) ⟨⟨rfl, rfl, by decide, by decide, am_words hts (tk_238), am_code_in, hts _ (tk_238), hts _ (tk_108), ⟨by decide +kernel, by decide +kernel⟩, am_sig (na := 0) (by decide +kernel), hts _ (tk_235)⟩, hts _ (tk_236), hts _ (tk_237)⟩ ⟨am_blS, vk_recv hs hi hS, (fun U hU hW => ⟨rfl, by rw [hU], hA.at hU hS hW⟩)⟩ rfl rfl hl.1 rfl (lv_room (Nat.le_of_ble_eq_true rfl)) dJ0_length_8abf5_6 ⟨Nat.le_refl _, Nat.le_refl _⟩) hS (fun q _ h => h) (fun q h => h) (fun r u t H1 locs1 ht hvm hr0 hB hz1 hk1 hS1 => ?_)
  subst hr0
  refine lv_ishr hx hb dJ0_length_8abf5_9 ?_
  have e : ∀ j : Nat, j < 2 → Int32.ofNat (am_stl.getD j 0) >>> ((0 : Int32) &&& 31) = Int32.ofNat (am_stl.getD j 0) := by decide +kernel
  rw [e i hi]
  have hH1 : H1 = s.heap := by rw [← ht]; exact hB
  exact W.iret hx hb hr (fun t ht hW => ⟨⟨Int32.ofNat (am_stl.getD i 0), (), rfl, rfl, ht.trans (hH1.trans hH)⟩, hS1.F ht⟩) hS1.2.2 dJ0_length_8abf5_10
set_option maxRecDepth 100000 in
theorem jm_check3n (l : Launch) (b : Nat) (adK adV : Nat → Nat) (H0 : Heap) {k n : Int32} (h1 : ¬ k < 0) (h2 : k < n) : Met l yJ3_checkIndex_8e157 (.code yJ3_checkIndex_8e157 cJ3_checkIndex_8e157 3 (some .int) :: am_gb TB) (am_rm 1 0 0) (va_Pc [.int k, .int n, .null] (fun U => U.heap = H0 ∧ am_StA adK adV b U)) (va_Qi (fun (r : Int32) (_ : Unit) => True) (fun _ t => t.heap = H0) (fun q => b ≤ q)) 0 0 (fun q => b ≤ q) := by
  refine Met.ofW (cc := cJ3_checkIndex_8e157) (maxL := 3) (ret := (some .int)) (by decide +kernel) rfl ?_
  intro p e s m args below meth c s₁ B hml hv
  obtain ⟨rfl, hH, hA⟩ := hv
  have hx := B.exec
  have hb := B.bytes
  have hr := B.returns
  have hts : ∀ w ∈ TB, w.before ([.int k, .int n, .null] : List Value).toArray s = true := fun w hw => atoms_spec (ws := .code yJ3_checkIndex_8e157 cJ3_checkIndex_8e157 3 (some .int) :: am_gb TB) B.pre w (List.mem_cons_of_mem _ (List.mem_filter.mpr ⟨hw, TB_good w hw⟩))
  have hown : s.vm.findClass RJ3 = some m.cls := findClass_of_methodNamed B.named
  have hlocks := B.notSynchronized
  have hS : va_S (fun q => b ≤ q) s.heap s.heap [] := va_S.rf
  have hl := lv_entry ([.int k, .int n, .null]) (n := 3) (Nat.le_of_ble_eq_true rfl)
  rw [lg_entry_eq]
  generalize (lg_sl ([.int k, .int n, .null]) ++ List.replicate (3 - (lg_sl ([.int k, .int n, .null])).length) Slot.unset).toArray = ls at hl ⊢
  have hl : lv_has ls 3 [(0, .int k), (1, .int n), (2, .null)] := hl
  obtain ⟨hk0, hk1, hs, hz, hq⟩ := id hA
  refine lv_iload_n hx hb dJ3_checkIndex_8e157_0 rfl (lv_at hl 0 rfl) ?_
  refine lv_if_lt (tgt := 9) hx hb dJ3_checkIndex_8e157_1 rfl (fun h => absurd h h1) (fun _ => ?_)
  refine lv_iload_n hx hb dJ3_checkIndex_8e157_4 rfl (lv_at hl 0 rfl) ?_
  refine lv_iload_n hx hb dJ3_checkIndex_8e157_5 rfl (lv_at hl 1 rfl) ?_
  refine lv_icmp_lt (tgt := 16) hx hb dJ3_checkIndex_8e157_6 rfl (fun _ => ?_) (fun h => absurd h2 h)
  refine lv_iload_n hx hb dJ3_checkIndex_8e157_16 rfl (lv_at hl 0 rfl) ?_
  exact W.iret hx hb hr (fun t ht hW => ⟨⟨k, (), rfl, trivial, ht.trans hH⟩, hS.F ht⟩) hS.2.2 dJ3_checkIndex_8e157_17
set_option maxRecDepth 100000 in
theorem jm_check3r (l : Launch) (b : Nat) (adK adV : Nat → Nat) (H0 : Heap) {t0 : Nat} {k n : Int32} (h1 : ¬ k < 0) (h2 : k < n) : Met l yJ3_checkIndex_8e157 (.code yJ3_checkIndex_8e157 cJ3_checkIndex_8e157 3 (some .int) :: am_gb TB) (am_rm 1 0 0) (va_Pc [.int k, .int n, .ref t0] (fun U => U.heap = H0 ∧ am_StA adK adV b U)) (va_Qi (fun (r : Int32) (_ : Unit) => True) (fun _ t => t.heap = H0) (fun q => b ≤ q)) 0 0 (fun q => b ≤ q) := by
  refine Met.ofW (cc := cJ3_checkIndex_8e157) (maxL := 3) (ret := (some .int)) (by decide +kernel) rfl ?_
  intro p e s m args below meth c s₁ B hml hv
  obtain ⟨rfl, hH, hA⟩ := hv
  have hx := B.exec
  have hb := B.bytes
  have hr := B.returns
  have hts : ∀ w ∈ TB, w.before ([.int k, .int n, .ref t0] : List Value).toArray s = true := fun w hw => atoms_spec (ws := .code yJ3_checkIndex_8e157 cJ3_checkIndex_8e157 3 (some .int) :: am_gb TB) B.pre w (List.mem_cons_of_mem _ (List.mem_filter.mpr ⟨hw, TB_good w hw⟩))
  have hown : s.vm.findClass RJ3 = some m.cls := findClass_of_methodNamed B.named
  have hlocks := B.notSynchronized
  have hS : va_S (fun q => b ≤ q) s.heap s.heap [] := va_S.rf
  have hl := lv_entry ([.int k, .int n, .ref t0]) (n := 3) (Nat.le_of_ble_eq_true rfl)
  rw [lg_entry_eq]
  generalize (lg_sl ([.int k, .int n, .ref t0]) ++ List.replicate (3 - (lg_sl ([.int k, .int n, .ref t0])).length) Slot.unset).toArray = ls at hl ⊢
  have hl : lv_has ls 3 [(0, .int k), (1, .int n), (2, .ref t0)] := hl
  obtain ⟨hk0, hk1, hs, hz, hq⟩ := id hA
  refine lv_iload_n hx hb dJ3_checkIndex_8e157_0 rfl (lv_at hl 0 rfl) ?_
  refine lv_if_lt (tgt := 9) hx hb dJ3_checkIndex_8e157_1 rfl (fun h => absurd h h1) (fun _ => ?_)
  refine lv_iload_n hx hb dJ3_checkIndex_8e157_4 rfl (lv_at hl 0 rfl) ?_
  refine lv_iload_n hx hb dJ3_checkIndex_8e157_5 rfl (lv_at hl 1 rfl) ?_
  refine lv_icmp_lt (tgt := 16) hx hb dJ3_checkIndex_8e157_6 rfl (fun _ => ?_) (fun h => absurd h2 h)
  refine lv_iload_n hx hb dJ3_checkIndex_8e157_16 rfl (lv_at hl 0 rfl) ?_
  exact W.iret hx hb hr (fun t ht hW => ⟨⟨k, (), rfl, trivial, ht.trans hH⟩, hS.F ht⟩) hS.2.2 dJ3_checkIndex_8e157_17
set_option maxRecDepth 100000 in
theorem jm_check0 (l : Launch) (b : Nat) (adK adV : Nat → Nat) (H0 : Heap) {k n : Int32} (h1 : ¬ k < 0) (h2 : k < n) : Met l yJ0_checkIndex_df160 (.code yJ0_checkIndex_df160 cJ0_checkIndex_df160 2 none :: am_gb TB) (am_rm 2 0 0) (va_Pc [.int k, .int n] (fun U => U.heap = H0 ∧ am_StA adK adV b U)) (va_Qv (fun (_ : Unit) => True) (fun _ t => t.heap = H0) (fun q => b ≤ q)) 0 0 (fun q => b ≤ q) := by
  refine Met.ofW (cc := cJ0_checkIndex_df160) (maxL := 2) (ret := none) (by decide +kernel) rfl ?_
  intro p e s m args below meth c s₁ B hml hv
  obtain ⟨rfl, hH, hA⟩ := hv
  have hx := B.exec
  have hb := B.bytes
  have hr := B.returns
  have hts : ∀ w ∈ TB, w.before ([.int k, .int n] : List Value).toArray s = true := fun w hw => atoms_spec (ws := .code yJ0_checkIndex_df160 cJ0_checkIndex_df160 2 none :: am_gb TB) B.pre w (List.mem_cons_of_mem _ (List.mem_filter.mpr ⟨hw, TB_good w hw⟩))
  have hown : s.vm.findClass RJ0 = some m.cls := findClass_of_methodNamed B.named
  have hlocks := B.notSynchronized
  have hS : va_S (fun q => b ≤ q) s.heap s.heap [] := va_S.rf
  have hl := lv_entry ([.int k, .int n]) (n := 2) (Nat.le_of_ble_eq_true rfl)
  rw [lg_entry_eq]
  generalize (lg_sl ([.int k, .int n]) ++ List.replicate (2 - (lg_sl ([.int k, .int n])).length) Slot.unset).toArray = ls at hl ⊢
  have hl : lv_has ls 2 [(0, .int k), (1, .int n)] := hl
  obtain ⟨hk0, hk1, hs, hz, hq⟩ := id hA
  refine lv_iload_n hx hb dJ0_checkIndex_df160_0 rfl (lv_at hl 0 rfl) ?_
  refine lv_iload_n hx hb dJ0_checkIndex_df160_1 rfl (lv_at hl 1 rfl) ?_
  rcases hq with hq | ⟨t0, hq⟩
  · refine va_gets hx hb hq hS hown (hts (.fieldLink "java/lang/String" 1053 "jdk/internal/util/Preconditions" "SIOOBE_FORMATTER" "Ljava/util/function/BiFunction;") (tk_255)) (fun _ h => h) dJ0_checkIndex_df160_2 ?_
    refine va_calli (va_runS (As := [.int k, .int n, .null]) (rest := []) (n := 3) ⟨hx, hb, hml, hown, hts⟩ (jm_check3n l b adK adV s.heap h1 h2) ⟨⟨rfl, rfl, by decide, by decide, am_words hts (tk_259), am_code_in, hts _ (tk_259), hts _ (tk_110), ⟨by decide +kernel, by decide +kernel⟩, am_sig (na := 3) (by decide +kernel), hts _ (tk_257)⟩, hts _ (tk_258)⟩ ⟨am_blS, (fun U hU hW => ⟨rfl, by rw [hU], hA.at hU hS hW⟩)⟩ rfl rfl hl.1 rfl (lv_room (Nat.le_of_ble_eq_true rfl)) dJ0_checkIndex_df160_5 ⟨Nat.le_refl _, Nat.le_refl _⟩) hS (fun q _ h => h) (fun q h => h) (fun r u t H1 locs1 ht hvm hr0 hB hz1 hk1 hS1 => ?_)
    refine lv_pop hx hb dJ0_checkIndex_df160_8 rfl ?_
    have hH1 : H1 = s.heap := by rw [← ht]; exact hB
    exact W.vret hx hb hr (fun t ht hW => ⟨⟨(), rfl, trivial, ht.trans (hH1.trans hH)⟩, hS1.F ht⟩) hS1.2.2 dJ0_checkIndex_df160_9
  · refine va_gets hx hb hq hS hown (hts (.fieldLink "java/lang/String" 1053 "jdk/internal/util/Preconditions" "SIOOBE_FORMATTER" "Ljava/util/function/BiFunction;") (tk_255)) (fun _ h => h) dJ0_checkIndex_df160_2 ?_
    refine va_calli (va_runS (As := [.int k, .int n, .ref t0]) (rest := []) (n := 3) ⟨hx, hb, hml, hown, hts⟩ (jm_check3r l b adK adV s.heap h1 h2) ⟨⟨rfl, rfl, by decide, by decide, am_words hts (tk_259), am_code_in, hts _ (tk_259), hts _ (tk_110), ⟨by decide +kernel, by decide +kernel⟩, am_sig (na := 3) (by decide +kernel), hts _ (tk_257)⟩, hts _ (tk_258)⟩ ⟨am_blS, (fun U hU hW => ⟨rfl, by rw [hU], hA.at hU hS hW⟩)⟩ rfl rfl hl.1 rfl (lv_room (Nat.le_of_ble_eq_true rfl)) dJ0_checkIndex_df160_5 ⟨Nat.le_refl _, Nat.le_refl _⟩) hS (fun q _ h => h) (fun q h => h) (fun r u t H1 locs1 ht hvm hr0 hB hz1 hk1 hS1 => ?_)
    refine lv_pop hx hb dJ0_checkIndex_df160_8 rfl ?_
    have hH1 : H1 = s.heap := by rw [← ht]; exact hB
    exact W.vret hx hb hr (fun t ht hW => ⟨⟨(), rfl, trivial, ht.trans (hH1.trans hH)⟩, hS1.F ht⟩) hS1.2.2 dJ0_checkIndex_df160_9
/-- a char of one of the two texts -/
def chx (i : Nat) (k : Int32) : Int32 := (((am_stb.getD i []).getD k.toNatClampNeg 0 &&& 255).toUInt32 % 65536).toInt32
set_option maxRecDepth 100000 in
theorem jm_charAt1E (l : Launch) (b : Nat) (adK adV : Nat → Nat) (H0 : Heap) {i : Nat} (hi : i < 2) {k : Int32} (h1 : ¬ k < 0) (h2 : k < Int32.ofNat (am_stl.getD i 0)) (h3 : vp_in k (am_stl.getD i 0)) : Met l yJ1_charAt_3b067 (.code yJ1_charAt_3b067 cJ1_charAt_3b067 2 (some .char) :: am_gb TB) (am_rm 3 0 0) (va_Pc [.ref (adV i), .int k] (fun U => U.heap = H0 ∧ am_StA adK adV b U)) (va_Qi (fun (r : Int32) (_ : Unit) => narrow .char (.int r) = .int r ∧ r = chx i k) (fun _ t => t.heap = H0) (fun q => b ≤ q)) 0 0 (fun q => b ≤ q) := by
  refine Met.ofW (cc := cJ1_charAt_3b067) (maxL := 2) (ret := (some .char)) (by decide +kernel) rfl ?_
  intro p e s m args below meth c s₁ B hml hv
  obtain ⟨rfl, hH, hA⟩ := hv
  have hx := B.exec
  have hb := B.bytes
  have hr := B.returns
  have hts : ∀ w ∈ TB, w.before ([.ref (adV i), .int k] : List Value).toArray s = true := fun w hw => atoms_spec (ws := .code yJ1_charAt_3b067 cJ1_charAt_3b067 2 (some .char) :: am_gb TB) B.pre w (List.mem_cons_of_mem _ (List.mem_filter.mpr ⟨hw, TB_good w hw⟩))
  have hown : s.vm.findClass RJ1 = some m.cls := findClass_of_methodNamed B.named
  have hlocks := B.notSynchronized
  have hS : va_S (fun q => b ≤ q) s.heap s.heap [] := va_S.rf
  have hl := lv_entry ([.ref (adV i), .int k]) (n := 2) (Nat.le_of_ble_eq_true rfl)
  rw [lg_entry_eq]
  generalize (lg_sl ([.ref (adV i), .int k]) ++ List.replicate (2 - (lg_sl ([.ref (adV i), .int k])).length) Slot.unset).toArray = ls at hl ⊢
  have hl : lv_has ls 2 [(0, .ref (adV i)), (1, .int k)] := hl
  obtain ⟨hk0, hk1, hs, hz, hq⟩ := id hA
  refine lv_iload_n hx hb dJ1_charAt_3b067_0 rfl (lv_at hl 1 rfl) ?_
  refine lv_aload_n hx hb dJ1_charAt_3b067_1 rfl (lv_at hl 0 rfl) ?_
  refine va_tlen hx hb (hs.1 i hi).2.2.2 hS rfl dJ1_charAt_3b067_2 ?_
  refine va_callv (va_runS (As := [.int k, .int (Int32.ofNat (am_stl.getD i 0))]) (rest := []) (n := 2) ⟨hx, hb, hml, hown, hts⟩ (jm_check0 l b adK adV s.heap h1 h2) ⟨⟨rfl, rfl, by decide, by decide, am_words hts (tk_254), am_code_in, hts _ (tk_254), hts _ (tk_108), ⟨by decide +kernel, by decide +kernel⟩, am_sig (na := 2) (by decide +kernel), hts _ (tk_252)⟩, hts _ (tk_253)⟩ ⟨am_blS, (fun U hU hW => ⟨rfl, by rw [hU], hA.at hU hS hW⟩)⟩ rfl rfl hl.1 rfl (lv_room (Nat.le_of_ble_eq_true rfl)) dJ1_charAt_3b067_3 ⟨Nat.le_refl _, Nat.le_refl _⟩) hS (fun q _ h => h) (fun q h => h) (fun u t H1 locs1 ht hvm hw hB hz1 hk1 hS1 => ?_)
  have hH1 : H1 = s.heap := by rw [← ht]; exact hB
  refine lv_aload_n hx hb dJ1_charAt_3b067_6 rfl (lv_at hl 0 rfl) ?_
  refine lv_iload_n hx hb dJ1_charAt_3b067_7 rfl (lv_at hl 1 rfl) ?_
  refine va_tb hx hb (hs.1 i hi).2.2.2 hS1 h3 rfl dJ1_charAt_3b067_8 ?_
  refine lv_sipush hx hb dJ1_charAt_3b067_9 (v := 255) (by decide) ?_
  refine lv_iand hx hb dJ1_charAt_3b067_12 ?_
  refine lv_i2c hx hb dJ1_charAt_3b067_13 rfl ?_
  have e : ∀ x : Int32, narrow .char (.int (((x &&& 255).toUInt32 % 65536).toInt32)) = .int (((x &&& 255).toUInt32 % 65536).toInt32) := by
    intro x
    exact pk_nc _
  exact W.zret hx hb hr (e _) (fun t ht hW => ⟨⟨_, (), rfl, ⟨e _, rfl⟩, ht.trans (hH1.trans hH)⟩, hS1.F ht⟩) hS1.2.2 dJ1_charAt_3b067_14
set_option maxRecDepth 100000 in
theorem jm_charAtE (l : Launch) (b : Nat) (adK adV : Nat → Nat) (H0 : Heap) {i : Nat} (hi : i < 2) {k : Int32} (h1 : ¬ k < 0) (h2 : k < Int32.ofNat (am_stl.getD i 0)) (h3 : vp_in k (am_stl.getD i 0)) : Met l yJ0_charAt_5068e (.code yJ0_charAt_5068e cJ0_charAt_5068e 2 (some .char) :: am_gb TB) (am_rm 4 0 0) (va_Pc [.ref (adK i), .int k] (fun U => U.heap = H0 ∧ am_StA adK adV b U)) (va_Qi (fun (r : Int32) (_ : Unit) => narrow .char (.int r) = .int r ∧ r = chx i k) (fun _ t => t.heap = H0) (fun q => b ≤ q)) 0 0 (fun q => b ≤ q) := by
  refine Met.ofW (cc := cJ0_charAt_5068e) (maxL := 2) (ret := (some .char)) (by decide +kernel) rfl ?_
  intro p e s m args below meth c s₁ B hml hv
  obtain ⟨rfl, hH, hA⟩ := hv
  have hx := B.exec
  have hb := B.bytes
  have hr := B.returns
  have hts : ∀ w ∈ TB, w.before ([.ref (adK i), .int k] : List Value).toArray s = true := fun w hw => atoms_spec (ws := .code yJ0_charAt_5068e cJ0_charAt_5068e 2 (some .char) :: am_gb TB) B.pre w (List.mem_cons_of_mem _ (List.mem_filter.mpr ⟨hw, TB_good w hw⟩))
  have hown : s.vm.findClass RJ0 = some m.cls := findClass_of_methodNamed B.named
  have hlocks := B.notSynchronized
  have hS : va_S (fun q => b ≤ q) s.heap s.heap [] := va_S.rf
  have hl := lv_entry ([.ref (adK i), .int k]) (n := 2) (Nat.le_of_ble_eq_true rfl)
  rw [lg_entry_eq]
  generalize (lg_sl ([.ref (adK i), .int k]) ++ List.replicate (2 - (lg_sl ([.ref (adK i), .int k])).length) Slot.unset).toArray = ls at hl ⊢
  have hl : lv_has ls 2 [(0, .ref (adK i)), (1, .int k)] := hl
  obtain ⟨hk0, hk1, hs, hz, hq⟩ := id hA
  refine lv_aload_n hx hb dJ0_charAt_5068e_0 rfl (lv_at hl 0 rfl) ?_
  refine va_calli (va_runV (As := []) (rest := []) (C := "java/lang/String") (n := 0) ⟨hx, hb, hml, hown, hts⟩ (jm_isLatin1 l b adK adV s.heap hi) ⟨⟨rfl, rfl, by decide, by decide, am_words hts (tk_248), am_code_in, hts _ (tk_248), hts _ (tk_108), ⟨by decide +kernel, by decide +kernel⟩, am_sig (na := 0) (by decide +kernel), hts _ (tk_245)⟩, hts _ (tk_246), hts _ (tk_247)⟩ ⟨am_blS, vk_recv hs hi hS, (fun U hU hW => ⟨rfl, by rw [hU], hA.at hU hS hW⟩)⟩ rfl rfl hl.1 rfl (lv_room (Nat.le_of_ble_eq_true rfl)) dJ0_charAt_5068e_1 ⟨Nat.le_refl _, Nat.le_refl _⟩) hS (fun q _ h => h) (fun q h => h) (fun r u t H1 locs1 ht hvm hr0 hB hz1 hk1 hS1 => ?_)
  subst hr0
  have hH1 : H1 = s.heap := by rw [← ht]; exact hB
  subst hH1
  refine lv_if_eq (tgt := 16) hx hb dJ0_charAt_5068e_4 rfl (fun h => absurd h (by decide)) (fun _ => ?_)
  refine lv_aload_n hx hb dJ0_charAt_5068e_7 rfl (lv_at hl 0 rfl) ?_
  refine vk_getf hx hb (hs.1 i hi).2.2.1 hS1 hown (hts (.fieldLink "java/lang/String" 9 "java/lang/String" "value" "[B") (tk_1952)) (fun _ h => h) dJ0_charAt_5068e_8 ?_
  refine lv_iload_n hx hb dJ0_charAt_5068e_11 rfl (lv_at hl 1 rfl) ?_
  refine va_calli (va_runS (As := [.ref (adV i), .int k]) (rest := []) (n := 2) ⟨hx, hb, hml, hown, hts⟩ (jm_charAt1E l b adK adV s.heap hi h1 h2 h3) ⟨⟨rfl, rfl, by decide, by decide, am_words hts (tk_251), am_code_in, hts _ (tk_251), hts _ (tk_109), ⟨by decide +kernel, by decide +kernel⟩, am_sig (na := 2) (by decide +kernel), hts _ (tk_249)⟩, hts _ (tk_250)⟩ ⟨am_blS, (fun U hU hW => ⟨rfl, by rw [hU], hA.at hU hS1 hW⟩)⟩ rfl rfl hl.1 rfl (lv_room (Nat.le_of_ble_eq_true rfl)) dJ0_charAt_5068e_12 ⟨Nat.le_refl _, Nat.le_refl _⟩) hS1 (fun q _ h => h) (fun q h => h) (fun r u t H2 locs2 ht2 hvm2 hr0 hB2 hz2 hk2 hS2 => ?_)
  have hH2 : H2 = s.heap := by rw [← ht2]; exact hB2
  exact W.zret hx hb hr hr0.1 (fun t ht hW => ⟨⟨r, (), rfl, hr0, ht.trans (hH2.trans hH)⟩, hS2.F ht⟩) hS2.2.2 dJ0_charAt_5068e_15
theorem am_M.ofTE {l : Launch} {cl : List vw_C} {SH : am_Sh} {KF : am_Kf} {y : MethodName} {cc : ByteArray} {maxL : Nat} {ret : Option FieldType} {d mc ms : Nat} {sp : am_Sp} (X : am_X) (hy : plainName y.cls = true) (hyc : y.cls = "LadderStreet$Tokens") (hG : ∃ tyc, am_G TB cl SH KF tyc) (hSH : am_SH X = SH) (hKF : am_KF X = KF) (hrt : am_rt X = ret) (hd : 6 ≤ d) (hO : am_O l TB NB cl y.cls y.name d X)
    (body : ∀ (n0 : Nat) (as : List Value) (σ : am_S) (post : Option Value → am_S → Prop) (AA : Nat → List (Option Value) → List Value → Nat → am_S → Prop), (∀ cuts f pc ls stk n τ, am_vc cc X (n0 + mc) post AA cuts f pc ls stk n τ → AA pc ls stk n τ) →
      (∀ pc ls stk n τ, decode cc pc = .ok (.ldc 27, 2) → decode cc (pc + 2) = .ok (.invokevirtual 29, 3) → (stk.map fun v => v.category).sum ≤ 8 → AA (pc + 5) ls (.int (Int32.ofInt 110) :: stk) n τ → AA pc ls stk n τ) →
      (∀ pc (k : Fin 4) (j : Nat) ls stk n τ, decode cc pc = .ok (.ldc 27, 2) → decode cc (pc + 2) = .ok (.iload_n k, 1) → decode cc (pc + 3) = .ok (.invokevirtual 35, 3) → (stk.map fun v => v.category).sum ≤ 8 → j < 110 → ls[(k : Nat)]? = some (some (.int (Int32.ofInt (j : Int)))) → AA (pc + 6) ls (.int (chx 0 (Int32.ofInt (j : Int))) :: stk) n τ → AA pc ls stk n τ) →
      sp as n0 σ post → (am_sl as).length ≤ maxL ∧ AA 0 (am_entry maxL as) [] n0 σ) : am_M l TB NB cl SH KF y cc maxL ret d mc ms sp := by
  subst hSH; subst hKF; subst hrt
  intro D aC b n0 as σ post hsp hszm
  refine Met.ofW (cc := cc) (maxL := maxL) (ret := am_rt X) hy rfl ?_
  intro p e s m args below meth c s₁ B hml hv
  obtain ⟨rfl, hsz, hP, hK, hN⟩ := hv
  have hts : ∀ w ∈ TB, w.before (as.map (am_c b)).toArray s = true := fun w hw => atoms_spec (ws := .code y cc maxL (am_rt X) :: am_gb TB) B.pre w (List.mem_cons_of_mem _ (List.mem_filter.mpr ⟨hw, TB_good w hw⟩))
  have hown : s.vm.findClass y.cls = some m.cls := findClass_of_methodNamed B.named
  have hownT : s.vm.findClass "LadderStreet$Tokens" = some m.cls := by rw [← hyc]; exact hown
  have hnm : meth.name = y.name := (name_of_methodNamed B.named B.method).1
  have C : am_C p l (am_rm d mc ms) s m (as.map (am_c b)).toArray meth c cl TB NB D aC b n0 (n0 + mc) maxL cc y.cls X (am_KF X) := ⟨B.exec, B.bytes, hml, hown, hts, hN, hK, B.notSynchronized, hsz, Or.inl ⟨B.returns, rfl⟩, ⟨d, by omega, by rw [Nat.add_sub_cancel_left, hszm, Nat.add_sub_cancel_left], by rw [hnm]; exact hO⟩, hG⟩
  have fx : CallFix p m c cc maxL s (as.map (am_c b)).toArray TB "LadderStreet$Tokens" := ⟨B.exec, B.bytes, hml, hownT, hts⟩
  obtain ⟨adK, adV, hA⟩ := hN.2
  have hA : am_StA adK adV b s := hA
  obtain ⟨h1, h2⟩ := body n0 as σ post _ (fun cuts f pc ls stk n τ h => am_vc_ok (e := e) (below := below) (cuts := cuts) C f pc ls stk n τ h)
    (fun pc ls stk n τ g1 g2 g3 g4 q1 q2 q3 H locs lc hP hS hl => by
      have hsn : am_sz (am_SH X) (am_KF X) n - am_sz (am_SH X) (am_KF X) n0 ≤ ms := by have := am_sz_le (SH := am_SH X) (KF := am_KF X) q2; omega
      refine va_ldcS B.exec B.bytes hownT hA.1 g1 ?_
      refine va_calli (va_runV (As := []) (rest := stk.map (am_c b)) (C := "java/lang/String") (n := 0) fx (jm_length l b adK adV H (i := 0) (by decide)) ⟨⟨rfl, rfl, by show 2 + 1 ≤ d; omega, by show 8 + (1 + 11) + 64 * 2 ≤ 64 * d; omega, am_words hts (tk_234), am_code_in, hts _ (tk_234), hts _ (tk_108), ⟨by decide +kernel, by decide +kernel⟩, am_sig (na := 0) (by decide +kernel), hts _ (tk_231)⟩, hts _ (tk_232), hts _ (tk_233)⟩ ⟨am_blS, vk_recv hA.2.2.1 (by decide) hS, fun U hU hW => ⟨rfl, hU, hA.at hU hS hW⟩⟩ rfl rfl hl.1 rfl (lv_room (by rw [am_cats]; exact g3)) g2 ⟨by show n - n0 + 0 ≤ mc; omega, by show _ + 0 ≤ ms; omega⟩) hS (fun q _ h => h) (fun q h => h) (fun r u t H1 locs1 ht hvm hr0 hB hz1 hk1 hS1 => ?_)
      have hH1 : H1 = H := by rw [← ht]; exact hB
      subst hH1
      have e0 : r = Int32.ofInt 110 := hr0.trans (by decide +kernel)
      subst e0
      exact g4 q1 q2 q3 H1 locs1 lc hP hS1 hl)
    (fun pc k j ls stk n τ g1 g2 g2b g3 gj gl g4 q1 q2 q3 H locs lc hP hS hl => by
      have hsn : am_sz (am_SH X) (am_KF X) n - am_sz (am_SH X) (am_KF X) n0 ≤ ms := by have := am_sz_le (SH := am_SH X) (KF := am_KF X) q2; omega
      have jb : ∀ j : Nat, j < 110 → ¬ Int32.ofInt (j : Int) < 0 ∧ Int32.ofInt (j : Int) < Int32.ofNat (am_stl.getD 0 0) ∧ ¬ (am_stl.getD 0 0 ≤ (Int32.ofInt (j : Int)).toNatClampNeg) := by decide +kernel
      obtain ⟨j1, j2, j3⟩ := jb j gj
      refine va_ldcS B.exec B.bytes hownT hA.1 g1 ?_
      refine lv_iload_n B.exec B.bytes g2 rfl (am_lv_at hl gl) ?_
      refine va_calli (va_runV (As := [.int (Int32.ofInt (j : Int))]) (rest := stk.map (am_c b)) (C := "java/lang/String") (n := 1) fx (jm_charAtE l b adK adV H (i := 0) (by decide) (k := Int32.ofInt (j : Int)) j1 j2 (fun z => z.elim j1 j3)) ⟨⟨rfl, rfl, by show 4 + 1 ≤ d; omega, by show 8 + (2 + 11) + 64 * 4 ≤ 64 * d; omega, am_words hts (tk_244), am_code_in, hts _ (tk_244), hts _ (tk_108), ⟨by decide +kernel, by decide +kernel⟩, am_sig (na := 1) (by decide +kernel), hts _ (tk_241)⟩, hts _ (tk_242), hts _ (tk_243)⟩ ⟨am_blS, vk_recv hA.2.2.1 (by decide) hS, fun U hU hW => ⟨rfl, hU, hA.at hU hS hW⟩⟩ rfl rfl hl.1 rfl (lv_room (by rw [am_cats]; exact g3)) g2b ⟨by show n - n0 + 0 ≤ mc; omega, by show _ + 0 ≤ ms; omega⟩) hS (fun q _ h => h) (fun q h => h) (fun r u t H1 locs1 ht hvm hr0 hB hz1 hk1 hS1 => ?_)
      have hH1 : H1 = H := by rw [← ht]; exact hB
      subst hH1
      have e9 := hr0.2
      subst e9
      exact g4 q1 q2 q3 H1 locs1 lc hP hS1 hl) hsp
  have hl := lv_entry (as.map (am_c b)) (n := maxL) (by rw [am_sl_len]; exact h1)
  have h3 := h2 (Nat.le_refl _) (Nat.le_add_right _ _) (by simp [am_entry]; omega) s.heap [] _ hP va_S.rf (am_entry_lv hl)
  rw [Nat.sub_self, Nat.sub_self, Nat.add_sub_cancel_left, hszm, Nat.add_sub_cancel_left] at h3
  rw [lg_entry_eq]
  exact h3
-- Tokens()
def VK (L : List (Nat × Nat × Int32)) : List (Nat × Nat × Int32) := (14, 4, Int32.ofInt 0) :: (14, 3, Int32.ofNat (18 + 1)) :: (14, 2, Int32.ofNat (17 + 1)) :: (14, 1, Int32.ofNat (16 + 1)) :: (14, 0, Int32.ofNat (15 + 1)) :: L
theorem dX8_withLetter_0 : decode cX8_withLetter 0 = .ok (.lload_n 0, 1) := dk_ok (by decide +kernel)
theorem dX8_withLetter_1 : decode cX8_withLetter 1 = .ok (.ldc2_w 43, 3) := dk_ok (by decide +kernel)
theorem dX8_withLetter_4 : decode cX8_withLetter 4 = .ok (.lmul, 1) := dk_ok (by decide +kernel)
theorem dX8_withLetter_5 : decode cX8_withLetter 5 = .ok (.iload_n 2, 1) := dk_ok (by decide +kernel)
theorem dX8_withLetter_6 : decode cX8_withLetter 6 = .ok (.bipush 97, 2) := dk_ok (by decide +kernel)
theorem dX8_withLetter_8 : decode cX8_withLetter 8 = .ok (.isub, 1) := dk_ok (by decide +kernel)
theorem dX8_withLetter_9 : decode cX8_withLetter 9 = .ok (.iconst 1, 1) := dk_ok (by decide +kernel)
theorem dX8_withLetter_10 : decode cX8_withLetter 10 = .ok (.iadd, 1) := dk_ok (by decide +kernel)
theorem dX8_withLetter_11 : decode cX8_withLetter 11 = .ok (.i2l, 1) := dk_ok (by decide +kernel)
theorem dX8_withLetter_12 : decode cX8_withLetter 12 = .ok (.ladd, 1) := dk_ok (by decide +kernel)
theorem dX8_withLetter_13 : decode cX8_withLetter 13 = .ok (.lreturn, 1) := dk_ok (by decide +kernel)

def sX8_withLetterq : am_Sp := fun as n σ post => ∃ (x : Int64) (c : Int32), as = [.long x, .int c] ∧ post (some (.long (x * 27 + (c - Int32.ofInt 97 + Int32.ofInt 1).toInt64))) σ
def xX8_withLetterq : am_X := (SH, K1, (some .long), FT_X8, PT_X8, CT_X8, KT_X8, LT_X8, NT_X8, [])
theorem xX8_withLetterq_SH : am_SH xX8_withLetterq = SH := rfl
theorem xX8_withLetterq_KF : am_KF xX8_withLetterq = K1 := rfl
theorem xX8_withLetterq_rt : am_rt xX8_withLetterq = (some .long) := rfl
theorem xX8_withLetterq_FT : am_FT xX8_withLetterq = FT_X8 := rfl
theorem xX8_withLetterq_PT : am_PT xX8_withLetterq = PT_X8 := rfl
theorem xX8_withLetterq_CT : am_CT xX8_withLetterq = CT_X8 := rfl
theorem xX8_withLetterq_KT : am_KT xX8_withLetterq = KT_X8 := rfl
theorem xX8_withLetterq_LT : am_LT xX8_withLetterq = LT_X8 := rfl
theorem xX8_withLetterq_NT : am_NT xX8_withLetterq = NT_X8 := rfl

set_option maxRecDepth 100000 in
theorem pX8_withLetterq : am_B cX8_withLetter xX8_withLetterq 3 0 sX8_withLetterq := by
  intro n0 as σ post AA hA h
  obtain ⟨x, c, rfl, h⟩ := h
  refine ⟨by simp [am_sl, Value.category], ?_⟩
  show AA 0 [some (.long x), none, some (.int c)] [] n0 σ
  refine hA [] 40 _ _ _ _ _ ?_
  try simp only [dX8_withLetter_0, dX8_withLetter_1, LT_X8, dX8_withLetter_4, dX8_withLetter_5, dX8_withLetter_6, dX8_withLetter_8, dX8_withLetter_9, dX8_withLetter_10, dX8_withLetter_11, dX8_withLetter_12, dX8_withLetter_13, xX8_withLetterq_SH, xX8_withLetterq_KF, xX8_withLetterq_rt, xX8_withLetterq_FT, xX8_withLetterq_PT, xX8_withLetterq_CT, xX8_withLetterq_KT, xX8_withLetterq_LT, xX8_withLetterq_NT, o_bipush, o_i2l, o_iadd, o_iconst, o_iload_n, o_isub, o_ladd, o_ldc2_w, o_lload_n, o_lmul, o_lreturn, am_ty, am_vc, am_opt, am_cl, am_find, am_ldi, am_ldl, am_lda, am_v, am_1, am_1l, am_1a, am_2, am_2l, am_ix, am_ri, am_arr, am_pf, am_rc, am_mask, am_lg, am_av, am_nat, fv_0, fv_1, fv_2, fv_3, fw_0, fw_1, List.getElem?_cons_zero, List.getElem?_cons_succ, List.set_cons_zero, List.set_cons_succ, List.length_cons, List.length_nil, List.take_succ_cons, List.take_zero, List.drop_succ_cons, List.drop_zero, List.reverse_cons, List.reverse_nil, List.nil_append, List.cons_append, List.append_nil, List.map_cons, List.map_nil, List.sum_cons, List.sum_nil, Value.category, Option.toList_some, Option.toList_none, Nat.reduceAdd, Nat.reduceLT, Nat.reduceLeDiff, Nat.reduceEqDiff, Nat.reduceSub, Nat.add_zero, Nat.le_refl, Nat.zero_le, Int.reduceNeg, Int.reduceLE, Int.reduceLT, true_and, and_true, and_self, if_true, if_false, ite_true, ite_false, eq_self_iff_true, reduceIte, reduceCtorEq, not_false_eq_true, not_true_eq_false, or_true, true_or, or_false, false_or, Nat.lt_irrefl, Nat.zero_lt_succ]
  exact h
theorem mX8_withLetterq (l : Launch) : am_M l TB NB vwCl SH K1 yX8_withLetter cX8_withLetter 3 (some .long) 2 0 0 sX8_withLetterq := by
  refine am_M.of xX8_withLetterq (by decide +kernel) TB_good G1 rfl rfl rfl (by decide) ⟨FT_X8_ok, PT_X8_ok _, CT_X8_ok, KT_X8_ok, LT_X8_ok, NT_X8_ok, ?_⟩ pX8_withLetterq
  exact fun _ h => absurd h List.not_mem_nil

def sX8_initq : am_Sp := fun as n σ post => ∃ (L : List (Nat × Nat × Int32)), n = 14 + 1 ∧ as = [.ref 14] ∧ St L n σ ∧ kb L 14 ∧ ∀ τ, St (VK L) (14 + 5) τ → KC τ → post none τ
def xX8_initq : am_X := (SH, K1, none, FT_X8, PI_X8, CT_X8, KT_X8, LT_X8, NT_X8, [(39, 1, 2, 8, 0, 0, sX8_withLetterq)])
theorem xX8_initq_SH : am_SH xX8_initq = SH := rfl
theorem xX8_initq_KF : am_KF xX8_initq = K1 := rfl
theorem xX8_initq_rt : am_rt xX8_initq = none := rfl
theorem xX8_initq_FT : am_FT xX8_initq = FT_X8 := rfl
theorem xX8_initq_PT : am_PT xX8_initq = PI_X8 := rfl
theorem xX8_initq_CT : am_CT xX8_initq = CT_X8 := rfl
theorem xX8_initq_KT : am_KT xX8_initq = KT_X8 := rfl
theorem xX8_initq_LT : am_LT xX8_initq = LT_X8 := rfl
theorem xX8_initq_NT : am_NT xX8_initq = NT_X8 := rfl
theorem xX8_initq_c39 : am_find (am_ML xX8_initq) 39 = some (1, 2, 8, 0, 0, sX8_withLetterq) := rfl
theorem xX8_initq_n39 : am_find NT_X8 39 = none := rfl
theorem xX8_initq_t54 (k : Nat → Prop) : am_tg 54 (53) k = k 107 := am_tg_eq (by decide)
theorem xX8_initq_t67 (k : Nat → Prop) : am_tg 67 (9) k = k 76 := am_tg_eq (by decide)
theorem xX8_initq_t73 (k : Nat → Prop) : am_tg 73 (28) k = k 101 := am_tg_eq (by decide)
theorem xX8_initq_t82 (k : Nat → Prop) : am_tg 82 (19) k = k 101 := am_tg_eq (by decide)
theorem xX8_initq_t104 (k : Nat → Prop) : am_tg 104 (-56) k = k 48 := am_tg_eq (by decide)

/-- the words of the first i chars -/
def tkF : Nat → Nat × List Int64
  | 0 => (0, List.replicate 19 0)
  | i + 1 => if chx 0 (Int32.ofInt (i : Int)) = Int32.ofInt 32 then ((tkF i).1 + 1, (tkF i).2) else if (tkF i).1 < 19 then ((tkF i).1, (tkF i).2.set (tkF i).1 ((tkF i).2.getD (tkF i).1 0 * 27 + (chx 0 (Int32.ofInt (i : Int)) - Int32.ofInt 97 + Int32.ofInt 1).toInt64)) else tkF i
theorem tkF_b : ∀ i, (tkF i).1 ≤ i ∧ (tkF i).2.length = 19
  | 0 => ⟨Nat.le_refl _, rfl⟩
  | i + 1 => by
    obtain ⟨h1, h2⟩ := tkF_b i
    simp only [tkF]
    split
    · exact ⟨Nat.succ_le_succ h1, h2⟩
    · split
      · exact ⟨Nat.le_succ_of_le h1, by rw [List.length_set]; exact h2⟩
      · exact ⟨Nat.le_succ_of_le h1, h2⟩
/-- the same, carried along (so that it is reckoned once) -/
def tkG : Nat → Nat → Nat × List Int64 → Nat × List Int64
  | 0, _, p => p
  | n + 1, i, p => tkG n (i + 1) (if chx 0 (Int32.ofInt (i : Int)) = Int32.ofInt 32 then (p.1 + 1, p.2) else if p.1 < 19 then (p.1, p.2.set p.1 (p.2.getD p.1 0 * 27 + (chx 0 (Int32.ofInt (i : Int)) - Int32.ofInt 97 + Int32.ofInt 1).toInt64)) else p)
theorem tkG_F : ∀ n i, tkG n i (tkF i) = tkF (i + n)
  | 0, i => rfl
  | n + 1, i => by
    have h := tkG_F n (i + 1)
    rw [show i + 1 + n = i + (n + 1) by omega] at h
    rw [← h]
    rfl
set_option maxRecDepth 100000 in
theorem tkG_K : (tkG 110 0 (0, List.replicate 19 0)).2 = KEYS := by decide +kernel
theorem tkF_K : (tkF 110).2 = KEYS := by
  have h := tkG_F 110 0
  rw [Nat.zero_add] at h
  rw [← h]
  exact tkG_K
set_option maxRecDepth 100000 in
theorem tk_loop {L : List (Nat × Nat × Int32)} {post : Option Value → am_S → Prop} {AA : Nat → List (Option Value) → List Value → Nat → am_S → Prop} (hA : ∀ cuts f pc ls stk n τ, am_vc cX8_init xX8_initq (15 + 4) post AA cuts f pc ls stk n τ → AA pc ls stk n τ)
    (rL : ∀ pc ls stk n τ, decode cX8_init pc = .ok (.ldc 27, 2) → decode cX8_init (pc + 2) = .ok (.invokevirtual 29, 3) → (stk.map fun v => v.category).sum ≤ 8 → AA (pc + 5) ls (.int (Int32.ofInt 110) :: stk) n τ → AA pc ls stk n τ)
    (rC : ∀ pc (k : Fin 4) (j : Nat) ls stk n τ, decode cX8_init pc = .ok (.ldc 27, 2) → decode cX8_init (pc + 2) = .ok (.iload_n k, 1) → decode cX8_init (pc + 3) = .ok (.invokevirtual 35, 3) → (stk.map fun v => v.category).sum ≤ 8 → j < 110 → ls[(k : Nat)]? = some (some (.int (Int32.ofInt (j : Int)))) → AA (pc + 6) ls (.int (chx 0 (Int32.ofInt (j : Int))) :: stk) n τ → AA pc ls stk n τ)
    (h : ∀ τ, St (VK L) (14 + 5) τ → KC τ → post none τ) : ∀ k : Nat, k ≤ 110 → ∀ (w : Nat), w = (tkF k).1 → ∀ (x : Option Value) (τ : am_S), St (VK L) 19 τ → (∀ j, j < 19 → τ.2 15 j = (tkF k).2.getD j 0) → AA 48 [some (.ref 14), some (.int (Int32.ofInt (w : Int))), some (.int (Int32.ofInt (k : Int))), x] [] 19 τ := by
  refine am_up 110 fun k hk ih w hw x τ hS hK => ?_
  have e0 : τ.1 14 0 = Int32.ofNat 16 := (hS.1 _ _ (by decide)).trans rfl
  obtain ⟨wb, wl⟩ := tkF_b k
  rw [← hw] at wb
  refine hA [(49, 4)] 1 _ _ _ _ _ ?_
  try simp only [dX8_init_0, dX8_init_1, NT_X8, dX8_init_4, dX8_init_5, dX8_init_7, dX8_init_9, PI_X8_9, dX8_init_12, dX8_init_13, dX8_init_16, dX8_init_18, PI_X8_13, dX8_init_21, dX8_init_22, dX8_init_25, dX8_init_27, PI_X8_17, dX8_init_30, dX8_init_31, dX8_init_34, dX8_init_36, PI_X8_20, dX8_init_39, dX8_init_40, dX8_init_41, PI_X8_23, dX8_init_44, dX8_init_45, dX8_init_46, dX8_init_47, dX8_init_48, dX8_init_49, KT_X8, dX8_init_51, dX8_init_54, xX8_initq_t54, dX8_init_57, dX8_init_59, dX8_init_60, dX8_init_63, dX8_init_64, dX8_init_65, dX8_init_67, xX8_initq_t67, dX8_init_70, dX8_init_73, xX8_initq_t73, dX8_init_76, dX8_init_77, dX8_init_78, FT_X8_9, dX8_init_81, dX8_init_82, xX8_initq_t82, dX8_init_85, dX8_init_86, dX8_init_89, dX8_init_90, dX8_init_91, dX8_init_94, dX8_init_95, dX8_init_96, dX8_init_97, xX8_initq_c39, xX8_initq_n39, dX8_init_100, dX8_init_101, dX8_init_104, xX8_initq_t104, dX8_init_107, xX8_initq_SH, xX8_initq_KF, xX8_initq_rt, xX8_initq_FT, xX8_initq_PT, xX8_initq_CT, xX8_initq_KT, xX8_initq_LT, xX8_initq_NT, o_aload_n, o_arraylength, o_bipush, o_getfield, o_goto, o_iconst, o_if_icmp_ge, o_if_icmp_ne, o_iinc, o_iload_n, o_invokespecial, o_invokestatic, o_invokevirtual, o_istore_n, o_laload, o_lastore, o_ldc, o_newarray, o_putfield, o_return_, o_sipush, SH_14, K1_14_0, SH_15, K1_14_1, SH_16, K1_14_2, SH_17, K1_14_3, SH_18, K1_14_4, am_ty, am_vc, am_opt, am_cl, am_find, am_ldi, am_ldl, am_lda, am_v, am_1, am_1l, am_1a, am_2, am_2l, am_ix, am_ri, am_arr, am_pf, am_rc, am_mask, am_lg, am_av, am_nat, fv_0, fv_1, fv_2, fv_3, fw_0, fw_1, List.getElem?_cons_zero, List.getElem?_cons_succ, List.set_cons_zero, List.set_cons_succ, List.length_cons, List.length_nil, List.take_succ_cons, List.take_zero, List.drop_succ_cons, List.drop_zero, List.reverse_cons, List.reverse_nil, List.nil_append, List.cons_append, List.append_nil, List.map_cons, List.map_nil, List.sum_cons, List.sum_nil, Value.category, Option.toList_some, Option.toList_none, Nat.reduceAdd, Nat.reduceLT, Nat.reduceLeDiff, Nat.reduceEqDiff, Nat.reduceSub, Nat.add_zero, Nat.le_refl, Nat.zero_le, Int.reduceNeg, Int.reduceLE, Int.reduceLT, true_and, and_true, and_self, if_true, if_false, ite_true, ite_false, eq_self_iff_true, reduceIte, reduceCtorEq, not_false_eq_true, not_true_eq_false, or_true, true_or, or_false, false_or, Nat.lt_irrefl, Nat.zero_lt_succ]
  refine rL 49 _ _ _ _ dX8_init_49 dX8_init_51 (Nat.le_of_ble_eq_true rfl) ?_
  refine hA [(57, 4), (107, 4)] 1 _ _ _ _ _ ?_
  try simp only [dX8_init_0, dX8_init_1, NT_X8, dX8_init_4, dX8_init_5, dX8_init_7, dX8_init_9, PI_X8_9, dX8_init_12, dX8_init_13, dX8_init_16, dX8_init_18, PI_X8_13, dX8_init_21, dX8_init_22, dX8_init_25, dX8_init_27, PI_X8_17, dX8_init_30, dX8_init_31, dX8_init_34, dX8_init_36, PI_X8_20, dX8_init_39, dX8_init_40, dX8_init_41, PI_X8_23, dX8_init_44, dX8_init_45, dX8_init_46, dX8_init_47, dX8_init_48, dX8_init_49, KT_X8, dX8_init_51, dX8_init_54, xX8_initq_t54, dX8_init_57, dX8_init_59, dX8_init_60, dX8_init_63, dX8_init_64, dX8_init_65, dX8_init_67, xX8_initq_t67, dX8_init_70, dX8_init_73, xX8_initq_t73, dX8_init_76, dX8_init_77, dX8_init_78, FT_X8_9, dX8_init_81, dX8_init_82, xX8_initq_t82, dX8_init_85, dX8_init_86, dX8_init_89, dX8_init_90, dX8_init_91, dX8_init_94, dX8_init_95, dX8_init_96, dX8_init_97, xX8_initq_c39, xX8_initq_n39, dX8_init_100, dX8_init_101, dX8_init_104, xX8_initq_t104, dX8_init_107, xX8_initq_SH, xX8_initq_KF, xX8_initq_rt, xX8_initq_FT, xX8_initq_PT, xX8_initq_CT, xX8_initq_KT, xX8_initq_LT, xX8_initq_NT, o_aload_n, o_arraylength, o_bipush, o_getfield, o_goto, o_iconst, o_if_icmp_ge, o_if_icmp_ne, o_iinc, o_iload_n, o_invokespecial, o_invokestatic, o_invokevirtual, o_istore_n, o_laload, o_lastore, o_ldc, o_newarray, o_putfield, o_return_, o_sipush, SH_14, K1_14_0, SH_15, K1_14_1, SH_16, K1_14_2, SH_17, K1_14_3, SH_18, K1_14_4, am_ty, am_vc, am_opt, am_cl, am_find, am_ldi, am_ldl, am_lda, am_v, am_1, am_1l, am_1a, am_2, am_2l, am_ix, am_ri, am_arr, am_pf, am_rc, am_mask, am_lg, am_av, am_nat, fv_0, fv_1, fv_2, fv_3, fw_0, fw_1, List.getElem?_cons_zero, List.getElem?_cons_succ, List.set_cons_zero, List.set_cons_succ, List.length_cons, List.length_nil, List.take_succ_cons, List.take_zero, List.drop_succ_cons, List.drop_zero, List.reverse_cons, List.reverse_nil, List.nil_append, List.cons_append, List.append_nil, List.map_cons, List.map_nil, List.sum_cons, List.sum_nil, Value.category, Option.toList_some, Option.toList_none, Nat.reduceAdd, Nat.reduceLT, Nat.reduceLeDiff, Nat.reduceEqDiff, Nat.reduceSub, Nat.add_zero, Nat.le_refl, Nat.zero_le, Int.reduceNeg, Int.reduceLE, Int.reduceLT, true_and, and_true, and_self, if_true, if_false, ite_true, ite_false, eq_self_iff_true, reduceIte, reduceCtorEq, not_false_eq_true, not_true_eq_false, or_true, true_or, or_false, false_or, Nat.lt_irrefl, Nat.zero_lt_succ]
  try simp (disch := omega) only [ii_0, ii_1, ii_t, ii_add, ii_sub, ii_mul, ii_lt, ii_le, ii_eq, ij_in, ii_c, Int.toNat_natCast, Int.toNat_zero, Int.reduceToNat, Int.reduceEq, Int.reduceNe, Int.reduceLE, Int.reduceLT, Int.reduceAdd, Int.reduceSub, Int.reduceMul, Int.reduceNeg, Nat.reduceLT, Nat.reduceAdd, Nat.reduceMul, not_false_eq_true, not_true_eq_false, true_and, and_true, and_self, false_and, and_false, true_implies, false_implies, implies_true, forall_const, if_true, if_false, ite_true, ite_false, reduceIte, eq_self_iff_true, Int.natCast_nonneg, Int.zero_add, Int.add_zero, pi_s, pi_n, ik_s]
  refine ⟨fun q => ?_, fun q => ?_⟩
  · have hk1 : k = 110 := by omega
    subst hk1
    refine hA [] 2 _ _ _ _ _ ?_
    try simp only [dX8_init_0, dX8_init_1, NT_X8, dX8_init_4, dX8_init_5, dX8_init_7, dX8_init_9, PI_X8_9, dX8_init_12, dX8_init_13, dX8_init_16, dX8_init_18, PI_X8_13, dX8_init_21, dX8_init_22, dX8_init_25, dX8_init_27, PI_X8_17, dX8_init_30, dX8_init_31, dX8_init_34, dX8_init_36, PI_X8_20, dX8_init_39, dX8_init_40, dX8_init_41, PI_X8_23, dX8_init_44, dX8_init_45, dX8_init_46, dX8_init_47, dX8_init_48, dX8_init_49, KT_X8, dX8_init_51, dX8_init_54, xX8_initq_t54, dX8_init_57, dX8_init_59, dX8_init_60, dX8_init_63, dX8_init_64, dX8_init_65, dX8_init_67, xX8_initq_t67, dX8_init_70, dX8_init_73, xX8_initq_t73, dX8_init_76, dX8_init_77, dX8_init_78, FT_X8_9, dX8_init_81, dX8_init_82, xX8_initq_t82, dX8_init_85, dX8_init_86, dX8_init_89, dX8_init_90, dX8_init_91, dX8_init_94, dX8_init_95, dX8_init_96, dX8_init_97, xX8_initq_c39, xX8_initq_n39, dX8_init_100, dX8_init_101, dX8_init_104, xX8_initq_t104, dX8_init_107, xX8_initq_SH, xX8_initq_KF, xX8_initq_rt, xX8_initq_FT, xX8_initq_PT, xX8_initq_CT, xX8_initq_KT, xX8_initq_LT, xX8_initq_NT, o_aload_n, o_arraylength, o_bipush, o_getfield, o_goto, o_iconst, o_if_icmp_ge, o_if_icmp_ne, o_iinc, o_iload_n, o_invokespecial, o_invokestatic, o_invokevirtual, o_istore_n, o_laload, o_lastore, o_ldc, o_newarray, o_putfield, o_return_, o_sipush, SH_14, K1_14_0, SH_15, K1_14_1, SH_16, K1_14_2, SH_17, K1_14_3, SH_18, K1_14_4, am_ty, am_vc, am_opt, am_cl, am_find, am_ldi, am_ldl, am_lda, am_v, am_1, am_1l, am_1a, am_2, am_2l, am_ix, am_ri, am_arr, am_pf, am_rc, am_mask, am_lg, am_av, am_nat, fv_0, fv_1, fv_2, fv_3, fw_0, fw_1, List.getElem?_cons_zero, List.getElem?_cons_succ, List.set_cons_zero, List.set_cons_succ, List.length_cons, List.length_nil, List.take_succ_cons, List.take_zero, List.drop_succ_cons, List.drop_zero, List.reverse_cons, List.reverse_nil, List.nil_append, List.cons_append, List.append_nil, List.map_cons, List.map_nil, List.sum_cons, List.sum_nil, Value.category, Option.toList_some, Option.toList_none, Nat.reduceAdd, Nat.reduceLT, Nat.reduceLeDiff, Nat.reduceEqDiff, Nat.reduceSub, Nat.add_zero, Nat.le_refl, Nat.zero_le, Int.reduceNeg, Int.reduceLE, Int.reduceLT, true_and, and_true, and_self, if_true, if_false, ite_true, ite_false, eq_self_iff_true, reduceIte, reduceCtorEq, not_false_eq_true, not_true_eq_false, or_true, true_or, or_false, false_or, Nat.lt_irrefl, Nat.zero_lt_succ]
    exact h τ hS (fun j hj => by rw [hK j hj, tkF_K])
  · refine rC 57 2 k _ _ _ _ dX8_init_57 dX8_init_59 dX8_init_60 (Nat.le_of_ble_eq_true rfl) (by omega) rfl ?_
    have eF : tkF (k + 1) = if chx 0 (Int32.ofInt (k : Int)) = Int32.ofInt 32 then ((tkF k).1 + 1, (tkF k).2) else if (tkF k).1 < 19 then ((tkF k).1, (tkF k).2.set (tkF k).1 ((tkF k).2.getD (tkF k).1 0 * 27 + (chx 0 (Int32.ofInt (k : Int)) - Int32.ofInt 97 + Int32.ofInt 1).toInt64)) else tkF k := rfl
    rw [← hw] at eF
    revert ih eF
    generalize chx 0 (Int32.ofInt (k : Int)) = v
    generalize tkF (k + 1) = T'
    intro ih eF
    have hk2 : k < 110 := by omega
    refine hA [(70, 4), (76, 4)] 5 _ _ _ _ _ ?_
    try simp only [dX8_init_0, dX8_init_1, NT_X8, dX8_init_4, dX8_init_5, dX8_init_7, dX8_init_9, PI_X8_9, dX8_init_12, dX8_init_13, dX8_init_16, dX8_init_18, PI_X8_13, dX8_init_21, dX8_init_22, dX8_init_25, dX8_init_27, PI_X8_17, dX8_init_30, dX8_init_31, dX8_init_34, dX8_init_36, PI_X8_20, dX8_init_39, dX8_init_40, dX8_init_41, PI_X8_23, dX8_init_44, dX8_init_45, dX8_init_46, dX8_init_47, dX8_init_48, dX8_init_49, KT_X8, dX8_init_51, dX8_init_54, xX8_initq_t54, dX8_init_57, dX8_init_59, dX8_init_60, dX8_init_63, dX8_init_64, dX8_init_65, dX8_init_67, xX8_initq_t67, dX8_init_70, dX8_init_73, xX8_initq_t73, dX8_init_76, dX8_init_77, dX8_init_78, FT_X8_9, dX8_init_81, dX8_init_82, xX8_initq_t82, dX8_init_85, dX8_init_86, dX8_init_89, dX8_init_90, dX8_init_91, dX8_init_94, dX8_init_95, dX8_init_96, dX8_init_97, xX8_initq_c39, xX8_initq_n39, dX8_init_100, dX8_init_101, dX8_init_104, xX8_initq_t104, dX8_init_107, xX8_initq_SH, xX8_initq_KF, xX8_initq_rt, xX8_initq_FT, xX8_initq_PT, xX8_initq_CT, xX8_initq_KT, xX8_initq_LT, xX8_initq_NT, o_aload_n, o_arraylength, o_bipush, o_getfield, o_goto, o_iconst, o_if_icmp_ge, o_if_icmp_ne, o_iinc, o_iload_n, o_invokespecial, o_invokestatic, o_invokevirtual, o_istore_n, o_laload, o_lastore, o_ldc, o_newarray, o_putfield, o_return_, o_sipush, SH_14, K1_14_0, SH_15, K1_14_1, SH_16, K1_14_2, SH_17, K1_14_3, SH_18, K1_14_4, am_ty, am_vc, am_opt, am_cl, am_find, am_ldi, am_ldl, am_lda, am_v, am_1, am_1l, am_1a, am_2, am_2l, am_ix, am_ri, am_arr, am_pf, am_rc, am_mask, am_lg, am_av, am_nat, fv_0, fv_1, fv_2, fv_3, fw_0, fw_1, List.getElem?_cons_zero, List.getElem?_cons_succ, List.set_cons_zero, List.set_cons_succ, List.length_cons, List.length_nil, List.take_succ_cons, List.take_zero, List.drop_succ_cons, List.drop_zero, List.reverse_cons, List.reverse_nil, List.nil_append, List.cons_append, List.append_nil, List.map_cons, List.map_nil, List.sum_cons, List.sum_nil, Value.category, Option.toList_some, Option.toList_none, Nat.reduceAdd, Nat.reduceLT, Nat.reduceLeDiff, Nat.reduceEqDiff, Nat.reduceSub, Nat.add_zero, Nat.le_refl, Nat.zero_le, Int.reduceNeg, Int.reduceLE, Int.reduceLT, true_and, and_true, and_self, if_true, if_false, ite_true, ite_false, eq_self_iff_true, reduceIte, reduceCtorEq, not_false_eq_true, not_true_eq_false, or_true, true_or, or_false, false_or, Nat.lt_irrefl, Nat.zero_lt_succ]
    have step : ∀ (w' : Nat) (y : Option Value) (υ : am_S), w' = T'.1 → w' ≤ k + 1 → St (VK L) 19 υ → (∀ j, j < 19 → υ.2 15 j = T'.2.getD j 0) → AA 101 [some (.ref 14), some (.int (Int32.ofInt (w' : Int))), some (.int (Int32.ofInt (k : Int))), y] [] 19 υ := by
      intro w' y υ hw' hb' hU hV
      refine hA [(48, 4)] 3 _ _ _ _ _ ?_
      try simp only [dX8_init_0, dX8_init_1, NT_X8, dX8_init_4, dX8_init_5, dX8_init_7, dX8_init_9, PI_X8_9, dX8_init_12, dX8_init_13, dX8_init_16, dX8_init_18, PI_X8_13, dX8_init_21, dX8_init_22, dX8_init_25, dX8_init_27, PI_X8_17, dX8_init_30, dX8_init_31, dX8_init_34, dX8_init_36, PI_X8_20, dX8_init_39, dX8_init_40, dX8_init_41, PI_X8_23, dX8_init_44, dX8_init_45, dX8_init_46, dX8_init_47, dX8_init_48, dX8_init_49, KT_X8, dX8_init_51, dX8_init_54, xX8_initq_t54, dX8_init_57, dX8_init_59, dX8_init_60, dX8_init_63, dX8_init_64, dX8_init_65, dX8_init_67, xX8_initq_t67, dX8_init_70, dX8_init_73, xX8_initq_t73, dX8_init_76, dX8_init_77, dX8_init_78, FT_X8_9, dX8_init_81, dX8_init_82, xX8_initq_t82, dX8_init_85, dX8_init_86, dX8_init_89, dX8_init_90, dX8_init_91, dX8_init_94, dX8_init_95, dX8_init_96, dX8_init_97, xX8_initq_c39, xX8_initq_n39, dX8_init_100, dX8_init_101, dX8_init_104, xX8_initq_t104, dX8_init_107, xX8_initq_SH, xX8_initq_KF, xX8_initq_rt, xX8_initq_FT, xX8_initq_PT, xX8_initq_CT, xX8_initq_KT, xX8_initq_LT, xX8_initq_NT, o_aload_n, o_arraylength, o_bipush, o_getfield, o_goto, o_iconst, o_if_icmp_ge, o_if_icmp_ne, o_iinc, o_iload_n, o_invokespecial, o_invokestatic, o_invokevirtual, o_istore_n, o_laload, o_lastore, o_ldc, o_newarray, o_putfield, o_return_, o_sipush, SH_14, K1_14_0, SH_15, K1_14_1, SH_16, K1_14_2, SH_17, K1_14_3, SH_18, K1_14_4, am_ty, am_vc, am_opt, am_cl, am_find, am_ldi, am_ldl, am_lda, am_v, am_1, am_1l, am_1a, am_2, am_2l, am_ix, am_ri, am_arr, am_pf, am_rc, am_mask, am_lg, am_av, am_nat, fv_0, fv_1, fv_2, fv_3, fw_0, fw_1, List.getElem?_cons_zero, List.getElem?_cons_succ, List.set_cons_zero, List.set_cons_succ, List.length_cons, List.length_nil, List.take_succ_cons, List.take_zero, List.drop_succ_cons, List.drop_zero, List.reverse_cons, List.reverse_nil, List.nil_append, List.cons_append, List.append_nil, List.map_cons, List.map_nil, List.sum_cons, List.sum_nil, Value.category, Option.toList_some, Option.toList_none, Nat.reduceAdd, Nat.reduceLT, Nat.reduceLeDiff, Nat.reduceEqDiff, Nat.reduceSub, Nat.add_zero, Nat.le_refl, Nat.zero_le, Int.reduceNeg, Int.reduceLE, Int.reduceLT, true_and, and_true, and_self, if_true, if_false, ite_true, ite_false, eq_self_iff_true, reduceIte, reduceCtorEq, not_false_eq_true, not_true_eq_false, or_true, true_or, or_false, false_or, Nat.lt_irrefl, Nat.zero_lt_succ]
      try simp (disch := omega) only [ii_0, ii_1, ii_t, ii_add, ii_sub, ii_mul, ii_lt, ii_le, ii_eq, ij_in, ii_c, Int.toNat_natCast, Int.toNat_zero, Int.reduceToNat, Int.reduceEq, Int.reduceNe, Int.reduceLE, Int.reduceLT, Int.reduceAdd, Int.reduceSub, Int.reduceMul, Int.reduceNeg, Nat.reduceLT, Nat.reduceAdd, Nat.reduceMul, not_false_eq_true, not_true_eq_false, true_and, and_true, and_self, false_and, and_false, true_implies, false_implies, implies_true, forall_const, if_true, if_false, ite_true, ite_false, reduceIte, eq_self_iff_true, Int.natCast_nonneg, Int.zero_add, Int.add_zero, pi_s, pi_n, ik_s]
      exact ih hk2 w' hw' _ υ hU hV
    refine ⟨fun q2 => ?_, fun q2 => ?_⟩
    · rw [if_neg q2] at eF
      refine hA [(85, 4), (101, 4)] 8 _ _ _ _ _ ?_
      try simp only [dX8_init_0, dX8_init_1, NT_X8, dX8_init_4, dX8_init_5, dX8_init_7, dX8_init_9, PI_X8_9, dX8_init_12, dX8_init_13, dX8_init_16, dX8_init_18, PI_X8_13, dX8_init_21, dX8_init_22, dX8_init_25, dX8_init_27, PI_X8_17, dX8_init_30, dX8_init_31, dX8_init_34, dX8_init_36, PI_X8_20, dX8_init_39, dX8_init_40, dX8_init_41, PI_X8_23, dX8_init_44, dX8_init_45, dX8_init_46, dX8_init_47, dX8_init_48, dX8_init_49, KT_X8, dX8_init_51, dX8_init_54, xX8_initq_t54, dX8_init_57, dX8_init_59, dX8_init_60, dX8_init_63, dX8_init_64, dX8_init_65, dX8_init_67, xX8_initq_t67, dX8_init_70, dX8_init_73, xX8_initq_t73, dX8_init_76, dX8_init_77, dX8_init_78, FT_X8_9, dX8_init_81, dX8_init_82, xX8_initq_t82, dX8_init_85, dX8_init_86, dX8_init_89, dX8_init_90, dX8_init_91, dX8_init_94, dX8_init_95, dX8_init_96, dX8_init_97, xX8_initq_c39, xX8_initq_n39, dX8_init_100, dX8_init_101, dX8_init_104, xX8_initq_t104, dX8_init_107, xX8_initq_SH, xX8_initq_KF, xX8_initq_rt, xX8_initq_FT, xX8_initq_PT, xX8_initq_CT, xX8_initq_KT, xX8_initq_LT, xX8_initq_NT, o_aload_n, o_arraylength, o_bipush, o_getfield, o_goto, o_iconst, o_if_icmp_ge, o_if_icmp_ne, o_iinc, o_iload_n, o_invokespecial, o_invokestatic, o_invokevirtual, o_istore_n, o_laload, o_lastore, o_ldc, o_newarray, o_putfield, o_return_, o_sipush, SH_14, K1_14_0, SH_15, K1_14_1, SH_16, K1_14_2, SH_17, K1_14_3, SH_18, K1_14_4, am_ty, am_vc, am_opt, am_cl, am_find, am_ldi, am_ldl, am_lda, am_v, am_1, am_1l, am_1a, am_2, am_2l, am_ix, am_ri, am_arr, am_pf, am_rc, am_mask, am_lg, am_av, am_nat, fv_0, fv_1, fv_2, fv_3, fw_0, fw_1, List.getElem?_cons_zero, List.getElem?_cons_succ, List.set_cons_zero, List.set_cons_succ, List.length_cons, List.length_nil, List.take_succ_cons, List.take_zero, List.drop_succ_cons, List.drop_zero, List.reverse_cons, List.reverse_nil, List.nil_append, List.cons_append, List.append_nil, List.map_cons, List.map_nil, List.sum_cons, List.sum_nil, Value.category, Option.toList_some, Option.toList_none, Nat.reduceAdd, Nat.reduceLT, Nat.reduceLeDiff, Nat.reduceEqDiff, Nat.reduceSub, Nat.add_zero, Nat.le_refl, Nat.zero_le, Int.reduceNeg, Int.reduceLE, Int.reduceLT, true_and, and_true, and_self, if_true, if_false, ite_true, ite_false, eq_self_iff_true, reduceIte, reduceCtorEq, not_false_eq_true, not_true_eq_false, or_true, true_or, or_false, false_or, Nat.lt_irrefl, Nat.zero_lt_succ, e0, nz_16, tc_16, SH_15]
      try simp (disch := omega) only [ii_0, ii_1, ii_t, ii_add, ii_sub, ii_mul, ii_lt, ii_le, ii_eq, ij_in, ii_c, Int.toNat_natCast, Int.toNat_zero, Int.reduceToNat, Int.reduceEq, Int.reduceNe, Int.reduceLE, Int.reduceLT, Int.reduceAdd, Int.reduceSub, Int.reduceMul, Int.reduceNeg, Nat.reduceLT, Nat.reduceAdd, Nat.reduceMul, not_false_eq_true, not_true_eq_false, true_and, and_true, and_self, false_and, and_false, true_implies, false_implies, implies_true, forall_const, if_true, if_false, ite_true, ite_false, reduceIte, eq_self_iff_true, Int.natCast_nonneg, Int.zero_add, Int.add_zero, pi_s, pi_n, on_i]
      refine ⟨fun q3 => ?_, fun q3 => ?_⟩
      · rw [if_neg (by omega)] at eF
        exact step w _ τ (by rw [eF]; exact hw) (by omega) hS (by rw [eF]; exact hK)
      · rw [if_pos (by omega)] at eF
        refine hA [(101, 4)] 12 _ _ _ _ _ ?_
        try simp only [dX8_init_0, dX8_init_1, NT_X8, dX8_init_4, dX8_init_5, dX8_init_7, dX8_init_9, PI_X8_9, dX8_init_12, dX8_init_13, dX8_init_16, dX8_init_18, PI_X8_13, dX8_init_21, dX8_init_22, dX8_init_25, dX8_init_27, PI_X8_17, dX8_init_30, dX8_init_31, dX8_init_34, dX8_init_36, PI_X8_20, dX8_init_39, dX8_init_40, dX8_init_41, PI_X8_23, dX8_init_44, dX8_init_45, dX8_init_46, dX8_init_47, dX8_init_48, dX8_init_49, KT_X8, dX8_init_51, dX8_init_54, xX8_initq_t54, dX8_init_57, dX8_init_59, dX8_init_60, dX8_init_63, dX8_init_64, dX8_init_65, dX8_init_67, xX8_initq_t67, dX8_init_70, dX8_init_73, xX8_initq_t73, dX8_init_76, dX8_init_77, dX8_init_78, FT_X8_9, dX8_init_81, dX8_init_82, xX8_initq_t82, dX8_init_85, dX8_init_86, dX8_init_89, dX8_init_90, dX8_init_91, dX8_init_94, dX8_init_95, dX8_init_96, dX8_init_97, xX8_initq_c39, xX8_initq_n39, dX8_init_100, dX8_init_101, dX8_init_104, xX8_initq_t104, dX8_init_107, xX8_initq_SH, xX8_initq_KF, xX8_initq_rt, xX8_initq_FT, xX8_initq_PT, xX8_initq_CT, xX8_initq_KT, xX8_initq_LT, xX8_initq_NT, o_aload_n, o_arraylength, o_bipush, o_getfield, o_goto, o_iconst, o_if_icmp_ge, o_if_icmp_ne, o_iinc, o_iload_n, o_invokespecial, o_invokestatic, o_invokevirtual, o_istore_n, o_laload, o_lastore, o_ldc, o_newarray, o_putfield, o_return_, o_sipush, SH_14, K1_14_0, SH_15, K1_14_1, SH_16, K1_14_2, SH_17, K1_14_3, SH_18, K1_14_4, am_ty, am_vc, am_opt, am_cl, am_find, am_ldi, am_ldl, am_lda, am_v, am_1, am_1l, am_1a, am_2, am_2l, am_ix, am_ri, am_arr, am_pf, am_rc, am_mask, am_lg, am_av, am_nat, fv_0, fv_1, fv_2, fv_3, fw_0, fw_1, List.getElem?_cons_zero, List.getElem?_cons_succ, List.set_cons_zero, List.set_cons_succ, List.length_cons, List.length_nil, List.take_succ_cons, List.take_zero, List.drop_succ_cons, List.drop_zero, List.reverse_cons, List.reverse_nil, List.nil_append, List.cons_append, List.append_nil, List.map_cons, List.map_nil, List.sum_cons, List.sum_nil, Value.category, Option.toList_some, Option.toList_none, Nat.reduceAdd, Nat.reduceLT, Nat.reduceLeDiff, Nat.reduceEqDiff, Nat.reduceSub, Nat.add_zero, Nat.le_refl, Nat.zero_le, Int.reduceNeg, Int.reduceLE, Int.reduceLT, true_and, and_true, and_self, if_true, if_false, ite_true, ite_false, eq_self_iff_true, reduceIte, reduceCtorEq, not_false_eq_true, not_true_eq_false, or_true, true_or, or_false, false_or, Nat.lt_irrefl, Nat.zero_lt_succ, e0, nz_16, tc_16, SH_15]
        try simp (disch := omega) only [ii_0, ii_1, ii_t, ii_add, ii_sub, ii_mul, ii_lt, ii_le, ii_eq, ij_in, ii_c, Int.toNat_natCast, Int.toNat_zero, Int.reduceToNat, Int.reduceEq, Int.reduceNe, Int.reduceLE, Int.reduceLT, Int.reduceAdd, Int.reduceSub, Int.reduceMul, Int.reduceNeg, Nat.reduceLT, Nat.reduceAdd, Nat.reduceMul, not_false_eq_true, not_true_eq_false, true_and, and_true, and_self, false_and, and_false, true_implies, false_implies, implies_true, forall_const, if_true, if_false, ite_true, ite_false, reduceIte, eq_self_iff_true, Int.natCast_nonneg, Int.zero_add, Int.add_zero, pi_s, pi_n, on_i]
        first
          | refine ⟨⟨by omega, by omega⟩, _, _, rfl, ?_⟩
          | refine ⟨by omega, _, _, rfl, ?_⟩
          | refine ⟨_, _, rfl, ?_⟩
        try simp only [dX8_init_0, dX8_init_1, NT_X8, dX8_init_4, dX8_init_5, dX8_init_7, dX8_init_9, PI_X8_9, dX8_init_12, dX8_init_13, dX8_init_16, dX8_init_18, PI_X8_13, dX8_init_21, dX8_init_22, dX8_init_25, dX8_init_27, PI_X8_17, dX8_init_30, dX8_init_31, dX8_init_34, dX8_init_36, PI_X8_20, dX8_init_39, dX8_init_40, dX8_init_41, PI_X8_23, dX8_init_44, dX8_init_45, dX8_init_46, dX8_init_47, dX8_init_48, dX8_init_49, KT_X8, dX8_init_51, dX8_init_54, xX8_initq_t54, dX8_init_57, dX8_init_59, dX8_init_60, dX8_init_63, dX8_init_64, dX8_init_65, dX8_init_67, xX8_initq_t67, dX8_init_70, dX8_init_73, xX8_initq_t73, dX8_init_76, dX8_init_77, dX8_init_78, FT_X8_9, dX8_init_81, dX8_init_82, xX8_initq_t82, dX8_init_85, dX8_init_86, dX8_init_89, dX8_init_90, dX8_init_91, dX8_init_94, dX8_init_95, dX8_init_96, dX8_init_97, xX8_initq_c39, xX8_initq_n39, dX8_init_100, dX8_init_101, dX8_init_104, xX8_initq_t104, dX8_init_107, xX8_initq_SH, xX8_initq_KF, xX8_initq_rt, xX8_initq_FT, xX8_initq_PT, xX8_initq_CT, xX8_initq_KT, xX8_initq_LT, xX8_initq_NT, o_aload_n, o_arraylength, o_bipush, o_getfield, o_goto, o_iconst, o_if_icmp_ge, o_if_icmp_ne, o_iinc, o_iload_n, o_invokespecial, o_invokestatic, o_invokevirtual, o_istore_n, o_laload, o_lastore, o_ldc, o_newarray, o_putfield, o_return_, o_sipush, SH_14, K1_14_0, SH_15, K1_14_1, SH_16, K1_14_2, SH_17, K1_14_3, SH_18, K1_14_4, am_ty, am_vc, am_opt, am_cl, am_find, am_ldi, am_ldl, am_lda, am_v, am_1, am_1l, am_1a, am_2, am_2l, am_ix, am_ri, am_arr, am_pf, am_rc, am_mask, am_lg, am_av, am_nat, fv_0, fv_1, fv_2, fv_3, fw_0, fw_1, List.getElem?_cons_zero, List.getElem?_cons_succ, List.set_cons_zero, List.set_cons_succ, List.length_cons, List.length_nil, List.take_succ_cons, List.take_zero, List.drop_succ_cons, List.drop_zero, List.reverse_cons, List.reverse_nil, List.nil_append, List.cons_append, List.append_nil, List.map_cons, List.map_nil, List.sum_cons, List.sum_nil, Value.category, Option.toList_some, Option.toList_none, Nat.reduceAdd, Nat.reduceLT, Nat.reduceLeDiff, Nat.reduceEqDiff, Nat.reduceSub, Nat.add_zero, Nat.le_refl, Nat.zero_le, Int.reduceNeg, Int.reduceLE, Int.reduceLT, true_and, and_true, and_self, if_true, if_false, ite_true, ite_false, eq_self_iff_true, reduceIte, reduceCtorEq, not_false_eq_true, not_true_eq_false, or_true, true_or, or_false, false_or, Nat.lt_irrefl, Nat.zero_lt_succ, e0, nz_16, tc_16, SH_15]
        try simp (disch := omega) only [ii_0, ii_1, ii_t, ii_add, ii_sub, ii_mul, ii_lt, ii_le, ii_eq, ij_in, ii_c, Int.toNat_natCast, Int.toNat_zero, Int.reduceToNat, Int.reduceEq, Int.reduceNe, Int.reduceLE, Int.reduceLT, Int.reduceAdd, Int.reduceSub, Int.reduceMul, Int.reduceNeg, Nat.reduceLT, Nat.reduceAdd, Nat.reduceMul, not_false_eq_true, not_true_eq_false, true_and, and_true, and_self, false_and, and_false, true_implies, false_implies, implies_true, forall_const, if_true, if_false, ite_true, ite_false, reduceIte, eq_self_iff_true, Int.natCast_nonneg, Int.zero_add, Int.add_zero, pi_s, pi_n, on_i]
        have hG := step w (some (.int v)) (am_pl τ 15 w (τ.2 15 w * 27 + (v - Int32.ofInt 97 + Int32.ofInt 1).toInt64)) (by rw [eF]) (by omega) (St_pl hS) (fun j hj => by
          rw [eF, ← hK w (by omega)]
          by_cases q4 : j = w
          · subst q4
            rw [pl_s, List.getD_eq_getElem?_getD, List.getElem?_set_self (by omega)]
            rfl
          · rw [pl_n _ _ _ _ (fun z => q4 z.2), hK j hj]
            simp only [List.getD_eq_getElem?_getD]
            rw [List.getElem?_set_ne (fun z => q4 z.symm)])
        first
          | exact hG
          | exact ⟨⟨by omega, by omega⟩, hG⟩
          | exact ⟨by omega, hG⟩
    · rw [if_pos q2] at eF
      refine hA [(101, 4)] 3 _ _ _ _ _ ?_
      try simp only [dX8_init_0, dX8_init_1, NT_X8, dX8_init_4, dX8_init_5, dX8_init_7, dX8_init_9, PI_X8_9, dX8_init_12, dX8_init_13, dX8_init_16, dX8_init_18, PI_X8_13, dX8_init_21, dX8_init_22, dX8_init_25, dX8_init_27, PI_X8_17, dX8_init_30, dX8_init_31, dX8_init_34, dX8_init_36, PI_X8_20, dX8_init_39, dX8_init_40, dX8_init_41, PI_X8_23, dX8_init_44, dX8_init_45, dX8_init_46, dX8_init_47, dX8_init_48, dX8_init_49, KT_X8, dX8_init_51, dX8_init_54, xX8_initq_t54, dX8_init_57, dX8_init_59, dX8_init_60, dX8_init_63, dX8_init_64, dX8_init_65, dX8_init_67, xX8_initq_t67, dX8_init_70, dX8_init_73, xX8_initq_t73, dX8_init_76, dX8_init_77, dX8_init_78, FT_X8_9, dX8_init_81, dX8_init_82, xX8_initq_t82, dX8_init_85, dX8_init_86, dX8_init_89, dX8_init_90, dX8_init_91, dX8_init_94, dX8_init_95, dX8_init_96, dX8_init_97, xX8_initq_c39, xX8_initq_n39, dX8_init_100, dX8_init_101, dX8_init_104, xX8_initq_t104, dX8_init_107, xX8_initq_SH, xX8_initq_KF, xX8_initq_rt, xX8_initq_FT, xX8_initq_PT, xX8_initq_CT, xX8_initq_KT, xX8_initq_LT, xX8_initq_NT, o_aload_n, o_arraylength, o_bipush, o_getfield, o_goto, o_iconst, o_if_icmp_ge, o_if_icmp_ne, o_iinc, o_iload_n, o_invokespecial, o_invokestatic, o_invokevirtual, o_istore_n, o_laload, o_lastore, o_ldc, o_newarray, o_putfield, o_return_, o_sipush, SH_14, K1_14_0, SH_15, K1_14_1, SH_16, K1_14_2, SH_17, K1_14_3, SH_18, K1_14_4, am_ty, am_vc, am_opt, am_cl, am_find, am_ldi, am_ldl, am_lda, am_v, am_1, am_1l, am_1a, am_2, am_2l, am_ix, am_ri, am_arr, am_pf, am_rc, am_mask, am_lg, am_av, am_nat, fv_0, fv_1, fv_2, fv_3, fw_0, fw_1, List.getElem?_cons_zero, List.getElem?_cons_succ, List.set_cons_zero, List.set_cons_succ, List.length_cons, List.length_nil, List.take_succ_cons, List.take_zero, List.drop_succ_cons, List.drop_zero, List.reverse_cons, List.reverse_nil, List.nil_append, List.cons_append, List.append_nil, List.map_cons, List.map_nil, List.sum_cons, List.sum_nil, Value.category, Option.toList_some, Option.toList_none, Nat.reduceAdd, Nat.reduceLT, Nat.reduceLeDiff, Nat.reduceEqDiff, Nat.reduceSub, Nat.add_zero, Nat.le_refl, Nat.zero_le, Int.reduceNeg, Int.reduceLE, Int.reduceLT, true_and, and_true, and_self, if_true, if_false, ite_true, ite_false, eq_self_iff_true, reduceIte, reduceCtorEq, not_false_eq_true, not_true_eq_false, or_true, true_or, or_false, false_or, Nat.lt_irrefl, Nat.zero_lt_succ]
      try simp (disch := omega) only [ii_0, ii_1, ii_t, ii_add, ii_sub, ii_mul, ii_lt, ii_le, ii_eq, ij_in, ii_c, Int.toNat_natCast, Int.toNat_zero, Int.reduceToNat, Int.reduceEq, Int.reduceNe, Int.reduceLE, Int.reduceLT, Int.reduceAdd, Int.reduceSub, Int.reduceMul, Int.reduceNeg, Nat.reduceLT, Nat.reduceAdd, Nat.reduceMul, not_false_eq_true, not_true_eq_false, true_and, and_true, and_self, false_and, and_false, true_implies, false_implies, implies_true, forall_const, if_true, if_false, ite_true, ite_false, reduceIte, eq_self_iff_true, Int.natCast_nonneg, Int.zero_add, Int.add_zero, pi_s, pi_n, ik_s]
      exact step (w + 1) _ τ (by rw [eF]) (by omega) hS (by rw [eF]; exact hK)
set_option maxRecDepth 100000 in
theorem mX8_initq (l : Launch) : am_M l TB NB vwCl SH K1 yX8_init cX8_init 4 none 8 4 1225 sX8_initq := by
  refine am_M.ofTE xX8_initq (by decide +kernel) rfl G1 rfl rfl rfl (by decide) ⟨FT_X8_ok, PI_X8_ok, CT_X8_ok, KT_X8_ok, LT_X8_ok, NT_X8_ok, ?_⟩ ?_
  · exact List.forall_mem_cons.mpr ⟨⟨yX8_withLetter, cX8_withLetter, 3, (some .long), 2, 2, mX8_withLetterq l, by decide, by decide, tk_281, tk_107, ⟨by decide +kernel, by decide +kernel, by decide +kernel⟩, rfl, tk_279, tk_280⟩, fun _ h => absurd h List.not_mem_nil⟩
  · intro n0 as σ post AA hA rL rC h
    obtain ⟨L, rfl, rfl, hS, hk, h⟩ := h
    refine ⟨by simp [am_sl, Value.category], ?_⟩
    show AA 0 [some (.ref 14), none, none, none] [] (14 + 1) σ
    refine hA [(48, 4)] 30 _ _ _ _ _ ?_
    try simp only [dX8_init_0, dX8_init_1, NT_X8, dX8_init_4, dX8_init_5, dX8_init_7, dX8_init_9, PI_X8_9, dX8_init_12, dX8_init_13, dX8_init_16, dX8_init_18, PI_X8_13, dX8_init_21, dX8_init_22, dX8_init_25, dX8_init_27, PI_X8_17, dX8_init_30, dX8_init_31, dX8_init_34, dX8_init_36, PI_X8_20, dX8_init_39, dX8_init_40, dX8_init_41, PI_X8_23, dX8_init_44, dX8_init_45, dX8_init_46, dX8_init_47, dX8_init_48, dX8_init_49, KT_X8, dX8_init_51, dX8_init_54, xX8_initq_t54, dX8_init_57, dX8_init_59, dX8_init_60, dX8_init_63, dX8_init_64, dX8_init_65, dX8_init_67, xX8_initq_t67, dX8_init_70, dX8_init_73, xX8_initq_t73, dX8_init_76, dX8_init_77, dX8_init_78, FT_X8_9, dX8_init_81, dX8_init_82, xX8_initq_t82, dX8_init_85, dX8_init_86, dX8_init_89, dX8_init_90, dX8_init_91, dX8_init_94, dX8_init_95, dX8_init_96, dX8_init_97, xX8_initq_c39, xX8_initq_n39, dX8_init_100, dX8_init_101, dX8_init_104, xX8_initq_t104, dX8_init_107, xX8_initq_SH, xX8_initq_KF, xX8_initq_rt, xX8_initq_FT, xX8_initq_PT, xX8_initq_CT, xX8_initq_KT, xX8_initq_LT, xX8_initq_NT, o_aload_n, o_arraylength, o_bipush, o_getfield, o_goto, o_iconst, o_if_icmp_ge, o_if_icmp_ne, o_iinc, o_iload_n, o_invokespecial, o_invokestatic, o_invokevirtual, o_istore_n, o_laload, o_lastore, o_ldc, o_newarray, o_putfield, o_return_, o_sipush, SH_14, K1_14_0, SH_15, K1_14_1, SH_16, K1_14_2, SH_17, K1_14_3, SH_18, K1_14_4, am_ty, am_vc, am_opt, am_cl, am_find, am_ldi, am_ldl, am_lda, am_v, am_1, am_1l, am_1a, am_2, am_2l, am_ix, am_ri, am_arr, am_pf, am_rc, am_mask, am_lg, am_av, am_nat, fv_0, fv_1, fv_2, fv_3, fw_0, fw_1, List.getElem?_cons_zero, List.getElem?_cons_succ, List.set_cons_zero, List.set_cons_succ, List.length_cons, List.length_nil, List.take_succ_cons, List.take_zero, List.drop_succ_cons, List.drop_zero, List.reverse_cons, List.reverse_nil, List.nil_append, List.cons_append, List.append_nil, List.map_cons, List.map_nil, List.sum_cons, List.sum_nil, Value.category, Option.toList_some, Option.toList_none, Nat.reduceAdd, Nat.reduceLT, Nat.reduceLeDiff, Nat.reduceEqDiff, Nat.reduceSub, Nat.add_zero, Nat.le_refl, Nat.zero_le, Int.reduceNeg, Int.reduceLE, Int.reduceLT, true_and, and_true, and_self, if_true, if_false, ite_true, ite_false, eq_self_iff_true, reduceIte, reduceCtorEq, not_false_eq_true, not_true_eq_false, or_true, true_or, or_false, false_or, Nat.lt_irrefl, Nat.zero_lt_succ]
    try simp (disch := omega) only [ii_0, ii_1, ii_t, ii_add, ii_sub, ii_mul, ii_lt, ii_le, ii_eq, ij_in, ii_c, Int.toNat_natCast, Int.toNat_zero, Int.reduceToNat, Int.reduceEq, Int.reduceNe, Int.reduceLE, Int.reduceLT, Int.reduceAdd, Int.reduceSub, Int.reduceMul, Int.reduceNeg, Nat.reduceLT, Nat.reduceAdd, Nat.reduceMul, not_false_eq_true, not_true_eq_false, true_and, and_true, and_self, false_and, and_false, true_implies, false_implies, implies_true, forall_const, if_true, if_false, ite_true, ite_false, reduceIte, eq_self_iff_true, Int.natCast_nonneg, Int.zero_add, Int.add_zero, pi_s, pi_n]
    have hS2 : St (VK L) 19 (am_pi (am_pi (am_new (am_pi (am_new (am_pi (am_new (am_pi (am_new σ 15) 14 0 (Int32.ofNat 16)) 16) 14 1 (Int32.ofNat 17)) 17) 14 2 (Int32.ofNat 18)) 18) 14 3 (Int32.ofNat 19)) 14 4 (Int32.ofInt 0)) := by
      unfold VK
      repeat' first
        | exact hS
        | exact hk
        | refine St_new ?_ ?_
        | refine St_pi ?_
        | refine kb_cons (by omega) ?_
        | exact kb_up hk (by omega)
    have eW : ∀ j, j < 19 → (am_pi (am_pi (am_new (am_pi (am_new (am_pi (am_new (am_pi (am_new σ 15) 14 0 (Int32.ofNat 16)) 16) 14 1 (Int32.ofNat 17)) 17) 14 2 (Int32.ofNat 18)) 18) 14 3 (Int32.ofNat 19)) 14 4 (Int32.ofInt 0)).2 15 j = (tkF 0).2.getD j 0 := by
      intro j hj
      show (0 : Int64) = (List.replicate 19 (0 : Int64)).getD j 0
      rw [List.getD_eq_getElem?_getD, List.getElem?_replicate, if_pos hj]
      rfl
    exact tk_loop hA rL rC h 0 (by omega) 0 rfl _ _ hS2 eW
