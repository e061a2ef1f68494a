theorem FBd_lt {o k : Nat} (h : FBd o k = true) : o < 51 := by
  unfold FBd at h
  split at h <;> first | omega | cases h
theorem FL_lt {σ τ : am_S} (h : ∀ o, o < 51 → ∀ k, τ.1 o k = σ.1 o k) (hF : FL σ) : FL τ := by
  unfold FL at hF ⊢
  simp only [h 24 (by decide), h 22 (by decide), h 23 (by decide)]
  exact hF
set_option maxRecDepth 100000 in
set_option maxHeartbeats 4000000 in
/-- from the entry: the two objects are made, then the loop -/
theorem whole_start {p : Program} {e : Env} {s : State} {m : MethodId} {below : List Frame} {meth : Method} {c : Code} (l : Launch) (hflags : l.flags = flags0) {b L : Nat} {xs : Nat → Int32} (hL : L ≤ 6) (C0 : lw_At p s m meth c b L xs) : W p l e room_1 s m #[Value.ref b] below meth c s.heap [] 0 0 (lw_Z below #[Value.ref b] s) (entryFrame m ([Value.ref b] : List Value).toArray 4) := by
  obtain ⟨hx, hb, hr, hml, hown, hts0, hX, hbl, hlocks, hgv⟩ := id C0
  have hts : ∀ w ∈ TB, w.before #[Value.ref b] s = true := fun w hw => hts0 w (List.mem_filter.mp hw).1
  have hN : am_Nw NB s.heap.size s := ⟨fun a i x h hm => va_Nw.of rfl (hts0 _ hm), lw_str hts0 hgv⟩
  obtain ⟨tyc, hG1⟩ := G1
  obtain ⟨tyc2, hG2⟩ := G2
  have kn : ∀ k : Nat, ∃ q : ClassId × (Nat → Nat), ∀ w : vw_C, vwCl[k]? = some w → u_Kn s w.1 w.2.1 w.2.2 q.1 q.2 := by
    intro k
    cases hk : vwCl[k]? with
    | none => exact ⟨(0, fun _ => 0), fun w h => by cases h⟩
    | some w =>
      have hin := (hG1.1 k w hk).1
      have hins : ∀ k, k < 13 → ∀ w : vw_C, vwCl[k]? = some w → Cond.instantiable w.1 w.2.2 ∈ TB := by
        have q : ∀ k, k < 13 → ∀ w : vw_C, vwCl[k]? = some w → Cond.instantiable w.1 w.2.2 ∈ TB := by
          intro k hk w hw
          match k, hw with
          | 0, hw => cases hw; exact tb_at 370 (by decide +kernel) (by decide +kernel)
          | 1, hw => cases hw; exact tb_at 418 (by decide +kernel) (by decide +kernel)
          | 2, hw => cases hw; exact tb_at 145 (by decide +kernel) (by decide +kernel)
          | 3, hw => cases hw; exact tb_at 405 (by decide +kernel) (by decide +kernel)
          | 4, hw => cases hw; exact tb_at 338 (by decide +kernel) (by decide +kernel)
          | 5, hw => cases hw; exact tb_at 133 (by decide +kernel) (by decide +kernel)
          | 6, hw => cases hw; exact tb_at 437 (by decide +kernel) (by decide +kernel)
          | 7, hw => cases hw; exact tb_at 348 (by decide +kernel) (by decide +kernel)
          | 8, hw => cases hw; exact tb_at 225 (by decide +kernel) (by decide +kernel)
          | 9, hw => cases hw; exact tb_at 139 (by decide +kernel) (by decide +kernel)
          | 10, hw => cases hw; exact tb_at 383 (by decide +kernel) (by decide +kernel)
          | 11, hw => cases hw; exact tb_at 125 (by decide +kernel) (by decide +kernel)
          | 12, hw => cases hw; exact tb_at 1292 (by decide +kernel) (by decide +kernel)
          | k + 13, hw => exact absurd hk (by omega)
        exact q
      have hk13 : k < 13 := (List.getElem?_eq_some_iff.mp hk).1
      obtain ⟨cC, iS, h⟩ := u_known (n := w.2.2) hts hin (hts _ (hins k hk13 w hk))
      exact ⟨(cC, iS), fun w' h' => by cases h'; exact h⟩
  obtain ⟨dQ, hdQ⟩ := Classical.axiomOfChoice kn
  have arr : ∀ k : Nat, ∃ cA : ClassId, ∀ ty : FieldType, ([.int, .byte, .boolean, .long] : List FieldType)[k]? = some ty → ArrOfT s cA ty ∧ s.vm.findClass ("[" ++ ty.toString) = some cA := by
    intro k
    match k with
    | 0 => obtain ⟨cA, h⟩ := lw_arr (ty := .int) (hts _ (tb_at 170 (by decide +kernel) (by decide +kernel))); exact ⟨cA, fun ty ht => by cases ht; exact h⟩
    | 1 => obtain ⟨cA, h⟩ := lw_arr (ty := .byte) (hts _ (tb_at 169 (by decide +kernel) (by decide +kernel))); exact ⟨cA, fun ty ht => by cases ht; exact h⟩
    | 2 => obtain ⟨cA, h⟩ := lw_arr (ty := .boolean) (hts _ (tb_at 455 (by decide +kernel) (by decide +kernel))); exact ⟨cA, fun ty ht => by cases ht; exact h⟩
    | 3 => obtain ⟨cA, h⟩ := lw_arr (ty := .long) (hts _ (tb_at 299 (by decide +kernel) (by decide +kernel))); exact ⟨cA, fun ty ht => by cases ht; exact h⟩
    | k + 4 => exact ⟨0, fun ty ht => by cases ht⟩
  obtain ⟨aC, haC⟩ := Classical.axiomOfChoice arr
  obtain ⟨D, hDe⟩ : ∃ D : va_G, D = (fun k => (dQ k).1, fun k => (dQ k).2) := ⟨_, rfl⟩
  have hK : va_K D vwCl (am_tys aC) s := by
    subst hDe
    refine ⟨fun k q hq => hdQ k q hq, fun k q hq => ?_⟩
    match k, hq with
    | 0, hq => cases hq; exact haC 0 .int rfl
    | 1, hq => cases hq; exact haC 1 .byte rfl
    | 2, hq => cases hq; exact haC 2 .boolean rfl
    | 3, hq => cases hq; exact haC 3 .long rfl
    | k + 4, hq => cases hq
  have C : lw_K p s m c D aC b L xs := ⟨hx, hb, hml, hown, hts, hX, hbl, hK, hN⟩
  have fx : CallFix p m c code 4 s #[Value.ref b] TB R_law := ⟨hx, hb, hml, hown, hts⟩
  have hA : ∀ q : Nat, s.heap.size ≤ q → (fun q : Nat => s.heap.size ≤ q) q := fun _ h => h
  obtain ⟨σ0, hσ0⟩ : ∃ σ0 : am_S, σ0 = (fun _ _ => 0, fun _ _ => 0) := ⟨_, rfl⟩
  have hS : va_S (fun q : Nat => s.heap.size ≤ q) s.heap s.heap [] := va_S.rf
  have hP : va_P D vwCl (am_ws SH K1 s.heap.size aC 0 σ0) s.heap := fun k q h => by simp [am_ws] at h
  have hD : va_D (fun q : Nat => s.heap.size ≤ q) (am_ws SH K1 s.heap.size aC 0 σ0) := ⟨fun i j p q h => by simp [am_ws] at h, fun k q h => by simp [am_ws] at h⟩
  have hl := lv_entry ([.ref b]) (n := 4) (Nat.le_of_ble_eq_true rfl)
  rw [lg_entry_eq]
  generalize (lg_sl ([.ref b]) ++ List.replicate (4 - (lg_sl ([.ref b])).length) Slot.unset).toArray = lc at hl ⊢
  have hl : lv_has lc 4 [(0, .ref b)] := hl
  refine va_new (D := D) (cl := vwCl) (ci := 11) (fs := (am_fs (K1 0) (fun _ => 0) (fun _ => 0)).map (am_c s.heap.size)) (C := RX11) (T := TX11) (N := 14) hx hb hts (hG1.1 11 _ rfl).1 (tyc 11) (hG1.1 11 _ rfl).2.1 hown (hts _ (tb_at 124 (by decide +kernel) (by decide +kernel))) (hts _ (tb_at 125 (by decide +kernel) (by decide +kernel))) (hts _ (tb_at 103 (by decide +kernel) (by decide +kernel))) hK hP hD hS hA rfl (fun j hj => am_new_fs (K1 0) (by decide +kernel) s.heap.size (tyc 11) j hj (by
      obtain ⟨w', hc', hlK, hkk⟩ := hG1.2.1 0 11 rfl
      exact hkk)) (by decide) (by decide) dL_law_0 (fun q H1 p1 dd1 s1 => ?_)
  refine am_addr (n0 := 0) (n := 0) p1 dd1 rfl (Nat.le_refl _) fun ha => ?_
  subst ha
  have w1 : (.inr (11, (am_fs (K1 0) (fun _ => 0) (fun _ => 0)).map (am_c s.heap.size)) : va_E) = am_cell SH K1 s.heap.size aC (am_new σ0 0) 0 := by
    simp only [am_cell, SH_0, am_new]
    simp
  rw [am_ws_push (SH := SH) (KF := K1) (b := s.heap.size) (aC := aC) (n := 0) (σ := σ0) (τ := am_new σ0 0) w1 (fun i hi => am_new_ne (by omega))] at p1
  refine lv_dup hx hb dL_law_3 rfl ?_
  refine am_size (n0 := 0) (n := 1) p1 s1 rfl (Nat.zero_le _) rfl fun hz1 => ?_
  have hsp1 : sX11_init [.ref 0] 1 (am_new σ0 0) (fun v τ => v = none ∧ FB 0 τ ∧ FS τ ∧ FL τ) := ⟨rfl, rfl, fun k => by simp [am_new], fun τ a1 a2 a3 => ⟨rfl, a1, a2, a3⟩⟩
  refine am_call (n1 := 51) (post := (fun v τ => v = none ∧ FB 0 τ ∧ FS τ ∧ FL τ)) (va_runI (As := []) (rest := [.ref (s.heap.size + 0)]) (n := 0) fx (mX11_init l D aC s.heap.size 1 _ _ _ hsp1 (by decide +kernel)) ⟨⟨rfl, rfl, by show 10 + 1 ≤ 2048; decide, by show 8 + (1 + 11) + 64 * 10 ≤ 84000; decide, am_words hts (tb_at 128 (by decide +kernel) (by decide +kernel)), am_code_in, hts _ (tb_at 128 (by decide +kernel) (by decide +kernel)), hts _ (tb_at 103 (by decide +kernel) (by decide +kernel)), ⟨by decide +kernel, by decide +kernel⟩, am_sig (na := 0) (by decide +kernel), hts _ (tb_at 126 (by decide +kernel) (by decide +kernel))⟩, rfl, hts _ (tb_at 127 (by decide +kernel) (by decide +kernel))⟩ ⟨am_blind (as := [.ref 0]), am_pre (as := [.ref 0]) hz1 p1 hK hN s1⟩ rfl rfl hl.1 rfl (lv_room (Nat.le_of_ble_eq_true rfl)) dL_law_4 (by decide +kernel)) s1 (fun v τ1 H2 locs2 hv p2 s2 => ?_)
  obtain ⟨rfl, hF, hFS, hFL⟩ := hv
  refine lv_astore_n (lv' := [(1, .ref (s.heap.size + 0)), (0, .ref b)]) hx hb dL_law_7 rfl hl (by decide) rfl (fun lc hl => ?_)
  refine am_size (n0 := 0) (n := 51) p2 s2 rfl (Nat.zero_le _) rfl fun hz2 => ?_
  have hD2 : va_D (fun q : Nat => s.heap.size ≤ q) (am_ws SH K2 s.heap.size aC 51 τ1) := am_ws_D
  refine va_new (D := D) (cl := vwCl) (ci := 12) (fs := (am_fs (K2 51) (fun _ => 0) (fun _ => 0)).map (am_c s.heap.size)) (C := RX12) (T := TX12) (N := 63) hx hb hts (hG2.1 12 _ rfl).1 (tyc2 12) (hG2.1 12 _ rfl).2.1 hown (hts _ (tb_at 1291 (by decide +kernel) (by decide +kernel))) (hts _ (tb_at 1292 (by decide +kernel) (by decide +kernel))) (hts _ (tb_at 120 (by decide +kernel) (by decide +kernel))) hK p2 hD2 s2 hA rfl (fun j hj => am_new_fs (K2 51) (by decide +kernel) s.heap.size (tyc2 12) j hj (by
      obtain ⟨w', hc', hlK, hkk⟩ := hG2.2.1 51 12 rfl
      exact hkk)) (by decide) (by decide +kernel) dL_law_8 (fun q H3 p3 dd3 s3 => ?_)
  refine am_addr (n0 := 0) (n := 51) p3 dd3 rfl (Nat.zero_le _) fun ha => ?_
  subst ha
  have w3 : (.inr (12, (am_fs (K2 51) (fun _ => 0) (fun _ => 0)).map (am_c s.heap.size)) : va_E) = am_cell SH K2 s.heap.size aC (am_new τ1 51) 51 := by
    simp only [am_cell, SH_51, am_new]
    simp
  rw [am_ws_push (SH := SH) (KF := K2) (b := s.heap.size) (aC := aC) (n := 51) (σ := τ1) (τ := am_new τ1 51) w3 (fun i hi => am_new_ne (by omega))] at p3
  refine lv_dup hx hb dL_law_11 rfl ?_
  refine am_size (n0 := 0) (n := 52) p3 s3 rfl (Nat.zero_le _) rfl fun hz3 => ?_
  have hsp2 : sX12_init [.ref 51] 52 (am_new τ1 51) (fun v τ => v = none ∧ FM 0 τ ∧ τ.1 87 0 = Int32.ofInt 0 ∧ Lo (am_new τ1 51) τ) := ⟨rfl, rfl, fun k => by simp [am_new], fun τ a1 a2 a3 => ⟨rfl, a1, a2, a3⟩⟩
  refine am_call (n1 := 92) (post := (fun v τ => v = none ∧ FM 0 τ ∧ τ.1 87 0 = Int32.ofInt 0 ∧ Lo (am_new τ1 51) τ)) (va_runI (As := []) (rest := [.ref (s.heap.size + 51)]) (n := 0) fx (mX12_init l D aC s.heap.size 52 _ _ _ hsp2 (by decide +kernel)) ⟨⟨rfl, rfl, by show 4 + 1 ≤ 2048; decide, by show 8 + (1 + 11) + 64 * 4 ≤ 84000; decide, am_words hts (tb_at 1295 (by decide +kernel) (by decide +kernel)), am_code_in, hts _ (tb_at 1295 (by decide +kernel) (by decide +kernel)), hts _ (tb_at 120 (by decide +kernel) (by decide +kernel)), ⟨by decide +kernel, by decide +kernel⟩, am_sig (na := 0) (by decide +kernel), hts _ (tb_at 1293 (by decide +kernel) (by decide +kernel))⟩, rfl, hts _ (tb_at 1294 (by decide +kernel) (by decide +kernel))⟩ ⟨am_blind (as := [.ref 51]), am_pre (as := [.ref 51]) hz3 p3 hK hN s3⟩ rfl rfl hl.1 rfl (lv_room (Nat.le_of_ble_eq_true rfl)) dL_law_12 (by decide +kernel)) s3 (fun v τ2 H4 locs4 hv p4 s4 => ?_)
  obtain ⟨rfl, hM, hPr, hLo⟩ := hv
  refine lv_astore_n (lv' := [(2, .ref (s.heap.size + 51)), (1, .ref (s.heap.size + 0)), (0, .ref b)]) hx hb dL_law_15 rfl hl (by decide) rfl (fun lc hl => ?_)
  refine lv_iconst (v := 0) hx hb dL_law_16 (by decide) ?_
  refine lv_istore_n (lv' := [(3, .int 0), (2, .ref (s.heap.size + 51)), (1, .ref (s.heap.size + 0)), (0, .ref b)]) hx hb dL_law_17 rfl hl (by decide) rfl (fun lc hl => ?_)
  have hsame : ∀ o, o < 51 → ∀ k, τ2.1 o k = τ1.1 o k := fun o ho k => (hLo o ho k).1.trans (if_neg (by omega))
  have hsl : am_sz SH KF 92 - am_sz SH KF 0 = 0 + 14 + 6942 + 63 + 11824 := by decide +kernel
  have go := lw_loop (l := l) (e := e) (below := below) C hr hlocks hL (FB_of (fun o k hd => hsame o (FBd_lt hd) k) hF) ⟨(hsame _ (by decide) _).trans hFS.1, (hsame _ (by decide) _).trans hFS.2.1, (hsame _ (by decide) _).trans hFS.2.2⟩ (FL_lt hsame hFL) hM hPr p4 s4 hl
  rw [hsl] at go
  exact go
