section
variable {p : Program} {l : Launch} {e : Env} {R : Room} {s : State} {m : MethodId} {args : Array Value} {below : List Frame} {meth : Method} {c : Code} {cl : List vw_C} {TB NB : List Cond} {D : va_G} {aC : Nat → ClassId} {b n0 ne nL : Nat} {cc : ByteArray} {own : String} {X : am_X} {KQ : am_Kf} {post : Option Value → am_S → Prop}
theorem am_cats {b : Nat} (r : List Value) : ((r.map (am_c b)).map fun v => v.category) = r.map fun v => v.category := by
  rw [List.map_map]
  apply List.map_congr_left
  intro v _
  exact am_c_cat b v
theorem am_blind {SH : am_Sh} {KF : am_Kf} {n : Nat} {as : List Value} {σ : am_S} : FrameBlind (am_Pc cl NB SH KF D aC b n as σ) := fun a U g mk q => by
  obtain ⟨q0, q1, qP, qK, qN⟩ := q
  exact ⟨q0, q1, qP, va_K.moved (u := U) (U := U.calling g mk a) (Vm.Alike.refl U.vm) qK, fun a' i x h hm => va_Nw.same (u := U) (U := U.calling g mk a) rfl rfl (qN.1 a' i x h hm), qN.2.blind (u := U) (U := U.calling g mk a) rfl rfl⟩
theorem am_pre {SH : am_Sh} {KF : am_Kf} {n : Nat} {as : List Value} {σ : am_S} {H : Heap} (hz : H.size = b + n) (hP : va_P D cl (am_ws SH KF b aC n σ) H) (hK : va_K D cl (am_tys aC) s) (hN : am_Nw NB b s) {locs : List Loc} (hS : va_S (fun q => b ≤ q) s.heap H locs) : ∀ U : State, U.heap = H → s.WarmedH U.vm → am_Pc cl NB SH KF D aC b n as σ (as.map (am_c b)).toArray U :=
  fun U hU hW => ⟨rfl, by rw [hU]; exact hz, by rw [hU]; exact hP, va_K.moved hW.alike hK, fun a' i x h hm => (hN.1 a' i x h hm).warmM hW, hN.2.go (by rw [hU]; exact hS) hW⟩
theorem am_words (hts : ∀ w ∈ TB, w.before args s = true) {y : MethodName} {bytes : ByteArray} {maxL : Nat} {ret : Option FieldType} (hc : Cond.code y bytes maxL ret ∈ TB) : ∀ w ∈ Cond.code y bytes maxL ret :: am_gb TB, ∀ (a' : Array Value) (U : State), s.WarmedH U.vm → w.before a' U = true := by
  intro w hw a' U hW
  rcases List.mem_cons.mp hw with rfl | hw
  · exact word_at hW (Or.inl (by first | rfl | simp [Cond.onTables, Cond.keeps, Cond.steady])) (hts _ hc)
  · obtain ⟨h1, h2⟩ := List.mem_filter.mp hw
    exact word_at hW (good_of_word h2) (hts _ h1)
theorem am_code_in {y : MethodName} {bytes : ByteArray} {maxL : Nat} {ret : Option FieldType} : Cond.code y bytes maxL ret ∈ Cond.code y bytes maxL ret :: am_gb TB := List.mem_cons_self
theorem am_sig {y : MethodName} {na : Nat} (h : (parseMethodDescriptor y.desc).map (fun d => d.parameters.length) = some na) : ∀ sig, parseMethodDescriptor y.desc = some sig → na = sig.parameters.length := by
  intro sig hs
  rw [hs] at h
  exact (Option.some.inj h).symm
theorem am_rcV {kind cls n : Nat} {SH : am_Sh} {as : List Value} (h : am_rc kind cls n SH as) (h1 : ¬ kind = 1) (h4 : ¬ kind = 4) : ∃ o As, as = .ref o :: As ∧ o < n ∧ SH o = .inl cls := by
  unfold am_rc at h
  split at h
  · exact absurd rfl h1
  · exact absurd rfl h4
  · split at h
    · exact ⟨_, _, rfl, h.1, h.2⟩
    · exact h.elim
theorem am_split {stk : List Value} {k : Nat} {as : List Value} (h : (stk.take k).reverse = as) : stk = as.reverse ++ stk.drop k := by
  rw [← h, List.reverse_reverse, List.take_append_drop]
theorem am_len_as {stk : List Value} {k : Nat} (h : k ≤ stk.length) : (stk.take k).reverse.length = k := by
  rw [List.length_reverse, List.length_take]; omega
/-- the instructions that call -/
theorem am_callI {i : Instr} {len pc : Nat} {ls : List (Option Value)} {stk : List Value} {n : Nat} {σ : am_S} {K : Nat → List (Option Value) → List Value → Nat → am_S → Prop} (C : am_C p l R s m args meth c cl TB NB D aC b n0 ne nL cc own X KQ) (hdg : decode cc pc = .ok (i, len))
    (hK : ∀ pc ls stk n σ, K pc ls stk n σ → am_A p l e R s m args below meth c cl D aC b n0 ne nL X KQ post pc ls stk n σ)
    (hbig : match i with
      | .invokevirtual _ => True
      | .invokestatic _ => True
      | .invokespecial _ => True
      | _ => False)
    (h : am_one X ne post i len pc ls stk n σ K) : am_A p l e R s m args below meth c cl D aC b n0 ne nL X KQ post pc ls stk n σ := by
  obtain ⟨hx, hb, hml, hown, hts, hnb, hKn, hlocks, hsz, hret, ⟨d, hd, hR, hO⟩, tyc, hG⟩ := C
  intro hn hne hlen H locs lc hP hS hl
  have hfr1 : 1 ≤ R.frames := by rw [hR]; exact hd
  have hloc : 64 ≤ R.locals := by rw [hR]; show 64 ≤ 64 * d; omega
  have hcs : n - n0 ≤ R.cells := by rw [hR]; show n - n0 ≤ ne - n0; omega
  have hss : am_sz (am_SH X) (am_KF X) n - am_sz (am_SH X) (am_KF X) n0 ≤ R.slots := by rw [hR]; show _ ≤ am_sz (am_SH X) (am_KF X) ne - am_sz (am_SH X) (am_KF X) n0; have := am_sz_le (SH := am_SH X) (KF := am_KF X) hne; omega
  have fx : CallFix p m c cc nL s args TB own := ⟨hx, hb, hml, hown, hts⟩
  have hz2 : am_sz (am_SH X) (am_KF X) n0 ≤ am_sz (am_SH X) (am_KF X) n := am_sz_le hn
  refine am_size hP hS hsz hn rfl fun hzH => ?_
  -- a call that makes cells: what the caller's room has for it
  have room : ∀ mc ms : Nat, n + mc ≤ ne → am_sz (am_SH X) (am_KF X) (n + mc) = am_sz (am_SH X) (am_KF X) n + ms → n - n0 + mc ≤ R.cells ∧ am_sz (am_SH X) (am_KF X) n - am_sz (am_SH X) (am_KF X) n0 + ms ≤ R.slots := by
    intro mc ms g1 g2
    have := am_sz_le (SH := am_SH X) (KF := am_KF X) g1
    constructor
    · rw [hR]; show _ ≤ ne - n0; omega
    · rw [hR]; show _ ≤ am_sz (am_SH X) (am_KF X) ne - am_sz (am_SH X) (am_KF X) n0; omega
  have back : ∀ (mc ms k : Nat), n + mc ≤ ne → am_sz (am_SH X) (am_KF X) (n + mc) = am_sz (am_SH X) (am_KF X) n + ms → ∀ (v : Option Value) (τ : am_S) (H1 : Heap) (locs1 : List Loc), K (pc + 3) ls (v.toList ++ stk.drop k) (n + mc) τ → va_P D cl (am_ws (am_SH X) (am_KF X) b aC (n + mc) τ) H1 → va_S (fun q => b ≤ q) s.heap H1 locs1 →
      W p l e R s m args below meth c H1 locs1 (n - n0 + mc) (am_sz (am_SH X) (am_KF X) n - am_sz (am_SH X) (am_KF X) n0 + ms) (MQ below (am_Qc cl (am_SH X) KQ D aC b ne post) args s (ne - n0) (am_sz (am_SH X) (am_KF X) ne - am_sz (am_SH X) (am_KF X) n0) (fun q => b ≤ q)) (F0 m (pc + 3) lc ((v.map (am_c b)).toList ++ (stk.drop k).map (am_c b))) := by
    intro mc ms k g1 g2 v τ H1 locs1 g3 g4 g5
    have g6 := hK _ _ _ _ _ g3 (by omega) g1 hlen H1 locs1 lc g4 g5 hl
    rw [show n + mc - n0 = n - n0 + mc by omega, show am_sz (am_SH X) (am_KF X) (n + mc) - am_sz (am_SH X) (am_KF X) n0 = am_sz (am_SH X) (am_KF X) n - am_sz (am_SH X) (am_KF X) n0 + ms by omega] at g6
    have g7 : (v.toList ++ stk.drop k).map (am_c b) = (v.map (am_c b)).toList ++ (stk.drop k).map (am_c b) := by cases v <;> simp
    rw [g7] at g6
    exact g6
  cases i
  case invokevirtual ix =>
    obtain ⟨h0, h⟩ := h
    cases hN : am_find (am_NT X) ix with
    | some w =>
      rw [hN] at h
      exfalso
      have h : am_nat w 2 stk n (am_SH X) σ (fun st σ1 => K (pc + 3) ls st n σ1) := h
      unfold am_nat at h
      split at h <;> first | (rename_i e2; cases e2) | exact h
    | none =>
      rw [hN] at h
      obtain ⟨q, hq, h1, h2, h3, h4, h5, h6, h7⟩ := am_opt_iff.mp h
      obtain ⟨y, bytes, maxL, rt, dd, na, hM, hdd, hmx, hcode, hini, hd3, hkind⟩ := hO.2.2.2.2.2.2 _ (am_find_mem hq)
      obtain ⟨k, na1, cls, mc, ms, sp⟩ := q
      have hk : k = 0 := by
        have : k = 0 ∨ k = 3 := h1
        rcases this with z | z
        · exact z
        · subst z; exact hkind.elim
      subst hk
      obtain ⟨e1, hlink, hinst, r, hr, hsel⟩ := hkind
      obtain ⟨o, As, e2, ho, hso⟩ := am_rcV h3 (fun z => by cases (show (0 : Nat) = 1 from z)) (fun z => by cases (show (0 : Nat) = 4 from z))
      have e3 := am_split e2
      have hl3 := am_len_as h2
      rw [e2] at hl3
      have hstk : stk.map (am_c b) = (As.map (am_c b)).reverse ++ .ref (b + o) :: (stk.drop na1).map (am_c b) := by
        have e4 : stk.map (am_c b) = ((Value.ref o :: As).reverse ++ stk.drop na1).map (am_c b) := by rw [← e3]
        rw [e4]; simp [am_c]
      have hMet := hM D aC b n _ σ _ h7 h6
      rw [e2] at hMet
      rw [hstk]
      exact am_call (va_runV (As := As.map (am_c b)) (rest := (stk.drop na1).map (am_c b)) (C := r.1) (n := na) fx hMet ⟨⟨rfl, rfl, by rw [hR]; exact hdd, by rw [hR]; show 8 + (maxL + 11) + 64 * dd ≤ 64 * d; omega, am_words hts hcode, am_code_in, hts _ hcode, hts _ hini, ⟨hd3.1, hd3.2.1⟩, am_sig hd3.2.2, hts _ hlink⟩, hts _ hinst, hts _ hsel⟩
        ⟨am_blind, va_recv hKn hP hr (am_ws_obj ho hso), am_pre hzH hP hKn hnb hS⟩ rfl (by rw [List.length_map]; simp at hl3; simp at e1; omega) hl.1 rfl (lv_room (by rw [am_cats]; exact h4)) (by rw [hdg, h0]) (room _ _ h5 h6)) hS (back _ _ na1 h5 h6)
  case invokestatic ix =>
    obtain ⟨h0, h⟩ := h
    cases hN : am_find (am_NT X) ix with
    | some w =>
      rw [hN] at h
      have hNO := hO.2.2.2.2.2.1 _ (am_find_mem hN)
      have h : am_nat w 1 stk n (am_SH X) σ (fun st σ1 => K (pc + 3) ls st n σ1) := h
      unfold am_nat at h
      split at h
      · obtain ⟨x, y, r, rfl, h1, h2⟩ := am_2_iff h
        obtain ⟨g1, g2, g3, g4⟩ := hNO
        exact va_mmax hx hb (hml.trans hl.1.symm) hown (hts _ g1) (hts _ g2) (hts _ g3) (hts _ g4) hfr1 (by rw [am_cats]; omega) hcs hss (by rw [hdg, h0]) (hK _ _ _ _ _ h2 hn hne hlen H locs lc hP hS hl)
      · obtain ⟨x, y, r, rfl, h1, h2⟩ := am_2_iff h
        obtain ⟨g1, g2, g3, g4⟩ := hNO
        exact va_mmin hx hb (hml.trans hl.1.symm) hown (hts _ g1) (hts _ g2) (hts _ g3) (hts _ g4) hfr1 (by rw [am_cats]; omega) hcs hss (by rw [hdg, h0]) (hK _ _ _ _ _ h2 hn hne hlen H locs lc hP hS hl)
      · obtain ⟨x, r, rfl, h1, h2⟩ := am_1_iff h
        obtain ⟨g1, g2, g3, g4⟩ := hNO
        exact va_mabs hx hb (hml.trans hl.1.symm) hown (hts _ g1) (hts _ g2) (hts _ g3) (hts _ g4) hfr1 (by rw [am_cats]; omega) hcs hss (by rw [hdg, h0]) (hK _ _ _ _ _ h2 hn hne hlen H locs lc hP hS hl)
      · rename_i e2; cases e2
      · split at h
        · rename_i mm dp dst sp src r _
          obtain ⟨h1, h2, h3⟩ := h
          obtain ⟨q, hs, h4, h5⟩ := am_arr_iff h3
          obtain ⟨q2, hs2, h6, h7, h8, h9, h10, h11, h12, h13⟩ := am_arr_iff h5
          obtain ⟨g1, g2, g3, g4⟩ := hNO
          refine va_copyi (D := D) (cl := cl) (ty := .int) hx hb (hml.trans hl.1.symm) hown (hts _ g1) (hts _ g2) (hts _ g3) (hts _ g4) hKn hP am_ws_D hS src dst 0 0 (am_ws_arr h1 hs (by omega)) (am_ws_arr h2 hs2 (by omega)) (by rw [h4]; rfl) (by rw [h6]; rfl) rfl h7 h8 h9 h10 h11 (fun _ _ => rfl) hfr1 ?_ (by rw [hdg, h0]) (fun H1 locs1 p1 d1 s1 => ?_)
          · rw [am_cats]
            have : nativeFrameWords "java/lang/System" "arraycopy" 5 = 7 := by decide +kernel
            omega
          · rw [am_ws_set (τ := (fun o' k' => if o' = dst then va_cpy (σ.1 src) (σ.1 dst) sp.toNatClampNeg dp.toNatClampNeg mm.toNatClampNeg k' else σ.1 o' k', σ.2)) h2 ?_ ?_] at p1
            · exact hK _ _ _ _ _ h13 hn hne hlen H1 locs1 lc p1 s1 hl
            · simp [am_cell, hs2, h6]
            · intro i hi
              have e5 : (fun k' => if i = dst then va_cpy (σ.1 src) (σ.1 dst) sp.toNatClampNeg dp.toNatClampNeg mm.toNatClampNeg k' else σ.1 i k') = σ.1 i := by funext j; simp [hi]
              simp only [am_cell, e5]
        · exact h.elim
      · exact h.elim
    | none =>
      rw [hN] at h
      obtain ⟨q, hq, h1, h2, h3, h4, h5, h6, h7⟩ := am_opt_iff.mp h
      obtain ⟨y, bytes, maxL, rt, dd, na, hM, hdd, hmx, hcode, hini, hd3, hkind⟩ := hO.2.2.2.2.2.2 _ (am_find_mem hq)
      obtain ⟨k, na1, cls, mc, ms, sp⟩ := q
      have hl3 := am_len_as h2
      have e3 := am_split (stk := stk) (k := na1) rfl
      have hstk : stk.map (am_c b) = (((stk.take na1).reverse).map (am_c b)).reverse ++ (stk.drop na1).map (am_c b) := by
        have e4 : stk.map (am_c b) = (((stk.take na1).reverse).reverse ++ stk.drop na1).map (am_c b) := by rw [← e3]
        rw [e4, List.map_append, List.map_reverse]
      have hMet := hM D aC b n _ σ _ h7 h6
      have hk : k = 1 ∨ k = 4 := h1
      rcases hk with rfl | rfl
      · obtain ⟨e1, hlink, hstat⟩ := hkind
        rw [hstk]
        exact am_call (va_runS (As := ((stk.take na1).reverse).map (am_c b)) (rest := (stk.drop na1).map (am_c b)) (n := na) fx hMet ⟨⟨rfl, rfl, by rw [hR]; exact hdd, by rw [hR]; show 8 + (maxL + 11) + 64 * dd ≤ 64 * d; omega, am_words hts hcode, am_code_in, hts _ hcode, hts _ hini, ⟨hd3.1, hd3.2.1⟩, am_sig hd3.2.2, hts _ hlink⟩, hts _ hstat⟩
          ⟨am_blind, am_pre hzH hP hKn hnb hS⟩ rfl (by rw [List.length_map, hl3]; exact e1) hl.1 rfl (lv_room (by rw [am_cats]; exact h4)) (by rw [hdg, h0]) (room _ _ h5 h6)) hS (back _ _ na1 h5 h6)
      · obtain ⟨e1, ⟨host, hlink⟩, hstat⟩ := hkind
        rw [hstk]
        exact am_call (va_runSN (As := ((stk.take na1).reverse).map (am_c b)) (rest := (stk.drop na1).map (am_c b)) (n := na) fx hMet ⟨⟨⟨rfl, rfl, by rw [hR]; exact hdd, by rw [hR]; show 8 + (maxL + 11) + 64 * dd ≤ 64 * d; omega, am_words hts hcode, am_code_in⟩, hts _ hcode, hts _ hini, ⟨hd3.1, hd3.2.1⟩, am_sig hd3.2.2, va_Nw.use rfl (hnb.1 _ _ _ _ hlink)⟩, hts _ hstat, trivial⟩
          ⟨am_blind, am_pre hzH hP hKn hnb hS⟩ rfl (by rw [List.length_map, hl3]; exact e1) hl.1 rfl (lv_room (by rw [am_cats]; exact h4)) (by rw [hdg, h0]) (room _ _ h5 h6)) hS (back _ _ na1 h5 h6)
  case invokespecial ix =>
    obtain ⟨h0, h⟩ := h
    cases hN : am_find (am_NT X) ix with
    | some w =>
      rw [hN] at h
      have hNO := hO.2.2.2.2.2.1 _ (am_find_mem hN)
      have h : am_nat w 0 stk n (am_SH X) σ (fun st σ1 => K (pc + 3) ls st n σ1) := h
      unfold am_nat at h
      split at h
      · rename_i e2; cases e2
      · rename_i e2; cases e2
      · rename_i e2; cases e2
      · obtain ⟨x, r, rfl, h1, h2⟩ := am_1a_iff h
        obtain ⟨g1, g2, g3⟩ := hNO
        refine W.objInit hx hb hown (hts _ g1) (hts _ g2) (hts _ g3) rfl (by rw [hml]; exact hl.1) rfl (by rw [hdg, h0]) hfr1 ?_ (hK _ _ _ _ _ h2 hn hne hlen H locs lc hP hS hl)
        show 2 * 0 + _ + 12 ≤ _
        rw [am_cats]
        omega
      · rename_i e2; cases e2
      · exact h.elim
    | none =>
      rw [hN] at h
      obtain ⟨q, hq, h1, h2, h3, h4, h5, h6, h7⟩ := am_opt_iff.mp h
      obtain ⟨y, bytes, maxL, rt, dd, na, hM, hdd, hmx, hcode, hini, hd3, hkind⟩ := hO.2.2.2.2.2.2 _ (am_find_mem hq)
      obtain ⟨k, na1, cls, mc, ms, sp⟩ := q
      have hk : k = 2 ∨ k = 5 := h1
      obtain ⟨o, As, e2, ho, hso⟩ := am_rcV h3 (fun z => by have z1 : k = 1 := z; omega) (fun z => by have z1 : k = 4 := z; omega)
      have e3 := am_split e2
      have hl3 := am_len_as h2
      rw [e2] at hl3
      have hstk : stk.map (am_c b) = (As.map (am_c b)).reverse ++ .ref (b + o) :: (stk.drop na1).map (am_c b) := by
        have e4 : stk.map (am_c b) = ((Value.ref o :: As).reverse ++ stk.drop na1).map (am_c b) := by rw [← e3]
        rw [e4]; simp [am_c]
      have hMet := hM D aC b n _ σ _ h7 h6
      rw [e2] at hMet
      rcases hk with rfl | rfl
      · obtain ⟨e1, hlink, hinst, hnm, rfl⟩ := hkind
        rw [hstk]
        exact am_call (va_runI (As := As.map (am_c b)) (rest := (stk.drop na1).map (am_c b)) (n := na) fx hMet ⟨⟨rfl, rfl, by rw [hR]; exact hdd, by rw [hR]; show 8 + (maxL + 11) + 64 * dd ≤ 64 * d; omega, am_words hts hcode, am_code_in, hts _ hcode, hts _ hini, ⟨hd3.1, hd3.2.1⟩, am_sig hd3.2.2, hts _ hlink⟩, hnm, hts _ hinst⟩
          ⟨am_blind, am_pre hzH hP hKn hnb hS⟩ rfl (by rw [List.length_map]; simp at hl3; simp at e1; omega) hl.1 rfl (lv_room (by rw [am_cats]; exact h4)) (by rw [hdg, h0]) (room _ _ h5 h6)) hS (back _ _ na1 h5 h6)
      · obtain ⟨e1, ⟨host, hlink⟩, hinst, hnm, rfl⟩ := hkind
        rw [hstk]
        exact am_call (va_runIN (As := As.map (am_c b)) (rest := (stk.drop na1).map (am_c b)) (n := na) fx hMet ⟨⟨⟨rfl, rfl, by rw [hR]; exact hdd, by rw [hR]; show 8 + (maxL + 11) + 64 * dd ≤ 64 * d; omega, am_words hts hcode, am_code_in⟩, hts _ hcode, hts _ hini, ⟨hd3.1, hd3.2.1⟩, am_sig hd3.2.2, va_Nw.use rfl (hnb.1 _ _ _ _ hlink)⟩, hnm, hts _ hinst⟩
          ⟨am_blind, am_pre hzH hP hKn hnb hS⟩ rfl (by rw [List.length_map]; simp at hl3; simp at e1; omega) hl.1 rfl (lv_room (by rw [am_cats]; exact h4)) (by rw [hdg, h0]) (room _ _ h5 h6)) hS (back _ _ na1 h5 h6)
  all_goals exact False.elim hbig
end
