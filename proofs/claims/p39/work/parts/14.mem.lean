section
variable {p : Program} {l : Launch} {e : Env} {R : Room} {s : State} {m : MethodId} {args : Array Value} {below : List Frame} {meth : Method} {c : Code} {cl : List vw_C} {TB NB : List Cond} {D : va_G} {aC : Nat → ClassId} {b n0 ne nL : Nat} {cc : ByteArray} {own : String} {X : am_X} {KQ : am_Kf} {post : Option Value → am_S → Prop}
theorem am_nth {aC : Nat → ClassId} {k : Nat} {ty : ArrayType} (h : am_ty k = some ty) : (am_tys aC)[k]? = some (aC k, newarray.typeOf ty) := by
  match k, h with
  | 0, h => cases h; rfl
  | 1, h => cases h; rfl
  | 2, h => cases h; rfl
  | 3, h => cases h; rfl
  | k + 4, h => simp [am_ty] at h
/-- the instructions that read and write cells -/
theorem am_mem {i : Instr} {len pc : Nat} {ls : List (Option Value)} {stk : List Value} {n : Nat} {σ : am_S} {K : Nat → List (Option Value) → List Value → Nat → am_S → Prop} (C : am_C p l R s m args meth c cl TB NB D aC b n0 ne nL cc own X KQ) (hdg : decode cc pc = .ok (i, len))
    (hK : ∀ pc ls stk n σ, K pc ls stk n σ → am_A p l e R s m args below meth c cl D aC b n0 ne nL X KQ post pc ls stk n σ)
    (hbig : match i with
      | .getfield _ => True
      | .putfield _ => True
      | .arraylength => True
      | .iaload => True
      | .baload => True
      | .laload => True
      | .iastore => True
      | .bastore => True
      | .lastore => True
      | _ => False)
    (h : am_one X ne post i len pc ls stk n σ K) : am_A p l e R s m args below meth c cl D aC b n0 ne nL X KQ post pc ls stk n σ := by
  obtain ⟨hx, hb, hml, hown, hts, hnb, hKn, hlocks, hsz, hret, ⟨d, hd, hR, hO⟩, tyc, hG⟩ := C
  intro hn hne hlen H locs lc hP hS hl
  have hD : va_D (fun q => b ≤ q) (am_ws (am_SH X) (am_KF X) b aC n σ) := am_ws_D
  cases i
  case getfield ix =>
    obtain ⟨o, r, rfl, ho, h2⟩ := am_1a_iff h.2
    obtain ⟨q, hq, hs, h3⟩ := am_opt_iff.mp h2
    obtain ⟨kd, hkd, h4⟩ := am_opt_iff.mp h3
    obtain ⟨w, hc, hk, hlink⟩ := hO.1 _ (am_find_mem hq)
    exact va_get (D := D) (cl := cl) (C := w.1) (T := w.2.1) (N := w.2.2) hx hb hts (hG.1 _ _ hc).1 hown hKn hP o (am_ws_obj ho hs) hc q.2 hk (hts _ hlink) (fun _ h9 => h9) (v := am_c b (am_av kd (σ.1 o q.2) (σ.2 o q.2))) (by rw [List.getElem?_map, am_fs_at _ _ hkd]; rfl) (by rw [hdg, h.1]) (hK _ _ _ _ _ h4 hn hne hlen H locs lc hP hS hl)
  case putfield ix =>
    obtain ⟨v, r1, rfl, h1⟩ := am_v_iff h.2
    obtain ⟨o, r, rfl, ho, h2⟩ := am_1a_iff h1
    obtain ⟨q, hq, hs, h3⟩ := am_opt_iff.mp h2
    obtain ⟨kd, hkd, h4⟩ := am_opt_iff.mp h3
    obtain ⟨w, hc, hk, hlink, hfin⟩ := hO.2.1 _ (am_find_mem hq)
    obtain ⟨τ, h5, h6, h7, h8, h9, h10⟩ := am_pf_ok (SH := am_SH X) (KF := am_KF X) (b := b) (aC := aC) h4
    obtain ⟨w', hc', hlK, hkk⟩ := hG.2.1 _ _ hs
    have hww : w' = w := Option.some.inj (hc'.symm.trans hc)
    subst hww
    obtain ⟨h11, h12⟩ := h10 _ (hkk _ _ hkd)
    have hse : (.inr (q.1, ((am_fs (am_KF X o) (σ.1 o) (σ.2 o)).map (am_c b)).set q.2 (am_c b v)) : va_E) = am_cell (am_SH X) (am_KF X) b aC τ o := by
      have e1 : am_cell (am_SH X) (am_KF X) b aC τ o = .inr (q.1, (am_fs (am_KF X o) (τ.1 o) (τ.2 o)).map (am_c b)) := by simp [am_cell, hs]
      rw [e1, am_fs_set hkd h7 h8, h9, List.map_set]
    have hty := (hG.1 _ _ hc).2.1 q.2 hk
    have hlf : q.2 < ((am_fs (am_KF X o) (σ.1 o) (σ.2 o)).map (am_c b)).length := by rw [List.length_map, am_fs_len, hlK]; exact hk
    have kk : ∀ (H1 : Heap) (locs1 : List Loc), va_P D cl ((am_ws (am_SH X) (am_KF X) b aC n σ).set o (b + o, .inr (q.1, ((am_fs (am_KF X o) (σ.1 o) (σ.2 o)).map (am_c b)).set q.2 (am_c b v)))) H1 → va_D (fun q => b ≤ q) ((am_ws (am_SH X) (am_KF X) b aC n σ).set o (b + o, .inr (q.1, ((am_fs (am_KF X o) (σ.1 o) (σ.2 o)).map (am_c b)).set q.2 (am_c b v)))) → va_S (fun q => b ≤ q) s.heap H1 locs1 →
        W p l e R s m args below meth c H1 locs1 (n - n0) (am_sz (am_SH X) (am_KF X) n - am_sz (am_SH X) (am_KF X) n0) (MQ below (am_Qc cl (am_SH X) KQ D aC b ne post) args s (ne - n0) (am_sz (am_SH X) (am_KF X) ne - am_sz (am_SH X) (am_KF X) n0) (fun q => b ≤ q)) (F0 m (pc + 3) lc (r.map (am_c b))) := by
      intro H1 locs1 p1 p2 p3
      rw [am_ws_set ho hse h6] at p1
      exact hK _ _ _ _ _ h5 hn hne hlen H1 locs1 lc p1 p3 hl
    rcases hfin with hfin | ⟨hfin, hin, hdecl⟩
    · exact va_put (D := D) (cl := cl) (C := w'.1) (T := w'.2.1) (N := w'.2.2) hx hb hts (hG.1 _ _ hc).1 (tyc q.1) (hG.1 _ _ hc).2.1 (hG.1 _ _ hc).2.2 hown hKn hP hD hS o (am_ws_obj ho hs) hc q.2 hk (hts _ hlink) (fun _ h9 => h9) hfin hty h11 h12 hlf (by rw [hdg, h.1]) kk
    · exact va_putF (D := D) (cl := cl) (C := w'.1) (T := w'.2.1) (N := w'.2.2) hx hb hts (hG.1 _ _ hc).1 (tyc q.1) (hG.1 _ _ hc).2.1 (hG.1 _ _ hc).2.2 hown hKn hP hD hS o (am_ws_obj ho hs) hc q.2 hk (hts _ hlink) (fun _ h9 => h9) hfin hin hdecl hty h11 h12 hlf (by rw [hdg, h.1]) kk
  case arraylength =>
    obtain ⟨o, r, rfl, ho, h2⟩ := am_1a_iff h.2
    obtain ⟨q, hs, h3, h4⟩ := am_arr_iff h2
    have kk := hK _ _ _ _ _ h4 hn hne hlen H locs lc hP hS hl
    by_cases h5 : q.1 = 3
    · exact va_alen (D := D) (cl := cl) hx hb hKn hP o 3 (am_ws_arl ho hs h5) (ty := .long) rfl rfl (by rw [hdg, h.1]) kk
    · have h6 : q.1 = 0 ∨ q.1 = 1 ∨ q.1 = 2 := by omega
      rcases h6 with h6 | h6 | h6
      · exact va_alen (D := D) (cl := cl) hx hb hKn hP o 0 (am_ws_arr ho hs h5) (ty := .int) (by rw [h6]; rfl) rfl (by rw [hdg, h.1]) kk
      · exact va_alen (D := D) (cl := cl) hx hb hKn hP o 1 (am_ws_arr ho hs h5) (ty := .byte) (by rw [h6]; rfl) rfl (by rw [hdg, h.1]) kk
      · exact va_alen (D := D) (cl := cl) hx hb hKn hP o 2 (am_ws_arr ho hs h5) (ty := .boolean) (by rw [h6]; rfl) rfl (by rw [hdg, h.1]) kk
  case iaload =>
    obtain ⟨x, o, r, rfl, ho, h2⟩ := am_ix_iff h.2
    obtain ⟨q, hs, h3, h4, h5⟩ := am_arr_iff h2
    exact va_iald (D := D) (cl := cl) hx hb hKn hP o 0 (am_ws_arr ho hs (by omega)) (by rw [h3]; rfl) h4 (by rw [hdg, h.1]) (hK _ _ _ _ _ h5 hn hne hlen H locs lc hP hS hl)
  case baload =>
    obtain ⟨x, o, r, rfl, ho, h2⟩ := am_ix_iff h.2
    obtain ⟨q, hs, h3, h4, h5⟩ := am_arr_iff h2
    rcases h3 with h3 | h3
    · exact va_bald (D := D) (cl := cl) hx hb hKn hP o 1 (am_ws_arr ho hs (by omega)) (by rw [h3]; rfl) h4 (by rw [hdg, h.1]) (hK _ _ _ _ _ h5 hn hne hlen H locs lc hP hS hl)
    · exact va_zald (D := D) (cl := cl) hx hb hKn hP o 2 (am_ws_arr ho hs (by omega)) (by rw [h3]; rfl) h4 (by rw [hdg, h.1]) (hK _ _ _ _ _ h5 hn hne hlen H locs lc hP hS hl)
  case laload =>
    obtain ⟨x, o, r, rfl, ho, h2⟩ := am_ix_iff h.2
    obtain ⟨q, hs, h3, h4, h5⟩ := am_arr_iff h2
    exact va_lald (D := D) (cl := cl) hx hb hKn hP o 3 (am_ws_arl ho hs h3) rfl h4 (by rw [hdg, h.1]) (hK _ _ _ _ _ h5 hn hne hlen H locs lc hP hS hl)
  case iastore =>
    obtain ⟨v, r1, rfl, h1⟩ := am_1_iff h.2
    obtain ⟨x, o, r, rfl, ho, h2⟩ := am_ix_iff h1
    obtain ⟨q, hs, h3, h4, h5⟩ := am_arr_iff h2
    refine va_iast (D := D) (cl := cl) hx hb hKn hP hD hS o 0 (am_ws_arr ho hs (by omega)) (by rw [h3]; rfl) h4 (by rw [hdg, h.1]) fun H1 locs1 p1 p2 p3 => ?_
    rw [am_ws_set ho (am_upd_cell hs (by omega)) (fun i hi => am_pi_ne hi)] at p1
    exact hK _ _ _ _ _ h5 hn hne hlen H1 locs1 lc p1 p3 hl
  case bastore =>
    obtain ⟨v, r1, rfl, h1⟩ := am_1_iff h.2
    obtain ⟨x, o, r, rfl, ho, h2⟩ := am_ix_iff h1
    obtain ⟨q, hs, h3, h4, h5⟩ := am_arr_iff h2
    rcases h3 with h3 | h3
    · refine va_bast (D := D) (cl := cl) hx hb hKn hP hD hS o 1 (am_ws_arr ho hs (by omega)) (by rw [h3]; rfl) h4 (by rw [hdg, h.1]) fun H1 locs1 p1 p2 p3 => ?_
      rw [am_ws_set ho (am_upd_cell hs (by omega)) (fun i hi => am_pi_ne hi)] at p1
      rw [if_pos h3] at h5
      exact hK _ _ _ _ _ h5 hn hne hlen H1 locs1 lc p1 p3 hl
    · refine va_zast (D := D) (cl := cl) hx hb hKn hP hD hS o 2 (am_ws_arr ho hs (by omega)) (by rw [h3]; rfl) h4 (by rw [hdg, h.1]) fun H1 locs1 p1 p2 p3 => ?_
      rw [am_ws_set ho (am_upd_cell hs (by omega)) (fun i hi => am_pi_ne hi)] at p1
      rw [if_neg (by omega)] at h5
      exact hK _ _ _ _ _ h5 hn hne hlen H1 locs1 lc p1 p3 hl
  case lastore =>
    obtain ⟨v, r1, rfl, h1⟩ := am_1l_iff h.2
    obtain ⟨x, o, r, rfl, ho, h2⟩ := am_ix_iff h1
    obtain ⟨q, hs, h3, h4, h5⟩ := am_arr_iff h2
    refine va_last (D := D) (cl := cl) hx hb hKn hP hD hS o 3 (am_ws_arl ho hs h3) rfl h4 (by rw [hdg, h.1]) fun H1 locs1 p1 p2 p3 => ?_
    rw [am_ws_set ho (am_upd_celll hs h3) (fun i hi => am_pl_ne hi)] at p1
    exact hK _ _ _ _ _ h5 hn hne hlen H1 locs1 lc p1 p3 hl
  all_goals exact False.elim hbig
end
