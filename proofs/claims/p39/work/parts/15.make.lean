section
variable {p : Program} {l : Launch} {e : Env} {R : Room} {s : State} {m : MethodId} {args : Array Value} {below : List Frame} {meth : Method} {c : Code} {cl : List vw_C} {TB NB : List Cond} {D : va_G} {aC : Nat → ClassId} {b n0 ne nL : Nat} {cc : ByteArray} {own : String} {X : am_X} {KQ : am_Kf} {post : Option Value → am_S → Prop}
/-- where a new cell lies -/
theorem am_addr {SH : am_Sh} {KF : am_Kf} {H : Heap} {locs : List Loc} {n slots a : Nat} {en : va_E} {Q : State → Prop} {g : JFrame} {σ : am_S} (hP : va_P D cl (am_ws SH KF b aC n σ ++ [(a, en)]) H) (hD : va_D (fun q => b ≤ q) (am_ws SH KF b aC n σ ++ [(a, en)])) (hsz : s.heap.size = b + n0) (hn : n0 ≤ n) (k : a = b + n → W p l e R s m args below meth c H locs (n - n0 + 1) slots Q g) : W p l e R s m args below meth c H locs (n - n0 + 1) slots Q g := by
  intro T hT X
  refine k ?_ T hT X
  have h1 : T.heap.size ≤ s.heap.size + (n - n0 + 1) := X.heapSize
  rw [hT, hsz] at h1
  have hn' : (am_ws SH KF b aC n σ ++ [(a, en)])[n]? = some (a, en) := by
    rw [List.getElem?_append_right (by rw [am_ws_len]; exact Nat.le_refl _), am_ws_len, Nat.sub_self]; rfl
  have h2 : a < H.size := (hP n _ hn').lt
  have h3 : b ≤ a := hD.2 n _ hn'
  rcases Nat.lt_or_ge a (b + n) with q | q
  · exfalso
    have h4 : a - b < n := by omega
    have h5 : (am_ws SH KF b aC n σ ++ [(a, en)])[a - b]? = some (b + (a - b), am_cell SH KF b aC σ (a - b)) := by
      rw [List.getElem?_append_left (by rw [am_ws_len]; exact h4), am_ws_at h4]
    have h6 := hD.1 (a - b) n _ _ h5 hn' (by show b + (a - b) = a; omega)
    omega
  · omega
theorem am_new_fs : ∀ (kds : List Nat), kds.all (fun kd => decide (kd < 4)) = true → ∀ (b : Nat) (ty : Nat → FieldType) (j : Nat), j < kds.length → (∀ k kd, kds[k]? = some kd → min kd 3 = am_tk (ty k)) → defaultValue (ty j) = vp_V ((am_fs kds (fun _ => 0) (fun _ => 0)).map (am_c b)) j := by
  intro kds hall b ty j hj hk
  have h1 : kds[j]? = some kds[j] := List.getElem?_eq_getElem hj
  have h2 := hk _ _ h1
  have h3 : kds[j] < 4 := by
    have := List.all_eq_true.mp hall kds[j] (List.getElem_mem hj)
    simpa using this
  have h4 : vp_V ((am_fs kds (fun _ => 0) (fun _ => 0)).map (am_c b)) j = am_c b (am_av kds[j] 0 0) := by
    unfold vp_V
    rw [List.getD_eq_getElem?_getD, List.getElem?_map, am_fs_at _ _ h1]
    rfl
  rw [h4]
  have h5 : kds[j] = 0 ∨ kds[j] = 1 ∨ kds[j] = 2 ∨ kds[j] = 3 := by omega
  rcases h5 with h5 | h5 | h5 | h5 <;> rw [h5] at h2 ⊢ <;> cases hty : ty j <;> rw [hty] at h2 <;> first | rfl | (simp [am_tk] at h2)
/-- the instructions that make cells -/
theorem am_make {i : Instr} {len pc : Nat} {ls : List (Option Value)} {stk : List Value} {n : Nat} {σ : am_S} {K : Nat → List (Option Value) → List Value → Nat → am_S → Prop} (C : am_C p l R s m args meth c cl TB NB D aC b n0 ne nL cc own X KQ) (hdg : decode cc pc = .ok (i, len))
    (hK : ∀ pc ls stk n σ, K pc ls stk n σ → am_A p l e R s m args below meth c cl D aC b n0 ne nL X KQ post pc ls stk n σ)
    (hbig : match i with
      | .newarray _ => True
      | .new _ => True
      | _ => False)
    (h : am_one X ne post i len pc ls stk n σ K) : am_A p l e R s m args below meth c cl D aC b n0 ne nL X KQ post pc ls stk n σ := by
  obtain ⟨hx, hb, hml, hown, hts, hnb, hKn, hlocks, hsz, hret, ⟨d, hd, hR, hO⟩, tyc, hG⟩ := C
  intro hn hne hlen H locs lc hP hS hl
  have hD : va_D (fun q => b ≤ q) (am_ws (am_SH X) (am_KF X) b aC n σ) := am_ws_D
  have hA : ∀ q, s.heap.size ≤ q → (fun q => b ≤ q) q := fun q hq => by show b ≤ q; omega
  cases i
  case newarray ty =>
    obtain ⟨x, r, rfl, h1, h2⟩ := am_1_iff h.2
    obtain ⟨q, hs, h3, h4, h5, h6, h7⟩ := am_arr_iff h2
    have hz : am_sz (am_SH X) (am_KF X) (n + 1) = am_sz (am_SH X) (am_KF X) n + q.2 := by simp [am_sz, hs]
    have hz1 : am_sz (am_SH X) (am_KF X) (n + 1) ≤ am_sz (am_SH X) (am_KF X) ne := am_sz_le (by omega)
    have hz2 : am_sz (am_SH X) (am_KF X) n0 ≤ am_sz (am_SH X) (am_KF X) n := am_sz_le hn
    have hsub : am_sz (am_SH X) (am_KF X) (n + 1) - am_sz (am_SH X) (am_KF X) n0 = am_sz (am_SH X) (am_KF X) n - am_sz (am_SH X) (am_KF X) n0 + q.2 := by omega
    refine va_newa (D := D) (cl := cl) (tys := am_tys aC) (ty := newarray.typeOf ty) (N' := q.2) (a0 := (q.2, if q.1 = 3 then .inr (.inl (fun _ => 0)) else .inl (fun _ => 0))) hx hb (hts _ (hG.2.2 _ _ h3)) rfl hKn hP hD hS hA ?_ h4 h5 ?_ (by rw [hR]; show _ ≤ ne - n0; omega) (by rw [hR]; show _ ≤ am_sz (am_SH X) (am_KF X) ne - am_sz (am_SH X) (am_KF X) n0; omega) (by rw [hdg, h.1]) (fun a cA H1 k1 p1 d1 s1 => ?_)
    · intro cA
      match hq1 : q.1, h3 with
      | 0, h3 => cases h3; rfl
      | 1, h3 => cases h3; rfl
      | 2, h3 => cases h3; rfl
      | 3, h3 => cases h3; rfl
      | k + 4, h3 => simp [am_ty] at h3
    · have : componentBytes (newarray.typeOf ty) ≤ 8 := by cases ty <;> decide
      exact Nat.le_trans (Nat.mul_le_mul (Nat.le_of_lt h6) this) (by decide)
    · refine am_addr p1 d1 hsz hn fun ha => ?_
      subst ha
      have hcA : cA = aC q.1 := by
        have e1 := (k1.2 4 (cA, newarray.typeOf ty) (by rfl)).2
        have e2 := (hKn.2 q.1 _ (am_nth h3)).2
        cases ty <;> exact Option.some.inj (e1.symm.trans e2)
      subst hcA
      have h8 := hK _ _ _ _ _ h7 (by omega) (by omega) hlen H1 locs lc
      rw [show n + 1 - n0 = n - n0 + 1 by omega, hsub] at h8
      refine h8 ?_ s1 hl
      rw [am_ws_push (τ := am_new σ n) ?_ (fun i hi => am_new_ne (by omega))] at p1
      · exact p1
      · simp only [am_cell, hs, am_new]
        by_cases h9 : q.1 = 3
        · simp [h9]
        · simp [h9]
  case new ix =>
    obtain ⟨h1, h2, h3⟩ := h
    obtain ⟨ci, h4, hs, h5, h6⟩ := am_opt_iff.mp h3
    obtain ⟨w, hc, hcl, hins, hini⟩ := hO.2.2.1 _ (am_find_mem h4)
    obtain ⟨w', hc', hlK, hkk⟩ := hG.2.1 _ _ hs
    have hww : w' = w := Option.some.inj (hc'.symm.trans hc)
    subst hww
    have hz : am_sz (am_SH X) (am_KF X) (n + 1) = am_sz (am_SH X) (am_KF X) n + w'.2.2 := by simp [am_sz, hs, hlK]
    have hz1 : am_sz (am_SH X) (am_KF X) (n + 1) ≤ am_sz (am_SH X) (am_KF X) ne := am_sz_le (by omega)
    have hz2 : am_sz (am_SH X) (am_KF X) n0 ≤ am_sz (am_SH X) (am_KF X) n := am_sz_le hn
    have hsub : am_sz (am_SH X) (am_KF X) (n + 1) - am_sz (am_SH X) (am_KF X) n0 = am_sz (am_SH X) (am_KF X) n - am_sz (am_SH X) (am_KF X) n0 + w'.2.2 := by omega
    refine va_new (D := D) (cl := cl) (ci := ci) (fs := (am_fs (am_KF X n) (fun _ => 0) (fun _ => 0)).map (am_c b)) (C := w'.1) (T := w'.2.1) (N := w'.2.2) hx hb hts (hG.1 _ _ hc).1 (tyc ci) (hG.1 _ _ hc).2.1 hown (hts _ hcl) (hts _ hins) (hts _ hini) hKn hP hD hS hA hc (fun j hj => am_new_fs _ h5 b (tyc ci) j (by rw [hlK]; exact hj) hkk) (by rw [hR]; show _ ≤ ne - n0; omega) (by rw [hR]; show _ ≤ am_sz (am_SH X) (am_KF X) ne - am_sz (am_SH X) (am_KF X) n0; omega) (by rw [hdg, h1]) (fun a H1 p1 d1 s1 => ?_)
    refine am_addr p1 d1 hsz hn fun ha => ?_
    subst ha
    have h8 := hK _ _ _ _ _ h6 (by omega) (by omega) hlen H1 locs lc
    rw [show n + 1 - n0 = n - n0 + 1 by omega, hsub] at h8
    refine h8 ?_ s1 hl
    rw [am_ws_push (τ := am_new σ n) ?_ (fun i hi => am_new_ne (by omega))] at p1
    · exact p1
    · simp only [am_cell, hs, am_new]
      simp
  all_goals exact False.elim hbig
end
