section
variable {p : Program} {l : Launch} {e : Env} {R : Room} {s : State} {m : MethodId} {args : Array Value} {below : List Frame} {meth : Method} {c : Code} {cl : List vw_C} {TB NB : List Cond} {D : va_G} {aC : Nat → ClassId} {b n0 ne nL : Nat} {cc : ByteArray} {own : String} {X : am_X} {KQ : am_Kf} {post : Option Value → am_S → Prop}
/-- the setting of a walk -/
def am_C (p : Program) (l : Launch) (R : Room) (s : State) (m : MethodId) (args : Array Value) (meth : Method) (c : Code) (cl : List vw_C) (TB NB : List Cond) (D : va_G) (aC : Nat → ClassId) (b n0 ne nL : Nat) (cc : ByteArray) (own : String) (X : am_X) (KQ : am_Kf) : Prop :=
  p.tables.exec = Jvm.exec ∧ c.code = cc ∧ c.maxLocals = nL ∧ s.vm.findClass own = some m.cls ∧ (∀ w ∈ TB, w.before args s = true) ∧ am_Nw NB b s ∧ va_K D cl (am_tys aC) s ∧ meth.locks = false ∧ s.heap.size = b + n0 ∧ ((meth.sig.returnType = am_rt X ∧ KQ = am_KF X) ∨ am_rt X = some .double) ∧ (∃ d, 1 ≤ d ∧ R = am_rm d (ne - n0) (am_sz (am_SH X) (am_KF X) ne - am_sz (am_SH X) (am_KF X) n0) ∧ am_O l TB NB cl own meth.name d X) ∧ ∃ tyc, am_G TB cl (am_SH X) (am_KF X) tyc
/-- THE WALK at pc, in this layer's words -/
def am_A (p : Program) (l : Launch) (e : Env) (R : Room) (s : State) (m : MethodId) (args : Array Value) (below : List Frame) (meth : Method) (c : Code) (cl : List vw_C) (D : va_G) (aC : Nat → ClassId) (b n0 ne nL : Nat) (X : am_X) (KQ : am_Kf) (post : Option Value → am_S → Prop) (pc : Nat) (ls : List (Option Value)) (stk : List Value) (n : Nat) (σ : am_S) : Prop :=
  n0 ≤ n → n ≤ ne → ls.length = nL → ∀ (H : Heap) (locs : List Loc) (lc : Array Slot), va_P D cl (am_ws (am_SH X) (am_KF X) b aC n σ) H → va_S (fun q => b ≤ q) s.heap H locs → lv_has lc nL (am_lv b ls) →
    W p l e R s m args below meth c H locs (n - n0) (am_sz (am_SH X) (am_KF X) n - am_sz (am_SH X) (am_KF X) n0) (MQ below (am_Qc cl (am_SH X) KQ D aC b ne post) args s (ne - n0) (am_sz (am_SH X) (am_KF X) ne - am_sz (am_SH X) (am_KF X) n0) (fun q => b ≤ q)) (F0 m pc lc (stk.map (am_c b)))
theorem am_ts_ok {pc : Nat} {x : Int32} {k : Nat → Prop} {lo : Int} : ∀ {l : List Int} {i : Int}, am_ts pc x k lo l i → i ≤ x.toInt → x.toInt < i + l.length → ∃ off, l[(x.toInt - i).toNat]? = some off ∧ am_tg pc off k
  | [], i, h, h1, h2 => by simp at h2; omega
  | off :: t, i, h, h1, h2 => by
    by_cases hx : x.toInt = i
    · exact ⟨off, by rw [show (x.toInt - i).toNat = 0 by omega]; rfl, h.1 hx⟩
    · obtain ⟨off2, q1, q2⟩ := am_ts_ok h.2 (by omega) (by simp at h2; omega)
      refine ⟨off2, ?_, q2⟩
      rw [show (x.toInt - i).toNat = (x.toInt - (i + 1)).toNat + 1 by omega]
      simpa using q1
theorem am_ls_ok {pc : Nat} {x : Int32} {d : Int} {k : Nat → Prop} : ∀ {l : List (Int × Int)}, am_ls pc x d k l → am_tg pc (Op.lookupswitch.offset l d x.toInt) k
  | [], h => by simpa [am_ls, Op.lookupswitch.offset] using h
  | q :: t, h => by
    by_cases hx : x.toInt = q.1
    · have := h.1 hx
      simpa [Op.lookupswitch.offset, hx] using this
    · have := am_ls_ok (h.2 hx)
      have h2 : ¬ q.1 = x.toInt := fun z => hx z.symm
      simpa [Op.lookupswitch.offset, h2] using this
theorem am_tgt {pc : Nat} {off : Int} {k : Nat → Prop} (h : am_tg pc off k) : ∃ t : Nat, (pc : Int) + off = (t : Int) ∧ k t := ⟨((pc : Int) + off).toNat, (Int.toNat_of_nonneg h.1).symm, h.2⟩
theorem am_ws_obj {SH : am_Sh} {KF : am_Kf} {n o ci : Nat} {σ : am_S} (h : o < n) (hs : SH o = .inl ci) : (am_ws SH KF b aC n σ)[o]? = some (b + o, .inr (ci, (am_fs (KF o) (σ.1 o) (σ.2 o)).map (am_c b))) := by
  rw [am_ws_at h]; simp [am_cell, hs]
theorem am_ws_arr {SH : am_Sh} {KF : am_Kf} {n o : Nat} {q : Nat × Nat} {σ : am_S} (h : o < n) (hs : SH o = .inr q) (hq : ¬ q.1 = 3) : (am_ws SH KF b aC n σ)[o]? = some (b + o, .inl (aC q.1, (q.2, .inl (σ.1 o)))) := by
  rw [am_ws_at h]; simp [am_cell, hs, hq]
theorem am_ws_arl {SH : am_Sh} {KF : am_Kf} {n o : Nat} {q : Nat × Nat} {σ : am_S} (h : o < n) (hs : SH o = .inr q) (hq : q.1 = 3) : (am_ws SH KF b aC n σ)[o]? = some (b + o, .inl (aC 3, (q.2, .inr (.inl (σ.2 o))))) := by
  rw [am_ws_at h]; simp [am_cell, hs, hq]
theorem am_upd_cell {SH : am_Sh} {KF : am_Kf} {o k : Nat} {q : Nat × Nat} {σ : am_S} {x : Int32} (hs : SH o = .inr q) (hq : ¬ q.1 = 3) : (.inl (aC q.1, (q.2, .inl (upd (σ.1 o) k x))) : va_E) = am_cell SH KF b aC (am_pi σ o k x) o := by
  have e : (am_pi σ o k x).1 o = upd (σ.1 o) k x := by funext j; simp [am_pi, upd]
  simp [am_cell, hs, hq, e]
theorem am_upd_celll {SH : am_Sh} {KF : am_Kf} {o k : Nat} {q : Nat × Nat} {σ : am_S} {x : Int64} (hs : SH o = .inr q) (hq : q.1 = 3) : (.inl (aC 3, (q.2, .inr (.inl (vp_updL (σ.2 o) k x)))) : va_E) = am_cell SH KF b aC (am_pl σ o k x) o := by
  have e : (am_pl σ o k x).2 o = vp_updL (σ.2 o) k x := by funext j; simp [am_pl, vp_updL]
  simp [am_cell, hs, hq, e]
/-- the simple instructions -/
theorem am_simple {i : Instr} {len pc : Nat} {ls : List (Option Value)} {stk : List Value} {n : Nat} {σ : am_S} {K : Nat → List (Option Value) → List Value → Nat → am_S → Prop} (C : am_C p l R s m args meth c cl TB NB D aC b n0 ne nL cc own X KQ) (hdg : decode cc pc = .ok (i, len))
    (hK : ∀ pc ls stk n σ, K pc ls stk n σ → am_A p l e R s m args below meth c cl D aC b n0 ne nL X KQ post pc ls stk n σ)
    (hbig : match i with
      | .getfield _ => False
      | .putfield _ => False
      | .arraylength => False
      | .iaload => False
      | .baload => False
      | .laload => False
      | .iastore => False
      | .bastore => False
      | .lastore => False
      | .newarray _ => False
      | .new _ => False
      | .invokevirtual _ => False
      | .invokestatic _ => False
      | .invokespecial _ => False
      | _ => True)
    (h : am_one X ne post i len pc ls stk n σ K) : am_A p l e R s m args below meth c cl D aC b n0 ne nL X KQ post pc ls stk n σ := by
  obtain ⟨hx, hb, hml, hown, hts, hnb, hKn, hlocks, hsz, hret, ⟨d, hd, hR, hO⟩, tyc, hG⟩ := C
  intro hn hne hlen H locs lc hP hS hl
  cases i
  case iconst v => exact lv_iconst hx hb (by rw [hdg, h.1]) rfl (hK _ _ _ _ _ h.2 hn hne hlen H locs lc hP hS hl)
  case bipush v =>
    obtain ⟨h1, h2, h3⟩ := h
    refine lv_bipush (v := Int32.ofInt v) hx hb (by rw [hdg, h1]) ?_ (hK _ _ _ _ _ h3 hn hne hlen H locs lc hP hS hl)
    apply Int32.toInt_inj.mp
    rw [Int8.toInt_toInt32, Int8.toInt_ofInt_of_le (by omega) (by omega), Int32.toInt_ofInt_of_le (by omega) (by omega)]
  case sipush v =>
    obtain ⟨h1, h2, h3⟩ := h
    refine lv_sipush (v := Int32.ofInt v) hx hb (by rw [hdg, h1]) ?_ (hK _ _ _ _ _ h3 hn hne hlen H locs lc hP hS hl)
    apply Int32.toInt_inj.mp
    rw [Int16.toInt_toInt32, Int16.toInt_ofInt_of_le (by omega) (by omega), Int32.toInt_ofInt_of_le (by omega) (by omega)]
  case lconst v => exact lv_lconst hx hb (by rw [hdg, h.1]) rfl (hK _ _ _ _ _ h.2 hn hne hlen H locs lc hP hS hl)
  case ldc ix =>
    obtain ⟨h1, h2⟩ := h
    obtain ⟨v, h3, h4⟩ := am_opt_iff.mp h2
    exact lv_ldc hx hb hown (hts _ (hO.2.2.2.1 _ (am_find_mem h3))) (by rw [hdg, h1]) (hK _ _ _ _ _ h4 hn hne hlen H locs lc hP hS hl)
  case ldc_w ix =>
    obtain ⟨h1, h2⟩ := h
    obtain ⟨v, h3, h4⟩ := am_opt_iff.mp h2
    exact lv_ldcw hx hb hown (hts _ (hO.2.2.2.1 _ (am_find_mem h3))) (by rw [hdg, h1]) (hK _ _ _ _ _ h4 hn hne hlen H locs lc hP hS hl)
  case ldc2_w ix =>
    obtain ⟨h1, h2⟩ := h
    obtain ⟨v, h3, h4⟩ := am_opt_iff.mp h2
    exact lv_ldc2 hx hb hown (hts _ (hO.2.2.2.2.1 _ (am_find_mem h3))) (by rw [hdg, h1]) (hK _ _ _ _ _ h4 hn hne hlen H locs lc hP hS hl)
  case iload_n k =>
    obtain ⟨x, h3, h4⟩ := am_ldi_iff h.2
    exact lv_iload_n hx hb (by rw [hdg, h.1]) rfl (am_lv_at hl h3) (hK _ _ _ _ _ h4 hn hne hlen H locs lc hP hS hl)
  case iload k =>
    obtain ⟨x, h3, h4⟩ := am_ldi_iff h.2
    exact lv_iload hx hb (by rw [hdg, h.1]) (am_lv_at hl h3) (hK _ _ _ _ _ h4 hn hne hlen H locs lc hP hS hl)
  case lload_n k =>
    obtain ⟨x, h3, h4⟩ := am_ldl_iff h.2
    exact lv_lload_n hx hb (by rw [hdg, h.1]) rfl (am_lv_at hl h3) (hK _ _ _ _ _ h4 hn hne hlen H locs lc hP hS hl)
  case lload k =>
    obtain ⟨x, h3, h4⟩ := am_ldl_iff h.2
    exact lv_lload hx hb (by rw [hdg, h.1]) (am_lv_at hl h3) (hK _ _ _ _ _ h4 hn hne hlen H locs lc hP hS hl)
  case aload_n k =>
    obtain ⟨x, h3, h4⟩ := am_lda_iff h.2
    exact lv_aload_n hx hb (by rw [hdg, h.1]) rfl (am_lv_at hl h3) (hK _ _ _ _ _ h4 hn hne hlen H locs lc hP hS hl)
  case aload k =>
    obtain ⟨x, h3, h4⟩ := am_lda_iff h.2
    exact lv_aload hx hb (by rw [hdg, h.1]) (am_lv_at hl h3) (hK _ _ _ _ _ h4 hn hne hlen H locs lc hP hS hl)
  case istore_n k =>
    obtain ⟨x, r, rfl, h1, h2, h3⟩ := am_1_iff h.2
    exact lv_istore_n hx hb (by rw [hdg, h.1]) rfl hl (by omega) rfl (fun lc' hl' => hK _ _ _ _ _ h3 hn hne (by simp [hlen]) H locs lc' hP hS (am_lv_set1 h1 hl'))
  case istore k =>
    obtain ⟨x, r, rfl, h1, h2, h3⟩ := am_1_iff h.2
    exact lv_istore hx hb (by rw [hdg, h.1]) hl (by omega) rfl (fun lc' hl' => hK _ _ _ _ _ h3 hn hne (by simp [hlen]) H locs lc' hP hS (am_lv_set1 h1 hl'))
  case lstore_n k =>
    obtain ⟨x, r, rfl, h1, h2, h3⟩ := am_1l_iff h.2
    exact lv_lstore_n hx hb (by rw [hdg, h.1]) rfl hl (by omega) rfl (fun lc' hl' => hK _ _ _ _ _ h3 hn hne (by simp [hlen]) H locs lc' hP hS (am_lv_set2 h1 hl'))
  case lstore k =>
    obtain ⟨x, r, rfl, h1, h2, h3⟩ := am_1l_iff h.2
    exact lv_lstore hx hb (by rw [hdg, h.1]) hl (by omega) rfl (fun lc' hl' => hK _ _ _ _ _ h3 hn hne (by simp [hlen]) H locs lc' hP hS (am_lv_set2 h1 hl'))
  case astore_n k =>
    obtain ⟨x, r, rfl, h1, h2, h3⟩ := am_1a_iff h.2
    exact lv_astore_n hx hb (by rw [hdg, h.1]) rfl hl (by omega) rfl (fun lc' hl' => hK _ _ _ _ _ h3 hn hne (by simp [hlen]) H locs lc' hP hS (am_lv_set1 h1 hl'))
  case astore k =>
    obtain ⟨x, r, rfl, h1, h2, h3⟩ := am_1a_iff h.2
    exact lv_astore hx hb (by rw [hdg, h.1]) hl (by omega) rfl (fun lc' hl' => hK _ _ _ _ _ h3 hn hne (by simp [hlen]) H locs lc' hP hS (am_lv_set1 h1 hl'))
  case iinc k cn =>
    obtain ⟨x, h0, h1, h2, h3⟩ := am_ldi_iff h.2
    obtain ⟨j, hj⟩ := List.getElem?_of_mem (am_lv_mem (b := b) (q := (k, .int x)).mpr ⟨_, h0, rfl⟩)
    exact lv_iinc hx hb (by rw [hdg, h.1]) hl hj rfl (by omega) rfl (fun lc' hl' => hK _ _ _ _ _ h3 hn hne (by simp [hlen]) H locs lc' hP hS (am_lv_set1 h1 hl'))
  case iadd =>
    obtain ⟨x, y, r, rfl, h3⟩ := am_2_iff h.2
    exact lv_iadd hx hb (by rw [hdg, h.1]) (hK _ _ _ _ _ h3 hn hne hlen H locs lc hP hS hl)
  case isub =>
    obtain ⟨x, y, r, rfl, h3⟩ := am_2_iff h.2
    exact lv_isub hx hb (by rw [hdg, h.1]) (hK _ _ _ _ _ h3 hn hne hlen H locs lc hP hS hl)
  case imul =>
    obtain ⟨x, y, r, rfl, h3⟩ := am_2_iff h.2
    exact lv_imul hx hb (by rw [hdg, h.1]) (hK _ _ _ _ _ h3 hn hne hlen H locs lc hP hS hl)
  case iand =>
    obtain ⟨x, y, r, rfl, h3⟩ := am_2_iff h.2
    exact lv_iand hx hb (by rw [hdg, h.1]) (hK _ _ _ _ _ h3 hn hne hlen H locs lc hP hS hl)
  case ior =>
    obtain ⟨x, y, r, rfl, h3⟩ := am_2_iff h.2
    exact lv_ior hx hb (by rw [hdg, h.1]) (hK _ _ _ _ _ h3 hn hne hlen H locs lc hP hS hl)
  case ixor =>
    obtain ⟨x, y, r, rfl, h3⟩ := am_2_iff h.2
    exact lv_ixor hx hb (by rw [hdg, h.1]) (hK _ _ _ _ _ h3 hn hne hlen H locs lc hP hS hl)
  case ishl =>
    obtain ⟨x, y, r, rfl, h3⟩ := am_2_iff h.2
    exact lv_ishl hx hb (by rw [hdg, h.1]) (hK _ _ _ _ _ h3 hn hne hlen H locs lc hP hS hl)
  case ishr =>
    obtain ⟨x, y, r, rfl, h3⟩ := am_2_iff h.2
    exact lv_ishr hx hb (by rw [hdg, h.1]) (hK _ _ _ _ _ h3 hn hne hlen H locs lc hP hS hl)
  case iushr =>
    obtain ⟨x, y, r, rfl, h3⟩ := am_2_iff h.2
    exact lv_iushr hx hb (by rw [hdg, h.1]) rfl (hK _ _ _ _ _ h3 hn hne hlen H locs lc hP hS hl)
  case idiv =>
    obtain ⟨x, y, r, rfl, h3, h4⟩ := am_2_iff h.2
    exact lv_idiv hx hb (by rw [hdg, h.1]) h3 (hK _ _ _ _ _ h4 hn hne hlen H locs lc hP hS hl)
  case irem =>
    obtain ⟨x, y, r, rfl, h3, h4⟩ := am_2_iff h.2
    exact lv_irem hx hb (by rw [hdg, h.1]) h3 (hK _ _ _ _ _ h4 hn hne hlen H locs lc hP hS hl)
  case ladd =>
    obtain ⟨x, y, r, rfl, h3⟩ := am_2l_iff h.2
    exact lv_ladd hx hb (by rw [hdg, h.1]) (hK _ _ _ _ _ h3 hn hne hlen H locs lc hP hS hl)
  case lmul =>
    obtain ⟨x, y, r, rfl, h3⟩ := am_2l_iff h.2
    exact lv_lmul hx hb (by rw [hdg, h.1]) (hK _ _ _ _ _ h3 hn hne hlen H locs lc hP hS hl)
  case lcmp =>
    obtain ⟨x, y, r, rfl, h3⟩ := am_2l_iff h.2
    exact W.lcmp hx hb (by rw [hdg, h.1]) (hK _ _ _ _ _ h3 hn hne hlen H locs lc hP hS hl)
  case i2l =>
    obtain ⟨x, r, rfl, h3⟩ := am_1_iff h.2
    exact lv_i2l hx hb (by rw [hdg, h.1]) rfl (hK _ _ _ _ _ h3 hn hne hlen H locs lc hP hS hl)
  case i2b =>
    obtain ⟨x, r, rfl, h3⟩ := am_1_iff h.2
    exact lv_i2b hx hb (by rw [hdg, h.1]) rfl (hK _ _ _ _ _ h3 hn hne hlen H locs lc hP hS hl)
  case l2i =>
    obtain ⟨x, r, rfl, h3⟩ := am_1l_iff h.2
    exact lv_l2i hx hb (by rw [hdg, h.1]) rfl (hK _ _ _ _ _ h3 hn hne hlen H locs lc hP hS hl)
  case dup =>
    obtain ⟨x, r, rfl, h2, h3⟩ := am_v_iff h.2
    exact lv_dup hx hb (by rw [hdg, h.1]) (by rw [am_c_cat]; exact h2) (hK _ _ _ _ _ h3 hn hne hlen H locs lc hP hS hl)
  case pop =>
    obtain ⟨x, r, rfl, h2, h3⟩ := am_v_iff h.2
    exact lv_pop hx hb (by rw [hdg, h.1]) (by rw [am_c_cat]; exact h2) (hK _ _ _ _ _ h3 hn hne hlen H locs lc hP hS hl)
  case dup2 =>
    obtain ⟨x, r1, rfl, h2⟩ := am_v_iff h.2
    obtain ⟨y, r, rfl, h3, h4, h5⟩ := am_v_iff h2
    exact lv_dup2_11 hx hb (by rw [hdg, h.1]) (by rw [am_c_cat]; exact h3) (by rw [am_c_cat]; exact h4) (hK _ _ _ _ _ h5 hn hne hlen H locs lc hP hS hl)
  case ifCond cd off =>
    cases cd
    case eq =>
      obtain ⟨x, r, rfl, h2⟩ := am_1_iff h.2
      obtain ⟨t, ht, h3, h4⟩ := am_tgt h2
      exact lv_if_eq hx hb (by rw [hdg, h.1]) ht (fun q => hK _ _ _ _ _ (h3 q) hn hne hlen H locs lc hP hS hl) (fun q => hK _ _ _ _ _ (h4 q) hn hne hlen H locs lc hP hS hl)
    case ne =>
      obtain ⟨x, r, rfl, h2⟩ := am_1_iff h.2
      obtain ⟨t, ht, h3, h4⟩ := am_tgt h2
      exact lv_if_ne hx hb (by rw [hdg, h.1]) ht (fun q => hK _ _ _ _ _ (h3 q) hn hne hlen H locs lc hP hS hl) (fun q => hK _ _ _ _ _ (h4 q) hn hne hlen H locs lc hP hS hl)
    case lt =>
      obtain ⟨x, r, rfl, h2⟩ := am_1_iff h.2
      obtain ⟨t, ht, h3, h4⟩ := am_tgt h2
      exact lv_if_lt hx hb (by rw [hdg, h.1]) ht (fun q => hK _ _ _ _ _ (h3 q) hn hne hlen H locs lc hP hS hl) (fun q => hK _ _ _ _ _ (h4 q) hn hne hlen H locs lc hP hS hl)
    case ge =>
      obtain ⟨x, r, rfl, h2⟩ := am_1_iff h.2
      obtain ⟨t, ht, h3, h4⟩ := am_tgt h2
      exact lv_if_ge hx hb (by rw [hdg, h.1]) ht (fun q => hK _ _ _ _ _ (h3 q) hn hne hlen H locs lc hP hS hl) (fun q => hK _ _ _ _ _ (h4 q) hn hne hlen H locs lc hP hS hl)
    case gt =>
      obtain ⟨x, r, rfl, h2⟩ := am_1_iff h.2
      obtain ⟨t, ht, h3, h4⟩ := am_tgt h2
      exact lv_if_gt hx hb (by rw [hdg, h.1]) ht (fun q => hK _ _ _ _ _ (h3 q) hn hne hlen H locs lc hP hS hl) (fun q => hK _ _ _ _ _ (h4 q) hn hne hlen H locs lc hP hS hl)
    case le =>
      obtain ⟨x, r, rfl, h2⟩ := am_1_iff h.2
      obtain ⟨t, ht, h3, h4⟩ := am_tgt h2
      exact lv_if_le hx hb (by rw [hdg, h.1]) ht (fun q => hK _ _ _ _ _ (h3 q) hn hne hlen H locs lc hP hS hl) (fun q => hK _ _ _ _ _ (h4 q) hn hne hlen H locs lc hP hS hl)
  case if_icmp cd off =>
    cases cd
    case eq =>
      obtain ⟨x, y, r, rfl, h2⟩ := am_2_iff h.2
      obtain ⟨t, ht, h3, h4⟩ := am_tgt h2
      exact lv_icmp_eq hx hb (by rw [hdg, h.1]) ht (fun q => hK _ _ _ _ _ (h3 q) hn hne hlen H locs lc hP hS hl) (fun q => hK _ _ _ _ _ (h4 q) hn hne hlen H locs lc hP hS hl)
    case ne =>
      obtain ⟨x, y, r, rfl, h2⟩ := am_2_iff h.2
      obtain ⟨t, ht, h3, h4⟩ := am_tgt h2
      exact lv_icmp_ne hx hb (by rw [hdg, h.1]) ht (fun q => hK _ _ _ _ _ (h3 q) hn hne hlen H locs lc hP hS hl) (fun q => hK _ _ _ _ _ (h4 q) hn hne hlen H locs lc hP hS hl)
    case lt =>
      obtain ⟨x, y, r, rfl, h2⟩ := am_2_iff h.2
      obtain ⟨t, ht, h3, h4⟩ := am_tgt h2
      exact lv_icmp_lt hx hb (by rw [hdg, h.1]) ht (fun q => hK _ _ _ _ _ (h3 q) hn hne hlen H locs lc hP hS hl) (fun q => hK _ _ _ _ _ (h4 q) hn hne hlen H locs lc hP hS hl)
    case ge =>
      obtain ⟨x, y, r, rfl, h2⟩ := am_2_iff h.2
      obtain ⟨t, ht, h3, h4⟩ := am_tgt h2
      exact lv_icmp_ge hx hb (by rw [hdg, h.1]) ht (fun q => hK _ _ _ _ _ (h3 q) hn hne hlen H locs lc hP hS hl) (fun q => hK _ _ _ _ _ (h4 q) hn hne hlen H locs lc hP hS hl)
    case gt =>
      obtain ⟨x, y, r, rfl, h2⟩ := am_2_iff h.2
      obtain ⟨t, ht, h3, h4⟩ := am_tgt h2
      exact lv_icmp_gt hx hb (by rw [hdg, h.1]) ht (fun q => hK _ _ _ _ _ (h3 q) hn hne hlen H locs lc hP hS hl) (fun q => hK _ _ _ _ _ (h4 q) hn hne hlen H locs lc hP hS hl)
    case le =>
      obtain ⟨x, y, r, rfl, h2⟩ := am_2_iff h.2
      obtain ⟨t, ht, h3, h4⟩ := am_tgt h2
      exact lv_icmp_le hx hb (by rw [hdg, h.1]) ht (fun q => hK _ _ _ _ _ (h3 q) hn hne hlen H locs lc hP hS hl) (fun q => hK _ _ _ _ _ (h4 q) hn hne hlen H locs lc hP hS hl)
  case goto off =>
    obtain ⟨t, ht, h3⟩ := am_tgt h.2
    exact lv_goto hx hb (by rw [hdg, h.1]) ht (hK _ _ _ _ _ h3 hn hne hlen H locs lc hP hS hl)
  case ireturn =>
    obtain ⟨h1, rfl, h2⟩ := h
    obtain ⟨x, r, rfl, rfl, h3, h4⟩ := am_1_iff h2
    have hrt0 : ¬ am_rt X = some .double := by
      intro z
      rw [z] at h3
      exact h3
    rcases hret with ⟨hret, rfl⟩ | hret
    rotate_left
    · exact absurd hret hrt0
    have hq : ∀ t : State, t.heap = H → s.WarmedH t.vm → am_Qc cl (am_SH X) (am_KF X) D aC b n post args s (.returned (some (.int x))) t := fun t ht hW => ⟨⟨some (.int x), σ, rfl, h4, by rw [ht]; exact hP⟩, hS.F ht⟩
    unfold am_ri at h3
    split at h3
    · rename_i hrt
      exact W.zret (ty := .int) hx hb (by rw [hret, hrt]) rfl hq hS.2.2 (by rw [hdg, h1]) hlocks
    · rename_i hrt
      exact W.zret (ty := .boolean) hx hb (by rw [hret, hrt]) (by
        have h5 : x &&& 1 = x := h3
        show Value.int (x &&& 1) = _
        rw [h5]) hq hS.2.2 (by rw [hdg, h1]) hlocks
    · exact h3.elim
  case lreturn =>
    obtain ⟨h1, rfl, h2⟩ := h
    obtain ⟨x, r, rfl, rfl, h3, h4⟩ := am_1l_iff h2
    rcases hret with ⟨hret, rfl⟩ | hret
    rotate_left
    · rw [h3] at hret; cases hret
    exact W.lret hx hb (by rw [hret, h3]) (fun t ht hW => ⟨⟨some (.long x), σ, rfl, h4, by rw [ht]; exact hP⟩, hS.F ht⟩) hS.2.2 (by rw [hdg, h1]) hlocks
  case return_ =>
    obtain ⟨h1, rfl, rfl, h3, h4⟩ := h
    rcases hret with ⟨hret, rfl⟩ | hret
    rotate_left
    · rw [h3] at hret; cases hret
    exact W.vret hx hb (by rw [hret, h3]) (fun t ht hW => ⟨⟨none, σ, rfl, h4, by rw [ht]; exact hP⟩, hS.F ht⟩) hS.2.2 (by rw [hdg, h1]) hlocks
  case tableswitch dd lo hi offs =>
    obtain ⟨x, r, rfl, h1, h2, h3⟩ := am_1_iff h
    by_cases hq : x.toInt < lo ∨ hi < x.toInt
    · obtain ⟨t, ht, h4⟩ := am_tgt (h2 hq)
      exact lv_tableOut hx hb hdg hq ht (hK _ _ _ _ _ h4 hn hne hlen H locs lc hP hS hl)
    · obtain ⟨off, h4, h5⟩ := am_ts_ok h1 (by omega) (by rw [Array.length_toList]; omega)
      obtain ⟨t, ht, h6⟩ := am_tgt h5
      exact lv_tableIn hx hb hdg (fun z => hq (Or.inl z)) (fun z => hq (Or.inr z)) (by rw [← Array.getElem?_toList]; exact h4) ht (hK _ _ _ _ _ h6 hn hne hlen H locs lc hP hS hl)
  case lookupswitch dd ps =>
    obtain ⟨x, r, rfl, h1, h2⟩ := am_1_iff h
    obtain ⟨t, ht, h4⟩ := am_tgt (am_ls_ok h2)
    exact lv_lookup hx hb hdg h1 rfl ht (hK _ _ _ _ _ h4 hn hne hlen H locs lc hP hS hl)
  all_goals first | exact False.elim h | exact False.elim hbig
end
