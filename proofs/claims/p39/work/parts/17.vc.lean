/-- THE WORD OF A STRETCH OF CODE: f instructions at most; at a place of 'cuts' (and where f is used up) it asks for AA there, with the first j locals alone -/
def am_vc (cc : ByteArray) (X : am_X) (ne : Nat) (post : Option Value → am_S → Prop) (AA : Nat → List (Option Value) → List Value → Nat → am_S → Prop) (cuts : List (Nat × Nat)) : Nat → Nat → List (Option Value) → List Value → Nat → am_S → Prop
  | 0, pc, ls, stk, n, σ => AA pc ls stk n σ
  | f + 1, pc, ls, stk, n, σ => match decode cc pc with
    | .ok (i, len) => am_one X ne post i len pc ls stk n σ (fun pc' ls' stk' n' σ' => match am_find cuts pc' with
      | some j => AA pc' (am_mask j ls') stk' n' σ'
      | none => am_vc cc X ne post AA cuts f pc' ls' stk' n' σ')
    | .error _ => False
section
variable {p : Program} {l : Launch} {e : Env} {R : Room} {s : State} {m : MethodId} {args : Array Value} {below : List Frame} {meth : Method} {c : Code} {cl : List vw_C} {TB NB : List Cond} {D : va_G} {aC : Nat → ClassId} {b n0 ne nL : Nat} {cc : ByteArray} {own : String} {X : am_X} {KQ : am_Kf} {post : Option Value → am_S → Prop}
theorem am_one_ok {i : Instr} {len pc : Nat} {ls : List (Option Value)} {stk : List Value} {n : Nat} {σ : am_S} {K : Nat → List (Option Value) → List Value → Nat → am_S → Prop} (C : am_C p l R s m args meth c cl TB NB D aC b n0 ne nL cc own X KQ) (hdg : decode cc pc = .ok (i, len))
    (hK : ∀ pc ls stk n σ, K pc ls stk n σ → am_A p l e R s m args below meth c cl D aC b n0 ne nL X KQ post pc ls stk n σ)
    (h : am_one X ne post i len pc ls stk n σ K) : am_A p l e R s m args below meth c cl D aC b n0 ne nL X KQ post pc ls stk n σ := by
  cases i <;> first | exact am_simple C hdg hK trivial h | exact am_mem C hdg hK trivial h | exact am_make C hdg hK trivial h | exact am_callI C hdg hK trivial h
theorem am_A_mask {j pc : Nat} {ls : List (Option Value)} {stk : List Value} {n : Nat} {σ : am_S} (h : am_A p l e R s m args below meth c cl D aC b n0 ne nL X KQ post pc (am_mask j ls) stk n σ) : am_A p l e R s m args below meth c cl D aC b n0 ne nL X KQ post pc ls stk n σ :=
  fun h1 h2 h3 H locs lc hP hS hl => h h1 h2 (by rw [am_mask_len]; exact h3) H locs lc hP hS (am_lv_mask hl)
theorem am_vc_ok (C : am_C p l R s m args meth c cl TB NB D aC b n0 ne nL cc own X KQ) {cuts : List (Nat × Nat)} : ∀ (f pc : Nat) (ls : List (Option Value)) (stk : List Value) (n : Nat) (σ : am_S), am_vc cc X ne post (am_A p l e R s m args below meth c cl D aC b n0 ne nL X KQ post) cuts f pc ls stk n σ → am_A p l e R s m args below meth c cl D aC b n0 ne nL X KQ post pc ls stk n σ := by
  intro f
  induction f with
  | zero => intro pc ls stk n σ h; exact h
  | succ f ih =>
    intro pc ls stk n σ h
    unfold am_vc at h
    split at h
    · rename_i i len hdg
      refine am_one_ok C hdg (fun pc' ls' stk' n' σ' hh => ?_) h
      split at hh
      · exact am_A_mask hh
      · exact ih _ _ _ _ _ hh
    · exact h.elim
end
/-! a method's first locals -/
def am_sl : List Value → List (Option Value)
  | [] => []
  | v :: t => if v.category = 2 then some v :: none :: am_sl t else some v :: am_sl t
def am_entry (n : Nat) (as : List Value) : List (Option Value) := am_sl as ++ List.replicate (n - (am_sl as).length) none
theorem am_sl_len (b : Nat) : ∀ as : List Value, (lg_sl (as.map (am_c b))).length = (am_sl as).length
  | [] => rfl
  | v :: t => by
    have ih := am_sl_len b t
    simp only [lg_sl] at ih
    by_cases h : v.category = 2
    · simp [lg_sl, am_sl, am_c_cat, h, ih]
    · simp [lg_sl, am_sl, am_c_cat, h, ih]
theorem am_sl_args (b : Nat) : ∀ (as : List Value) (i k : Nat) (v : Value), (am_sl as)[k]? = some (some v) → (i + k, am_c b v) ∈ lv_args i (as.map (am_c b))
  | [], i, k, v, h => by simp [am_sl] at h
  | a :: t, i, k, v, h => by
    by_cases hc : a.category = 2
    · simp only [am_sl, hc, if_true] at h
      match k, h with
      | 0, h =>
        simp at h
        subst h
        simp [lv_args]
      | 1, h => simp at h
      | k + 2, h =>
        simp only [List.getElem?_cons_succ] at h
        have := am_sl_args b t (i + 2) k v h
        simp only [List.map_cons, lv_args, am_c_cat, hc, if_true]
        rw [show i + (k + 2) = i + 2 + k by omega]
        exact List.mem_cons_of_mem _ this
    · simp only [am_sl, hc, if_false] at h
      match k, h with
      | 0, h =>
        simp at h
        subst h
        simp [lv_args]
      | k + 1, h =>
        simp only [List.getElem?_cons_succ] at h
        have := am_sl_args b t (i + 1) k v h
        simp only [List.map_cons, lv_args, am_c_cat, hc, if_false]
        rw [show i + (k + 1) = i + 1 + k by omega]
        exact List.mem_cons_of_mem _ this
theorem am_entry_lv {b n : Nat} {as : List Value} {lc : Array Slot} (h : lv_has lc n (lv_args 0 (as.map (am_c b)))) : lv_has lc n (am_lv b (am_entry n as)) := by
  refine ⟨h.1, h.2.1, fun q hq => ?_⟩
  obtain ⟨v, h1, h2⟩ := am_lv_mem.mp hq
  apply h.2.2
  unfold am_entry at h1
  by_cases hk : q.1 < (am_sl as).length
  · rw [List.getElem?_append_left hk] at h1
    have := am_sl_args b as 0 q.1 v h1
    rw [Nat.zero_add, ← h2] at this
    exact this
  · rw [List.getElem?_append_right (by omega), List.getElem?_replicate] at h1
    split at h1 <;> simp at h1
/-- A CONTRACT OUT OF ITS WORD: all that is left of the machine is AA and that it is closed under am_vc -/
theorem am_M.of {l : Launch} {TB NB : List Cond} {cl : List vw_C} {SH : am_Sh} {KF : am_Kf} {y : MethodName} {cc : ByteArray} {maxL : Nat} {ret : Option FieldType} {d mc ms : Nat} {sp : am_Sp} (X : am_X) (hy : plainName y.cls = true) (hgood : ∀ w ∈ TB, goodWord w = true) (hG : ∃ tyc, am_G TB cl SH KF tyc) (hSH : am_SH X = SH) (hKF : am_KF X = KF) (hrt : am_rt X = ret) (hd : 1 ≤ d) (hO : am_O l TB NB cl y.cls y.name d X)
    (body : ∀ (n0 : Nat) (as : List Value) (σ : am_S) (post : Option Value → am_S → Prop) (AA : Nat → List (Option Value) → List Value → Nat → am_S → Prop), (∀ cuts f pc ls stk n τ, am_vc cc X (n0 + mc) post AA cuts f pc ls stk n τ → AA pc ls stk n τ) → sp as n0 σ post → (am_sl as).length ≤ maxL ∧ AA 0 (am_entry maxL as) [] n0 σ) : am_M l TB NB cl SH KF y cc maxL ret d mc ms sp := by
  subst hSH; subst hKF; subst hrt
  intro D aC b n0 as σ post hsp hszm
  refine Met.ofW (cc := cc) (maxL := maxL) (ret := am_rt X) hy rfl ?_
  intro p e s m args below meth c s₁ B hml hv
  obtain ⟨rfl, hsz, hP, hK, hN⟩ := hv
  have hts : ∀ w ∈ TB, w.before (as.map (am_c b)).toArray s = true := fun w hw => atoms_spec (ws := .code y cc maxL (am_rt X) :: am_gb TB) B.pre w (List.mem_cons_of_mem _ (List.mem_filter.mpr ⟨hw, hgood w hw⟩))
  have hown : s.vm.findClass y.cls = some m.cls := findClass_of_methodNamed B.named
  have hnm : meth.name = y.name := (name_of_methodNamed B.named B.method).1
  have C : am_C p l (am_rm d mc ms) s m (as.map (am_c b)).toArray meth c cl TB NB D aC b n0 (n0 + mc) maxL cc y.cls X (am_KF X) := ⟨B.exec, B.bytes, hml, hown, hts, hN, hK, B.notSynchronized, hsz, Or.inl ⟨B.returns, rfl⟩, ⟨d, hd, by rw [Nat.add_sub_cancel_left, hszm, Nat.add_sub_cancel_left], by rw [hnm]; exact hO⟩, hG⟩
  obtain ⟨h1, h2⟩ := body n0 as σ post _ (fun cuts f pc ls stk n τ h => am_vc_ok (e := e) (below := below) (cuts := cuts) C f pc ls stk n τ h) hsp
  have hl := lv_entry (as.map (am_c b)) (n := maxL) (by rw [am_sl_len]; exact h1)
  have h3 := h2 (Nat.le_refl _) (Nat.le_add_right _ _) (by simp [am_entry]; omega) s.heap [] _ hP va_S.rf (am_entry_lv hl)
  rw [Nat.sub_self, Nat.sub_self, Nat.add_sub_cancel_left, hszm, Nat.add_sub_cancel_left] at h3
  rw [lg_entry_eq]
  exact h3
/-! A CONSTRUCTOR: its fields change while it runs and stand behind it -/
/-- all that stands for good behind holds what it is to hold -/
def am_refs (Ka Kb : am_Kf) (n : Nat) (σ : am_S) : Prop := ∀ o, o < n → ∀ k kd, (Kb o)[k]? = some kd → (Ka o)[k]? = some kd ∨ ∃ t : Nat, kd = t + 4 ∧ (Ka o)[k]? = some 3 ∧ σ.1 o k = Int32.ofNat (t + 1) ∧ t < 1000000
theorem am_refs_ws {SH : am_Sh} {Ka Kb : am_Kf} (hlen : ∀ o, (Ka o).length = (Kb o).length) {b : Nat} {aC : Nat → ClassId} {n : Nat} {σ : am_S} (h : am_refs Ka Kb n σ) : am_ws SH Ka b aC n σ = am_ws SH Kb b aC n σ := by
  unfold am_ws
  apply List.map_congr_left
  intro i hi
  have hi := List.mem_range.mp hi
  have e : am_fs (Ka i) (σ.1 i) (σ.2 i) = am_fs (Kb i) (σ.1 i) (σ.2 i) := by
    apply List.ext_getElem?
    intro k
    cases hk : (Kb i)[k]? with
    | none => rw [List.getElem?_eq_none (by rw [am_fs_len, hlen]; exact List.getElem?_eq_none_iff.mp hk), List.getElem?_eq_none (by rw [am_fs_len]; exact List.getElem?_eq_none_iff.mp hk)]
    | some kd =>
      rw [am_fs_at _ _ hk]
      rcases h i hi k kd hk with h1 | ⟨t, rfl, h1, h2, h3⟩
      · rw [am_fs_at _ _ h1]
      · rw [am_fs_at _ _ h1, h2]
        have h4 : (Int32.ofNat (t + 1)).toNatClampNeg = t + 1 := nI_clamp (n := t + 1) (by omega)
        have h5 : ¬ Int32.ofNat (t + 1) = 0 := nI_ne0 (n := t + 1) (by omega) (by omega)
        show some (if Int32.ofNat (t + 1) = 0 then Value.null else Value.ref ((Int32.ofNat (t + 1)).toNatClampNeg - 1)) = _
        rw [if_neg h5, h4]
        rfl
  simp only [am_cell, e]
theorem am_sz_K {SH : am_Sh} {Ka Kb : am_Kf} (hlen : ∀ o, (Ka o).length = (Kb o).length) : ∀ n, am_sz SH Ka n = am_sz SH Kb n
  | 0 => rfl
  | n + 1 => by simp only [am_sz, am_sz_K hlen n, hlen]
def am_MS (l : Launch) (TB NB : List Cond) (cl : List vw_C) (SH : am_Sh) (Ka Kb : am_Kf) (y : MethodName) (cc : ByteArray) (maxL : Nat) (ret : Option FieldType) (d mc ms : Nat) (sp : am_Sp) : Prop :=
  ∀ (D : va_G) (aC : Nat → ClassId) (b n0 : Nat) (as : List Value) (σ : am_S) (post : Option Value → am_S → Prop), sp as n0 σ post → am_sz SH Ka (n0 + mc) = am_sz SH Ka n0 + ms →
    Met l y (.code y cc maxL ret :: am_gb TB) (am_rm d mc ms) (am_Pc cl NB SH Ka D aC b n0 as σ) (am_Qc cl SH Kb D aC b (n0 + mc) post) mc ms (fun q => b ≤ q)
theorem am_MS.of {l : Launch} {TB NB : List Cond} {cl : List vw_C} {SH : am_Sh} {Ka Kb : am_Kf} {y : MethodName} {cc : ByteArray} {maxL : Nat} {ret : Option FieldType} {d mc ms : Nat} {sp : am_Sp} (X Y : am_X) (hy : plainName y.cls = true) (hgood : ∀ w ∈ TB, goodWord w = true) (hG : ∃ tyc, am_G TB cl SH Ka tyc) (hG2 : ∃ tyc, am_G TB cl SH Kb tyc) (hlen : ∀ o, (Ka o).length = (Kb o).length) (hSH : am_SH X = SH) (hKF : am_KF X = Ka) (hrt : am_rt X = some .double) (hSH2 : am_SH Y = SH) (hKF2 : am_KF Y = Kb) (hrt2 : am_rt Y = ret) (hd : 1 ≤ d) (hO : am_O l TB NB cl y.cls y.name d X) (hO2 : am_O l TB NB cl y.cls y.name d Y)
    (body : ∀ (n0 : Nat) (as : List Value) (σ : am_S) (post : Option Value → am_S → Prop) (AA BB : Nat → List (Option Value) → List Value → Nat → am_S → Prop), (∀ cuts f pc ls stk n τ, am_vc cc X (n0 + mc) post AA cuts f pc ls stk n τ → AA pc ls stk n τ) → (∀ cuts f pc ls stk n τ, am_vc cc Y (n0 + mc) post BB cuts f pc ls stk n τ → BB pc ls stk n τ) → (∀ pc ls stk n τ, am_refs Ka Kb n τ → BB pc ls stk n τ → AA pc ls stk n τ) → sp as n0 σ post → (am_sl as).length ≤ maxL ∧ AA 0 (am_entry maxL as) [] n0 σ) : am_MS l TB NB cl SH Ka Kb y cc maxL ret d mc ms sp := by
  subst hSH; subst hKF; subst hrt2; subst hKF2
  intro D aC b n0 as σ post hsp hszm
  refine Met.ofW (cc := cc) (maxL := maxL) (ret := am_rt Y) hy rfl ?_
  intro p e s m args below meth c s₁ B hml hv
  obtain ⟨rfl, hsz, hP, hK, hN⟩ := hv
  have hts : ∀ w ∈ TB, w.before (as.map (am_c b)).toArray s = true := fun w hw => atoms_spec (ws := .code y cc maxL (am_rt Y) :: am_gb TB) B.pre w (List.mem_cons_of_mem _ (List.mem_filter.mpr ⟨hw, hgood w hw⟩))
  have hown : s.vm.findClass y.cls = some m.cls := findClass_of_methodNamed B.named
  have hnm : meth.name = y.name := (name_of_methodNamed B.named B.method).1
  have hszK := am_sz_K (SH := am_SH X) hlen
  have C : am_C p l (am_rm d mc ms) s m (as.map (am_c b)).toArray meth c cl TB NB D aC b n0 (n0 + mc) maxL cc y.cls X (am_KF Y) := ⟨B.exec, B.bytes, hml, hown, hts, hN, hK, B.notSynchronized, hsz, Or.inr hrt, ⟨d, hd, by rw [Nat.add_sub_cancel_left, hszm, Nat.add_sub_cancel_left], by rw [hnm]; exact hO⟩, hG⟩
  have C2 : am_C p l (am_rm d mc ms) s m (as.map (am_c b)).toArray meth c cl TB NB D aC b n0 (n0 + mc) maxL cc y.cls Y (am_KF Y) := ⟨B.exec, B.bytes, hml, hown, hts, hN, hK, B.notSynchronized, hsz, Or.inl ⟨B.returns, rfl⟩, ⟨d, hd, by rw [Nat.add_sub_cancel_left, hSH2, ← hszK, ← hszK, hszm, Nat.add_sub_cancel_left], by rw [hnm]; exact hO2⟩, by rw [hSH2]; exact hG2⟩
  obtain ⟨h1, h2⟩ := body n0 as σ post _ _ (fun cuts f pc ls stk n τ h => am_vc_ok (e := e) (below := below) (cuts := cuts) C f pc ls stk n τ h) (fun cuts f pc ls stk n τ h => am_vc_ok (e := e) (below := below) (cuts := cuts) C2 f pc ls stk n τ h) (fun pc ls stk n τ hr h q1 q2 q3 H locs lc hP hS hl => by
    have h3 := h q1 q2 q3 H locs lc (by rw [hSH2, ← am_refs_ws hlen hr]; exact hP) hS hl
    rw [hSH2, ← hszK, ← hszK, ← hszK] at h3
    exact h3) hsp
  have hl := lv_entry (as.map (am_c b)) (n := maxL) (by rw [am_sl_len]; exact h1)
  have h3 := h2 (Nat.le_refl _) (Nat.le_add_right _ _) (by simp [am_entry]; omega) s.heap [] _ hP va_S.rf (am_entry_lv hl)
  rw [Nat.sub_self, Nat.sub_self, Nat.add_sub_cancel_left, hszm, Nat.add_sub_cancel_left] at h3
  rw [lg_entry_eq]
  exact h3
