/-! AN OWN LAYER OVER THE KIT'S WALK: objects are numbered in the order of their making (the cell of number i lies at b + i); their ints lie in a function of number and slot, their longs in another. -/
abbrev am_S : Type := (Nat → Nat → Int32) × (Nat → Nat → Int64)
/-- what number i is: an object of a class, or an array of a kind (0 int, 1 byte, 2 boolean, 3 long) and a length -/
abbrev am_Sh : Type := Nat → Nat ⊕ (Nat × Nat)
/-- the kinds of an object's fields: 0 int, 1 long, 2 boolean, 3 a cell that may change (0 null, i + 1 number i), o + 4 number o for good -/
abbrev am_Kf : Type := Nat → List Nat
/-- a method's word: arguments, how many cells there are, what they hold, what must hold behind -/
abbrev am_Sp : Type := List Value → Nat → am_S → (Option Value → am_S → Prop) → Prop
def am_pi (σ : am_S) (o k : Nat) (x : Int32) : am_S := (fun o' k' => if o' = o ∧ k' = k then x else σ.1 o' k', σ.2)
def am_pl (σ : am_S) (o k : Nat) (x : Int64) : am_S := (σ.1, fun o' k' => if o' = o ∧ k' = k then x else σ.2 o' k')
def am_new (σ : am_S) (o : Nat) : am_S := (fun o' k' => if o' = o then 0 else σ.1 o' k', fun o' k' => if o' = o then 0 else σ.2 o' k')
def am_av (kd : Nat) (x : Int32) (y : Int64) : Value := match kd with
  | 0 => .int x
  | 1 => .long y
  | 2 => .int x
  | 3 => if x = 0 then .null else .ref (x.toNatClampNeg - 1)
  | o + 4 => .ref o
def am_c (b : Nat) (v : Value) : Value := match v with
  | .ref a => .ref (b + a)
  | v => v
theorem am_c_cat (b : Nat) (v : Value) : (am_c b v).category = v.category := by cases v <;> rfl
def am_fs (kds : List Nat) (f : Nat → Int32) (g : Nat → Int64) : List Value := kds.zipIdx.map (fun q => am_av q.1 (f q.2) (g q.2))
theorem am_fs_len (kds : List Nat) (f : Nat → Int32) (g : Nat → Int64) : (am_fs kds f g).length = kds.length := by simp [am_fs]
theorem am_fs_at {kds : List Nat} {k kd : Nat} (f : Nat → Int32) (g : Nat → Int64) (h : kds[k]? = some kd) : (am_fs kds f g)[k]? = some (am_av kd (f k) (g k)) := by
  simp [am_fs, List.getElem?_map, List.getElem?_zipIdx, h]
def am_cell (SH : am_Sh) (KF : am_Kf) (b : Nat) (aC : Nat → ClassId) (σ : am_S) (i : Nat) : va_E := match SH i with
  | .inl ci => .inr (ci, (am_fs (KF i) (σ.1 i) (σ.2 i)).map (am_c b))
  | .inr q => .inl (aC q.1, (q.2, if q.1 = 3 then .inr (.inl (σ.2 i)) else .inl (σ.1 i)))
def am_ws (SH : am_Sh) (KF : am_Kf) (b : Nat) (aC : Nat → ClassId) (n : Nat) (σ : am_S) : va_W := (List.range n).map (fun i => (b + i, am_cell SH KF b aC σ i))
theorem am_ws_len {SH : am_Sh} {KF : am_Kf} {b : Nat} {aC : Nat → ClassId} {n : Nat} {σ : am_S} : (am_ws SH KF b aC n σ).length = n := by simp [am_ws]
theorem am_ws_at {SH : am_Sh} {KF : am_Kf} {b : Nat} {aC : Nat → ClassId} {n o : Nat} {σ : am_S} (h : o < n) : (am_ws SH KF b aC n σ)[o]? = some (b + o, am_cell SH KF b aC σ o) := by
  simp [am_ws, List.getElem?_map, h]
theorem am_ws_set {SH : am_Sh} {KF : am_Kf} {b : Nat} {aC : Nat → ClassId} {n o : Nat} {σ τ : am_S} {e : va_E} (h : o < n) (he : e = am_cell SH KF b aC τ o) (hk : ∀ i, i ≠ o → am_cell SH KF b aC τ i = am_cell SH KF b aC σ i) : (am_ws SH KF b aC n σ).set o (b + o, e) = am_ws SH KF b aC n τ := by
  subst he
  apply List.ext_getElem?
  intro i
  by_cases hi : i = o
  · subst hi
    rw [List.getElem?_set_self (by rw [am_ws_len]; exact h), am_ws_at h]
  · rw [List.getElem?_set_ne (Ne.symm hi)]
    by_cases hn : i < n
    · rw [am_ws_at hn, am_ws_at hn, hk i hi]
    · rw [List.getElem?_eq_none (by rw [am_ws_len]; omega), List.getElem?_eq_none (by rw [am_ws_len]; omega)]
theorem am_ws_push {SH : am_Sh} {KF : am_Kf} {b : Nat} {aC : Nat → ClassId} {n : Nat} {σ τ : am_S} {e : va_E} (he : e = am_cell SH KF b aC τ n) (hk : ∀ i, i < n → am_cell SH KF b aC τ i = am_cell SH KF b aC σ i) : am_ws SH KF b aC n σ ++ [(b + n, e)] = am_ws SH KF b aC (n + 1) τ := by
  subst he
  simp only [am_ws, List.range_succ, List.map_append, List.map_cons, List.map_nil]
  congr 1
  apply List.map_congr_left
  intro i hi
  rw [hk i (List.mem_range.mp hi)]
theorem am_ws_D {SH : am_Sh} {KF : am_Kf} {b : Nat} {aC : Nat → ClassId} {n : Nat} {σ : am_S} : va_D (fun q => b ≤ q) (am_ws SH KF b aC n σ) := by
  have key : ∀ (k : Nat) (q : Nat × va_E), (am_ws SH KF b aC n σ)[k]? = some q → q.1 = b + k := by
    intro k q hq
    by_cases hk : k < n
    · rw [am_ws_at hk] at hq
      cases hq
      rfl
    · rw [List.getElem?_eq_none (by rw [am_ws_len]; omega)] at hq
      cases hq
  refine ⟨fun i j p q hp hq h => ?_, fun k q hq => ?_⟩
  · rw [key i p hp, key j q hq] at h
    omega
  · show b ≤ q.1
    rw [key k q hq]
    omega
theorem am_pi_ne {SH : am_Sh} {KF : am_Kf} {b : Nat} {aC : Nat → ClassId} {σ : am_S} {o k : Nat} {x : Int32} {i : Nat} (h : i ≠ o) : am_cell SH KF b aC (am_pi σ o k x) i = am_cell SH KF b aC σ i := by
  have e : (am_pi σ o k x).1 i = σ.1 i := by funext j; simp [am_pi, h]
  simp only [am_cell, e]
  rfl
theorem am_pl_ne {SH : am_Sh} {KF : am_Kf} {b : Nat} {aC : Nat → ClassId} {σ : am_S} {o k : Nat} {x : Int64} {i : Nat} (h : i ≠ o) : am_cell SH KF b aC (am_pl σ o k x) i = am_cell SH KF b aC σ i := by
  have e : (am_pl σ o k x).2 i = σ.2 i := by funext j; simp [am_pl, h]
  simp only [am_cell, e]
  rfl
theorem am_new_ne {SH : am_Sh} {KF : am_Kf} {b : Nat} {aC : Nat → ClassId} {σ : am_S} {o : Nat} {i : Nat} (h : i ≠ o) : am_cell SH KF b aC (am_new σ o) i = am_cell SH KF b aC σ i := by
  have e : (am_new σ o).1 i = σ.1 i := by funext j; simp [am_new, h]
  have e2 : (am_new σ o).2 i = σ.2 i := by funext j; simp [am_new, h]
  simp only [am_cell, e, e2]
theorem am_fs_set {kds : List Nat} {k kd : Nat} {f f' : Nat → Int32} {g g' : Nat → Int64} (h : kds[k]? = some kd) (hf : ∀ j, j ≠ k → f' j = f j) (hg : ∀ j, j ≠ k → g' j = g j) : am_fs kds f' g' = (am_fs kds f g).set k (am_av kd (f' k) (g' k)) := by
  apply List.ext_getElem?
  intro j
  by_cases hj : j = k
  · subst hj
    rw [am_fs_at f' g' h, List.getElem?_set_self (by rw [am_fs_len]; exact (List.getElem?_eq_some_iff.mp h).1)]
  · rw [List.getElem?_set_ne (Ne.symm hj)]
    cases hz : kds[j]? with
    | none => rw [List.getElem?_eq_none (by rw [am_fs_len]; exact List.getElem?_eq_none_iff.mp hz), List.getElem?_eq_none (by rw [am_fs_len]; exact List.getElem?_eq_none_iff.mp hz)]
    | some z => rw [am_fs_at f' g' hz, am_fs_at f g hz, hf j hj, hg j hj]
/-- how many slots the first n take -/
def am_sz (SH : am_Sh) (KF : am_Kf) : Nat → Nat
  | 0 => 0
  | n + 1 => am_sz SH KF n + (match SH n with
    | .inl _ => (KF n).length
    | .inr q => q.2)
theorem am_sz_le {SH : am_Sh} {KF : am_Kf} {a c : Nat} (h : a ≤ c) : am_sz SH KF a ≤ am_sz SH KF c := by
  induction c with
  | zero => rw [Nat.le_zero.mp h]; exact Nat.le_refl _
  | succ c ih =>
    rcases Nat.lt_or_ge a (c + 1) with q | q
    · exact Nat.le_trans (ih (by omega)) (by simp [am_sz])
    · rw [show a = c + 1 by omega]; exact Nat.le_refl _
/-! the locals: by their places -/
def am_lv (b : Nat) (ls : List (Option Value)) : List (Nat × Value) := ls.zipIdx.filterMap (fun q => q.1.map (fun v => (q.2, am_c b v)))
theorem am_lv_mem {b : Nat} {ls : List (Option Value)} {q : Nat × Value} : q ∈ am_lv b ls ↔ ∃ v, ls[q.1]? = some (some v) ∧ q.2 = am_c b v := by
  obtain ⟨i, w⟩ := q
  simp only [am_lv, List.mem_filterMap, List.mem_zipIdx_iff_getElem?, Option.map_eq_some_iff]
  constructor
  · rintro ⟨⟨o, j⟩, h1, v, rfl, h2⟩
    cases h2
    exact ⟨v, h1, rfl⟩
  · rintro ⟨v, h1, h2⟩
    exact ⟨(some v, i), h1, v, rfl, by rw [← h2]⟩
theorem am_lv_at {b nL i : Nat} {ls : List (Option Value)} {lc : Array Slot} {v : Value} (h : lv_has lc nL (am_lv b ls)) (hi : ls[i]? = some (some v)) : lc[i]? = some (.val (am_c b v)) := h.2.2 (i, am_c b v) (am_lv_mem.mpr ⟨v, hi, rfl⟩)
/-- the place below holds a long -/
def am_lg (ls : List (Option Value)) (i : Nat) : Bool := match i with
  | 0 => false
  | j + 1 => match ls[j]? with
    | some (some (.long _)) => true
    | some (some (.double _)) => true
    | _ => false
theorem am_lg_not {b i : Nat} {ls : List (Option Value)} (h : am_lg ls i = false) (q : Nat × Value) (hq : q ∈ am_lv b ls) (he : q.1 + 1 = i) : ¬ q.2.category = 2 := by
  obtain ⟨v, h1, h2⟩ := am_lv_mem.mp hq
  subst he
  rw [h2, am_c_cat]
  simp only [am_lg, h1] at h
  cases v <;> simp_all [Value.category]
theorem am_lv_set1 {b nL i : Nat} {ls : List (Option Value)} {lc : Array Slot} {v : Value} (hg : am_lg ls i = false) (h : lv_has lc nL ((i, am_c b v) :: (am_lv b ls).filter (fun q => !(q.1 == i) && !(q.1 + 1 == i && q.2.category == 2)))) : lv_has lc nL (am_lv b (ls.set i (some v))) := by
  refine ⟨h.1, h.2.1, fun q hq => ?_⟩
  obtain ⟨w, h1, h2⟩ := am_lv_mem.mp hq
  apply h.2.2
  by_cases hi : q.1 = i
  · by_cases hl : i < ls.length
    · rw [hi, List.getElem?_set_self hl] at h1
      cases h1
      exact List.mem_cons.mpr (Or.inl (Prod.ext hi h2))
    · rw [hi, List.getElem?_eq_none (by simp; omega)] at h1
      cases h1
  · rw [List.getElem?_set_ne (Ne.symm hi)] at h1
    have hm : q ∈ am_lv b ls := am_lv_mem.mpr ⟨w, h1, h2⟩
    refine List.mem_cons.mpr (Or.inr (List.mem_filter.mpr ⟨hm, ?_⟩))
    by_cases he : q.1 + 1 = i
    · have := am_lg_not hg q hm he
      simp [hi, he, this]
    · simp [hi, he]
theorem am_lv_set2 {b nL i : Nat} {ls : List (Option Value)} {lc : Array Slot} {v : Value} (hg : am_lg ls i = false) (h : lv_has lc nL ((i, am_c b v) :: (am_lv b ls).filter (fun q => !(q.1 == i) && (!(q.1 == i + 1) && !(q.1 + 1 == i && q.2.category == 2))))) : lv_has lc nL (am_lv b ((ls.set i (some v)).set (i + 1) none)) := by
  refine ⟨h.1, h.2.1, fun q hq => ?_⟩
  obtain ⟨w, h1, h2⟩ := am_lv_mem.mp hq
  apply h.2.2
  by_cases hj : q.1 = i + 1
  · by_cases hl : i + 1 < (ls.set i (some v)).length
    · rw [hj, List.getElem?_set_self hl] at h1
      cases h1
    · rw [hj, List.getElem?_eq_none (by simp at hl ⊢; omega)] at h1
      cases h1
  · rw [List.getElem?_set_ne (Ne.symm hj)] at h1
    by_cases hi : q.1 = i
    · by_cases hl : i < ls.length
      · rw [hi, List.getElem?_set_self hl] at h1
        cases h1
        exact List.mem_cons.mpr (Or.inl (Prod.ext hi h2))
      · rw [hi, List.getElem?_eq_none (by simp; omega)] at h1
        cases h1
    · rw [List.getElem?_set_ne (Ne.symm hi)] at h1
      have hm : q ∈ am_lv b ls := am_lv_mem.mpr ⟨w, h1, h2⟩
      refine List.mem_cons.mpr (Or.inr (List.mem_filter.mpr ⟨hm, ?_⟩))
      by_cases he : q.1 + 1 = i
      · have := am_lg_not hg q hm he
        simp [hi, hj, he, this]
      · simp [hi, hj, he]
/-- only the first j places are kept in mind -/
def am_mask : Nat → List (Option Value) → List (Option Value)
  | _, [] => []
  | 0, _ :: t => none :: am_mask 0 t
  | n + 1, a :: t => a :: am_mask n t
theorem am_mask_len : ∀ (j : Nat) (ls : List (Option Value)), (am_mask j ls).length = ls.length
  | _, [] => by simp [am_mask]
  | 0, _ :: t => by simp [am_mask, am_mask_len 0 t]
  | n + 1, _ :: t => by simp [am_mask, am_mask_len n t]
theorem am_mask_at : ∀ (j : Nat) (ls : List (Option Value)) (i : Nat) (v : Value), (am_mask j ls)[i]? = some (some v) → ls[i]? = some (some v)
  | _, [], i, v, h => by simp [am_mask] at h
  | 0, a :: t, 0, v, h => by simp [am_mask] at h
  | 0, a :: t, i + 1, v, h => by
    simp only [am_mask, List.getElem?_cons_succ] at h ⊢
    exact am_mask_at 0 t i v h
  | n + 1, a :: t, 0, v, h => by simpa [am_mask] using h
  | n + 1, a :: t, i + 1, v, h => by
    simp only [am_mask, List.getElem?_cons_succ] at h ⊢
    exact am_mask_at n t i v h
theorem am_lv_mask {b nL j : Nat} {ls : List (Option Value)} {lc : Array Slot} (h : lv_has lc nL (am_lv b ls)) : lv_has lc nL (am_lv b (am_mask j ls)) := by
  refine ⟨h.1, h.2.1, fun q hq => ?_⟩
  obtain ⟨w, h1, h2⟩ := am_lv_mem.mp hq
  exact h.2.2 q (am_lv_mem.mpr ⟨w, am_mask_at _ _ _ _ h1, h2⟩)
