section
/-! AN OWN LAYER OVER THE KIT'S WALK: objects are numbered in the order of their making (the cell of number i lies at b + i); their ints lie in a function of number and slot, their longs in another. -/
abbrev am_S : Type := (Nat → Nat → Int32) × (Nat → Nat → Int64)
/-- what number i is: an object of a class, or an array of a kind (0 int, 1 byte, 2 boolean, 3 long) and a length -/
abbrev am_Sh : Type := Nat → Nat ⊕ (Nat × Nat)
/-- the kinds of an object's fields: 0 int, 1 long, 2 boolean, 3 a cell that may change (0 null, i + 1 number i), o + 4 number o for good -/
abbrev am_Kf : Type := Nat → List Nat
/-- a method's word: arguments, how many cells there are, what they hold, what must hold behind -/
abbrev am_Sp : Type := List Value → Nat → am_S → (Option Value → am_S → Prop) → Prop
def am_pi (σ : am_S) (o k : Nat) (x : Int32) : am_S := (fun o' k' => if o' = o ∧ k' = k then x else σ.1 o' k', σ.2)
def am_pl (σ : am_S) (o k : Nat) (x : Int64) : am_S := (σ.1, fun o' k' => if o' = o ∧ k' = k then x else σ.2 o' k')
def am_new (σ : am_S) (o : Nat) : am_S := (fun o' k' => if o' = o then 0 else σ.1 o' k', fun o' k' => if o' = o then 0 else σ.2 o' k')
def am_av (kd : Nat) (x : Int32) (y : Int64) : Value := match kd with
  | 0 => .int x
  | 1 => .long y
  | 2 => .int x
  | 3 => if x = 0 then .null else .ref (x.toNatClampNeg - 1)
  | o + 4 => .ref o
def am_c (b : Nat) (v : Value) : Value := match v with
  | .ref a => .ref (b + a)
  | v => v
theorem am_c_cat (b : Nat) (v : Value) : (am_c b v).category = v.category := by cases v <;> rfl
def am_fs (kds : List Nat) (f : Nat → Int32) (g : Nat → Int64) : List Value := kds.zipIdx.map (fun q => am_av q.1 (f q.2) (g q.2))
theorem am_fs_len (kds : List Nat) (f : Nat → Int32) (g : Nat → Int64) : (am_fs kds f g).length = kds.length := by simp [am_fs]
theorem am_fs_at {kds : List Nat} {k kd : Nat} (f : Nat → Int32) (g : Nat → Int64) (h : kds[k]? = some kd) : (am_fs kds f g)[k]? = some (am_av kd (f k) (g k)) := by
  simp [am_fs, List.getElem?_map, List.getElem?_zipIdx, h]
def am_cell (SH : am_Sh) (KF : am_Kf) (b : Nat) (aC : Nat → ClassId) (σ : am_S) (i : Nat) : va_E := match SH i with
  | .inl ci => .inr (ci, (am_fs (KF i) (σ.1 i) (σ.2 i)).map (am_c b))
  | .inr q => .inl (aC q.1, (q.2, if q.1 = 3 then .inr (.inl (σ.2 i)) else .inl (σ.1 i)))
def am_ws (SH : am_Sh) (KF : am_Kf) (b : Nat) (aC : Nat → ClassId) (n : Nat) (σ : am_S) : va_W := (List.range n).map (fun i => (b + i, am_cell SH KF b aC σ i))
theorem am_ws_len {SH : am_Sh} {KF : am_Kf} {b : Nat} {aC : Nat → ClassId} {n : Nat} {σ : am_S} : (am_ws SH KF b aC n σ).length = n := by simp [am_ws]
theorem am_ws_at {SH : am_Sh} {KF : am_Kf} {b : Nat} {aC : Nat → ClassId} {n o : Nat} {σ : am_S} (h : o < n) : (am_ws SH KF b aC n σ)[o]? = some (b + o, am_cell SH KF b aC σ o) := by
  simp [am_ws, List.getElem?_map, h]
theorem am_ws_set {SH : am_Sh} {KF : am_Kf} {b : Nat} {aC : Nat → ClassId} {n o : Nat} {σ τ : am_S} {e : va_E} (h : o < n) (he : e = am_cell SH KF b aC τ o) (hk : ∀ i, i ≠ o → am_cell SH KF b aC τ i = am_cell SH KF b aC σ i) : (am_ws SH KF b aC n σ).set o (b + o, e) = am_ws SH KF b aC n τ := by
  subst he
  apply List.ext_getElem?
  intro i
  by_cases hi : i = o
  · subst hi
    rw [List.getElem?_set_self (by rw [am_ws_len]; exact h), am_ws_at h]
  · rw [List.getElem?_set_ne (Ne.symm hi)]
    by_cases hn : i < n
    · rw [am_ws_at hn, am_ws_at hn, hk i hi]
    · rw [List.getElem?_eq_none (by rw [am_ws_len]; omega), List.getElem?_eq_none (by rw [am_ws_len]; omega)]
theorem am_ws_push {SH : am_Sh} {KF : am_Kf} {b : Nat} {aC : Nat → ClassId} {n : Nat} {σ τ : am_S} {e : va_E} (he : e = am_cell SH KF b aC τ n) (hk : ∀ i, i < n → am_cell SH KF b aC τ i = am_cell SH KF b aC σ i) : am_ws SH KF b aC n σ ++ [(b + n, e)] = am_ws SH KF b aC (n + 1) τ := by
  subst he
  simp only [am_ws, List.range_succ, List.map_append, List.map_cons, List.map_nil]
  congr 1
  apply List.map_congr_left
  intro i hi
  rw [hk i (List.mem_range.mp hi)]
theorem am_ws_D {SH : am_Sh} {KF : am_Kf} {b : Nat} {aC : Nat → ClassId} {n : Nat} {σ : am_S} : va_D (fun q => b ≤ q) (am_ws SH KF b aC n σ) := by
  have key : ∀ (k : Nat) (q : Nat × va_E), (am_ws SH KF b aC n σ)[k]? = some q → q.1 = b + k := by
    intro k q hq
    by_cases hk : k < n
    · rw [am_ws_at hk] at hq
      cases hq
      rfl
    · rw [List.getElem?_eq_none (by rw [am_ws_len]; omega)] at hq
      cases hq
  refine ⟨fun i j p q hp hq h => ?_, fun k q hq => ?_⟩
  · rw [key i p hp, key j q hq] at h
    omega
  · show b ≤ q.1
    rw [key k q hq]
    omega
theorem am_pi_ne {SH : am_Sh} {KF : am_Kf} {b : Nat} {aC : Nat → ClassId} {σ : am_S} {o k : Nat} {x : Int32} {i : Nat} (h : i ≠ o) : am_cell SH KF b aC (am_pi σ o k x) i = am_cell SH KF b aC σ i := by
  have e : (am_pi σ o k x).1 i = σ.1 i := by funext j; simp [am_pi, h]
  simp only [am_cell, e]
  rfl
theorem am_pl_ne {SH : am_Sh} {KF : am_Kf} {b : Nat} {aC : Nat → ClassId} {σ : am_S} {o k : Nat} {x : Int64} {i : Nat} (h : i ≠ o) : am_cell SH KF b aC (am_pl σ o k x) i = am_cell SH KF b aC σ i := by
  have e : (am_pl σ o k x).2 i = σ.2 i := by funext j; simp [am_pl, h]
  simp only [am_cell, e]
  rfl
theorem am_new_ne {SH : am_Sh} {KF : am_Kf} {b : Nat} {aC : Nat → ClassId} {σ : am_S} {o : Nat} {i : Nat} (h : i ≠ o) : am_cell SH KF b aC (am_new σ o) i = am_cell SH KF b aC σ i := by
  have e : (am_new σ o).1 i = σ.1 i := by funext j; simp [am_new, h]
  have e2 : (am_new σ o).2 i = σ.2 i := by funext j; simp [am_new, h]
  simp only [am_cell, e, e2]
theorem am_fs_set {kds : List Nat} {k kd : Nat} {f f' : Nat → Int32} {g g' : Nat → Int64} (h : kds[k]? = some kd) (hf : ∀ j, j ≠ k → f' j = f j) (hg : ∀ j, j ≠ k → g' j = g j) : am_fs kds f' g' = (am_fs kds f g).set k (am_av kd (f' k) (g' k)) := by
  apply List.ext_getElem?
  intro j
  by_cases hj : j = k
  · subst hj
    rw [am_fs_at f' g' h, List.getElem?_set_self (by rw [am_fs_len]; exact (List.getElem?_eq_some_iff.mp h).1)]
  · rw [List.getElem?_set_ne (Ne.symm hj)]
    cases hz : kds[j]? with
    | none => rw [List.getElem?_eq_none (by rw [am_fs_len]; exact List.getElem?_eq_none_iff.mp hz), List.getElem?_eq_none (by rw [am_fs_len]; exact List.getElem?_eq_none_iff.mp hz)]
    | some z => rw [am_fs_at f' g' hz, am_fs_at f g hz, hf j hj, hg j hj]
/-- how many slots the first n take -/
def am_sz (SH : am_Sh) (KF : am_Kf) : Nat → Nat
  | 0 => 0
  | n + 1 => am_sz SH KF n + (match SH n with
    | .inl _ => (KF n).length
    | .inr q => q.2)
theorem am_sz_le {SH : am_Sh} {KF : am_Kf} {a c : Nat} (h : a ≤ c) : am_sz SH KF a ≤ am_sz SH KF c := by
  induction c with
  | zero => rw [Nat.le_zero.mp h]; exact Nat.le_refl _
  | succ c ih =>
    rcases Nat.lt_or_ge a (c + 1) with q | q
    · exact Nat.le_trans (ih (by omega)) (by simp [am_sz])
    · rw [show a = c + 1 by omega]; exact Nat.le_refl _
/-! the locals: by their places -/
def am_lv (b : Nat) (ls : List (Option Value)) : List (Nat × Value) := ls.zipIdx.filterMap (fun q => q.1.map (fun v => (q.2, am_c b v)))
theorem am_lv_mem {b : Nat} {ls : List (Option Value)} {q : Nat × Value} : q ∈ am_lv b ls ↔ ∃ v, ls[q.1]? = some (some v) ∧ q.2 = am_c b v := by
  obtain ⟨i, w⟩ := q
  simp only [am_lv, List.mem_filterMap, List.mem_zipIdx_iff_getElem?, Option.map_eq_some_iff]
  constructor
  · rintro ⟨⟨o, j⟩, h1, v, rfl, h2⟩
    cases h2
    exact ⟨v, h1, rfl⟩
  · rintro ⟨v, h1, h2⟩
    exact ⟨(some v, i), h1, v, rfl, by rw [← h2]⟩
theorem am_lv_at {b nL i : Nat} {ls : List (Option Value)} {lc : Array Slot} {v : Value} (h : lv_has lc nL (am_lv b ls)) (hi : ls[i]? = some (some v)) : lc[i]? = some (.val (am_c b v)) := h.2.2 (i, am_c b v) (am_lv_mem.mpr ⟨v, hi, rfl⟩)
/-- the place below holds a long -/
def am_lg (ls : List (Option Value)) (i : Nat) : Bool := match i with
  | 0 => false
  | j + 1 => match ls[j]? with
    | some (some (.long _)) => true
    | some (some (.double _)) => true
    | _ => false
theorem am_lg_not {b i : Nat} {ls : List (Option Value)} (h : am_lg ls i = false) (q : Nat × Value) (hq : q ∈ am_lv b ls) (he : q.1 + 1 = i) : ¬ q.2.category = 2 := by
  obtain ⟨v, h1, h2⟩ := am_lv_mem.mp hq
  subst he
  rw [h2, am_c_cat]
  simp only [am_lg, h1] at h
  cases v <;> simp_all [Value.category]
theorem am_lv_set1 {b nL i : Nat} {ls : List (Option Value)} {lc : Array Slot} {v : Value} (hg : am_lg ls i = false) (h : lv_has lc nL ((i, am_c b v) :: (am_lv b ls).filter (fun q => !(q.1 == i) && !(q.1 + 1 == i && q.2.category == 2)))) : lv_has lc nL (am_lv b (ls.set i (some v))) := by
  refine ⟨h.1, h.2.1, fun q hq => ?_⟩
  obtain ⟨w, h1, h2⟩ := am_lv_mem.mp hq
  apply h.2.2
  by_cases hi : q.1 = i
  · by_cases hl : i < ls.length
    · rw [hi, List.getElem?_set_self hl] at h1
      cases h1
      exact List.mem_cons.mpr (Or.inl (Prod.ext hi h2))
    · rw [hi, List.getElem?_eq_none (by simp; omega)] at h1
      cases h1
  · rw [List.getElem?_set_ne (Ne.symm hi)] at h1
    have hm : q ∈ am_lv b ls := am_lv_mem.mpr ⟨w, h1, h2⟩
    refine List.mem_cons.mpr (Or.inr (List.mem_filter.mpr ⟨hm, ?_⟩))
    by_cases he : q.1 + 1 = i
    · have := am_lg_not hg q hm he
      simp [hi, he, this]
    · simp [hi, he]
theorem am_lv_set2 {b nL i : Nat} {ls : List (Option Value)} {lc : Array Slot} {v : Value} (hg : am_lg ls i = false) (h : lv_has lc nL ((i, am_c b v) :: (am_lv b ls).filter (fun q => !(q.1 == i) && (!(q.1 == i + 1) && !(q.1 + 1 == i && q.2.category == 2))))) : lv_has lc nL (am_lv b ((ls.set i (some v)).set (i + 1) none)) := by
  refine ⟨h.1, h.2.1, fun q hq => ?_⟩
  obtain ⟨w, h1, h2⟩ := am_lv_mem.mp hq
  apply h.2.2
  by_cases hj : q.1 = i + 1
  · by_cases hl : i + 1 < (ls.set i (some v)).length
    · rw [hj, List.getElem?_set_self hl] at h1
      cases h1
    · rw [hj, List.getElem?_eq_none (by simp at hl ⊢; omega)] at h1
      cases h1
  · rw [List.getElem?_set_ne (Ne.symm hj)] at h1
    by_cases hi : q.1 = i
    · by_cases hl : i < ls.length
      · rw [hi, List.getElem?_set_self hl] at h1
        cases h1
        exact List.mem_cons.mpr (Or.inl (Prod.ext hi h2))
      · rw [hi, List.getElem?_eq_none (by simp; omega)] at h1
        cases h1
    · rw [List.getElem?_set_ne (Ne.symm hi)] at h1
      have hm : q ∈ am_lv b ls := am_lv_mem.mpr ⟨w, h1, h2⟩
      refine List.mem_cons.mpr (Or.inr (List.mem_filter.mpr ⟨hm, ?_⟩))
      by_cases he : q.1 + 1 = i
      · have := am_lg_not hg q hm he
        simp [hi, hj, he, this]
      · simp [hi, hj, he]
/-- only the first j places are kept in mind -/
def am_mask : Nat → List (Option Value) → List (Option Value)
  | _, [] => []
  | 0, _ :: t => none :: am_mask 0 t
  | n + 1, a :: t => a :: am_mask n t
theorem am_mask_len : ∀ (j : Nat) (ls : List (Option Value)), (am_mask j ls).length = ls.length
  | _, [] => by simp [am_mask]
  | 0, _ :: t => by simp [am_mask, am_mask_len 0 t]
  | n + 1, _ :: t => by simp [am_mask, am_mask_len n t]
theorem am_mask_at : ∀ (j : Nat) (ls : List (Option Value)) (i : Nat) (v : Value), (am_mask j ls)[i]? = some (some v) → ls[i]? = some (some v)
  | _, [], i, v, h => by simp [am_mask] at h
  | 0, a :: t, 0, v, h => by simp [am_mask] at h
  | 0, a :: t, i + 1, v, h => by
    simp only [am_mask, List.getElem?_cons_succ] at h ⊢
    exact am_mask_at 0 t i v h
  | n + 1, a :: t, 0, v, h => by simpa [am_mask] using h
  | n + 1, a :: t, i + 1, v, h => by
    simp only [am_mask, List.getElem?_cons_succ] at h ⊢
    exact am_mask_at n t i v h
theorem am_lv_mask {b nL j : Nat} {ls : List (Option Value)} {lc : Array Slot} (h : lv_has lc nL (am_lv b ls)) : lv_has lc nL (am_lv b (am_mask j ls)) := by
  refine ⟨h.1, h.2.1, fun q hq => ?_⟩
  obtain ⟨w, h1, h2⟩ := am_lv_mem.mp hq
  exact h.2.2 q (am_lv_mem.mpr ⟨w, am_mask_at _ _ _ _ h1, h2⟩)
end
section
/-! ONE INSTRUCTION, as a word on what must hold: K is what must hold behind it, post what must hold of an answer. Printed by wip/am/gen_one.py. -/
/-- a method's tables: numbers' kinds, fields' kinds, the answer's type, fields read, fields written, classes made, ints and longs of the pool, natives, methods (kind, how many arguments, class, cells, slots, word) -/
abbrev am_X : Type := am_Sh × am_Kf × Option FieldType × List (Nat × Nat × Nat) × List (Nat × Nat × Nat) × List (Nat × Nat) × List (Nat × Int32) × List (Nat × Int64) × List (Nat × Nat) × List (Nat × Nat × Nat × Nat × Nat × Nat × am_Sp)
def am_SH (X : am_X) : am_Sh := X.1
def am_KF (X : am_X) : am_Kf := X.2.1
def am_rt (X : am_X) : Option FieldType := X.2.2.1
def am_FT (X : am_X) : List (Nat × Nat × Nat) := X.2.2.2.1
def am_PT (X : am_X) : List (Nat × Nat × Nat) := X.2.2.2.2.1
def am_CT (X : am_X) : List (Nat × Nat) := X.2.2.2.2.2.1
def am_KT (X : am_X) : List (Nat × Int32) := X.2.2.2.2.2.2.1
def am_LT (X : am_X) : List (Nat × Int64) := X.2.2.2.2.2.2.2.1
def am_NT (X : am_X) : List (Nat × Nat) := X.2.2.2.2.2.2.2.2.1
def am_ML (X : am_X) : List (Nat × Nat × Nat × Nat × Nat × Nat × am_Sp) := X.2.2.2.2.2.2.2.2.2
def am_find {α : Type _} : List (Nat × α) → Nat → Option α
  | [], _ => none
  | (a, x) :: t, i => if i = a then some x else am_find t i
theorem am_find_mem {α : Type _} : ∀ {l : List (Nat × α)} {i : Nat} {x : α}, am_find l i = some x → (i, x) ∈ l
  | [], i, x, h => by cases h
  | (a, y) :: t, i, x, h => by
    simp only [am_find] at h
    split at h
    · rename_i e
      cases h
      exact List.mem_cons.mpr (Or.inl (by rw [e]))
    · exact List.mem_cons_of_mem _ (am_find_mem h)
def am_opt {α : Type _} (o : Option α) (k : α → Prop) : Prop := match o with
  | some x => k x
  | none => False
theorem am_opt_iff {α : Type _} {o : Option α} {k : α → Prop} : am_opt o k ↔ ∃ x, o = some x ∧ k x := by cases o <;> simp [am_opt]
def am_cl {α : Type _} (o : Option α) (k : α → Prop) (q : Prop) : Prop := match o with
  | some x => k x
  | none => q
def am_ldi (ls : List (Option Value)) (i : Nat) (k : Int32 → Prop) : Prop := match ls[i]? with
  | some (some (.int x)) => k x
  | _ => False
def am_ldl (ls : List (Option Value)) (i : Nat) (k : Int64 → Prop) : Prop := match ls[i]? with
  | some (some (.long x)) => k x
  | _ => False
def am_lda (ls : List (Option Value)) (i : Nat) (k : Nat → Prop) : Prop := match ls[i]? with
  | some (some (.ref x)) => k x
  | _ => False
def am_v (st : List Value) (k : Value → List Value → Prop) : Prop := match st with
  | v :: r => k v r
  | _ => False
def am_1 (st : List Value) (k : Int32 → List Value → Prop) : Prop := match st with
  | .int x :: r => k x r
  | _ => False
def am_1l (st : List Value) (k : Int64 → List Value → Prop) : Prop := match st with
  | .long x :: r => k x r
  | _ => False
def am_1a (st : List Value) (k : Nat → List Value → Prop) : Prop := match st with
  | .ref x :: r => k x r
  | _ => False
def am_2 (st : List Value) (k : Int32 → Int32 → List Value → Prop) : Prop := match st with
  | .int y :: .int x :: r => k x y r
  | _ => False
def am_2l (st : List Value) (k : Int64 → Int64 → List Value → Prop) : Prop := match st with
  | .long y :: .long x :: r => k x y r
  | _ => False
def am_ix (st : List Value) (k : Int32 → Nat → List Value → Prop) : Prop := match st with
  | .int i :: .ref o :: r => k i o r
  | _ => False
theorem am_ldi_iff {ls : List (Option Value)} {i : Nat} {k : Int32 → Prop} (h : am_ldi ls i k) : ∃ x, ls[i]? = some (some (.int x)) ∧ k x := by
  unfold am_ldi at h
  split at h
  · exact ⟨_, by assumption, h⟩
  · exact h.elim
theorem am_ldl_iff {ls : List (Option Value)} {i : Nat} {k : Int64 → Prop} (h : am_ldl ls i k) : ∃ x, ls[i]? = some (some (.long x)) ∧ k x := by
  unfold am_ldl at h
  split at h
  · exact ⟨_, by assumption, h⟩
  · exact h.elim
theorem am_lda_iff {ls : List (Option Value)} {i : Nat} {k : Nat → Prop} (h : am_lda ls i k) : ∃ x, ls[i]? = some (some (.ref x)) ∧ k x := by
  unfold am_lda at h
  split at h
  · exact ⟨_, by assumption, h⟩
  · exact h.elim
theorem am_v_iff {st : List Value} {k : Value → List Value → Prop} (h : am_v st k) : ∃ v r, st = v :: r ∧ k v r := by
  unfold am_v at h
  split at h
  · exact ⟨_, _, rfl, h⟩
  · exact h.elim
theorem am_1_iff {st : List Value} {k : Int32 → List Value → Prop} (h : am_1 st k) : ∃ x r, st = .int x :: r ∧ k x r := by
  unfold am_1 at h
  split at h
  · exact ⟨_, _, rfl, h⟩
  · exact h.elim
theorem am_1l_iff {st : List Value} {k : Int64 → List Value → Prop} (h : am_1l st k) : ∃ x r, st = .long x :: r ∧ k x r := by
  unfold am_1l at h
  split at h
  · exact ⟨_, _, rfl, h⟩
  · exact h.elim
theorem am_1a_iff {st : List Value} {k : Nat → List Value → Prop} (h : am_1a st k) : ∃ x r, st = .ref x :: r ∧ k x r := by
  unfold am_1a at h
  split at h
  · exact ⟨_, _, rfl, h⟩
  · exact h.elim
theorem am_2_iff {st : List Value} {k : Int32 → Int32 → List Value → Prop} (h : am_2 st k) : ∃ x y r, st = .int y :: .int x :: r ∧ k x y r := by
  unfold am_2 at h
  split at h
  · exact ⟨_, _, _, rfl, h⟩
  · exact h.elim
theorem am_2l_iff {st : List Value} {k : Int64 → Int64 → List Value → Prop} (h : am_2l st k) : ∃ x y r, st = .long y :: .long x :: r ∧ k x y r := by
  unfold am_2l at h
  split at h
  · exact ⟨_, _, _, rfl, h⟩
  · exact h.elim
theorem am_ix_iff {st : List Value} {k : Int32 → Nat → List Value → Prop} (h : am_ix st k) : ∃ x y r, st = .int x :: .ref y :: r ∧ k x y r := by
  unfold am_ix at h
  split at h
  · exact ⟨_, _, _, rfl, h⟩
  · exact h.elim
/-- a jump -/
def am_tg (pc : Nat) (off : Int) (k : Nat → Prop) : Prop := 0 ≤ (pc : Int) + off ∧ k ((pc : Int) + off).toNat
def am_ts (pc : Nat) (x : Int32) (k : Nat → Prop) (lo : Int) : List Int → Int → Prop
  | [], _ => True
  | off :: t, i => (x.toInt = i → am_tg pc off k) ∧ am_ts pc x k lo t (i + 1)
def am_ls (pc : Nat) (x : Int32) (d : Int) (k : Nat → Prop) : List (Int × Int) → Prop
  | [] => am_tg pc d k
  | q :: t => (x.toInt = q.1 → am_tg pc q.2 k) ∧ (¬ x.toInt = q.1 → am_ls pc x d k t)
def am_ri (rt : Option FieldType) (x : Int32) : Prop := match rt with
  | some .int => True
  | some .boolean => vp_nar .boolean x = x
  | _ => False
def am_arr (s : Nat ⊕ (Nat × Nat)) (k : Nat × Nat → Prop) : Prop := match s with
  | .inr q => k q
  | .inl _ => False
theorem am_arr_iff {s : Nat ⊕ (Nat × Nat)} {k : Nat × Nat → Prop} (h : am_arr s k) : ∃ q, s = .inr q ∧ k q := by
  unfold am_arr at h
  split at h
  · exact ⟨_, rfl, h⟩
  · exact h.elim
def am_ty (k : Nat) : Option ArrayType := match k with
  | 0 => some .int
  | 1 => some .byte
  | 2 => some .boolean
  | 3 => some .long
  | _ => none
/-- a field is written -/
def am_pf (kd : Nat) (v : Value) (σ : am_S) (o k : Nat) (K : am_S → Prop) : Prop := match kd, v with
  | 0, .int x => K (am_pi σ o k x)
  | 1, .long x => K (am_pl σ o k x)
  | 2, .int x => vp_nar .boolean x = x ∧ K (am_pi σ o k x)
  | 3, .ref a => a < 1000000 ∧ K (am_pi σ o k (Int32.ofNat (a + 1)))
  | _, _ => False
/-- a call's receiver -/
def am_rc (kind cls n : Nat) (SH : am_Sh) (as : List Value) : Prop := match kind with
  | 1 => True
  | 4 => True
  | _ => match as with
    | .ref o :: _ => o < n ∧ SH o = .inl cls
    | _ => False
/-- natives: 0 max, 1 min, 2 abs, 3 Object's constructor, 4 arraycopy of ints -/
def am_nat (w op : Nat) (stk : List Value) (n : Nat) (SH : am_Sh) (σ : am_S) (K : List Value → am_S → Prop) : Prop := match w, op with
  | 0, 1 => am_2 stk (fun x y r => (r.map fun v => v.category).sum ≤ 8 ∧ K (.int (if x < y then y else x) :: r) σ)
  | 1, 1 => am_2 stk (fun x y r => (r.map fun v => v.category).sum ≤ 8 ∧ K (.int (if y < x then y else x) :: r) σ)
  | 2, 1 => am_1 stk (fun x r => (r.map fun v => v.category).sum ≤ 8 ∧ K (.int (if 0 ≤ x then x else 0 - x) :: r) σ)
  | 3, 0 => am_1a stk (fun _ r => (r.map fun v => v.category).sum ≤ 8 ∧ K r σ)
  | 4, 1 => match stk with
    | .int m :: .int dp :: .ref d :: .int sp :: .ref c :: r => c < n ∧ d < n ∧ am_arr (SH c) (fun q => q.1 = 0 ∧ am_arr (SH d) (fun q2 => q2.1 = 0 ∧ ¬ sp < 0 ∧ ¬ dp < 0 ∧ ¬ m < 0 ∧ sp.toNatClampNeg + m.toNatClampNeg ≤ q.2 ∧ dp.toNatClampNeg + m.toNatClampNeg ≤ q2.2 ∧ (r.map fun v => v.category).sum ≤ 8 ∧ K r (fun o' k' => if o' = d then va_cpy (σ.1 c) (σ.1 d) sp.toNatClampNeg dp.toNatClampNeg m.toNatClampNeg k' else σ.1 o' k', σ.2)))
    | _ => False
  | _, _ => False
def am_one (X : am_X) (ne : Nat) (post : Option Value → am_S → Prop) (i : Instr) (len pc : Nat) (ls : List (Option Value)) (stk : List Value) (n : Nat) (σ : am_S) (K : Nat → List (Option Value) → List Value → Nat → am_S → Prop) : Prop := match i with
  | .iconst v => len = 1 ∧ K (pc + 1) ls (.int (Int32.ofInt v) :: stk) n σ
  | .bipush v => len = 2 ∧ (-128 ≤ v ∧ v ≤ 127) ∧ K (pc + 2) ls (.int (Int32.ofInt v) :: stk) n σ
  | .sipush v => len = 3 ∧ (-32768 ≤ v ∧ v ≤ 32767) ∧ K (pc + 3) ls (.int (Int32.ofInt v) :: stk) n σ
  | .lconst v => len = 1 ∧ K (pc + 1) ls (.long (Int64.ofNat (v : Nat)) :: stk) n σ
  | .ldc ix => len = 2 ∧ am_opt (am_find (am_KT X) ix) (fun v => K (pc + 2) ls (.int v :: stk) n σ)
  | .ldc_w ix => len = 3 ∧ am_opt (am_find (am_KT X) ix) (fun v => K (pc + 3) ls (.int v :: stk) n σ)
  | .ldc2_w ix => len = 3 ∧ am_opt (am_find (am_LT X) ix) (fun v => K (pc + 3) ls (.long v :: stk) n σ)
  | .iload_n k => len = 1 ∧ am_ldi ls (k : Nat) (fun x => K (pc + 1) ls (.int x :: stk) n σ)
  | .iload k => len = 2 ∧ am_ldi ls k (fun x => K (pc + 2) ls (.int x :: stk) n σ)
  | .lload_n k => len = 1 ∧ am_ldl ls (k : Nat) (fun x => K (pc + 1) ls (.long x :: stk) n σ)
  | .lload k => len = 2 ∧ am_ldl ls k (fun x => K (pc + 2) ls (.long x :: stk) n σ)
  | .aload_n k => len = 1 ∧ am_lda ls (k : Nat) (fun x => K (pc + 1) ls (.ref x :: stk) n σ)
  | .aload k => len = 2 ∧ am_lda ls k (fun x => K (pc + 2) ls (.ref x :: stk) n σ)
  | .istore_n k => len = 1 ∧ am_1 stk (fun x rest => am_lg ls (k : Nat) = false ∧ (k : Nat) < ls.length ∧ K (pc + 1) (ls.set (k : Nat) (some (.int x))) rest n σ)
  | .istore k => len = 2 ∧ am_1 stk (fun x rest => am_lg ls k = false ∧ k < ls.length ∧ K (pc + 2) (ls.set k (some (.int x))) rest n σ)
  | .lstore_n k => len = 1 ∧ am_1l stk (fun x rest => am_lg ls (k : Nat) = false ∧ (k : Nat) + 1 < ls.length ∧ K (pc + 1) ((ls.set (k : Nat) (some (.long x))).set ((k : Nat) + 1) none) rest n σ)
  | .lstore k => len = 2 ∧ am_1l stk (fun x rest => am_lg ls k = false ∧ k + 1 < ls.length ∧ K (pc + 2) ((ls.set k (some (.long x))).set (k + 1) none) rest n σ)
  | .astore_n k => len = 1 ∧ am_1a stk (fun x rest => am_lg ls (k : Nat) = false ∧ (k : Nat) < ls.length ∧ K (pc + 1) (ls.set (k : Nat) (some (.ref x))) rest n σ)
  | .astore k => len = 2 ∧ am_1a stk (fun x rest => am_lg ls k = false ∧ k < ls.length ∧ K (pc + 2) (ls.set k (some (.ref x))) rest n σ)
  | .iinc k c => len = 3 ∧ am_ldi ls k (fun x => am_lg ls k = false ∧ k < ls.length ∧ K (pc + 3) (ls.set k (some (.int (x + Int32.ofInt c)))) stk n σ)
  | .iadd => len = 1 ∧ am_2 stk (fun x y rest => K (pc + 1) ls (.int (x + y) :: rest) n σ)
  | .isub => len = 1 ∧ am_2 stk (fun x y rest => K (pc + 1) ls (.int (x - y) :: rest) n σ)
  | .imul => len = 1 ∧ am_2 stk (fun x y rest => K (pc + 1) ls (.int (x * y) :: rest) n σ)
  | .iand => len = 1 ∧ am_2 stk (fun x y rest => K (pc + 1) ls (.int (x &&& y) :: rest) n σ)
  | .ior => len = 1 ∧ am_2 stk (fun x y rest => K (pc + 1) ls (.int (x ||| y) :: rest) n σ)
  | .ixor => len = 1 ∧ am_2 stk (fun x y rest => K (pc + 1) ls (.int (x ^^^ y) :: rest) n σ)
  | .ishl => len = 1 ∧ am_2 stk (fun x y rest => K (pc + 1) ls (.int (x <<< (y &&& 31)) :: rest) n σ)
  | .ishr => len = 1 ∧ am_2 stk (fun x y rest => K (pc + 1) ls (.int (x >>> (y &&& 31)) :: rest) n σ)
  | .iushr => len = 1 ∧ am_2 stk (fun x y rest => K (pc + 1) ls (.int ((x.toUInt32 >>> (y.toUInt32 &&& Int32.toUInt32 31)).toInt32) :: rest) n σ)
  | .idiv => len = 1 ∧ am_2 stk (fun x y rest => ¬ y = 0 ∧ K (pc + 1) ls (.int (x / y) :: rest) n σ)
  | .irem => len = 1 ∧ am_2 stk (fun x y rest => ¬ y = 0 ∧ K (pc + 1) ls (.int (x - x / y * y) :: rest) n σ)
  | .ladd => len = 1 ∧ am_2l stk (fun x y rest => K (pc + 1) ls (.long (x + y) :: rest) n σ)
  | .lmul => len = 1 ∧ am_2l stk (fun x y rest => K (pc + 1) ls (.long (x * y) :: rest) n σ)
  | .lcmp => len = 1 ∧ am_2l stk (fun x y rest => K (pc + 1) ls (.int (lg_cmp x y) :: rest) n σ)
  | .i2l => len = 1 ∧ am_1 stk (fun x rest => K (pc + 1) ls (.long x.toInt64 :: rest) n σ)
  | .i2b => len = 1 ∧ am_1 stk (fun x rest => K (pc + 1) ls (.int x.toInt8.toInt32 :: rest) n σ)
  | .l2i => len = 1 ∧ am_1l stk (fun x rest => K (pc + 1) ls (.int x.toInt32 :: rest) n σ)
  | .dup => len = 1 ∧ am_v stk (fun v rest => v.category = 1 ∧ K (pc + 1) ls (v :: v :: rest) n σ)
  | .pop => len = 1 ∧ am_v stk (fun v rest => v.category = 1 ∧ K (pc + 1) ls (rest) n σ)
  | .dup2 => len = 1 ∧ am_v stk (fun v r1 => am_v r1 (fun w rest => v.category = 1 ∧ w.category = 1 ∧ K (pc + 1) ls (v :: w :: v :: w :: rest) n σ))
  | .ifCond .eq off => len = 3 ∧ am_1 stk (fun x rest => am_tg pc off (fun t => (x = 0 → K t ls rest n σ) ∧ (¬ (x = 0) → K (pc + 3) ls rest n σ)))
  | .ifCond .ne off => len = 3 ∧ am_1 stk (fun x rest => am_tg pc off (fun t => (¬ x = 0 → K t ls rest n σ) ∧ (x = 0 → K (pc + 3) ls rest n σ)))
  | .ifCond .lt off => len = 3 ∧ am_1 stk (fun x rest => am_tg pc off (fun t => (x < 0 → K t ls rest n σ) ∧ (¬ (x < 0) → K (pc + 3) ls rest n σ)))
  | .ifCond .ge off => len = 3 ∧ am_1 stk (fun x rest => am_tg pc off (fun t => (0 ≤ x → K t ls rest n σ) ∧ (¬ (0 ≤ x) → K (pc + 3) ls rest n σ)))
  | .ifCond .gt off => len = 3 ∧ am_1 stk (fun x rest => am_tg pc off (fun t => (0 < x → K t ls rest n σ) ∧ (¬ (0 < x) → K (pc + 3) ls rest n σ)))
  | .ifCond .le off => len = 3 ∧ am_1 stk (fun x rest => am_tg pc off (fun t => (x ≤ 0 → K t ls rest n σ) ∧ (¬ (x ≤ 0) → K (pc + 3) ls rest n σ)))
  | .if_icmp .eq off => len = 3 ∧ am_2 stk (fun x y rest => am_tg pc off (fun t => (x = y → K t ls rest n σ) ∧ (¬ (x = y) → K (pc + 3) ls rest n σ)))
  | .if_icmp .ne off => len = 3 ∧ am_2 stk (fun x y rest => am_tg pc off (fun t => (¬ x = y → K t ls rest n σ) ∧ (x = y → K (pc + 3) ls rest n σ)))
  | .if_icmp .lt off => len = 3 ∧ am_2 stk (fun x y rest => am_tg pc off (fun t => (x < y → K t ls rest n σ) ∧ (¬ (x < y) → K (pc + 3) ls rest n σ)))
  | .if_icmp .ge off => len = 3 ∧ am_2 stk (fun x y rest => am_tg pc off (fun t => (y ≤ x → K t ls rest n σ) ∧ (¬ (y ≤ x) → K (pc + 3) ls rest n σ)))
  | .if_icmp .gt off => len = 3 ∧ am_2 stk (fun x y rest => am_tg pc off (fun t => (y < x → K t ls rest n σ) ∧ (¬ (y < x) → K (pc + 3) ls rest n σ)))
  | .if_icmp .le off => len = 3 ∧ am_2 stk (fun x y rest => am_tg pc off (fun t => (x ≤ y → K t ls rest n σ) ∧ (¬ (x ≤ y) → K (pc + 3) ls rest n σ)))
  | .goto off => len = 3 ∧ am_tg pc off (fun t => K t ls stk n σ)
  | .ireturn => len = 1 ∧ n = ne ∧ am_1 stk (fun x rest => rest = [] ∧ am_ri (am_rt X) x ∧ post (some (.int x)) σ)
  | .lreturn => len = 1 ∧ n = ne ∧ am_1l stk (fun x rest => rest = [] ∧ am_rt X = some .long ∧ post (some (.long x)) σ)
  | .return_ => len = 1 ∧ n = ne ∧ stk = [] ∧ am_rt X = none ∧ post none σ
  | .tableswitch d lo hi offs => am_1 stk (fun x rest => am_ts pc x (fun t => K t ls rest n σ) lo offs.toList lo ∧ ((x.toInt < lo ∨ hi < x.toInt) → am_tg pc d (fun t => K t ls rest n σ)) ∧ (offs.size : Int) = hi - lo + 1)
  | .lookupswitch d ps => am_1 stk (fun x rest => (ps.toList.zip (ps.toList.drop 1)).all (fun (a, next) => a.1 < next.1) = true ∧ am_ls pc x d (fun t => K t ls rest n σ) ps.toList)
  | .getfield ix => len = 3 ∧ am_1a stk (fun o rest => o < n ∧ am_opt (am_find (am_FT X) ix) (fun q => am_SH X o = .inl q.1 ∧ am_opt (am_KF X o)[q.2]? (fun kd => K (pc + 3) ls (am_av kd (σ.1 o q.2) (σ.2 o q.2) :: rest) n σ)))
  | .putfield ix => len = 3 ∧ am_v stk (fun v r1 => am_1a r1 (fun o rest => o < n ∧ am_opt (am_find (am_PT X) ix) (fun q => am_SH X o = .inl q.1 ∧ am_opt (am_KF X o)[q.2]? (fun kd => am_pf kd v σ o q.2 (fun σ1 => K (pc + 3) ls rest n σ1)))))
  | .arraylength => len = 1 ∧ am_1a stk (fun o rest => o < n ∧ am_arr (am_SH X o) (fun q => q.1 < 4 ∧ K (pc + 1) ls (.int (Int32.ofNat q.2) :: rest) n σ))
  | .iaload => len = 1 ∧ am_ix stk (fun i o rest => o < n ∧ am_arr (am_SH X o) (fun q => q.1 = 0 ∧ vp_in i q.2 ∧ K (pc + 1) ls (.int (σ.1 o i.toNatClampNeg) :: rest) n σ))
  | .baload => len = 1 ∧ am_ix stk (fun i o rest => o < n ∧ am_arr (am_SH X o) (fun q => (q.1 = 1 ∨ q.1 = 2) ∧ vp_in i q.2 ∧ K (pc + 1) ls (.int (σ.1 o i.toNatClampNeg) :: rest) n σ))
  | .laload => len = 1 ∧ am_ix stk (fun i o rest => o < n ∧ am_arr (am_SH X o) (fun q => q.1 = 3 ∧ vp_in i q.2 ∧ K (pc + 1) ls (.long (σ.2 o i.toNatClampNeg) :: rest) n σ))
  | .iastore => len = 1 ∧ am_1 stk (fun x r1 => am_ix r1 (fun i o rest => o < n ∧ am_arr (am_SH X o) (fun q => q.1 = 0 ∧ vp_in i q.2 ∧ K (pc + 1) ls (rest) n (am_pi σ o i.toNatClampNeg x))))
  | .bastore => len = 1 ∧ am_1 stk (fun x r1 => am_ix r1 (fun i o rest => o < n ∧ am_arr (am_SH X o) (fun q => (q.1 = 1 ∨ q.1 = 2) ∧ vp_in i q.2 ∧ K (pc + 1) ls (rest) n (am_pi σ o i.toNatClampNeg (if q.1 = 1 then vp_nar .byte x else vp_nar .boolean x)))))
  | .lastore => len = 1 ∧ am_1l stk (fun x r1 => am_ix r1 (fun i o rest => o < n ∧ am_arr (am_SH X o) (fun q => q.1 = 3 ∧ vp_in i q.2 ∧ K (pc + 1) ls (rest) n (am_pl σ o i.toNatClampNeg x))))
  | .newarray ty => len = 2 ∧ am_1 stk (fun x rest => n < ne ∧ am_arr (am_SH X n) (fun q => am_ty q.1 = some ty ∧ ¬ x < 0 ∧ x.toNatClampNeg = q.2 ∧ q.2 < 1000000 ∧ K (pc + 2) ls (.ref n :: rest) (n + 1) (am_new σ n)))
  | .new ix => len = 3 ∧ n < ne ∧ am_opt (am_find (am_CT X) ix) (fun ci => am_SH X n = .inl ci ∧ (am_KF X n).all (fun kd => decide (kd < 4)) = true ∧ K (pc + 3) ls (.ref n :: stk) (n + 1) (am_new σ n))
  | .invokevirtual ix => len = 3 ∧ am_cl (am_find (am_NT X) ix) (fun w => am_nat w 2 stk n (am_SH X) σ (fun st σ1 => K (pc + 3) ls st n σ1)) (am_opt (am_find (am_ML X) ix) (fun q => [0, 3].contains q.1 = true ∧ q.2.1 ≤ stk.length ∧ am_rc q.1 q.2.2.1 n (am_SH X) (stk.take q.2.1).reverse ∧ ((stk.drop q.2.1).map fun v => v.category).sum ≤ 8 ∧ n + q.2.2.2.1 ≤ ne ∧ am_sz (am_SH X) (am_KF X) (n + q.2.2.2.1) = am_sz (am_SH X) (am_KF X) n + q.2.2.2.2.1 ∧ q.2.2.2.2.2 (stk.take q.2.1).reverse n σ (fun v σ1 => K (pc + 3) ls (v.toList ++ stk.drop q.2.1) (n + q.2.2.2.1) σ1)))
  | .invokestatic ix => len = 3 ∧ am_cl (am_find (am_NT X) ix) (fun w => am_nat w 1 stk n (am_SH X) σ (fun st σ1 => K (pc + 3) ls st n σ1)) (am_opt (am_find (am_ML X) ix) (fun q => [1, 4].contains q.1 = true ∧ q.2.1 ≤ stk.length ∧ am_rc q.1 q.2.2.1 n (am_SH X) (stk.take q.2.1).reverse ∧ ((stk.drop q.2.1).map fun v => v.category).sum ≤ 8 ∧ n + q.2.2.2.1 ≤ ne ∧ am_sz (am_SH X) (am_KF X) (n + q.2.2.2.1) = am_sz (am_SH X) (am_KF X) n + q.2.2.2.2.1 ∧ q.2.2.2.2.2 (stk.take q.2.1).reverse n σ (fun v σ1 => K (pc + 3) ls (v.toList ++ stk.drop q.2.1) (n + q.2.2.2.1) σ1)))
  | .invokespecial ix => len = 3 ∧ am_cl (am_find (am_NT X) ix) (fun w => am_nat w 0 stk n (am_SH X) σ (fun st σ1 => K (pc + 3) ls st n σ1)) (am_opt (am_find (am_ML X) ix) (fun q => [2, 5].contains q.1 = true ∧ q.2.1 ≤ stk.length ∧ am_rc q.1 q.2.2.1 n (am_SH X) (stk.take q.2.1).reverse ∧ ((stk.drop q.2.1).map fun v => v.category).sum ≤ 8 ∧ n + q.2.2.2.1 ≤ ne ∧ am_sz (am_SH X) (am_KF X) (n + q.2.2.2.1) = am_sz (am_SH X) (am_KF X) n + q.2.2.2.2.1 ∧ q.2.2.2.2.2 (stk.take q.2.1).reverse n σ (fun v σ1 => K (pc + 3) ls (v.toList ++ stk.drop q.2.1) (n + q.2.2.2.1) σ1)))
  | _ => False
section
variable (X : am_X) (ne : Nat) (post : Option Value → am_S → Prop) (len pc : Nat) (ls : List (Option Value)) (stk : List Value) (n : Nat) (σ : am_S) (K : Nat → List (Option Value) → List Value → Nat → am_S → Prop)
theorem o_iconst (v : Int) : am_one X ne post (.iconst v) len pc ls stk n σ K = (len = 1 ∧ K (pc + 1) ls (.int (Int32.ofInt v) :: stk) n σ) := rfl
theorem o_bipush (v : Int) : am_one X ne post (.bipush v) len pc ls stk n σ K = (len = 2 ∧ (-128 ≤ v ∧ v ≤ 127) ∧ K (pc + 2) ls (.int (Int32.ofInt v) :: stk) n σ) := rfl
theorem o_sipush (v : Int) : am_one X ne post (.sipush v) len pc ls stk n σ K = (len = 3 ∧ (-32768 ≤ v ∧ v ≤ 32767) ∧ K (pc + 3) ls (.int (Int32.ofInt v) :: stk) n σ) := rfl
theorem o_lconst (v : Fin 2) : am_one X ne post (.lconst v) len pc ls stk n σ K = (len = 1 ∧ K (pc + 1) ls (.long (Int64.ofNat (v : Nat)) :: stk) n σ) := rfl
theorem o_ldc (ix : Nat) : am_one X ne post (.ldc ix) len pc ls stk n σ K = (len = 2 ∧ am_opt (am_find (am_KT X) ix) (fun v => K (pc + 2) ls (.int v :: stk) n σ)) := rfl
theorem o_ldc_w (ix : Nat) : am_one X ne post (.ldc_w ix) len pc ls stk n σ K = (len = 3 ∧ am_opt (am_find (am_KT X) ix) (fun v => K (pc + 3) ls (.int v :: stk) n σ)) := rfl
theorem o_ldc2_w (ix : Nat) : am_one X ne post (.ldc2_w ix) len pc ls stk n σ K = (len = 3 ∧ am_opt (am_find (am_LT X) ix) (fun v => K (pc + 3) ls (.long v :: stk) n σ)) := rfl
theorem o_iload_n (k : Fin 4) : am_one X ne post (.iload_n k) len pc ls stk n σ K = (len = 1 ∧ am_ldi ls (k : Nat) (fun x => K (pc + 1) ls (.int x :: stk) n σ)) := rfl
theorem o_iload (k : Nat) : am_one X ne post (.iload k) len pc ls stk n σ K = (len = 2 ∧ am_ldi ls k (fun x => K (pc + 2) ls (.int x :: stk) n σ)) := rfl
theorem o_lload_n (k : Fin 4) : am_one X ne post (.lload_n k) len pc ls stk n σ K = (len = 1 ∧ am_ldl ls (k : Nat) (fun x => K (pc + 1) ls (.long x :: stk) n σ)) := rfl
theorem o_lload (k : Nat) : am_one X ne post (.lload k) len pc ls stk n σ K = (len = 2 ∧ am_ldl ls k (fun x => K (pc + 2) ls (.long x :: stk) n σ)) := rfl
theorem o_aload_n (k : Fin 4) : am_one X ne post (.aload_n k) len pc ls stk n σ K = (len = 1 ∧ am_lda ls (k : Nat) (fun x => K (pc + 1) ls (.ref x :: stk) n σ)) := rfl
theorem o_aload (k : Nat) : am_one X ne post (.aload k) len pc ls stk n σ K = (len = 2 ∧ am_lda ls k (fun x => K (pc + 2) ls (.ref x :: stk) n σ)) := rfl
theorem o_istore_n (k : Fin 4) : am_one X ne post (.istore_n k) len pc ls stk n σ K = (len = 1 ∧ am_1 stk (fun x rest => am_lg ls (k : Nat) = false ∧ (k : Nat) < ls.length ∧ K (pc + 1) (ls.set (k : Nat) (some (.int x))) rest n σ)) := rfl
theorem o_istore (k : Nat) : am_one X ne post (.istore k) len pc ls stk n σ K = (len = 2 ∧ am_1 stk (fun x rest => am_lg ls k = false ∧ k < ls.length ∧ K (pc + 2) (ls.set k (some (.int x))) rest n σ)) := rfl
theorem o_lstore_n (k : Fin 4) : am_one X ne post (.lstore_n k) len pc ls stk n σ K = (len = 1 ∧ am_1l stk (fun x rest => am_lg ls (k : Nat) = false ∧ (k : Nat) + 1 < ls.length ∧ K (pc + 1) ((ls.set (k : Nat) (some (.long x))).set ((k : Nat) + 1) none) rest n σ)) := rfl
theorem o_lstore (k : Nat) : am_one X ne post (.lstore k) len pc ls stk n σ K = (len = 2 ∧ am_1l stk (fun x rest => am_lg ls k = false ∧ k + 1 < ls.length ∧ K (pc + 2) ((ls.set k (some (.long x))).set (k + 1) none) rest n σ)) := rfl
theorem o_astore_n (k : Fin 4) : am_one X ne post (.astore_n k) len pc ls stk n σ K = (len = 1 ∧ am_1a stk (fun x rest => am_lg ls (k : Nat) = false ∧ (k : Nat) < ls.length ∧ K (pc + 1) (ls.set (k : Nat) (some (.ref x))) rest n σ)) := rfl
theorem o_astore (k : Nat) : am_one X ne post (.astore k) len pc ls stk n σ K = (len = 2 ∧ am_1a stk (fun x rest => am_lg ls k = false ∧ k < ls.length ∧ K (pc + 2) (ls.set k (some (.ref x))) rest n σ)) := rfl
theorem o_iinc (k : Nat) (c : Int) : am_one X ne post (.iinc k c) len pc ls stk n σ K = (len = 3 ∧ am_ldi ls k (fun x => am_lg ls k = false ∧ k < ls.length ∧ K (pc + 3) (ls.set k (some (.int (x + Int32.ofInt c)))) stk n σ)) := rfl
theorem o_iadd : am_one X ne post (.iadd) len pc ls stk n σ K = (len = 1 ∧ am_2 stk (fun x y rest => K (pc + 1) ls (.int (x + y) :: rest) n σ)) := rfl
theorem o_isub : am_one X ne post (.isub) len pc ls stk n σ K = (len = 1 ∧ am_2 stk (fun x y rest => K (pc + 1) ls (.int (x - y) :: rest) n σ)) := rfl
theorem o_imul : am_one X ne post (.imul) len pc ls stk n σ K = (len = 1 ∧ am_2 stk (fun x y rest => K (pc + 1) ls (.int (x * y) :: rest) n σ)) := rfl
theorem o_iand : am_one X ne post (.iand) len pc ls stk n σ K = (len = 1 ∧ am_2 stk (fun x y rest => K (pc + 1) ls (.int (x &&& y) :: rest) n σ)) := rfl
theorem o_ior : am_one X ne post (.ior) len pc ls stk n σ K = (len = 1 ∧ am_2 stk (fun x y rest => K (pc + 1) ls (.int (x ||| y) :: rest) n σ)) := rfl
theorem o_ixor : am_one X ne post (.ixor) len pc ls stk n σ K = (len = 1 ∧ am_2 stk (fun x y rest => K (pc + 1) ls (.int (x ^^^ y) :: rest) n σ)) := rfl
theorem o_ishl : am_one X ne post (.ishl) len pc ls stk n σ K = (len = 1 ∧ am_2 stk (fun x y rest => K (pc + 1) ls (.int (x <<< (y &&& 31)) :: rest) n σ)) := rfl
theorem o_ishr : am_one X ne post (.ishr) len pc ls stk n σ K = (len = 1 ∧ am_2 stk (fun x y rest => K (pc + 1) ls (.int (x >>> (y &&& 31)) :: rest) n σ)) := rfl
theorem o_iushr : am_one X ne post (.iushr) len pc ls stk n σ K = (len = 1 ∧ am_2 stk (fun x y rest => K (pc + 1) ls (.int ((x.toUInt32 >>> (y.toUInt32 &&& Int32.toUInt32 31)).toInt32) :: rest) n σ)) := rfl
theorem o_idiv : am_one X ne post (.idiv) len pc ls stk n σ K = (len = 1 ∧ am_2 stk (fun x y rest => ¬ y = 0 ∧ K (pc + 1) ls (.int (x / y) :: rest) n σ)) := rfl
theorem o_irem : am_one X ne post (.irem) len pc ls stk n σ K = (len = 1 ∧ am_2 stk (fun x y rest => ¬ y = 0 ∧ K (pc + 1) ls (.int (x - x / y * y) :: rest) n σ)) := rfl
theorem o_ladd : am_one X ne post (.ladd) len pc ls stk n σ K = (len = 1 ∧ am_2l stk (fun x y rest => K (pc + 1) ls (.long (x + y) :: rest) n σ)) := rfl
theorem o_lmul : am_one X ne post (.lmul) len pc ls stk n σ K = (len = 1 ∧ am_2l stk (fun x y rest => K (pc + 1) ls (.long (x * y) :: rest) n σ)) := rfl
theorem o_lcmp : am_one X ne post (.lcmp) len pc ls stk n σ K = (len = 1 ∧ am_2l stk (fun x y rest => K (pc + 1) ls (.int (lg_cmp x y) :: rest) n σ)) := rfl
theorem o_i2l : am_one X ne post (.i2l) len pc ls stk n σ K = (len = 1 ∧ am_1 stk (fun x rest => K (pc + 1) ls (.long x.toInt64 :: rest) n σ)) := rfl
theorem o_i2b : am_one X ne post (.i2b) len pc ls stk n σ K = (len = 1 ∧ am_1 stk (fun x rest => K (pc + 1) ls (.int x.toInt8.toInt32 :: rest) n σ)) := rfl
theorem o_l2i : am_one X ne post (.l2i) len pc ls stk n σ K = (len = 1 ∧ am_1l stk (fun x rest => K (pc + 1) ls (.int x.toInt32 :: rest) n σ)) := rfl
theorem o_dup : am_one X ne post (.dup) len pc ls stk n σ K = (len = 1 ∧ am_v stk (fun v rest => v.category = 1 ∧ K (pc + 1) ls (v :: v :: rest) n σ)) := rfl
theorem o_pop : am_one X ne post (.pop) len pc ls stk n σ K = (len = 1 ∧ am_v stk (fun v rest => v.category = 1 ∧ K (pc + 1) ls (rest) n σ)) := rfl
theorem o_dup2 : am_one X ne post (.dup2) len pc ls stk n σ K = (len = 1 ∧ am_v stk (fun v r1 => am_v r1 (fun w rest => v.category = 1 ∧ w.category = 1 ∧ K (pc + 1) ls (v :: w :: v :: w :: rest) n σ))) := rfl
theorem o_ifCond_eq (off : Int) : am_one X ne post (.ifCond .eq off) len pc ls stk n σ K = (len = 3 ∧ am_1 stk (fun x rest => am_tg pc off (fun t => (x = 0 → K t ls rest n σ) ∧ (¬ (x = 0) → K (pc + 3) ls rest n σ)))) := rfl
theorem o_ifCond_ne (off : Int) : am_one X ne post (.ifCond .ne off) len pc ls stk n σ K = (len = 3 ∧ am_1 stk (fun x rest => am_tg pc off (fun t => (¬ x = 0 → K t ls rest n σ) ∧ (x = 0 → K (pc + 3) ls rest n σ)))) := rfl
theorem o_ifCond_lt (off : Int) : am_one X ne post (.ifCond .lt off) len pc ls stk n σ K = (len = 3 ∧ am_1 stk (fun x rest => am_tg pc off (fun t => (x < 0 → K t ls rest n σ) ∧ (¬ (x < 0) → K (pc + 3) ls rest n σ)))) := rfl
theorem o_ifCond_ge (off : Int) : am_one X ne post (.ifCond .ge off) len pc ls stk n σ K = (len = 3 ∧ am_1 stk (fun x rest => am_tg pc off (fun t => (0 ≤ x → K t ls rest n σ) ∧ (¬ (0 ≤ x) → K (pc + 3) ls rest n σ)))) := rfl
theorem o_ifCond_gt (off : Int) : am_one X ne post (.ifCond .gt off) len pc ls stk n σ K = (len = 3 ∧ am_1 stk (fun x rest => am_tg pc off (fun t => (0 < x → K t ls rest n σ) ∧ (¬ (0 < x) → K (pc + 3) ls rest n σ)))) := rfl
theorem o_ifCond_le (off : Int) : am_one X ne post (.ifCond .le off) len pc ls stk n σ K = (len = 3 ∧ am_1 stk (fun x rest => am_tg pc off (fun t => (x ≤ 0 → K t ls rest n σ) ∧ (¬ (x ≤ 0) → K (pc + 3) ls rest n σ)))) := rfl
theorem o_if_icmp_eq (off : Int) : am_one X ne post (.if_icmp .eq off) len pc ls stk n σ K = (len = 3 ∧ am_2 stk (fun x y rest => am_tg pc off (fun t => (x = y → K t ls rest n σ) ∧ (¬ (x = y) → K (pc + 3) ls rest n σ)))) := rfl
theorem o_if_icmp_ne (off : Int) : am_one X ne post (.if_icmp .ne off) len pc ls stk n σ K = (len = 3 ∧ am_2 stk (fun x y rest => am_tg pc off (fun t => (¬ x = y → K t ls rest n σ) ∧ (x = y → K (pc + 3) ls rest n σ)))) := rfl
theorem o_if_icmp_lt (off : Int) : am_one X ne post (.if_icmp .lt off) len pc ls stk n σ K = (len = 3 ∧ am_2 stk (fun x y rest => am_tg pc off (fun t => (x < y → K t ls rest n σ) ∧ (¬ (x < y) → K (pc + 3) ls rest n σ)))) := rfl
theorem o_if_icmp_ge (off : Int) : am_one X ne post (.if_icmp .ge off) len pc ls stk n σ K = (len = 3 ∧ am_2 stk (fun x y rest => am_tg pc off (fun t => (y ≤ x → K t ls rest n σ) ∧ (¬ (y ≤ x) → K (pc + 3) ls rest n σ)))) := rfl
theorem o_if_icmp_gt (off : Int) : am_one X ne post (.if_icmp .gt off) len pc ls stk n σ K = (len = 3 ∧ am_2 stk (fun x y rest => am_tg pc off (fun t => (y < x → K t ls rest n σ) ∧ (¬ (y < x) → K (pc + 3) ls rest n σ)))) := rfl
theorem o_if_icmp_le (off : Int) : am_one X ne post (.if_icmp .le off) len pc ls stk n σ K = (len = 3 ∧ am_2 stk (fun x y rest => am_tg pc off (fun t => (x ≤ y → K t ls rest n σ) ∧ (¬ (x ≤ y) → K (pc + 3) ls rest n σ)))) := rfl
theorem o_goto (off : Int) : am_one X ne post (.goto off) len pc ls stk n σ K = (len = 3 ∧ am_tg pc off (fun t => K t ls stk n σ)) := rfl
theorem o_ireturn : am_one X ne post (.ireturn) len pc ls stk n σ K = (len = 1 ∧ n = ne ∧ am_1 stk (fun x rest => rest = [] ∧ am_ri (am_rt X) x ∧ post (some (.int x)) σ)) := rfl
theorem o_lreturn : am_one X ne post (.lreturn) len pc ls stk n σ K = (len = 1 ∧ n = ne ∧ am_1l stk (fun x rest => rest = [] ∧ am_rt X = some .long ∧ post (some (.long x)) σ)) := rfl
theorem o_return_ : am_one X ne post (.return_) len pc ls stk n σ K = (len = 1 ∧ n = ne ∧ stk = [] ∧ am_rt X = none ∧ post none σ) := rfl
theorem o_tableswitch (d : Int) (lo : Int) (hi : Int) (offs : Array Int) : am_one X ne post (.tableswitch d lo hi offs) len pc ls stk n σ K = (am_1 stk (fun x rest => am_ts pc x (fun t => K t ls rest n σ) lo offs.toList lo ∧ ((x.toInt < lo ∨ hi < x.toInt) → am_tg pc d (fun t => K t ls rest n σ)) ∧ (offs.size : Int) = hi - lo + 1)) := rfl
theorem o_lookupswitch (d : Int) (ps : Array (Int × Int)) : am_one X ne post (.lookupswitch d ps) len pc ls stk n σ K = (am_1 stk (fun x rest => (ps.toList.zip (ps.toList.drop 1)).all (fun (a, next) => a.1 < next.1) = true ∧ am_ls pc x d (fun t => K t ls rest n σ) ps.toList)) := rfl
theorem o_getfield (ix : Nat) : am_one X ne post (.getfield ix) len pc ls stk n σ K = (len = 3 ∧ am_1a stk (fun o rest => o < n ∧ am_opt (am_find (am_FT X) ix) (fun q => am_SH X o = .inl q.1 ∧ am_opt (am_KF X o)[q.2]? (fun kd => K (pc + 3) ls (am_av kd (σ.1 o q.2) (σ.2 o q.2) :: rest) n σ)))) := rfl
theorem o_putfield (ix : Nat) : am_one X ne post (.putfield ix) len pc ls stk n σ K = (len = 3 ∧ am_v stk (fun v r1 => am_1a r1 (fun o rest => o < n ∧ am_opt (am_find (am_PT X) ix) (fun q => am_SH X o = .inl q.1 ∧ am_opt (am_KF X o)[q.2]? (fun kd => am_pf kd v σ o q.2 (fun σ1 => K (pc + 3) ls rest n σ1)))))) := rfl
theorem o_arraylength : am_one X ne post (.arraylength) len pc ls stk n σ K = (len = 1 ∧ am_1a stk (fun o rest => o < n ∧ am_arr (am_SH X o) (fun q => q.1 < 4 ∧ K (pc + 1) ls (.int (Int32.ofNat q.2) :: rest) n σ))) := rfl
theorem o_iaload : am_one X ne post (.iaload) len pc ls stk n σ K = (len = 1 ∧ am_ix stk (fun i o rest => o < n ∧ am_arr (am_SH X o) (fun q => q.1 = 0 ∧ vp_in i q.2 ∧ K (pc + 1) ls (.int (σ.1 o i.toNatClampNeg) :: rest) n σ))) := rfl
theorem o_baload : am_one X ne post (.baload) len pc ls stk n σ K = (len = 1 ∧ am_ix stk (fun i o rest => o < n ∧ am_arr (am_SH X o) (fun q => (q.1 = 1 ∨ q.1 = 2) ∧ vp_in i q.2 ∧ K (pc + 1) ls (.int (σ.1 o i.toNatClampNeg) :: rest) n σ))) := rfl
theorem o_laload : am_one X ne post (.laload) len pc ls stk n σ K = (len = 1 ∧ am_ix stk (fun i o rest => o < n ∧ am_arr (am_SH X o) (fun q => q.1 = 3 ∧ vp_in i q.2 ∧ K (pc + 1) ls (.long (σ.2 o i.toNatClampNeg) :: rest) n σ))) := rfl
theorem o_iastore : am_one X ne post (.iastore) len pc ls stk n σ K = (len = 1 ∧ am_1 stk (fun x r1 => am_ix r1 (fun i o rest => o < n ∧ am_arr (am_SH X o) (fun q => q.1 = 0 ∧ vp_in i q.2 ∧ K (pc + 1) ls (rest) n (am_pi σ o i.toNatClampNeg x))))) := rfl
theorem o_bastore : am_one X ne post (.bastore) len pc ls stk n σ K = (len = 1 ∧ am_1 stk (fun x r1 => am_ix r1 (fun i o rest => o < n ∧ am_arr (am_SH X o) (fun q => (q.1 = 1 ∨ q.1 = 2) ∧ vp_in i q.2 ∧ K (pc + 1) ls (rest) n (am_pi σ o i.toNatClampNeg (if q.1 = 1 then vp_nar .byte x else vp_nar .boolean x)))))) := rfl
theorem o_lastore : am_one X ne post (.lastore) len pc ls stk n σ K = (len = 1 ∧ am_1l stk (fun x r1 => am_ix r1 (fun i o rest => o < n ∧ am_arr (am_SH X o) (fun q => q.1 = 3 ∧ vp_in i q.2 ∧ K (pc + 1) ls (rest) n (am_pl σ o i.toNatClampNeg x))))) := rfl
theorem o_newarray (ty : ArrayType) : am_one X ne post (.newarray ty) len pc ls stk n σ K = (len = 2 ∧ am_1 stk (fun x rest => n < ne ∧ am_arr (am_SH X n) (fun q => am_ty q.1 = some ty ∧ ¬ x < 0 ∧ x.toNatClampNeg = q.2 ∧ q.2 < 1000000 ∧ K (pc + 2) ls (.ref n :: rest) (n + 1) (am_new σ n)))) := rfl
theorem o_new (ix : Nat) : am_one X ne post (.new ix) len pc ls stk n σ K = (len = 3 ∧ n < ne ∧ am_opt (am_find (am_CT X) ix) (fun ci => am_SH X n = .inl ci ∧ (am_KF X n).all (fun kd => decide (kd < 4)) = true ∧ K (pc + 3) ls (.ref n :: stk) (n + 1) (am_new σ n))) := rfl
theorem o_invokevirtual (ix : Nat) : am_one X ne post (.invokevirtual ix) len pc ls stk n σ K = (len = 3 ∧ am_cl (am_find (am_NT X) ix) (fun w => am_nat w 2 stk n (am_SH X) σ (fun st σ1 => K (pc + 3) ls st n σ1)) (am_opt (am_find (am_ML X) ix) (fun q => [0, 3].contains q.1 = true ∧ q.2.1 ≤ stk.length ∧ am_rc q.1 q.2.2.1 n (am_SH X) (stk.take q.2.1).reverse ∧ ((stk.drop q.2.1).map fun v => v.category).sum ≤ 8 ∧ n + q.2.2.2.1 ≤ ne ∧ am_sz (am_SH X) (am_KF X) (n + q.2.2.2.1) = am_sz (am_SH X) (am_KF X) n + q.2.2.2.2.1 ∧ q.2.2.2.2.2 (stk.take q.2.1).reverse n σ (fun v σ1 => K (pc + 3) ls (v.toList ++ stk.drop q.2.1) (n + q.2.2.2.1) σ1)))) := rfl
theorem o_invokestatic (ix : Nat) : am_one X ne post (.invokestatic ix) len pc ls stk n σ K = (len = 3 ∧ am_cl (am_find (am_NT X) ix) (fun w => am_nat w 1 stk n (am_SH X) σ (fun st σ1 => K (pc + 3) ls st n σ1)) (am_opt (am_find (am_ML X) ix) (fun q => [1, 4].contains q.1 = true ∧ q.2.1 ≤ stk.length ∧ am_rc q.1 q.2.2.1 n (am_SH X) (stk.take q.2.1).reverse ∧ ((stk.drop q.2.1).map fun v => v.category).sum ≤ 8 ∧ n + q.2.2.2.1 ≤ ne ∧ am_sz (am_SH X) (am_KF X) (n + q.2.2.2.1) = am_sz (am_SH X) (am_KF X) n + q.2.2.2.2.1 ∧ q.2.2.2.2.2 (stk.take q.2.1).reverse n σ (fun v σ1 => K (pc + 3) ls (v.toList ++ stk.drop q.2.1) (n + q.2.2.2.1) σ1)))) := rfl
theorem o_invokespecial (ix : Nat) : am_one X ne post (.invokespecial ix) len pc ls stk n σ K = (len = 3 ∧ am_cl (am_find (am_NT X) ix) (fun w => am_nat w 0 stk n (am_SH X) σ (fun st σ1 => K (pc + 3) ls st n σ1)) (am_opt (am_find (am_ML X) ix) (fun q => [2, 5].contains q.1 = true ∧ q.2.1 ≤ stk.length ∧ am_rc q.1 q.2.2.1 n (am_SH X) (stk.take q.2.1).reverse ∧ ((stk.drop q.2.1).map fun v => v.category).sum ≤ 8 ∧ n + q.2.2.2.1 ≤ ne ∧ am_sz (am_SH X) (am_KF X) (n + q.2.2.2.1) = am_sz (am_SH X) (am_KF X) n + q.2.2.2.2.1 ∧ q.2.2.2.2.2 (stk.take q.2.1).reverse n σ (fun v σ1 => K (pc + 3) ls (v.toList ++ stk.drop q.2.1) (n + q.2.2.2.1) σ1)))) := rfl
end
end
section
/-! ONE INSTRUCTION'S WORD IS TRUE OF THE MACHINE. -/
def am_tys (aC : Nat → ClassId) : List (ClassId × FieldType) := [(aC 0, .int), (aC 1, .byte), (aC 2, .boolean), (aC 3, .long)]
def am_tk (t : FieldType) : Nat := match t with
  | .int => 0
  | .long => 1
  | .boolean => 2
  | .object _ => 3
  | .array _ => 3
  | _ => 9
/-- what the tables say of classes, numbers and arrays -/
def am_G (TB : List Cond) (cl : List vw_C) (SH : am_Sh) (KF : am_Kf) (tyc : Nat → Nat → FieldType) : Prop :=
  (∀ (ci : Nat) (q : vw_C), cl[ci]? = some q → (∀ w ∈ u_ws q.1 q.2.1 q.2.2, w ∈ TB) ∧ (∀ k, k < q.2.2 → parseFieldDescriptor (q.2.1 k).2.2.1 = some (tyc ci k)) ∧ (∀ a, a < q.2.2 → ∀ b, b < q.2.2 → a ≠ b → (q.2.1 a).2.1 ≠ (q.2.1 b).2.1)) ∧
  (∀ o ci, SH o = .inl ci → ∃ q : vw_C, cl[ci]? = some q ∧ (KF o).length = q.2.2 ∧ ∀ k kd, (KF o)[k]? = some kd → min kd 3 = am_tk (tyc ci k)) ∧
  (∀ k ty, am_ty k = some ty → Cond.arrayClass (newarray.typeOf ty) ∈ TB)
/-- a field that is read -/
def am_FO (TB : List Cond) (cl : List vw_C) (own : String) (q : Nat × Nat × Nat) : Prop := ∃ r : vw_C, cl[q.2.1]? = some r ∧ q.2.2 < r.2.2 ∧ Cond.fieldLink own q.1 (r.2.1 q.2.2).1 (r.2.1 q.2.2).2.1 (r.2.1 q.2.2).2.2.1 ∈ TB
/-- a field that is written -/
def am_PO (TB : List Cond) (cl : List vw_C) (own nm : String) (q : Nat × Nat × Nat) : Prop := ∃ r : vw_C, cl[q.2.1]? = some r ∧ q.2.2 < r.2.2 ∧ Cond.fieldLink own q.1 (r.2.1 q.2.2).1 (r.2.1 q.2.2).2.1 (r.2.1 q.2.2).2.2.1 ∈ TB ∧ ((r.2.1 q.2.2).2.2.2 = false ∨ ((r.2.1 q.2.2).2.2.2 = true ∧ nm = "<init>" ∧ (r.2.1 q.2.2).1 = own))
def am_CC (TB : List Cond) (cl : List vw_C) (own : String) (q : Nat × Nat) : Prop := ∃ r : vw_C, cl[q.2]? = some r ∧ Cond.classLink own q.1 r.1 ∈ TB ∧ Cond.instantiable r.1 r.2.2 ∈ TB ∧ Cond.initialized r.1 ∈ TB
def am_NO (TB : List Cond) (own : String) (q : Nat × Nat) : Prop := match q.2 with
  | 0 => Cond.methodLink own q.1 Lib.Math.max.name ∈ TB ∧ Cond.static Lib.Math.max.name ∈ TB ∧ Cond.initialized "java/lang/Math" ∈ TB ∧ Cond.code Lib.Math.max.name Lib.Math.max.code 2 (some .int) ∈ TB
  | 1 => Cond.methodLink own q.1 Lib.Math.min.name ∈ TB ∧ Cond.static Lib.Math.min.name ∈ TB ∧ Cond.initialized "java/lang/Math" ∈ TB ∧ Cond.code Lib.Math.min.name Lib.Math.min.code 2 (some .int) ∈ TB
  | 2 => Cond.methodLink own q.1 Lib.Math.abs.name ∈ TB ∧ Cond.static Lib.Math.abs.name ∈ TB ∧ Cond.initialized "java/lang/Math" ∈ TB ∧ Cond.code Lib.Math.abs.name Lib.Math.abs.code 1 (some .int) ∈ TB
  | 3 => Cond.methodLink own q.1 objectInit ∈ TB ∧ Cond.instanceMethod objectInit ∈ TB ∧ Cond.code objectInit ⟨#[0xb1]⟩ 1 none ∈ TB
  | 4 => Cond.methodLink own q.1 arraycopyName ∈ TB ∧ Cond.native arraycopyName ∈ TB ∧ Cond.static arraycopyName ∈ TB ∧ Cond.initialized "java/lang/System" ∈ TB
  | _ => False
def am_gb (TB : List Cond) : List Cond := TB.filter goodWord
def am_Nw (NB : List Cond) (U : State) : Prop := ∀ a i x h, Cond.methodLinkNest a i x h ∈ NB → va_Nw (.methodLinkNest a i x h) U
abbrev am_rm (d mc ms : Nat) : Room := { frames := d, cells := mc, slots := ms, locals := 64 * d }
def am_Pc (cl : List vw_C) (NB : List Cond) (SH : am_Sh) (KF : am_Kf) (D : va_G) (aC : Nat → ClassId) (b n0 : Nat) (as : List Value) (σ : am_S) : Array Value → State → Prop := va_Pc (as.map (am_c b)) (fun U => U.heap.size = b + n0 ∧ va_P D cl (am_ws SH KF b aC n0 σ) U.heap ∧ va_K D cl (am_tys aC) U ∧ am_Nw NB U)
def am_Qc (cl : List vw_C) (SH : am_Sh) (KF : am_Kf) (D : va_G) (aC : Nat → ClassId) (b ne : Nat) (post : Option Value → am_S → Prop) : Array Value → State → Outcome → State → Prop := fun _ st oc t => (∃ (v : Option Value) (σ : am_S), oc = .returned (v.map (am_c b)) ∧ post v σ ∧ va_P D cl (am_ws SH KF b aC ne σ) t.heap) ∧ va_F (fun q => b ≤ q) st t
/-- A METHOD'S CONTRACT: from what its word asks for it comes to what its word says -/
def am_M (l : Launch) (TB NB : List Cond) (cl : List vw_C) (SH : am_Sh) (KF : am_Kf) (y : MethodName) (cc : ByteArray) (maxL : Nat) (ret : Option FieldType) (d mc ms : Nat) (sp : am_Sp) : Prop :=
  ∀ (D : va_G) (aC : Nat → ClassId) (b n0 : Nat) (as : List Value) (σ : am_S) (post : Option Value → am_S → Prop), sp as n0 σ post → am_sz SH KF (n0 + mc) = am_sz SH KF n0 + ms →
    Met l y (.code y cc maxL ret :: am_gb TB) (am_rm d mc ms) (am_Pc cl NB SH KF D aC b n0 as σ) (am_Qc cl SH KF D aC b (n0 + mc) post) mc ms (fun q => b ≤ q)
/-- a call that a method makes -/
def am_CO (l : Launch) (TB NB : List Cond) (cl : List vw_C) (SH : am_Sh) (KF : am_Kf) (own : String) (dR : Nat) (ix : Nat) (q : Nat × Nat × Nat × Nat × Nat × am_Sp) : Prop :=
  ∃ (y : MethodName) (cc : ByteArray) (maxL : Nat) (ret : Option FieldType) (d na : Nat), am_M l TB NB cl SH KF y cc maxL ret d q.2.2.2.1 q.2.2.2.2.1 q.2.2.2.2.2 ∧ d + 1 ≤ dR ∧ maxL ≤ 40 ∧ Cond.code y cc maxL ret ∈ TB ∧ Cond.initialized y.cls ∈ TB ∧ (y.cls ≠ "java/lang/invoke/MethodHandle" ∧ y.cls ≠ "java/lang/invoke/VarHandle" ∧ (parseMethodDescriptor y.desc).map (fun d => d.parameters.length) = some na) ∧
    match q.1 with
    | 0 => q.2.1 = na + 1 ∧ Cond.methodLink own ix y ∈ TB ∧ Cond.instanceMethod y ∈ TB ∧ ∃ r : vw_C, cl[q.2.2.1]? = some r ∧ Cond.selects r.1 y y ∈ TB
    | 1 => q.2.1 = na ∧ Cond.methodLink own ix y ∈ TB ∧ Cond.static y ∈ TB
    | 2 => q.2.1 = na + 1 ∧ Cond.methodLink own ix y ∈ TB ∧ Cond.instanceMethod y ∈ TB ∧ y.name = "<init>" ∧ ret = none
    | 4 => q.2.1 = na ∧ (∃ host, Cond.methodLinkNest own ix y host ∈ NB) ∧ Cond.static y ∈ TB
    | 5 => q.2.1 = na + 1 ∧ (∃ host, Cond.methodLinkNest own ix y host ∈ NB) ∧ Cond.instanceMethod y ∈ TB ∧ y.name = "<init>" ∧ ret = none
    | _ => False
/-- a method's tables are right -/
def am_O (l : Launch) (TB NB : List Cond) (cl : List vw_C) (own nm : String) (dR : Nat) (X : am_X) : Prop :=
  (∀ q ∈ am_FT X, am_FO TB cl own q) ∧ (∀ q ∈ am_PT X, am_PO TB cl own nm q) ∧ (∀ q ∈ am_CT X, am_CC TB cl own q) ∧ (∀ q ∈ am_KT X, Cond.constant own q.1 q.2 ∈ TB) ∧ (∀ q ∈ am_LT X, Cond.constantLong own q.1 q.2 ∈ TB) ∧ (∀ q ∈ am_NT X, am_NO TB own q) ∧ (∀ q ∈ am_ML X, am_CO l TB NB cl (am_SH X) (am_KF X) own dR q.1 q.2)
theorem am_pf_ok {SH : am_Sh} {KF : am_Kf} {b : Nat} {aC : Nat → ClassId} {kd : Nat} {v : Value} {σ : am_S} {o k : Nat} {K : am_S → Prop} (h : am_pf kd v σ o k K) : ∃ τ : am_S, K τ ∧ (∀ i, i ≠ o → am_cell SH KF b aC τ i = am_cell SH KF b aC σ i) ∧ (∀ j, j ≠ k → τ.1 o j = σ.1 o j) ∧ (∀ j, j ≠ k → τ.2 o j = σ.2 o j) ∧ am_av kd (τ.1 o k) (τ.2 o k) = v ∧ ∀ ty, min kd 3 = am_tk ty → narrow ty (am_c b v) = am_c b v ∧ fits ty (am_c b v) = true := by
  unfold am_pf at h
  split at h
  · refine ⟨_, h, fun i hi => am_pi_ne hi, fun j hj => by simp [am_pi, hj], fun j hj => rfl, by simp [am_av, am_pi], fun ty ht => ?_⟩
    cases ty <;> simp [am_tk] at ht
    exact ⟨rfl, rfl⟩
  · refine ⟨_, h, fun i hi => am_pl_ne hi, fun j hj => rfl, fun j hj => by simp [am_pl, hj], by simp [am_av, am_pl], fun ty ht => ?_⟩
    cases ty <;> simp [am_tk] at ht
    exact ⟨rfl, rfl⟩
  · rename_i x
    refine ⟨_, h.2, fun i hi => am_pi_ne hi, fun j hj => by simp [am_pi, hj], fun j hj => rfl, by simp [am_av, am_pi], fun ty ht => ?_⟩
    cases ty <;> simp [am_tk] at ht
    have h1 : x &&& 1 = x := h.1
    refine ⟨by show Value.int (x &&& 1) = _; rw [h1]; rfl, ?_⟩
    show (x == 0 || x == 1) = true
    have h2 : x.toBitVec &&& 1#32 = x.toBitVec := by
      have := congrArg Int32.toBitVec h1
      simpa using this
    have h3 : x.toBitVec.toNat = x.toBitVec.toNat % 2 := by
      have := congrArg BitVec.toNat h2
      rw [BitVec.toNat_and] at this
      rw [← this]
      simp [Nat.and_one_is_mod]
    have h4 : x.toBitVec.toNat = 0 ∨ x.toBitVec.toNat = 1 := by omega
    rcases h4 with h4 | h4
    · have : x = 0 := by
        apply Int32.toBitVec_inj.mp
        apply BitVec.eq_of_toNat_eq
        rw [h4]; rfl
      subst this; rfl
    · have : x = 1 := by
        apply Int32.toBitVec_inj.mp
        apply BitVec.eq_of_toNat_eq
        rw [h4]; rfl
      subst this; rfl
  · rename_i a
    refine ⟨_, h.2, fun i hi => am_pi_ne hi, fun j hj => by simp [am_pi, hj], fun j hj => rfl, ?_, fun ty ht => ?_⟩
    · obtain ⟨a', rfl⟩ : ∃ z : Nat, z = a := ⟨_, rfl⟩
      have h1 : a' < 1000000 := h.1
      have h2 : (Int32.ofNat (a' + 1)).toNatClampNeg = a' + 1 := nI_clamp (n := a' + 1) (by omega)
      have h3 : ¬ Int32.ofNat (a' + 1) = 0 := nI_ne0 (n := a' + 1) (by omega) (by omega)
      have h4 : (am_pi σ o k (Int32.ofNat (a' + 1))).1 o k = Int32.ofNat (a' + 1) := by simp only [am_pi, and_self, if_true]
      show (if (am_pi σ o k (Int32.ofNat (a' + 1))).1 o k = 0 then Value.null else Value.ref (((am_pi σ o k (Int32.ofNat (a' + 1))).1 o k).toNatClampNeg - 1)) = _
      rw [h4, if_neg h3, h2]
      rfl
    · cases ty <;> simp [am_tk] at ht
      · exact ⟨rfl, rfl⟩
      · exact ⟨rfl, rfl⟩
  · exact h.elim
section
variable {p : Program} {l : Launch} {e : Env} {R : Room} {s : State} {m : MethodId} {args : Array Value} {below : List Frame} {meth : Method} {c : Code} {cl : List vw_C} {TB NB : List Cond} {D : va_G} {aC : Nat → ClassId} {b n0 ne : Nat} {SH : am_Sh} {KF : am_Kf}
/-- how many cells there are -/
theorem am_size {H : Heap} {locs : List Loc} {n slots cells : Nat} {Q : State → Prop} {g : JFrame} {σ : am_S} (hP : va_P D cl (am_ws SH KF b aC n σ) H) (hS : va_S (fun q => b ≤ q) s.heap H locs) (hsz : s.heap.size = b + n0) (hn : n0 ≤ n) (hc : cells = n - n0) (k : H.size = b + n → W p l e R s m args below meth c H locs cells slots Q g) : W p l e R s m args below meth c H locs cells slots Q g := by
  intro T hT X
  refine k ?_ T hT X
  have h1 : T.heap.size ≤ s.heap.size + cells := X.heapSize
  rw [hT, hsz] at h1
  have h2 : b + n ≤ H.size := by
    rcases Nat.lt_or_ge n0 n with q | q
    · have := (hP (n - 1) _ (am_ws_at (by omega))).lt
      have h3 : b + (n - 1) < H.size := this
      omega
    · have := hS.1
      omega
  omega
/-- behind a call -/
theorem am_call {H : Heap} {locs : List Loc} {cells slots mc ms pc n1 : Nat} {Q : State → Prop} {ls : Array Slot} {st0 rest : List Value} {a : Array Value} {post : Option Value → am_S → Prop}
    (hr : va_Run p l e R s m args below meth c H locs cells slots mc ms (F0 m pc ls st0) rest (am_Qc cl SH KF D aC b n1 post a) (fun q => b ≤ q)) (hS : va_S (fun q => b ≤ q) s.heap H locs)
    (kk : ∀ (v : Option Value) (τ : am_S) (H1 : Heap) (locs1 : List Loc), post v τ → va_P D cl (am_ws SH KF b aC n1 τ) H1 → va_S (fun q => b ≤ q) s.heap H1 locs1 → W p l e R s m args below meth c H1 locs1 (cells + mc) (slots + ms) Q (F0 m (pc + 3) ls ((v.map (am_c b)).toList ++ rest))) : W p l e R s m args below meth c H locs cells slots Q (F0 m pc ls st0) := by
  intro T hT X
  obtain ⟨v, st₀, t, T', L, h0, X', hL, e1, e2, ⟨⟨w, τ, hv, hp, hb⟩, hz, hk⟩, st⟩ := hr T hT X
  cases hv
  rw [h0] at hz hk
  obtain ⟨t2, a1, b1⟩ := kk w τ T'.heap (locs ++ L) hp (by rw [e1]; exact hb)
    ⟨Nat.le_trans hS.1 (by rw [e1]; exact hz), fun q h1 h2 => by rw [e1, hk q (Nat.lt_of_lt_of_le h1 hS.1) h2]; exact hS.2.1 q h1 h2, fun q hq => by
      rcases List.mem_append.mp hq with h | h
      · exact hS.2.2 q h
      · exact hL q h⟩ T' rfl X'
  exact ⟨t2, st t2 a1, b1⟩
end
end
section
section
variable {p : Program} {l : Launch} {e : Env} {R : Room} {s : State} {m : MethodId} {args : Array Value} {below : List Frame} {meth : Method} {c : Code} {cl : List vw_C} {TB NB : List Cond} {D : va_G} {aC : Nat → ClassId} {b n0 ne nL : Nat} {cc : ByteArray} {own : String} {X : am_X} {post : Option Value → am_S → Prop}
/-- the setting of a walk -/
def am_C (p : Program) (l : Launch) (R : Room) (s : State) (m : MethodId) (args : Array Value) (meth : Method) (c : Code) (cl : List vw_C) (TB NB : List Cond) (D : va_G) (aC : Nat → ClassId) (b n0 ne nL : Nat) (cc : ByteArray) (own : String) (X : am_X) : Prop :=
  p.tables.exec = Jvm.exec ∧ c.code = cc ∧ c.maxLocals = nL ∧ s.vm.findClass own = some m.cls ∧ (∀ w ∈ TB, w.before args s = true) ∧ am_Nw NB s ∧ va_K D cl (am_tys aC) s ∧ meth.locks = false ∧ s.heap.size = b + n0 ∧ meth.sig.returnType = am_rt X ∧ (∃ d, 1 ≤ d ∧ R = am_rm d (ne - n0) (am_sz (am_SH X) (am_KF X) ne - am_sz (am_SH X) (am_KF X) n0) ∧ am_O l TB NB cl own meth.name d X) ∧ ∃ tyc, am_G TB cl (am_SH X) (am_KF X) tyc
/-- THE WALK at pc, in this layer's words -/
def am_A (p : Program) (l : Launch) (e : Env) (R : Room) (s : State) (m : MethodId) (args : Array Value) (below : List Frame) (meth : Method) (c : Code) (cl : List vw_C) (D : va_G) (aC : Nat → ClassId) (b n0 ne nL : Nat) (X : am_X) (post : Option Value → am_S → Prop) (pc : Nat) (ls : List (Option Value)) (stk : List Value) (n : Nat) (σ : am_S) : Prop :=
  n0 ≤ n → n ≤ ne → ls.length = nL → ∀ (H : Heap) (locs : List Loc) (lc : Array Slot), va_P D cl (am_ws (am_SH X) (am_KF X) b aC n σ) H → va_S (fun q => b ≤ q) s.heap H locs → lv_has lc nL (am_lv b ls) →
    W p l e R s m args below meth c H locs (n - n0) (am_sz (am_SH X) (am_KF X) n - am_sz (am_SH X) (am_KF X) n0) (MQ below (am_Qc cl (am_SH X) (am_KF X) D aC b ne post) args s (ne - n0) (am_sz (am_SH X) (am_KF X) ne - am_sz (am_SH X) (am_KF X) n0) (fun q => b ≤ q)) (F0 m pc lc (stk.map (am_c b)))
theorem am_ts_ok {pc : Nat} {x : Int32} {k : Nat → Prop} {lo : Int} : ∀ {l : List Int} {i : Int}, am_ts pc x k lo l i → i ≤ x.toInt → x.toInt < i + l.length → ∃ off, l[(x.toInt - i).toNat]? = some off ∧ am_tg pc off k
  | [], i, h, h1, h2 => by simp at h2; omega
  | off :: t, i, h, h1, h2 => by
    by_cases hx : x.toInt = i
    · exact ⟨off, by rw [show (x.toInt - i).toNat = 0 by omega]; rfl, h.1 hx⟩
    · obtain ⟨off2, q1, q2⟩ := am_ts_ok h.2 (by omega) (by simp at h2; omega)
      refine ⟨off2, ?_, q2⟩
      rw [show (x.toInt - i).toNat = (x.toInt - (i + 1)).toNat + 1 by omega]
      simpa using q1
theorem am_ls_ok {pc : Nat} {x : Int32} {d : Int} {k : Nat → Prop} : ∀ {l : List (Int × Int)}, am_ls pc x d k l → am_tg pc (Op.lookupswitch.offset l d x.toInt) k
  | [], h => by simpa [am_ls, Op.lookupswitch.offset] using h
  | q :: t, h => by
    by_cases hx : x.toInt = q.1
    · have := h.1 hx
      simpa [Op.lookupswitch.offset, hx] using this
    · have := am_ls_ok (h.2 hx)
      have h2 : ¬ q.1 = x.toInt := fun z => hx z.symm
      simpa [Op.lookupswitch.offset, h2] using this
theorem am_tgt {pc : Nat} {off : Int} {k : Nat → Prop} (h : am_tg pc off k) : ∃ t : Nat, (pc : Int) + off = (t : Int) ∧ k t := ⟨((pc : Int) + off).toNat, (Int.toNat_of_nonneg h.1).symm, h.2⟩
theorem am_ws_obj {SH : am_Sh} {KF : am_Kf} {n o ci : Nat} {σ : am_S} (h : o < n) (hs : SH o = .inl ci) : (am_ws SH KF b aC n σ)[o]? = some (b + o, .inr (ci, (am_fs (KF o) (σ.1 o) (σ.2 o)).map (am_c b))) := by
  rw [am_ws_at h]; simp [am_cell, hs]
theorem am_ws_arr {SH : am_Sh} {KF : am_Kf} {n o : Nat} {q : Nat × Nat} {σ : am_S} (h : o < n) (hs : SH o = .inr q) (hq : ¬ q.1 = 3) : (am_ws SH KF b aC n σ)[o]? = some (b + o, .inl (aC q.1, (q.2, .inl (σ.1 o)))) := by
  rw [am_ws_at h]; simp [am_cell, hs, hq]
theorem am_ws_arl {SH : am_Sh} {KF : am_Kf} {n o : Nat} {q : Nat × Nat} {σ : am_S} (h : o < n) (hs : SH o = .inr q) (hq : q.1 = 3) : (am_ws SH KF b aC n σ)[o]? = some (b + o, .inl (aC 3, (q.2, .inr (.inl (σ.2 o))))) := by
  rw [am_ws_at h]; simp [am_cell, hs, hq]
theorem am_upd_cell {SH : am_Sh} {KF : am_Kf} {o k : Nat} {q : Nat × Nat} {σ : am_S} {x : Int32} (hs : SH o = .inr q) (hq : ¬ q.1 = 3) : (.inl (aC q.1, (q.2, .inl (upd (σ.1 o) k x))) : va_E) = am_cell SH KF b aC (am_pi σ o k x) o := by
  have e : (am_pi σ o k x).1 o = upd (σ.1 o) k x := by funext j; simp [am_pi, upd]
  simp [am_cell, hs, hq, e]
theorem am_upd_celll {SH : am_Sh} {KF : am_Kf} {o k : Nat} {q : Nat × Nat} {σ : am_S} {x : Int64} (hs : SH o = .inr q) (hq : q.1 = 3) : (.inl (aC 3, (q.2, .inr (.inl (vp_updL (σ.2 o) k x)))) : va_E) = am_cell SH KF b aC (am_pl σ o k x) o := by
  have e : (am_pl σ o k x).2 o = vp_updL (σ.2 o) k x := by funext j; simp [am_pl, vp_updL]
  simp [am_cell, hs, hq, e]
/-- the simple instructions -/
theorem am_simple {i : Instr} {len pc : Nat} {ls : List (Option Value)} {stk : List Value} {n : Nat} {σ : am_S} {K : Nat → List (Option Value) → List Value → Nat → am_S → Prop} (C : am_C p l R s m args meth c cl TB NB D aC b n0 ne nL cc own X) (hdg : decode cc pc = .ok (i, len))
    (hK : ∀ pc ls stk n σ, K pc ls stk n σ → am_A p l e R s m args below meth c cl D aC b n0 ne nL X post pc ls stk n σ)
    (hbig : match i with
      | .getfield _ => False
      | .putfield _ => False
      | .arraylength => False
      | .iaload => False
      | .baload => False
      | .laload => False
      | .iastore => False
      | .bastore => False
      | .lastore => False
      | .newarray _ => False
      | .new _ => False
      | .invokevirtual _ => False
      | .invokestatic _ => False
      | .invokespecial _ => False
      | _ => True)
    (h : am_one X ne post i len pc ls stk n σ K) : am_A p l e R s m args below meth c cl D aC b n0 ne nL X post pc ls stk n σ := by
  obtain ⟨hx, hb, hml, hown, hts, hnb, hKn, hlocks, hsz, hret, ⟨d, hd, hR, hO⟩, tyc, hG⟩ := C
  intro hn hne hlen H locs lc hP hS hl
  cases i
  case iconst v => exact lv_iconst hx hb (by rw [hdg, h.1]) rfl (hK _ _ _ _ _ h.2 hn hne hlen H locs lc hP hS hl)
  case bipush v =>
    obtain ⟨h1, h2, h3⟩ := h
    refine lv_bipush (v := Int32.ofInt v) hx hb (by rw [hdg, h1]) ?_ (hK _ _ _ _ _ h3 hn hne hlen H locs lc hP hS hl)
    apply Int32.toInt_inj.mp
    rw [Int8.toInt_toInt32, Int8.toInt_ofInt_of_le (by omega) (by omega), Int32.toInt_ofInt_of_le (by omega) (by omega)]
  case sipush v =>
    obtain ⟨h1, h2, h3⟩ := h
    refine lv_sipush (v := Int32.ofInt v) hx hb (by rw [hdg, h1]) ?_ (hK _ _ _ _ _ h3 hn hne hlen H locs lc hP hS hl)
    apply Int32.toInt_inj.mp
    rw [Int16.toInt_toInt32, Int16.toInt_ofInt_of_le (by omega) (by omega), Int32.toInt_ofInt_of_le (by omega) (by omega)]
  case lconst v => exact lv_lconst hx hb (by rw [hdg, h.1]) rfl (hK _ _ _ _ _ h.2 hn hne hlen H locs lc hP hS hl)
  case ldc ix =>
    obtain ⟨h1, h2⟩ := h
    obtain ⟨v, h3, h4⟩ := am_opt_iff.mp h2
    exact lv_ldc hx hb hown (hts _ (hO.2.2.2.1 _ (am_find_mem h3))) (by rw [hdg, h1]) (hK _ _ _ _ _ h4 hn hne hlen H locs lc hP hS hl)
  case ldc_w ix =>
    obtain ⟨h1, h2⟩ := h
    obtain ⟨v, h3, h4⟩ := am_opt_iff.mp h2
    exact lv_ldcw hx hb hown (hts _ (hO.2.2.2.1 _ (am_find_mem h3))) (by rw [hdg, h1]) (hK _ _ _ _ _ h4 hn hne hlen H locs lc hP hS hl)
  case ldc2_w ix =>
    obtain ⟨h1, h2⟩ := h
    obtain ⟨v, h3, h4⟩ := am_opt_iff.mp h2
    exact lv_ldc2 hx hb hown (hts _ (hO.2.2.2.2.1 _ (am_find_mem h3))) (by rw [hdg, h1]) (hK _ _ _ _ _ h4 hn hne hlen H locs lc hP hS hl)
  case iload_n k =>
    obtain ⟨x, h3, h4⟩ := am_ldi_iff h.2
    exact lv_iload_n hx hb (by rw [hdg, h.1]) rfl (am_lv_at hl h3) (hK _ _ _ _ _ h4 hn hne hlen H locs lc hP hS hl)
  case iload k =>
    obtain ⟨x, h3, h4⟩ := am_ldi_iff h.2
    exact lv_iload hx hb (by rw [hdg, h.1]) (am_lv_at hl h3) (hK _ _ _ _ _ h4 hn hne hlen H locs lc hP hS hl)
  case lload_n k =>
    obtain ⟨x, h3, h4⟩ := am_ldl_iff h.2
    exact lv_lload_n hx hb (by rw [hdg, h.1]) rfl (am_lv_at hl h3) (hK _ _ _ _ _ h4 hn hne hlen H locs lc hP hS hl)
  case lload k =>
    obtain ⟨x, h3, h4⟩ := am_ldl_iff h.2
    exact lv_lload hx hb (by rw [hdg, h.1]) (am_lv_at hl h3) (hK _ _ _ _ _ h4 hn hne hlen H locs lc hP hS hl)
  case aload_n k =>
    obtain ⟨x, h3, h4⟩ := am_lda_iff h.2
    exact lv_aload_n hx hb (by rw [hdg, h.1]) rfl (am_lv_at hl h3) (hK _ _ _ _ _ h4 hn hne hlen H locs lc hP hS hl)
  case aload k =>
    obtain ⟨x, h3, h4⟩ := am_lda_iff h.2
    exact lv_aload hx hb (by rw [hdg, h.1]) (am_lv_at hl h3) (hK _ _ _ _ _ h4 hn hne hlen H locs lc hP hS hl)
  case istore_n k =>
    obtain ⟨x, r, rfl, h1, h2, h3⟩ := am_1_iff h.2
    exact lv_istore_n hx hb (by rw [hdg, h.1]) rfl hl (by omega) rfl (fun lc' hl' => hK _ _ _ _ _ h3 hn hne (by simp [hlen]) H locs lc' hP hS (am_lv_set1 h1 hl'))
  case istore k =>
    obtain ⟨x, r, rfl, h1, h2, h3⟩ := am_1_iff h.2
    exact lv_istore hx hb (by rw [hdg, h.1]) hl (by omega) rfl (fun lc' hl' => hK _ _ _ _ _ h3 hn hne (by simp [hlen]) H locs lc' hP hS (am_lv_set1 h1 hl'))
  case lstore_n k =>
    obtain ⟨x, r, rfl, h1, h2, h3⟩ := am_1l_iff h.2
    exact lv_lstore_n hx hb (by rw [hdg, h.1]) rfl hl (by omega) rfl (fun lc' hl' => hK _ _ _ _ _ h3 hn hne (by simp [hlen]) H locs lc' hP hS (am_lv_set2 h1 hl'))
  case lstore k =>
    obtain ⟨x, r, rfl, h1, h2, h3⟩ := am_1l_iff h.2
    exact lv_lstore hx hb (by rw [hdg, h.1]) hl (by omega) rfl (fun lc' hl' => hK _ _ _ _ _ h3 hn hne (by simp [hlen]) H locs lc' hP hS (am_lv_set2 h1 hl'))
  case astore_n k =>
    obtain ⟨x, r, rfl, h1, h2, h3⟩ := am_1a_iff h.2
    exact lv_astore_n hx hb (by rw [hdg, h.1]) rfl hl (by omega) rfl (fun lc' hl' => hK _ _ _ _ _ h3 hn hne (by simp [hlen]) H locs lc' hP hS (am_lv_set1 h1 hl'))
  case astore k =>
    obtain ⟨x, r, rfl, h1, h2, h3⟩ := am_1a_iff h.2
    exact lv_astore hx hb (by rw [hdg, h.1]) hl (by omega) rfl (fun lc' hl' => hK _ _ _ _ _ h3 hn hne (by simp [hlen]) H locs lc' hP hS (am_lv_set1 h1 hl'))
  case iinc k cn =>
    obtain ⟨x, h0, h1, h2, h3⟩ := am_ldi_iff h.2
    obtain ⟨j, hj⟩ := List.getElem?_of_mem (am_lv_mem (b := b) (q := (k, .int x)).mpr ⟨_, h0, rfl⟩)
    exact lv_iinc hx hb (by rw [hdg, h.1]) hl hj rfl (by omega) rfl (fun lc' hl' => hK _ _ _ _ _ h3 hn hne (by simp [hlen]) H locs lc' hP hS (am_lv_set1 h1 hl'))
  case iadd =>
    obtain ⟨x, y, r, rfl, h3⟩ := am_2_iff h.2
    exact lv_iadd hx hb (by rw [hdg, h.1]) (hK _ _ _ _ _ h3 hn hne hlen H locs lc hP hS hl)
  case isub =>
    obtain ⟨x, y, r, rfl, h3⟩ := am_2_iff h.2
    exact lv_isub hx hb (by rw [hdg, h.1]) (hK _ _ _ _ _ h3 hn hne hlen H locs lc hP hS hl)
  case imul =>
    obtain ⟨x, y, r, rfl, h3⟩ := am_2_iff h.2
    exact lv_imul hx hb (by rw [hdg, h.1]) (hK _ _ _ _ _ h3 hn hne hlen H locs lc hP hS hl)
  case iand =>
    obtain ⟨x, y, r, rfl, h3⟩ := am_2_iff h.2
    exact lv_iand hx hb (by rw [hdg, h.1]) (hK _ _ _ _ _ h3 hn hne hlen H locs lc hP hS hl)
  case ior =>
    obtain ⟨x, y, r, rfl, h3⟩ := am_2_iff h.2
    exact lv_ior hx hb (by rw [hdg, h.1]) (hK _ _ _ _ _ h3 hn hne hlen H locs lc hP hS hl)
  case ixor =>
    obtain ⟨x, y, r, rfl, h3⟩ := am_2_iff h.2
    exact lv_ixor hx hb (by rw [hdg, h.1]) (hK _ _ _ _ _ h3 hn hne hlen H locs lc hP hS hl)
  case ishl =>
    obtain ⟨x, y, r, rfl, h3⟩ := am_2_iff h.2
    exact lv_ishl hx hb (by rw [hdg, h.1]) (hK _ _ _ _ _ h3 hn hne hlen H locs lc hP hS hl)
  case ishr =>
    obtain ⟨x, y, r, rfl, h3⟩ := am_2_iff h.2
    exact lv_ishr hx hb (by rw [hdg, h.1]) (hK _ _ _ _ _ h3 hn hne hlen H locs lc hP hS hl)
  case iushr =>
    obtain ⟨x, y, r, rfl, h3⟩ := am_2_iff h.2
    exact lv_iushr hx hb (by rw [hdg, h.1]) rfl (hK _ _ _ _ _ h3 hn hne hlen H locs lc hP hS hl)
  case idiv =>
    obtain ⟨x, y, r, rfl, h3, h4⟩ := am_2_iff h.2
    exact lv_idiv hx hb (by rw [hdg, h.1]) h3 (hK _ _ _ _ _ h4 hn hne hlen H locs lc hP hS hl)
  case irem =>
    obtain ⟨x, y, r, rfl, h3, h4⟩ := am_2_iff h.2
    exact lv_irem hx hb (by rw [hdg, h.1]) h3 (hK _ _ _ _ _ h4 hn hne hlen H locs lc hP hS hl)
  case ladd =>
    obtain ⟨x, y, r, rfl, h3⟩ := am_2l_iff h.2
    exact lv_ladd hx hb (by rw [hdg, h.1]) (hK _ _ _ _ _ h3 hn hne hlen H locs lc hP hS hl)
  case lmul =>
    obtain ⟨x, y, r, rfl, h3⟩ := am_2l_iff h.2
    exact lv_lmul hx hb (by rw [hdg, h.1]) (hK _ _ _ _ _ h3 hn hne hlen H locs lc hP hS hl)
  case lcmp =>
    obtain ⟨x, y, r, rfl, h3⟩ := am_2l_iff h.2
    exact W.lcmp hx hb (by rw [hdg, h.1]) (hK _ _ _ _ _ h3 hn hne hlen H locs lc hP hS hl)
  case i2l =>
    obtain ⟨x, r, rfl, h3⟩ := am_1_iff h.2
    exact lv_i2l hx hb (by rw [hdg, h.1]) rfl (hK _ _ _ _ _ h3 hn hne hlen H locs lc hP hS hl)
  case i2b =>
    obtain ⟨x, r, rfl, h3⟩ := am_1_iff h.2
    exact lv_i2b hx hb (by rw [hdg, h.1]) rfl (hK _ _ _ _ _ h3 hn hne hlen H locs lc hP hS hl)
  case l2i =>
    obtain ⟨x, r, rfl, h3⟩ := am_1l_iff h.2
    exact lv_l2i hx hb (by rw [hdg, h.1]) rfl (hK _ _ _ _ _ h3 hn hne hlen H locs lc hP hS hl)
  case dup =>
    obtain ⟨x, r, rfl, h2, h3⟩ := am_v_iff h.2
    exact lv_dup hx hb (by rw [hdg, h.1]) (by rw [am_c_cat]; exact h2) (hK _ _ _ _ _ h3 hn hne hlen H locs lc hP hS hl)
  case pop =>
    obtain ⟨x, r, rfl, h2, h3⟩ := am_v_iff h.2
    exact lv_pop hx hb (by rw [hdg, h.1]) (by rw [am_c_cat]; exact h2) (hK _ _ _ _ _ h3 hn hne hlen H locs lc hP hS hl)
  case dup2 =>
    obtain ⟨x, r1, rfl, h2⟩ := am_v_iff h.2
    obtain ⟨y, r, rfl, h3, h4, h5⟩ := am_v_iff h2
    exact lv_dup2_11 hx hb (by rw [hdg, h.1]) (by rw [am_c_cat]; exact h3) (by rw [am_c_cat]; exact h4) (hK _ _ _ _ _ h5 hn hne hlen H locs lc hP hS hl)
  case ifCond cd off =>
    cases cd
    case eq =>
      obtain ⟨x, r, rfl, h2⟩ := am_1_iff h.2
      obtain ⟨t, ht, h3, h4⟩ := am_tgt h2
      exact lv_if_eq hx hb (by rw [hdg, h.1]) ht (fun q => hK _ _ _ _ _ (h3 q) hn hne hlen H locs lc hP hS hl) (fun q => hK _ _ _ _ _ (h4 q) hn hne hlen H locs lc hP hS hl)
    case ne =>
      obtain ⟨x, r, rfl, h2⟩ := am_1_iff h.2
      obtain ⟨t, ht, h3, h4⟩ := am_tgt h2
      exact lv_if_ne hx hb (by rw [hdg, h.1]) ht (fun q => hK _ _ _ _ _ (h3 q) hn hne hlen H locs lc hP hS hl) (fun q => hK _ _ _ _ _ (h4 q) hn hne hlen H locs lc hP hS hl)
    case lt =>
      obtain ⟨x, r, rfl, h2⟩ := am_1_iff h.2
      obtain ⟨t, ht, h3, h4⟩ := am_tgt h2
      exact lv_if_lt hx hb (by rw [hdg, h.1]) ht (fun q => hK _ _ _ _ _ (h3 q) hn hne hlen H locs lc hP hS hl) (fun q => hK _ _ _ _ _ (h4 q) hn hne hlen H locs lc hP hS hl)
    case ge =>
      obtain ⟨x, r, rfl, h2⟩ := am_1_iff h.2
      obtain ⟨t, ht, h3, h4⟩ := am_tgt h2
      exact lv_if_ge hx hb (by rw [hdg, h.1]) ht (fun q => hK _ _ _ _ _ (h3 q) hn hne hlen H locs lc hP hS hl) (fun q => hK _ _ _ _ _ (h4 q) hn hne hlen H locs lc hP hS hl)
    case gt =>
      obtain ⟨x, r, rfl, h2⟩ := am_1_iff h.2
      obtain ⟨t, ht, h3, h4⟩ := am_tgt h2
      exact lv_if_gt hx hb (by rw [hdg, h.1]) ht (fun q => hK _ _ _ _ _ (h3 q) hn hne hlen H locs lc hP hS hl) (fun q => hK _ _ _ _ _ (h4 q) hn hne hlen H locs lc hP hS hl)
    case le =>
      obtain ⟨x, r, rfl, h2⟩ := am_1_iff h.2
      obtain ⟨t, ht, h3, h4⟩ := am_tgt h2
      exact lv_if_le hx hb (by rw [hdg, h.1]) ht (fun q => hK _ _ _ _ _ (h3 q) hn hne hlen H locs lc hP hS hl) (fun q => hK _ _ _ _ _ (h4 q) hn hne hlen H locs lc hP hS hl)
  case if_icmp cd off =>
    cases cd
    case eq =>
      obtain ⟨x, y, r, rfl, h2⟩ := am_2_iff h.2
      obtain ⟨t, ht, h3, h4⟩ := am_tgt h2
      exact lv_icmp_eq hx hb (by rw [hdg, h.1]) ht (fun q => hK _ _ _ _ _ (h3 q) hn hne hlen H locs lc hP hS hl) (fun q => hK _ _ _ _ _ (h4 q) hn hne hlen H locs lc hP hS hl)
    case ne =>
      obtain ⟨x, y, r, rfl, h2⟩ := am_2_iff h.2
      obtain ⟨t, ht, h3, h4⟩ := am_tgt h2
      exact lv_icmp_ne hx hb (by rw [hdg, h.1]) ht (fun q => hK _ _ _ _ _ (h3 q) hn hne hlen H locs lc hP hS hl) (fun q => hK _ _ _ _ _ (h4 q) hn hne hlen H locs lc hP hS hl)
    case lt =>
      obtain ⟨x, y, r, rfl, h2⟩ := am_2_iff h.2
      obtain ⟨t, ht, h3, h4⟩ := am_tgt h2
      exact lv_icmp_lt hx hb (by rw [hdg, h.1]) ht (fun q => hK _ _ _ _ _ (h3 q) hn hne hlen H locs lc hP hS hl) (fun q => hK _ _ _ _ _ (h4 q) hn hne hlen H locs lc hP hS hl)
    case ge =>
      obtain ⟨x, y, r, rfl, h2⟩ := am_2_iff h.2
      obtain ⟨t, ht, h3, h4⟩ := am_tgt h2
      exact lv_icmp_ge hx hb (by rw [hdg, h.1]) ht (fun q => hK _ _ _ _ _ (h3 q) hn hne hlen H locs lc hP hS hl) (fun q => hK _ _ _ _ _ (h4 q) hn hne hlen H locs lc hP hS hl)
    case gt =>
      obtain ⟨x, y, r, rfl, h2⟩ := am_2_iff h.2
      obtain ⟨t, ht, h3, h4⟩ := am_tgt h2
      exact lv_icmp_gt hx hb (by rw [hdg, h.1]) ht (fun q => hK _ _ _ _ _ (h3 q) hn hne hlen H locs lc hP hS hl) (fun q => hK _ _ _ _ _ (h4 q) hn hne hlen H locs lc hP hS hl)
    case le =>
      obtain ⟨x, y, r, rfl, h2⟩ := am_2_iff h.2
      obtain ⟨t, ht, h3, h4⟩ := am_tgt h2
      exact lv_icmp_le hx hb (by rw [hdg, h.1]) ht (fun q => hK _ _ _ _ _ (h3 q) hn hne hlen H locs lc hP hS hl) (fun q => hK _ _ _ _ _ (h4 q) hn hne hlen H locs lc hP hS hl)
  case goto off =>
    obtain ⟨t, ht, h3⟩ := am_tgt h.2
    exact lv_goto hx hb (by rw [hdg, h.1]) ht (hK _ _ _ _ _ h3 hn hne hlen H locs lc hP hS hl)
  case ireturn =>
    obtain ⟨h1, rfl, h2⟩ := h
    obtain ⟨x, r, rfl, rfl, h3, h4⟩ := am_1_iff h2
    have hq : ∀ t : State, t.heap = H → s.WarmedH t.vm → am_Qc cl (am_SH X) (am_KF X) D aC b n post args s (.returned (some (.int x))) t := fun t ht hW => ⟨⟨some (.int x), σ, rfl, h4, by rw [ht]; exact hP⟩, hS.F ht⟩
    unfold am_ri at h3
    split at h3
    · rename_i hrt
      exact W.zret (ty := .int) hx hb (by rw [hret, hrt]) rfl hq hS.2.2 (by rw [hdg, h1]) hlocks
    · rename_i hrt
      exact W.zret (ty := .boolean) hx hb (by rw [hret, hrt]) (by
        have h5 : x &&& 1 = x := h3
        show Value.int (x &&& 1) = _
        rw [h5]) hq hS.2.2 (by rw [hdg, h1]) hlocks
    · exact h3.elim
  case lreturn =>
    obtain ⟨h1, rfl, h2⟩ := h
    obtain ⟨x, r, rfl, rfl, h3, h4⟩ := am_1l_iff h2
    exact W.lret hx hb (by rw [hret, h3]) (fun t ht hW => ⟨⟨some (.long x), σ, rfl, h4, by rw [ht]; exact hP⟩, hS.F ht⟩) hS.2.2 (by rw [hdg, h1]) hlocks
  case return_ =>
    obtain ⟨h1, rfl, rfl, h3, h4⟩ := h
    exact W.vret hx hb (by rw [hret, h3]) (fun t ht hW => ⟨⟨none, σ, rfl, h4, by rw [ht]; exact hP⟩, hS.F ht⟩) hS.2.2 (by rw [hdg, h1]) hlocks
  case tableswitch dd lo hi offs =>
    obtain ⟨x, r, rfl, h1, h2, h3⟩ := am_1_iff h
    by_cases hq : x.toInt < lo ∨ hi < x.toInt
    · obtain ⟨t, ht, h4⟩ := am_tgt (h2 hq)
      exact lv_tableOut hx hb hdg hq ht (hK _ _ _ _ _ h4 hn hne hlen H locs lc hP hS hl)
    · obtain ⟨off, h4, h5⟩ := am_ts_ok h1 (by omega) (by rw [Array.length_toList]; omega)
      obtain ⟨t, ht, h6⟩ := am_tgt h5
      exact lv_tableIn hx hb hdg (fun z => hq (Or.inl z)) (fun z => hq (Or.inr z)) (by rw [← Array.getElem?_toList]; exact h4) ht (hK _ _ _ _ _ h6 hn hne hlen H locs lc hP hS hl)
  case lookupswitch dd ps =>
    obtain ⟨x, r, rfl, h1, h2⟩ := am_1_iff h
    obtain ⟨t, ht, h4⟩ := am_tgt (am_ls_ok h2)
    exact lv_lookup hx hb hdg h1 rfl ht (hK _ _ _ _ _ h4 hn hne hlen H locs lc hP hS hl)
  all_goals first | exact False.elim h | exact False.elim hbig
end
end
section
section
variable {p : Program} {l : Launch} {e : Env} {R : Room} {s : State} {m : MethodId} {args : Array Value} {below : List Frame} {meth : Method} {c : Code} {cl : List vw_C} {TB NB : List Cond} {D : va_G} {aC : Nat → ClassId} {b n0 ne nL : Nat} {cc : ByteArray} {own : String} {X : am_X} {post : Option Value → am_S → Prop}
theorem am_nth {aC : Nat → ClassId} {k : Nat} {ty : ArrayType} (h : am_ty k = some ty) : (am_tys aC)[k]? = some (aC k, newarray.typeOf ty) := by
  match k, h with
  | 0, h => cases h; rfl
  | 1, h => cases h; rfl
  | 2, h => cases h; rfl
  | 3, h => cases h; rfl
  | k + 4, h => simp [am_ty] at h
/-- the instructions that read and write cells -/
theorem am_mem {i : Instr} {len pc : Nat} {ls : List (Option Value)} {stk : List Value} {n : Nat} {σ : am_S} {K : Nat → List (Option Value) → List Value → Nat → am_S → Prop} (C : am_C p l R s m args meth c cl TB NB D aC b n0 ne nL cc own X) (hdg : decode cc pc = .ok (i, len))
    (hK : ∀ pc ls stk n σ, K pc ls stk n σ → am_A p l e R s m args below meth c cl D aC b n0 ne nL X post pc ls stk n σ)
    (hbig : match i with
      | .getfield _ => True
      | .putfield _ => True
      | .arraylength => True
      | .iaload => True
      | .baload => True
      | .laload => True
      | .iastore => True
      | .bastore => True
      | .lastore => True
      | _ => False)
    (h : am_one X ne post i len pc ls stk n σ K) : am_A p l e R s m args below meth c cl D aC b n0 ne nL X post pc ls stk n σ := by
  obtain ⟨hx, hb, hml, hown, hts, hnb, hKn, hlocks, hsz, hret, ⟨d, hd, hR, hO⟩, tyc, hG⟩ := C
  intro hn hne hlen H locs lc hP hS hl
  have hD : va_D (fun q => b ≤ q) (am_ws (am_SH X) (am_KF X) b aC n σ) := am_ws_D
  cases i
  case getfield ix =>
    obtain ⟨o, r, rfl, ho, h2⟩ := am_1a_iff h.2
    obtain ⟨q, hq, hs, h3⟩ := am_opt_iff.mp h2
    obtain ⟨kd, hkd, h4⟩ := am_opt_iff.mp h3
    obtain ⟨w, hc, hk, hlink⟩ := hO.1 _ (am_find_mem hq)
    exact va_get (D := D) (cl := cl) (C := w.1) (T := w.2.1) (N := w.2.2) hx hb hts (hG.1 _ _ hc).1 hown hKn hP o (am_ws_obj ho hs) hc q.2 hk (hts _ hlink) (fun _ h9 => h9) (v := am_c b (am_av kd (σ.1 o q.2) (σ.2 o q.2))) (by rw [List.getElem?_map, am_fs_at _ _ hkd]; rfl) (by rw [hdg, h.1]) (hK _ _ _ _ _ h4 hn hne hlen H locs lc hP hS hl)
  case putfield ix =>
    obtain ⟨v, r1, rfl, h1⟩ := am_v_iff h.2
    obtain ⟨o, r, rfl, ho, h2⟩ := am_1a_iff h1
    obtain ⟨q, hq, hs, h3⟩ := am_opt_iff.mp h2
    obtain ⟨kd, hkd, h4⟩ := am_opt_iff.mp h3
    obtain ⟨w, hc, hk, hlink, hfin⟩ := hO.2.1 _ (am_find_mem hq)
    obtain ⟨τ, h5, h6, h7, h8, h9, h10⟩ := am_pf_ok (SH := am_SH X) (KF := am_KF X) (b := b) (aC := aC) h4
    obtain ⟨w', hc', hlK, hkk⟩ := hG.2.1 _ _ hs
    have hww : w' = w := Option.some.inj (hc'.symm.trans hc)
    subst hww
    obtain ⟨h11, h12⟩ := h10 _ (hkk _ _ hkd)
    have hse : (.inr (q.1, ((am_fs (am_KF X o) (σ.1 o) (σ.2 o)).map (am_c b)).set q.2 (am_c b v)) : va_E) = am_cell (am_SH X) (am_KF X) b aC τ o := by
      have e1 : am_cell (am_SH X) (am_KF X) b aC τ o = .inr (q.1, (am_fs (am_KF X o) (τ.1 o) (τ.2 o)).map (am_c b)) := by simp [am_cell, hs]
      rw [e1, am_fs_set hkd h7 h8, h9, List.map_set]
    have hty := (hG.1 _ _ hc).2.1 q.2 hk
    have hlf : q.2 < ((am_fs (am_KF X o) (σ.1 o) (σ.2 o)).map (am_c b)).length := by rw [List.length_map, am_fs_len, hlK]; exact hk
    have kk : ∀ (H1 : Heap) (locs1 : List Loc), va_P D cl ((am_ws (am_SH X) (am_KF X) b aC n σ).set o (b + o, .inr (q.1, ((am_fs (am_KF X o) (σ.1 o) (σ.2 o)).map (am_c b)).set q.2 (am_c b v)))) H1 → va_D (fun q => b ≤ q) ((am_ws (am_SH X) (am_KF X) b aC n σ).set o (b + o, .inr (q.1, ((am_fs (am_KF X o) (σ.1 o) (σ.2 o)).map (am_c b)).set q.2 (am_c b v)))) → va_S (fun q => b ≤ q) s.heap H1 locs1 →
        W p l e R s m args below meth c H1 locs1 (n - n0) (am_sz (am_SH X) (am_KF X) n - am_sz (am_SH X) (am_KF X) n0) (MQ below (am_Qc cl (am_SH X) (am_KF X) D aC b ne post) args s (ne - n0) (am_sz (am_SH X) (am_KF X) ne - am_sz (am_SH X) (am_KF X) n0) (fun q => b ≤ q)) (F0 m (pc + 3) lc (r.map (am_c b))) := by
      intro H1 locs1 p1 p2 p3
      rw [am_ws_set ho hse h6] at p1
      exact hK _ _ _ _ _ h5 hn hne hlen H1 locs1 lc p1 p3 hl
    rcases hfin with hfin | ⟨hfin, hin, hdecl⟩
    · exact va_put (D := D) (cl := cl) (C := w'.1) (T := w'.2.1) (N := w'.2.2) hx hb hts (hG.1 _ _ hc).1 (tyc q.1) (hG.1 _ _ hc).2.1 (hG.1 _ _ hc).2.2 hown hKn hP hD hS o (am_ws_obj ho hs) hc q.2 hk (hts _ hlink) (fun _ h9 => h9) hfin hty h11 h12 hlf (by rw [hdg, h.1]) kk
    · exact va_putF (D := D) (cl := cl) (C := w'.1) (T := w'.2.1) (N := w'.2.2) hx hb hts (hG.1 _ _ hc).1 (tyc q.1) (hG.1 _ _ hc).2.1 (hG.1 _ _ hc).2.2 hown hKn hP hD hS o (am_ws_obj ho hs) hc q.2 hk (hts _ hlink) (fun _ h9 => h9) hfin hin hdecl hty h11 h12 hlf (by rw [hdg, h.1]) kk
  case arraylength =>
    obtain ⟨o, r, rfl, ho, h2⟩ := am_1a_iff h.2
    obtain ⟨q, hs, h3, h4⟩ := am_arr_iff h2
    have kk := hK _ _ _ _ _ h4 hn hne hlen H locs lc hP hS hl
    by_cases h5 : q.1 = 3
    · exact va_alen (D := D) (cl := cl) hx hb hKn hP o 3 (am_ws_arl ho hs h5) (ty := .long) rfl rfl (by rw [hdg, h.1]) kk
    · have h6 : q.1 = 0 ∨ q.1 = 1 ∨ q.1 = 2 := by omega
      rcases h6 with h6 | h6 | h6
      · exact va_alen (D := D) (cl := cl) hx hb hKn hP o 0 (am_ws_arr ho hs h5) (ty := .int) (by rw [h6]; rfl) rfl (by rw [hdg, h.1]) kk
      · exact va_alen (D := D) (cl := cl) hx hb hKn hP o 1 (am_ws_arr ho hs h5) (ty := .byte) (by rw [h6]; rfl) rfl (by rw [hdg, h.1]) kk
      · exact va_alen (D := D) (cl := cl) hx hb hKn hP o 2 (am_ws_arr ho hs h5) (ty := .boolean) (by rw [h6]; rfl) rfl (by rw [hdg, h.1]) kk
  case iaload =>
    obtain ⟨x, o, r, rfl, ho, h2⟩ := am_ix_iff h.2
    obtain ⟨q, hs, h3, h4, h5⟩ := am_arr_iff h2
    exact va_iald (D := D) (cl := cl) hx hb hKn hP o 0 (am_ws_arr ho hs (by omega)) (by rw [h3]; rfl) h4 (by rw [hdg, h.1]) (hK _ _ _ _ _ h5 hn hne hlen H locs lc hP hS hl)
  case baload =>
    obtain ⟨x, o, r, rfl, ho, h2⟩ := am_ix_iff h.2
    obtain ⟨q, hs, h3, h4, h5⟩ := am_arr_iff h2
    rcases h3 with h3 | h3
    · exact va_bald (D := D) (cl := cl) hx hb hKn hP o 1 (am_ws_arr ho hs (by omega)) (by rw [h3]; rfl) h4 (by rw [hdg, h.1]) (hK _ _ _ _ _ h5 hn hne hlen H locs lc hP hS hl)
    · exact va_zald (D := D) (cl := cl) hx hb hKn hP o 2 (am_ws_arr ho hs (by omega)) (by rw [h3]; rfl) h4 (by rw [hdg, h.1]) (hK _ _ _ _ _ h5 hn hne hlen H locs lc hP hS hl)
  case laload =>
    obtain ⟨x, o, r, rfl, ho, h2⟩ := am_ix_iff h.2
    obtain ⟨q, hs, h3, h4, h5⟩ := am_arr_iff h2
    exact va_lald (D := D) (cl := cl) hx hb hKn hP o 3 (am_ws_arl ho hs h3) rfl h4 (by rw [hdg, h.1]) (hK _ _ _ _ _ h5 hn hne hlen H locs lc hP hS hl)
  case iastore =>
    obtain ⟨v, r1, rfl, h1⟩ := am_1_iff h.2
    obtain ⟨x, o, r, rfl, ho, h2⟩ := am_ix_iff h1
    obtain ⟨q, hs, h3, h4, h5⟩ := am_arr_iff h2
    refine va_iast (D := D) (cl := cl) hx hb hKn hP hD hS o 0 (am_ws_arr ho hs (by omega)) (by rw [h3]; rfl) h4 (by rw [hdg, h.1]) fun H1 locs1 p1 p2 p3 => ?_
    rw [am_ws_set ho (am_upd_cell hs (by omega)) (fun i hi => am_pi_ne hi)] at p1
    exact hK _ _ _ _ _ h5 hn hne hlen H1 locs1 lc p1 p3 hl
  case bastore =>
    obtain ⟨v, r1, rfl, h1⟩ := am_1_iff h.2
    obtain ⟨x, o, r, rfl, ho, h2⟩ := am_ix_iff h1
    obtain ⟨q, hs, h3, h4, h5⟩ := am_arr_iff h2
    rcases h3 with h3 | h3
    · refine va_bast (D := D) (cl := cl) hx hb hKn hP hD hS o 1 (am_ws_arr ho hs (by omega)) (by rw [h3]; rfl) h4 (by rw [hdg, h.1]) fun H1 locs1 p1 p2 p3 => ?_
      rw [am_ws_set ho (am_upd_cell hs (by omega)) (fun i hi => am_pi_ne hi)] at p1
      rw [if_pos h3] at h5
      exact hK _ _ _ _ _ h5 hn hne hlen H1 locs1 lc p1 p3 hl
    · refine va_zast (D := D) (cl := cl) hx hb hKn hP hD hS o 2 (am_ws_arr ho hs (by omega)) (by rw [h3]; rfl) h4 (by rw [hdg, h.1]) fun H1 locs1 p1 p2 p3 => ?_
      rw [am_ws_set ho (am_upd_cell hs (by omega)) (fun i hi => am_pi_ne hi)] at p1
      rw [if_neg (by omega)] at h5
      exact hK _ _ _ _ _ h5 hn hne hlen H1 locs1 lc p1 p3 hl
  case lastore =>
    obtain ⟨v, r1, rfl, h1⟩ := am_1l_iff h.2
    obtain ⟨x, o, r, rfl, ho, h2⟩ := am_ix_iff h1
    obtain ⟨q, hs, h3, h4, h5⟩ := am_arr_iff h2
    refine va_last (D := D) (cl := cl) hx hb hKn hP hD hS o 3 (am_ws_arl ho hs h3) rfl h4 (by rw [hdg, h.1]) fun H1 locs1 p1 p2 p3 => ?_
    rw [am_ws_set ho (am_upd_celll hs h3) (fun i hi => am_pl_ne hi)] at p1
    exact hK _ _ _ _ _ h5 hn hne hlen H1 locs1 lc p1 p3 hl
  all_goals exact False.elim hbig
end
end
section
section
variable {p : Program} {l : Launch} {e : Env} {R : Room} {s : State} {m : MethodId} {args : Array Value} {below : List Frame} {meth : Method} {c : Code} {cl : List vw_C} {TB NB : List Cond} {D : va_G} {aC : Nat → ClassId} {b n0 ne nL : Nat} {cc : ByteArray} {own : String} {X : am_X} {post : Option Value → am_S → Prop}
/-- where a new cell lies -/
theorem am_addr {SH : am_Sh} {KF : am_Kf} {H : Heap} {locs : List Loc} {n slots a : Nat} {en : va_E} {Q : State → Prop} {g : JFrame} {σ : am_S} (hP : va_P D cl (am_ws SH KF b aC n σ ++ [(a, en)]) H) (hD : va_D (fun q => b ≤ q) (am_ws SH KF b aC n σ ++ [(a, en)])) (hsz : s.heap.size = b + n0) (hn : n0 ≤ n) (k : a = b + n → W p l e R s m args below meth c H locs (n - n0 + 1) slots Q g) : W p l e R s m args below meth c H locs (n - n0 + 1) slots Q g := by
  intro T hT X
  refine k ?_ T hT X
  have h1 : T.heap.size ≤ s.heap.size + (n - n0 + 1) := X.heapSize
  rw [hT, hsz] at h1
  have hn' : (am_ws SH KF b aC n σ ++ [(a, en)])[n]? = some (a, en) := by
    rw [List.getElem?_append_right (by rw [am_ws_len]; exact Nat.le_refl _), am_ws_len, Nat.sub_self]; rfl
  have h2 : a < H.size := (hP n _ hn').lt
  have h3 : b ≤ a := hD.2 n _ hn'
  rcases Nat.lt_or_ge a (b + n) with q | q
  · exfalso
    have h4 : a - b < n := by omega
    have h5 : (am_ws SH KF b aC n σ ++ [(a, en)])[a - b]? = some (b + (a - b), am_cell SH KF b aC σ (a - b)) := by
      rw [List.getElem?_append_left (by rw [am_ws_len]; exact h4), am_ws_at h4]
    have h6 := hD.1 (a - b) n _ _ h5 hn' (by show b + (a - b) = a; omega)
    omega
  · omega
theorem am_new_fs : ∀ (kds : List Nat), kds.all (fun kd => decide (kd < 4)) = true → ∀ (b : Nat) (ty : Nat → FieldType) (j : Nat), j < kds.length → (∀ k kd, kds[k]? = some kd → min kd 3 = am_tk (ty k)) → defaultValue (ty j) = vp_V ((am_fs kds (fun _ => 0) (fun _ => 0)).map (am_c b)) j := by
  intro kds hall b ty j hj hk
  have h1 : kds[j]? = some kds[j] := List.getElem?_eq_getElem hj
  have h2 := hk _ _ h1
  have h3 : kds[j] < 4 := by
    have := List.all_eq_true.mp hall kds[j] (List.getElem_mem hj)
    simpa using this
  have h4 : vp_V ((am_fs kds (fun _ => 0) (fun _ => 0)).map (am_c b)) j = am_c b (am_av kds[j] 0 0) := by
    unfold vp_V
    rw [List.getD_eq_getElem?_getD, List.getElem?_map, am_fs_at _ _ h1]
    rfl
  rw [h4]
  have h5 : kds[j] = 0 ∨ kds[j] = 1 ∨ kds[j] = 2 ∨ kds[j] = 3 := by omega
  rcases h5 with h5 | h5 | h5 | h5 <;> rw [h5] at h2 ⊢ <;> cases hty : ty j <;> rw [hty] at h2 <;> first | rfl | (simp [am_tk] at h2)
/-- the instructions that make cells -/
theorem am_make {i : Instr} {len pc : Nat} {ls : List (Option Value)} {stk : List Value} {n : Nat} {σ : am_S} {K : Nat → List (Option Value) → List Value → Nat → am_S → Prop} (C : am_C p l R s m args meth c cl TB NB D aC b n0 ne nL cc own X) (hdg : decode cc pc = .ok (i, len))
    (hK : ∀ pc ls stk n σ, K pc ls stk n σ → am_A p l e R s m args below meth c cl D aC b n0 ne nL X post pc ls stk n σ)
    (hbig : match i with
      | .newarray _ => True
      | .new _ => True
      | _ => False)
    (h : am_one X ne post i len pc ls stk n σ K) : am_A p l e R s m args below meth c cl D aC b n0 ne nL X post pc ls stk n σ := by
  obtain ⟨hx, hb, hml, hown, hts, hnb, hKn, hlocks, hsz, hret, ⟨d, hd, hR, hO⟩, tyc, hG⟩ := C
  intro hn hne hlen H locs lc hP hS hl
  have hD : va_D (fun q => b ≤ q) (am_ws (am_SH X) (am_KF X) b aC n σ) := am_ws_D
  have hA : ∀ q, s.heap.size ≤ q → (fun q => b ≤ q) q := fun q hq => by show b ≤ q; omega
  cases i
  case newarray ty =>
    obtain ⟨x, r, rfl, h1, h2⟩ := am_1_iff h.2
    obtain ⟨q, hs, h3, h4, h5, h6, h7⟩ := am_arr_iff h2
    have hz : am_sz (am_SH X) (am_KF X) (n + 1) = am_sz (am_SH X) (am_KF X) n + q.2 := by simp [am_sz, hs]
    have hz1 : am_sz (am_SH X) (am_KF X) (n + 1) ≤ am_sz (am_SH X) (am_KF X) ne := am_sz_le (by omega)
    have hz2 : am_sz (am_SH X) (am_KF X) n0 ≤ am_sz (am_SH X) (am_KF X) n := am_sz_le hn
    have hsub : am_sz (am_SH X) (am_KF X) (n + 1) - am_sz (am_SH X) (am_KF X) n0 = am_sz (am_SH X) (am_KF X) n - am_sz (am_SH X) (am_KF X) n0 + q.2 := by omega
    refine va_newa (D := D) (cl := cl) (tys := am_tys aC) (ty := newarray.typeOf ty) (N' := q.2) (a0 := (q.2, if q.1 = 3 then .inr (.inl (fun _ => 0)) else .inl (fun _ => 0))) hx hb (hts _ (hG.2.2 _ _ h3)) rfl hKn hP hD hS hA ?_ h4 h5 ?_ (by rw [hR]; show _ ≤ ne - n0; omega) (by rw [hR]; show _ ≤ am_sz (am_SH X) (am_KF X) ne - am_sz (am_SH X) (am_KF X) n0; omega) (by rw [hdg, h.1]) (fun a cA H1 k1 p1 d1 s1 => ?_)
    · intro cA
      match hq1 : q.1, h3 with
      | 0, h3 => cases h3; rfl
      | 1, h3 => cases h3; rfl
      | 2, h3 => cases h3; rfl
      | 3, h3 => cases h3; rfl
      | k + 4, h3 => simp [am_ty] at h3
    · have : componentBytes (newarray.typeOf ty) ≤ 8 := by cases ty <;> decide
      exact Nat.le_trans (Nat.mul_le_mul (Nat.le_of_lt h6) this) (by decide)
    · refine am_addr p1 d1 hsz hn fun ha => ?_
      subst ha
      have hcA : cA = aC q.1 := by
        have e1 := (k1.2 4 (cA, newarray.typeOf ty) (by rfl)).2
        have e2 := (hKn.2 q.1 _ (am_nth h3)).2
        cases ty <;> exact Option.some.inj (e1.symm.trans e2)
      subst hcA
      have h8 := hK _ _ _ _ _ h7 (by omega) (by omega) hlen H1 locs lc
      rw [show n + 1 - n0 = n - n0 + 1 by omega, hsub] at h8
      refine h8 ?_ s1 hl
      rw [am_ws_push (τ := am_new σ n) ?_ (fun i hi => am_new_ne (by omega))] at p1
      · exact p1
      · simp only [am_cell, hs, am_new]
        by_cases h9 : q.1 = 3
        · simp [h9]
        · simp [h9]
  case new ix =>
    obtain ⟨h1, h2, h3⟩ := h
    obtain ⟨ci, h4, hs, h5, h6⟩ := am_opt_iff.mp h3
    obtain ⟨w, hc, hcl, hins, hini⟩ := hO.2.2.1 _ (am_find_mem h4)
    obtain ⟨w', hc', hlK, hkk⟩ := hG.2.1 _ _ hs
    have hww : w' = w := Option.some.inj (hc'.symm.trans hc)
    subst hww
    have hz : am_sz (am_SH X) (am_KF X) (n + 1) = am_sz (am_SH X) (am_KF X) n + w'.2.2 := by simp [am_sz, hs, hlK]
    have hz1 : am_sz (am_SH X) (am_KF X) (n + 1) ≤ am_sz (am_SH X) (am_KF X) ne := am_sz_le (by omega)
    have hz2 : am_sz (am_SH X) (am_KF X) n0 ≤ am_sz (am_SH X) (am_KF X) n := am_sz_le hn
    have hsub : am_sz (am_SH X) (am_KF X) (n + 1) - am_sz (am_SH X) (am_KF X) n0 = am_sz (am_SH X) (am_KF X) n - am_sz (am_SH X) (am_KF X) n0 + w'.2.2 := by omega
    refine va_new (D := D) (cl := cl) (ci := ci) (fs := (am_fs (am_KF X n) (fun _ => 0) (fun _ => 0)).map (am_c b)) (C := w'.1) (T := w'.2.1) (N := w'.2.2) hx hb hts (hG.1 _ _ hc).1 (tyc ci) (hG.1 _ _ hc).2.1 hown (hts _ hcl) (hts _ hins) (hts _ hini) hKn hP hD hS hA hc (fun j hj => am_new_fs _ h5 b (tyc ci) j (by rw [hlK]; exact hj) hkk) (by rw [hR]; show _ ≤ ne - n0; omega) (by rw [hR]; show _ ≤ am_sz (am_SH X) (am_KF X) ne - am_sz (am_SH X) (am_KF X) n0; omega) (by rw [hdg, h1]) (fun a H1 p1 d1 s1 => ?_)
    refine am_addr p1 d1 hsz hn fun ha => ?_
    subst ha
    have h8 := hK _ _ _ _ _ h6 (by omega) (by omega) hlen H1 locs lc
    rw [show n + 1 - n0 = n - n0 + 1 by omega, hsub] at h8
    refine h8 ?_ s1 hl
    rw [am_ws_push (τ := am_new σ n) ?_ (fun i hi => am_new_ne (by omega))] at p1
    · exact p1
    · simp only [am_cell, hs, am_new]
      simp
  all_goals exact False.elim hbig
end
end
section
section
variable {p : Program} {l : Launch} {e : Env} {R : Room} {s : State} {m : MethodId} {args : Array Value} {below : List Frame} {meth : Method} {c : Code} {cl : List vw_C} {TB NB : List Cond} {D : va_G} {aC : Nat → ClassId} {b n0 ne nL : Nat} {cc : ByteArray} {own : String} {X : am_X} {post : Option Value → am_S → Prop}
theorem am_cats {b : Nat} (r : List Value) : ((r.map (am_c b)).map fun v => v.category) = r.map fun v => v.category := by
  rw [List.map_map]
  apply List.map_congr_left
  intro v _
  exact am_c_cat b v
theorem am_blind {SH : am_Sh} {KF : am_Kf} {n : Nat} {as : List Value} {σ : am_S} : FrameBlind (am_Pc cl NB SH KF D aC b n as σ) := fun a U g mk q => by
  obtain ⟨q0, q1, qP, qK, qN⟩ := q
  exact ⟨q0, q1, qP, va_K.moved (u := U) (U := U.calling g mk a) (Vm.Alike.refl U.vm) qK, fun a' i x h hm => va_Nw.same (u := U) (U := U.calling g mk a) rfl rfl (qN a' i x h hm)⟩
theorem am_pre {SH : am_Sh} {KF : am_Kf} {n : Nat} {as : List Value} {σ : am_S} {H : Heap} (hz : H.size = b + n) (hP : va_P D cl (am_ws SH KF b aC n σ) H) (hK : va_K D cl (am_tys aC) s) (hN : am_Nw NB s) : ∀ U : State, U.heap = H → s.WarmedH U.vm → am_Pc cl NB SH KF D aC b n as σ (as.map (am_c b)).toArray U :=
  fun U hU hW => ⟨rfl, by rw [hU]; exact hz, by rw [hU]; exact hP, va_K.moved hW.alike hK, fun a' i x h hm => (hN a' i x h hm).warmM hW⟩
theorem am_words (hts : ∀ w ∈ TB, w.before args s = true) {y : MethodName} {bytes : ByteArray} {maxL : Nat} {ret : Option FieldType} (hc : Cond.code y bytes maxL ret ∈ TB) : ∀ w ∈ Cond.code y bytes maxL ret :: am_gb TB, ∀ (a' : Array Value) (U : State), s.WarmedH U.vm → w.before a' U = true := by
  intro w hw a' U hW
  rcases List.mem_cons.mp hw with rfl | hw
  · exact word_at hW (Or.inl (by first | rfl | simp [Cond.onTables, Cond.keeps, Cond.steady])) (hts _ hc)
  · obtain ⟨h1, h2⟩ := List.mem_filter.mp hw
    exact word_at hW (good_of_word h2) (hts _ h1)
theorem am_code_in {y : MethodName} {bytes : ByteArray} {maxL : Nat} {ret : Option FieldType} : Cond.code y bytes maxL ret ∈ Cond.code y bytes maxL ret :: am_gb TB := List.mem_cons_self
theorem am_sig {y : MethodName} {na : Nat} (h : (parseMethodDescriptor y.desc).map (fun d => d.parameters.length) = some na) : ∀ sig, parseMethodDescriptor y.desc = some sig → na = sig.parameters.length := by
  intro sig hs
  rw [hs] at h
  exact (Option.some.inj h).symm
theorem am_rcV {kind cls n : Nat} {SH : am_Sh} {as : List Value} (h : am_rc kind cls n SH as) (h1 : ¬ kind = 1) (h4 : ¬ kind = 4) : ∃ o As, as = .ref o :: As ∧ o < n ∧ SH o = .inl cls := by
  unfold am_rc at h
  split at h
  · exact absurd rfl h1
  · exact absurd rfl h4
  · split at h
    · exact ⟨_, _, rfl, h.1, h.2⟩
    · exact h.elim
theorem am_split {stk : List Value} {k : Nat} {as : List Value} (h : (stk.take k).reverse = as) : stk = as.reverse ++ stk.drop k := by
  rw [← h, List.reverse_reverse, List.take_append_drop]
theorem am_len_as {stk : List Value} {k : Nat} (h : k ≤ stk.length) : (stk.take k).reverse.length = k := by
  rw [List.length_reverse, List.length_take]; omega
/-- the instructions that call -/
theorem am_callI {i : Instr} {len pc : Nat} {ls : List (Option Value)} {stk : List Value} {n : Nat} {σ : am_S} {K : Nat → List (Option Value) → List Value → Nat → am_S → Prop} (C : am_C p l R s m args meth c cl TB NB D aC b n0 ne nL cc own X) (hdg : decode cc pc = .ok (i, len))
    (hK : ∀ pc ls stk n σ, K pc ls stk n σ → am_A p l e R s m args below meth c cl D aC b n0 ne nL X post pc ls stk n σ)
    (hbig : match i with
      | .invokevirtual _ => True
      | .invokestatic _ => True
      | .invokespecial _ => True
      | _ => False)
    (h : am_one X ne post i len pc ls stk n σ K) : am_A p l e R s m args below meth c cl D aC b n0 ne nL X post pc ls stk n σ := by
  obtain ⟨hx, hb, hml, hown, hts, hnb, hKn, hlocks, hsz, hret, ⟨d, hd, hR, hO⟩, tyc, hG⟩ := C
  intro hn hne hlen H locs lc hP hS hl
  have hfr1 : 1 ≤ R.frames := by rw [hR]; exact hd
  have hloc : 64 ≤ R.locals := by rw [hR]; show 64 ≤ 64 * d; omega
  have hcs : n - n0 ≤ R.cells := by rw [hR]; show n - n0 ≤ ne - n0; omega
  have hss : am_sz (am_SH X) (am_KF X) n - am_sz (am_SH X) (am_KF X) n0 ≤ R.slots := by rw [hR]; show _ ≤ am_sz (am_SH X) (am_KF X) ne - am_sz (am_SH X) (am_KF X) n0; have := am_sz_le (SH := am_SH X) (KF := am_KF X) hne; omega
  have fx : CallFix p m c cc nL s args TB own := ⟨hx, hb, hml, hown, hts⟩
  have hz2 : am_sz (am_SH X) (am_KF X) n0 ≤ am_sz (am_SH X) (am_KF X) n := am_sz_le hn
  refine am_size hP hS hsz hn rfl fun hzH => ?_
  -- a call that makes cells: what the caller's room has for it
  have room : ∀ mc ms : Nat, n + mc ≤ ne → am_sz (am_SH X) (am_KF X) (n + mc) = am_sz (am_SH X) (am_KF X) n + ms → n - n0 + mc ≤ R.cells ∧ am_sz (am_SH X) (am_KF X) n - am_sz (am_SH X) (am_KF X) n0 + ms ≤ R.slots := by
    intro mc ms g1 g2
    have := am_sz_le (SH := am_SH X) (KF := am_KF X) g1
    constructor
    · rw [hR]; show _ ≤ ne - n0; omega
    · rw [hR]; show _ ≤ am_sz (am_SH X) (am_KF X) ne - am_sz (am_SH X) (am_KF X) n0; omega
  have back : ∀ (mc ms k : Nat), n + mc ≤ ne → am_sz (am_SH X) (am_KF X) (n + mc) = am_sz (am_SH X) (am_KF X) n + ms → ∀ (v : Option Value) (τ : am_S) (H1 : Heap) (locs1 : List Loc), K (pc + 3) ls (v.toList ++ stk.drop k) (n + mc) τ → va_P D cl (am_ws (am_SH X) (am_KF X) b aC (n + mc) τ) H1 → va_S (fun q => b ≤ q) s.heap H1 locs1 →
      W p l e R s m args below meth c H1 locs1 (n - n0 + mc) (am_sz (am_SH X) (am_KF X) n - am_sz (am_SH X) (am_KF X) n0 + ms) (MQ below (am_Qc cl (am_SH X) (am_KF X) D aC b ne post) args s (ne - n0) (am_sz (am_SH X) (am_KF X) ne - am_sz (am_SH X) (am_KF X) n0) (fun q => b ≤ q)) (F0 m (pc + 3) lc ((v.map (am_c b)).toList ++ (stk.drop k).map (am_c b))) := by
    intro mc ms k g1 g2 v τ H1 locs1 g3 g4 g5
    have g6 := hK _ _ _ _ _ g3 (by omega) g1 hlen H1 locs1 lc g4 g5 hl
    rw [show n + mc - n0 = n - n0 + mc by omega, show am_sz (am_SH X) (am_KF X) (n + mc) - am_sz (am_SH X) (am_KF X) n0 = am_sz (am_SH X) (am_KF X) n - am_sz (am_SH X) (am_KF X) n0 + ms by omega] at g6
    have g7 : (v.toList ++ stk.drop k).map (am_c b) = (v.map (am_c b)).toList ++ (stk.drop k).map (am_c b) := by cases v <;> simp
    rw [g7] at g6
    exact g6
  cases i
  case invokevirtual ix =>
    obtain ⟨h0, h⟩ := h
    cases hN : am_find (am_NT X) ix with
    | some w =>
      rw [hN] at h
      exfalso
      have h : am_nat w 2 stk n (am_SH X) σ (fun st σ1 => K (pc + 3) ls st n σ1) := h
      unfold am_nat at h
      split at h <;> first | (rename_i e2; cases e2) | exact h
    | none =>
      rw [hN] at h
      obtain ⟨q, hq, h1, h2, h3, h4, h5, h6, h7⟩ := am_opt_iff.mp h
      obtain ⟨y, bytes, maxL, rt, dd, na, hM, hdd, hmx, hcode, hini, hd3, hkind⟩ := hO.2.2.2.2.2.2 _ (am_find_mem hq)
      obtain ⟨k, na1, cls, mc, ms, sp⟩ := q
      have hk : k = 0 := by
        have : k = 0 ∨ k = 3 := by simpa using h1
        rcases this with z | z
        · exact z
        · subst z; exact hkind.elim
      subst hk
      obtain ⟨e1, hlink, hinst, r, hr, hsel⟩ := hkind
      obtain ⟨o, As, e2, ho, hso⟩ := am_rcV h3 (fun z => by cases (show (0 : Nat) = 1 from z)) (fun z => by cases (show (0 : Nat) = 4 from z))
      have e3 := am_split e2
      have hl3 := am_len_as h2
      rw [e2] at hl3
      have hstk : stk.map (am_c b) = (As.map (am_c b)).reverse ++ .ref (b + o) :: (stk.drop na1).map (am_c b) := by
        have e4 : stk.map (am_c b) = ((Value.ref o :: As).reverse ++ stk.drop na1).map (am_c b) := by rw [← e3]
        rw [e4]; simp [am_c]
      have hMet := hM D aC b n _ σ _ h7 h6
      rw [e2] at hMet
      rw [hstk]
      exact am_call (va_runV (As := As.map (am_c b)) (rest := (stk.drop na1).map (am_c b)) (C := r.1) (n := na) fx hMet ⟨⟨rfl, rfl, by rw [hR]; exact hdd, by rw [hR]; show 8 + (maxL + 11) + 64 * dd ≤ 64 * d; omega, am_words hts hcode, am_code_in, hts _ hcode, hts _ hini, ⟨hd3.1, hd3.2.1⟩, am_sig hd3.2.2, hts _ hlink⟩, hts _ hinst, hts _ hsel⟩
        ⟨am_blind, va_recv hKn hP hr (am_ws_obj ho hso), am_pre hzH hP hKn hnb⟩ rfl (by rw [List.length_map]; simp at hl3; simp at e1; omega) hl.1 rfl (lv_room (by rw [am_cats]; exact h4)) (by rw [hdg, h0]) (room _ _ h5 h6)) hS (back _ _ na1 h5 h6)
  case invokestatic ix =>
    obtain ⟨h0, h⟩ := h
    cases hN : am_find (am_NT X) ix with
    | some w =>
      rw [hN] at h
      have hNO := hO.2.2.2.2.2.1 _ (am_find_mem hN)
      have h : am_nat w 1 stk n (am_SH X) σ (fun st σ1 => K (pc + 3) ls st n σ1) := h
      unfold am_nat at h
      split at h
      · obtain ⟨x, y, r, rfl, h1, h2⟩ := am_2_iff h
        obtain ⟨g1, g2, g3, g4⟩ := hNO
        exact va_mmax hx hb (hml.trans hl.1.symm) hown (hts _ g1) (hts _ g2) (hts _ g3) (hts _ g4) hfr1 (by rw [am_cats]; omega) hcs hss (by rw [hdg, h0]) (hK _ _ _ _ _ h2 hn hne hlen H locs lc hP hS hl)
      · obtain ⟨x, y, r, rfl, h1, h2⟩ := am_2_iff h
        obtain ⟨g1, g2, g3, g4⟩ := hNO
        exact va_mmin hx hb (hml.trans hl.1.symm) hown (hts _ g1) (hts _ g2) (hts _ g3) (hts _ g4) hfr1 (by rw [am_cats]; omega) hcs hss (by rw [hdg, h0]) (hK _ _ _ _ _ h2 hn hne hlen H locs lc hP hS hl)
      · obtain ⟨x, r, rfl, h1, h2⟩ := am_1_iff h
        obtain ⟨g1, g2, g3, g4⟩ := hNO
        exact va_mabs hx hb (hml.trans hl.1.symm) hown (hts _ g1) (hts _ g2) (hts _ g3) (hts _ g4) hfr1 (by rw [am_cats]; omega) hcs hss (by rw [hdg, h0]) (hK _ _ _ _ _ h2 hn hne hlen H locs lc hP hS hl)
      · rename_i e2; cases e2
      · split at h
        · rename_i mm dp dst sp src r _
          obtain ⟨h1, h2, h3⟩ := h
          obtain ⟨q, hs, h4, h5⟩ := am_arr_iff h3
          obtain ⟨q2, hs2, h6, h7, h8, h9, h10, h11, h12, h13⟩ := am_arr_iff h5
          obtain ⟨g1, g2, g3, g4⟩ := hNO
          refine va_copyi (D := D) (cl := cl) (ty := .int) hx hb (hml.trans hl.1.symm) hown (hts _ g1) (hts _ g2) (hts _ g3) (hts _ g4) hKn hP am_ws_D hS src dst 0 0 (am_ws_arr h1 hs (by omega)) (am_ws_arr h2 hs2 (by omega)) (by rw [h4]; rfl) (by rw [h6]; rfl) rfl h7 h8 h9 h10 h11 (fun _ _ => rfl) hfr1 ?_ (by rw [hdg, h0]) (fun H1 locs1 p1 d1 s1 => ?_)
          · rw [am_cats]
            have : nativeFrameWords "java/lang/System" "arraycopy" 5 = 7 := by decide +kernel
            omega
          · rw [am_ws_set (τ := (fun o' k' => if o' = dst then va_cpy (σ.1 src) (σ.1 dst) sp.toNatClampNeg dp.toNatClampNeg mm.toNatClampNeg k' else σ.1 o' k', σ.2)) h2 ?_ ?_] at p1
            · exact hK _ _ _ _ _ h13 hn hne hlen H1 locs1 lc p1 s1 hl
            · simp [am_cell, hs2, h6]
            · intro i hi
              have e5 : (fun k' => if i = dst then va_cpy (σ.1 src) (σ.1 dst) sp.toNatClampNeg dp.toNatClampNeg mm.toNatClampNeg k' else σ.1 i k') = σ.1 i := by funext j; simp [hi]
              simp only [am_cell, e5]
        · exact h.elim
      · exact h.elim
    | none =>
      rw [hN] at h
      obtain ⟨q, hq, h1, h2, h3, h4, h5, h6, h7⟩ := am_opt_iff.mp h
      obtain ⟨y, bytes, maxL, rt, dd, na, hM, hdd, hmx, hcode, hini, hd3, hkind⟩ := hO.2.2.2.2.2.2 _ (am_find_mem hq)
      obtain ⟨k, na1, cls, mc, ms, sp⟩ := q
      have hl3 := am_len_as h2
      have e3 := am_split (stk := stk) (k := na1) rfl
      have hstk : stk.map (am_c b) = (((stk.take na1).reverse).map (am_c b)).reverse ++ (stk.drop na1).map (am_c b) := by
        have e4 : stk.map (am_c b) = (((stk.take na1).reverse).reverse ++ stk.drop na1).map (am_c b) := by rw [← e3]
        rw [e4, List.map_append, List.map_reverse]
      have hMet := hM D aC b n _ σ _ h7 h6
      have hk : k = 1 ∨ k = 4 := by simpa using h1
      rcases hk with rfl | rfl
      · obtain ⟨e1, hlink, hstat⟩ := hkind
        rw [hstk]
        exact am_call (va_runS (As := ((stk.take na1).reverse).map (am_c b)) (rest := (stk.drop na1).map (am_c b)) (n := na) fx hMet ⟨⟨rfl, rfl, by rw [hR]; exact hdd, by rw [hR]; show 8 + (maxL + 11) + 64 * dd ≤ 64 * d; omega, am_words hts hcode, am_code_in, hts _ hcode, hts _ hini, ⟨hd3.1, hd3.2.1⟩, am_sig hd3.2.2, hts _ hlink⟩, hts _ hstat⟩
          ⟨am_blind, am_pre hzH hP hKn hnb⟩ rfl (by rw [List.length_map, hl3]; exact e1) hl.1 rfl (lv_room (by rw [am_cats]; exact h4)) (by rw [hdg, h0]) (room _ _ h5 h6)) hS (back _ _ na1 h5 h6)
      · obtain ⟨e1, ⟨host, hlink⟩, hstat⟩ := hkind
        rw [hstk]
        exact am_call (va_runSN (As := ((stk.take na1).reverse).map (am_c b)) (rest := (stk.drop na1).map (am_c b)) (n := na) fx hMet ⟨⟨⟨rfl, rfl, by rw [hR]; exact hdd, by rw [hR]; show 8 + (maxL + 11) + 64 * dd ≤ 64 * d; omega, am_words hts hcode, am_code_in⟩, hts _ hcode, hts _ hini, ⟨hd3.1, hd3.2.1⟩, am_sig hd3.2.2, va_Nw.use rfl (hnb _ _ _ _ hlink)⟩, hts _ hstat, trivial⟩
          ⟨am_blind, am_pre hzH hP hKn hnb⟩ rfl (by rw [List.length_map, hl3]; exact e1) hl.1 rfl (lv_room (by rw [am_cats]; exact h4)) (by rw [hdg, h0]) (room _ _ h5 h6)) hS (back _ _ na1 h5 h6)
  case invokespecial ix =>
    obtain ⟨h0, h⟩ := h
    cases hN : am_find (am_NT X) ix with
    | some w =>
      rw [hN] at h
      have hNO := hO.2.2.2.2.2.1 _ (am_find_mem hN)
      have h : am_nat w 0 stk n (am_SH X) σ (fun st σ1 => K (pc + 3) ls st n σ1) := h
      unfold am_nat at h
      split at h
      · rename_i e2; cases e2
      · rename_i e2; cases e2
      · rename_i e2; cases e2
      · obtain ⟨x, r, rfl, h1, h2⟩ := am_1a_iff h
        obtain ⟨g1, g2, g3⟩ := hNO
        refine W.objInit hx hb hown (hts _ g1) (hts _ g2) (hts _ g3) rfl (by rw [hml]; exact hl.1) rfl (by rw [hdg, h0]) hfr1 ?_ (hK _ _ _ _ _ h2 hn hne hlen H locs lc hP hS hl)
        show 2 * 0 + _ + 12 ≤ _
        rw [am_cats]
        omega
      · rename_i e2; cases e2
      · exact h.elim
    | none =>
      rw [hN] at h
      obtain ⟨q, hq, h1, h2, h3, h4, h5, h6, h7⟩ := am_opt_iff.mp h
      obtain ⟨y, bytes, maxL, rt, dd, na, hM, hdd, hmx, hcode, hini, hd3, hkind⟩ := hO.2.2.2.2.2.2 _ (am_find_mem hq)
      obtain ⟨k, na1, cls, mc, ms, sp⟩ := q
      have hk : k = 2 ∨ k = 5 := by simpa using h1
      obtain ⟨o, As, e2, ho, hso⟩ := am_rcV h3 (fun z => by have z1 : k = 1 := z; omega) (fun z => by have z1 : k = 4 := z; omega)
      have e3 := am_split e2
      have hl3 := am_len_as h2
      rw [e2] at hl3
      have hstk : stk.map (am_c b) = (As.map (am_c b)).reverse ++ .ref (b + o) :: (stk.drop na1).map (am_c b) := by
        have e4 : stk.map (am_c b) = ((Value.ref o :: As).reverse ++ stk.drop na1).map (am_c b) := by rw [← e3]
        rw [e4]; simp [am_c]
      have hMet := hM D aC b n _ σ _ h7 h6
      rw [e2] at hMet
      rcases hk with rfl | rfl
      · obtain ⟨e1, hlink, hinst, hnm, rfl⟩ := hkind
        rw [hstk]
        exact am_call (va_runI (As := As.map (am_c b)) (rest := (stk.drop na1).map (am_c b)) (n := na) fx hMet ⟨⟨rfl, rfl, by rw [hR]; exact hdd, by rw [hR]; show 8 + (maxL + 11) + 64 * dd ≤ 64 * d; omega, am_words hts hcode, am_code_in, hts _ hcode, hts _ hini, ⟨hd3.1, hd3.2.1⟩, am_sig hd3.2.2, hts _ hlink⟩, hnm, hts _ hinst⟩
          ⟨am_blind, am_pre hzH hP hKn hnb⟩ rfl (by rw [List.length_map]; simp at hl3; simp at e1; omega) hl.1 rfl (lv_room (by rw [am_cats]; exact h4)) (by rw [hdg, h0]) (room _ _ h5 h6)) hS (back _ _ na1 h5 h6)
      · obtain ⟨e1, ⟨host, hlink⟩, hinst, hnm, rfl⟩ := hkind
        rw [hstk]
        exact am_call (va_runIN (As := As.map (am_c b)) (rest := (stk.drop na1).map (am_c b)) (n := na) fx hMet ⟨⟨⟨rfl, rfl, by rw [hR]; exact hdd, by rw [hR]; show 8 + (maxL + 11) + 64 * dd ≤ 64 * d; omega, am_words hts hcode, am_code_in⟩, hts _ hcode, hts _ hini, ⟨hd3.1, hd3.2.1⟩, am_sig hd3.2.2, va_Nw.use rfl (hnb _ _ _ _ hlink)⟩, hnm, hts _ hinst⟩
          ⟨am_blind, am_pre hzH hP hKn hnb⟩ rfl (by rw [List.length_map]; simp at hl3; simp at e1; omega) hl.1 rfl (lv_room (by rw [am_cats]; exact h4)) (by rw [hdg, h0]) (room _ _ h5 h6)) hS (back _ _ na1 h5 h6)
  all_goals exact False.elim hbig
end
end
section
/-- THE WORD OF A STRETCH OF CODE: f instructions at most; at a place of 'cuts' (and where f is used up) it asks for AA there, with the first j locals alone -/
def am_vc (cc : ByteArray) (X : am_X) (ne : Nat) (post : Option Value → am_S → Prop) (AA : Nat → List (Option Value) → List Value → Nat → am_S → Prop) (cuts : List (Nat × Nat)) : Nat → Nat → List (Option Value) → List Value → Nat → am_S → Prop
  | 0, pc, ls, stk, n, σ => AA pc ls stk n σ
  | f + 1, pc, ls, stk, n, σ => match decode cc pc with
    | .ok (i, len) => am_one X ne post i len pc ls stk n σ (fun pc' ls' stk' n' σ' => match am_find cuts pc' with
      | some j => AA pc' (am_mask j ls') stk' n' σ'
      | none => am_vc cc X ne post AA cuts f pc' ls' stk' n' σ')
    | .error _ => False
section
variable {p : Program} {l : Launch} {e : Env} {R : Room} {s : State} {m : MethodId} {args : Array Value} {below : List Frame} {meth : Method} {c : Code} {cl : List vw_C} {TB NB : List Cond} {D : va_G} {aC : Nat → ClassId} {b n0 ne nL : Nat} {cc : ByteArray} {own : String} {X : am_X} {post : Option Value → am_S → Prop}
theorem am_one_ok {i : Instr} {len pc : Nat} {ls : List (Option Value)} {stk : List Value} {n : Nat} {σ : am_S} {K : Nat → List (Option Value) → List Value → Nat → am_S → Prop} (C : am_C p l R s m args meth c cl TB NB D aC b n0 ne nL cc own X) (hdg : decode cc pc = .ok (i, len))
    (hK : ∀ pc ls stk n σ, K pc ls stk n σ → am_A p l e R s m args below meth c cl D aC b n0 ne nL X post pc ls stk n σ)
    (h : am_one X ne post i len pc ls stk n σ K) : am_A p l e R s m args below meth c cl D aC b n0 ne nL X post pc ls stk n σ := by
  cases i <;> first | exact am_simple C hdg hK trivial h | exact am_mem C hdg hK trivial h | exact am_make C hdg hK trivial h | exact am_callI C hdg hK trivial h
theorem am_A_mask {j pc : Nat} {ls : List (Option Value)} {stk : List Value} {n : Nat} {σ : am_S} (h : am_A p l e R s m args below meth c cl D aC b n0 ne nL X post pc (am_mask j ls) stk n σ) : am_A p l e R s m args below meth c cl D aC b n0 ne nL X post pc ls stk n σ :=
  fun h1 h2 h3 H locs lc hP hS hl => h h1 h2 (by rw [am_mask_len]; exact h3) H locs lc hP hS (am_lv_mask hl)
theorem am_vc_ok (C : am_C p l R s m args meth c cl TB NB D aC b n0 ne nL cc own X) {cuts : List (Nat × Nat)} : ∀ (f pc : Nat) (ls : List (Option Value)) (stk : List Value) (n : Nat) (σ : am_S), am_vc cc X ne post (am_A p l e R s m args below meth c cl D aC b n0 ne nL X post) cuts f pc ls stk n σ → am_A p l e R s m args below meth c cl D aC b n0 ne nL X post pc ls stk n σ := by
  intro f
  induction f with
  | zero => intro pc ls stk n σ h; exact h
  | succ f ih =>
    intro pc ls stk n σ h
    unfold am_vc at h
    split at h
    · rename_i i len hdg
      refine am_one_ok C hdg (fun pc' ls' stk' n' σ' hh => ?_) h
      split at hh
      · exact am_A_mask hh
      · exact ih _ _ _ _ _ hh
    · exact h.elim
end
/-! a method's first locals -/
def am_sl : List Value → List (Option Value)
  | [] => []
  | v :: t => if v.category = 2 then some v :: none :: am_sl t else some v :: am_sl t
def am_entry (n : Nat) (as : List Value) : List (Option Value) := am_sl as ++ List.replicate (n - (am_sl as).length) none
theorem am_sl_len (b : Nat) : ∀ as : List Value, (lg_sl (as.map (am_c b))).length = (am_sl as).length
  | [] => rfl
  | v :: t => by
    have ih := am_sl_len b t
    simp only [lg_sl] at ih
    by_cases h : v.category = 2
    · simp [lg_sl, am_sl, am_c_cat, h, ih]
    · simp [lg_sl, am_sl, am_c_cat, h, ih]
theorem am_sl_args (b : Nat) : ∀ (as : List Value) (i k : Nat) (v : Value), (am_sl as)[k]? = some (some v) → (i + k, am_c b v) ∈ lv_args i (as.map (am_c b))
  | [], i, k, v, h => by simp [am_sl] at h
  | a :: t, i, k, v, h => by
    by_cases hc : a.category = 2
    · simp only [am_sl, hc, if_true] at h
      match k, h with
      | 0, h =>
        simp at h
        subst h
        simp [lv_args]
      | 1, h => simp at h
      | k + 2, h =>
        simp only [List.getElem?_cons_succ] at h
        have := am_sl_args b t (i + 2) k v h
        simp only [List.map_cons, lv_args, am_c_cat, hc, if_true]
        rw [show i + (k + 2) = i + 2 + k by omega]
        exact List.mem_cons_of_mem _ this
    · simp only [am_sl, hc, if_false] at h
      match k, h with
      | 0, h =>
        simp at h
        subst h
        simp [lv_args]
      | k + 1, h =>
        simp only [List.getElem?_cons_succ] at h
        have := am_sl_args b t (i + 1) k v h
        simp only [List.map_cons, lv_args, am_c_cat, hc, if_false]
        rw [show i + (k + 1) = i + 1 + k by omega]
        exact List.mem_cons_of_mem _ this
theorem am_entry_lv {b n : Nat} {as : List Value} {lc : Array Slot} (h : lv_has lc n (lv_args 0 (as.map (am_c b)))) : lv_has lc n (am_lv b (am_entry n as)) := by
  refine ⟨h.1, h.2.1, fun q hq => ?_⟩
  obtain ⟨v, h1, h2⟩ := am_lv_mem.mp hq
  apply h.2.2
  unfold am_entry at h1
  by_cases hk : q.1 < (am_sl as).length
  · rw [List.getElem?_append_left hk] at h1
    have := am_sl_args b as 0 q.1 v h1
    rw [Nat.zero_add, ← h2] at this
    exact this
  · rw [List.getElem?_append_right (by omega), List.getElem?_replicate] at h1
    split at h1 <;> simp at h1
/-- A CONTRACT OUT OF ITS WORD: all that is left of the machine is AA and that it is closed under am_vc -/
theorem am_M.of {l : Launch} {TB NB : List Cond} {cl : List vw_C} {SH : am_Sh} {KF : am_Kf} {y : MethodName} {cc : ByteArray} {maxL : Nat} {ret : Option FieldType} {d mc ms : Nat} {sp : am_Sp} (X : am_X) (hy : plainName y.cls = true) (hgood : ∀ w ∈ TB, goodWord w = true) (hG : ∃ tyc, am_G TB cl SH KF tyc) (hSH : am_SH X = SH) (hKF : am_KF X = KF) (hrt : am_rt X = ret) (hd : 1 ≤ d) (hO : am_O l TB NB cl y.cls y.name d X)
    (body : ∀ (n0 : Nat) (as : List Value) (σ : am_S) (post : Option Value → am_S → Prop) (AA : Nat → List (Option Value) → List Value → Nat → am_S → Prop), (∀ cuts f pc ls stk n τ, am_vc cc X (n0 + mc) post AA cuts f pc ls stk n τ → AA pc ls stk n τ) → sp as n0 σ post → (am_sl as).length ≤ maxL ∧ AA 0 (am_entry maxL as) [] n0 σ) : am_M l TB NB cl SH KF y cc maxL ret d mc ms sp := by
  subst hSH; subst hKF; subst hrt
  intro D aC b n0 as σ post hsp hszm
  refine Met.ofW (cc := cc) (maxL := maxL) (ret := am_rt X) hy rfl ?_
  intro p e s m args below meth c s₁ B hml hv
  obtain ⟨rfl, hsz, hP, hK, hN⟩ := hv
  have hts : ∀ w ∈ TB, w.before (as.map (am_c b)).toArray s = true := fun w hw => atoms_spec (ws := .code y cc maxL (am_rt X) :: am_gb TB) B.pre w (List.mem_cons_of_mem _ (List.mem_filter.mpr ⟨hw, hgood w hw⟩))
  have hown : s.vm.findClass y.cls = some m.cls := findClass_of_methodNamed B.named
  have hnm : meth.name = y.name := (name_of_methodNamed B.named B.method).1
  have C : am_C p l (am_rm d mc ms) s m (as.map (am_c b)).toArray meth c cl TB NB D aC b n0 (n0 + mc) maxL cc y.cls X := ⟨B.exec, B.bytes, hml, hown, hts, hN, hK, B.notSynchronized, hsz, B.returns, ⟨d, hd, by rw [Nat.add_sub_cancel_left, hszm, Nat.add_sub_cancel_left], by rw [hnm]; exact hO⟩, hG⟩
  obtain ⟨h1, h2⟩ := body n0 as σ post _ (fun cuts f pc ls stk n τ h => am_vc_ok (e := e) (below := below) (cuts := cuts) C f pc ls stk n τ h) hsp
  have hl := lv_entry (as.map (am_c b)) (n := maxL) (by rw [am_sl_len]; exact h1)
  have h3 := h2 (Nat.le_refl _) (Nat.le_add_right _ _) (by simp [am_entry]; omega) s.heap [] _ hP va_S.rf (am_entry_lv hl)
  rw [Nat.sub_self, Nat.sub_self, Nat.add_sub_cancel_left, hszm, Nat.add_sub_cancel_left] at h3
  rw [lg_entry_eq]
  exact h3
end
section
theorem i_vc : Claimed_1_1 ∧ Claimed_1_2 := sorry
end
