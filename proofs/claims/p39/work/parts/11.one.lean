/-! ONE INSTRUCTION, as a word on what must hold: K is what must hold behind it, post what must hold of an answer. Printed by wip/am/gen_one.py. -/
/-- a method's tables: numbers' kinds, fields' kinds, the answer's type, fields read, fields written, classes made, ints and longs of the pool, natives, methods (kind, how many arguments, class, cells, slots, word) -/
abbrev am_X : Type := am_Sh × am_Kf × Option FieldType × List (Nat × Nat × Nat) × List (Nat × Nat × Nat) × List (Nat × Nat) × List (Nat × Int32) × List (Nat × Int64) × List (Nat × Nat) × List (Nat × Nat × Nat × Nat × Nat × Nat × am_Sp)
def am_SH (X : am_X) : am_Sh := X.1
def am_KF (X : am_X) : am_Kf := X.2.1
def am_rt (X : am_X) : Option FieldType := X.2.2.1
def am_FT (X : am_X) : List (Nat × Nat × Nat) := X.2.2.2.1
def am_PT (X : am_X) : List (Nat × Nat × Nat) := X.2.2.2.2.1
def am_CT (X : am_X) : List (Nat × Nat) := X.2.2.2.2.2.1
def am_KT (X : am_X) : List (Nat × Int32) := X.2.2.2.2.2.2.1
def am_LT (X : am_X) : List (Nat × Int64) := X.2.2.2.2.2.2.2.1
def am_NT (X : am_X) : List (Nat × Nat) := X.2.2.2.2.2.2.2.2.1
def am_ML (X : am_X) : List (Nat × Nat × Nat × Nat × Nat × Nat × am_Sp) := X.2.2.2.2.2.2.2.2.2
def am_find {α : Type _} : List (Nat × α) → Nat → Option α
  | [], _ => none
  | (a, x) :: t, i => if i = a then some x else am_find t i
theorem am_find_mem {α : Type _} : ∀ {l : List (Nat × α)} {i : Nat} {x : α}, am_find l i = some x → (i, x) ∈ l
  | [], i, x, h => by cases h
  | (a, y) :: t, i, x, h => by
    simp only [am_find] at h
    split at h
    · rename_i e
      cases h
      exact List.mem_cons.mpr (Or.inl (by rw [e]))
    · exact List.mem_cons_of_mem _ (am_find_mem h)
def am_opt {α : Type _} (o : Option α) (k : α → Prop) : Prop := match o with
  | some x => k x
  | none => False
theorem am_opt_iff {α : Type _} {o : Option α} {k : α → Prop} : am_opt o k ↔ ∃ x, o = some x ∧ k x := by cases o <;> simp [am_opt]
def am_cl {α : Type _} (o : Option α) (k : α → Prop) (q : Prop) : Prop := match o with
  | some x => k x
  | none => q
def am_ldi (ls : List (Option Value)) (i : Nat) (k : Int32 → Prop) : Prop := match ls[i]? with
  | some (some (.int x)) => k x
  | _ => False
def am_ldl (ls : List (Option Value)) (i : Nat) (k : Int64 → Prop) : Prop := match ls[i]? with
  | some (some (.long x)) => k x
  | _ => False
def am_lda (ls : List (Option Value)) (i : Nat) (k : Nat → Prop) : Prop := match ls[i]? with
  | some (some (.ref x)) => k x
  | _ => False
def am_v (st : List Value) (k : Value → List Value → Prop) : Prop := match st with
  | v :: r => k v r
  | _ => False
def am_1 (st : List Value) (k : Int32 → List Value → Prop) : Prop := match st with
  | .int x :: r => k x r
  | _ => False
def am_1l (st : List Value) (k : Int64 → List Value → Prop) : Prop := match st with
  | .long x :: r => k x r
  | _ => False
def am_1a (st : List Value) (k : Nat → List Value → Prop) : Prop := match st with
  | .ref x :: r => k x r
  | _ => False
def am_2 (st : List Value) (k : Int32 → Int32 → List Value → Prop) : Prop := match st with
  | .int y :: .int x :: r => k x y r
  | _ => False
def am_2l (st : List Value) (k : Int64 → Int64 → List Value → Prop) : Prop := match st with
  | .long y :: .long x :: r => k x y r
  | _ => False
def am_ix (st : List Value) (k : Int32 → Nat → List Value → Prop) : Prop := match st with
  | .int i :: .ref o :: r => k i o r
  | _ => False
theorem am_ldi_iff {ls : List (Option Value)} {i : Nat} {k : Int32 → Prop} (h : am_ldi ls i k) : ∃ x, ls[i]? = some (some (.int x)) ∧ k x := by
  unfold am_ldi at h
  split at h
  · exact ⟨_, by assumption, h⟩
  · exact h.elim
theorem am_ldl_iff {ls : List (Option Value)} {i : Nat} {k : Int64 → Prop} (h : am_ldl ls i k) : ∃ x, ls[i]? = some (some (.long x)) ∧ k x := by
  unfold am_ldl at h
  split at h
  · exact ⟨_, by assumption, h⟩
  · exact h.elim
theorem am_lda_iff {ls : List (Option Value)} {i : Nat} {k : Nat → Prop} (h : am_lda ls i k) : ∃ x, ls[i]? = some (some (.ref x)) ∧ k x := by
  unfold am_lda at h
  split at h
  · exact ⟨_, by assumption, h⟩
  · exact h.elim
theorem am_v_iff {st : List Value} {k : Value → List Value → Prop} (h : am_v st k) : ∃ v r, st = v :: r ∧ k v r := by
  unfold am_v at h
  split at h
  · exact ⟨_, _, rfl, h⟩
  · exact h.elim
theorem am_1_iff {st : List Value} {k : Int32 → List Value → Prop} (h : am_1 st k) : ∃ x r, st = .int x :: r ∧ k x r := by
  unfold am_1 at h
  split at h
  · exact ⟨_, _, rfl, h⟩
  · exact h.elim
theorem am_1l_iff {st : List Value} {k : Int64 → List Value → Prop} (h : am_1l st k) : ∃ x r, st = .long x :: r ∧ k x r := by
  unfold am_1l at h
  split at h
  · exact ⟨_, _, rfl, h⟩
  · exact h.elim
theorem am_1a_iff {st : List Value} {k : Nat → List Value → Prop} (h : am_1a st k) : ∃ x r, st = .ref x :: r ∧ k x r := by
  unfold am_1a at h
  split at h
  · exact ⟨_, _, rfl, h⟩
  · exact h.elim
theorem am_2_iff {st : List Value} {k : Int32 → Int32 → List Value → Prop} (h : am_2 st k) : ∃ x y r, st = .int y :: .int x :: r ∧ k x y r := by
  unfold am_2 at h
  split at h
  · exact ⟨_, _, _, rfl, h⟩
  · exact h.elim
theorem am_2l_iff {st : List Value} {k : Int64 → Int64 → List Value → Prop} (h : am_2l st k) : ∃ x y r, st = .long y :: .long x :: r ∧ k x y r := by
  unfold am_2l at h
  split at h
  · exact ⟨_, _, _, rfl, h⟩
  · exact h.elim
theorem am_ix_iff {st : List Value} {k : Int32 → Nat → List Value → Prop} (h : am_ix st k) : ∃ x y r, st = .int x :: .ref y :: r ∧ k x y r := by
  unfold am_ix at h
  split at h
  · exact ⟨_, _, _, rfl, h⟩
  · exact h.elim
/-- a jump -/
def am_tg (pc : Nat) (off : Int) (k : Nat → Prop) : Prop := 0 ≤ (pc : Int) + off ∧ k ((pc : Int) + off).toNat
def am_ts (pc : Nat) (x : Int32) (k : Nat → Prop) (lo : Int) : List Int → Int → Prop
  | [], _ => True
  | off :: t, i => (x.toInt = i → am_tg pc off k) ∧ am_ts pc x k lo t (i + 1)
def am_ls (pc : Nat) (x : Int32) (d : Int) (k : Nat → Prop) : List (Int × Int) → Prop
  | [] => am_tg pc d k
  | q :: t => (x.toInt = q.1 → am_tg pc q.2 k) ∧ (¬ x.toInt = q.1 → am_ls pc x d k t)
def am_ri (rt : Option FieldType) (x : Int32) : Prop := match rt with
  | some .int => True
  | some .boolean => vp_nar .boolean x = x
  | _ => False
def am_arr (s : Nat ⊕ (Nat × Nat)) (k : Nat × Nat → Prop) : Prop := match s with
  | .inr q => k q
  | .inl _ => False
theorem am_arr_iff {s : Nat ⊕ (Nat × Nat)} {k : Nat × Nat → Prop} (h : am_arr s k) : ∃ q, s = .inr q ∧ k q := by
  unfold am_arr at h
  split at h
  · exact ⟨_, rfl, h⟩
  · exact h.elim
def am_ty (k : Nat) : Option ArrayType := match k with
  | 0 => some .int
  | 1 => some .byte
  | 2 => some .boolean
  | 3 => some .long
  | _ => none
/-- a field is written -/
def am_pf (kd : Nat) (v : Value) (σ : am_S) (o k : Nat) (K : am_S → Prop) : Prop := match kd, v with
  | 0, .int x => K (am_pi σ o k x)
  | 1, .long x => K (am_pl σ o k x)
  | 2, .int x => vp_nar .boolean x = x ∧ K (am_pi σ o k x)
  | 3, .ref a => a < 1000000 ∧ K (am_pi σ o k (Int32.ofNat (a + 1)))
  | _, _ => False
/-- a call's receiver -/
def am_rc (kind cls n : Nat) (SH : am_Sh) (as : List Value) : Prop := match kind with
  | 1 => True
  | 4 => True
  | _ => match as with
    | .ref o :: _ => o < n ∧ SH o = .inl cls
    | _ => False
/-- natives: 0 max, 1 min, 2 abs, 3 Object's constructor, 4 arraycopy of ints -/
def am_nat (w op : Nat) (stk : List Value) (n : Nat) (SH : am_Sh) (σ : am_S) (K : List Value → am_S → Prop) : Prop := match w, op with
  | 0, 1 => am_2 stk (fun x y r => (r.map fun v => v.category).sum ≤ 8 ∧ K (.int (if x < y then y else x) :: r) σ)
  | 1, 1 => am_2 stk (fun x y r => (r.map fun v => v.category).sum ≤ 8 ∧ K (.int (if y < x then y else x) :: r) σ)
  | 2, 1 => am_1 stk (fun x r => (r.map fun v => v.category).sum ≤ 8 ∧ K (.int (if 0 ≤ x then x else 0 - x) :: r) σ)
  | 3, 0 => am_1a stk (fun _ r => (r.map fun v => v.category).sum ≤ 8 ∧ K r σ)
  | 4, 1 => match stk with
    | .int m :: .int dp :: .ref d :: .int sp :: .ref c :: r => c < n ∧ d < n ∧ am_arr (SH c) (fun q => q.1 = 0 ∧ am_arr (SH d) (fun q2 => q2.1 = 0 ∧ ¬ sp < 0 ∧ ¬ dp < 0 ∧ ¬ m < 0 ∧ sp.toNatClampNeg + m.toNatClampNeg ≤ q.2 ∧ dp.toNatClampNeg + m.toNatClampNeg ≤ q2.2 ∧ (r.map fun v => v.category).sum ≤ 8 ∧ K r (fun o' k' => if o' = d then va_cpy (σ.1 c) (σ.1 d) sp.toNatClampNeg dp.toNatClampNeg m.toNatClampNeg k' else σ.1 o' k', σ.2)))
    | _ => False
  | _, _ => False
def am_one (X : am_X) (ne : Nat) (post : Option Value → am_S → Prop) (i : Instr) (len pc : Nat) (ls : List (Option Value)) (stk : List Value) (n : Nat) (σ : am_S) (K : Nat → List (Option Value) → List Value → Nat → am_S → Prop) : Prop := match i with
  | .iconst v => len = 1 ∧ K (pc + 1) ls (.int (Int32.ofInt v) :: stk) n σ
  | .bipush v => len = 2 ∧ (-128 ≤ v ∧ v ≤ 127) ∧ K (pc + 2) ls (.int (Int32.ofInt v) :: stk) n σ
  | .sipush v => len = 3 ∧ (-32768 ≤ v ∧ v ≤ 32767) ∧ K (pc + 3) ls (.int (Int32.ofInt v) :: stk) n σ
  | .lconst v => len = 1 ∧ K (pc + 1) ls (.long (Int64.ofNat (v : Nat)) :: stk) n σ
  | .ldc ix => len = 2 ∧ am_opt (am_find (am_KT X) ix) (fun v => K (pc + 2) ls (.int v :: stk) n σ)
  | .ldc_w ix => len = 3 ∧ am_opt (am_find (am_KT X) ix) (fun v => K (pc + 3) ls (.int v :: stk) n σ)
  | .ldc2_w ix => len = 3 ∧ am_opt (am_find (am_LT X) ix) (fun v => K (pc + 3) ls (.long v :: stk) n σ)
  | .iload_n k => len = 1 ∧ am_ldi ls (k : Nat) (fun x => K (pc + 1) ls (.int x :: stk) n σ)
  | .iload k => len = 2 ∧ am_ldi ls k (fun x => K (pc + 2) ls (.int x :: stk) n σ)
  | .lload_n k => len = 1 ∧ am_ldl ls (k : Nat) (fun x => K (pc + 1) ls (.long x :: stk) n σ)
  | .lload k => len = 2 ∧ am_ldl ls k (fun x => K (pc + 2) ls (.long x :: stk) n σ)
  | .aload_n k => len = 1 ∧ am_lda ls (k : Nat) (fun x => K (pc + 1) ls (.ref x :: stk) n σ)
  | .aload k => len = 2 ∧ am_lda ls k (fun x => K (pc + 2) ls (.ref x :: stk) n σ)
  | .istore_n k => len = 1 ∧ am_1 stk (fun x rest => am_lg ls (k : Nat) = false ∧ (k : Nat) < ls.length ∧ K (pc + 1) (ls.set (k : Nat) (some (.int x))) rest n σ)
  | .istore k => len = 2 ∧ am_1 stk (fun x rest => am_lg ls k = false ∧ k < ls.length ∧ K (pc + 2) (ls.set k (some (.int x))) rest n σ)
  | .lstore_n k => len = 1 ∧ am_1l stk (fun x rest => am_lg ls (k : Nat) = false ∧ (k : Nat) + 1 < ls.length ∧ K (pc + 1) ((ls.set (k : Nat) (some (.long x))).set ((k : Nat) + 1) none) rest n σ)
  | .lstore k => len = 2 ∧ am_1l stk (fun x rest => am_lg ls k = false ∧ k + 1 < ls.length ∧ K (pc + 2) ((ls.set k (some (.long x))).set (k + 1) none) rest n σ)
  | .astore_n k => len = 1 ∧ am_1a stk (fun x rest => am_lg ls (k : Nat) = false ∧ (k : Nat) < ls.length ∧ K (pc + 1) (ls.set (k : Nat) (some (.ref x))) rest n σ)
  | .astore k => len = 2 ∧ am_1a stk (fun x rest => am_lg ls k = false ∧ k < ls.length ∧ K (pc + 2) (ls.set k (some (.ref x))) rest n σ)
  | .iinc k c => len = 3 ∧ am_ldi ls k (fun x => am_lg ls k = false ∧ k < ls.length ∧ K (pc + 3) (ls.set k (some (.int (x + Int32.ofInt c)))) stk n σ)
  | .iadd => len = 1 ∧ am_2 stk (fun x y rest => K (pc + 1) ls (.int (x + y) :: rest) n σ)
  | .isub => len = 1 ∧ am_2 stk (fun x y rest => K (pc + 1) ls (.int (x - y) :: rest) n σ)
  | .imul => len = 1 ∧ am_2 stk (fun x y rest => K (pc + 1) ls (.int (x * y) :: rest) n σ)
  | .iand => len = 1 ∧ am_2 stk (fun x y rest => K (pc + 1) ls (.int (x &&& y) :: rest) n σ)
  | .ior => len = 1 ∧ am_2 stk (fun x y rest => K (pc + 1) ls (.int (x ||| y) :: rest) n σ)
  | .ixor => len = 1 ∧ am_2 stk (fun x y rest => K (pc + 1) ls (.int (x ^^^ y) :: rest) n σ)
  | .ishl => len = 1 ∧ am_2 stk (fun x y rest => K (pc + 1) ls (.int (x <<< (y &&& 31)) :: rest) n σ)
  | .ishr => len = 1 ∧ am_2 stk (fun x y rest => K (pc + 1) ls (.int (x >>> (y &&& 31)) :: rest) n σ)
  | .iushr => len = 1 ∧ am_2 stk (fun x y rest => K (pc + 1) ls (.int ((x.toUInt32 >>> (y.toUInt32 &&& Int32.toUInt32 31)).toInt32) :: rest) n σ)
  | .idiv => len = 1 ∧ am_2 stk (fun x y rest => ¬ y = 0 ∧ K (pc + 1) ls (.int (x / y) :: rest) n σ)
  | .irem => len = 1 ∧ am_2 stk (fun x y rest => ¬ y = 0 ∧ K (pc + 1) ls (.int (x - x / y * y) :: rest) n σ)
  | .ladd => len = 1 ∧ am_2l stk (fun x y rest => K (pc + 1) ls (.long (x + y) :: rest) n σ)
  | .lmul => len = 1 ∧ am_2l stk (fun x y rest => K (pc + 1) ls (.long (x * y) :: rest) n σ)
  | .lcmp => len = 1 ∧ am_2l stk (fun x y rest => K (pc + 1) ls (.int (lg_cmp x y) :: rest) n σ)
  | .i2l => len = 1 ∧ am_1 stk (fun x rest => K (pc + 1) ls (.long x.toInt64 :: rest) n σ)
  | .i2b => len = 1 ∧ am_1 stk (fun x rest => K (pc + 1) ls (.int x.toInt8.toInt32 :: rest) n σ)
  | .l2i => len = 1 ∧ am_1l stk (fun x rest => K (pc + 1) ls (.int x.toInt32 :: rest) n σ)
  | .dup => len = 1 ∧ am_v stk (fun v rest => v.category = 1 ∧ K (pc + 1) ls (v :: v :: rest) n σ)
  | .pop => len = 1 ∧ am_v stk (fun v rest => v.category = 1 ∧ K (pc + 1) ls (rest) n σ)
  | .dup2 => len = 1 ∧ am_v stk (fun v r1 => am_v r1 (fun w rest => v.category = 1 ∧ w.category = 1 ∧ K (pc + 1) ls (v :: w :: v :: w :: rest) n σ))
  | .ifCond .eq off => len = 3 ∧ am_1 stk (fun x rest => am_tg pc off (fun t => (x = 0 → K t ls rest n σ) ∧ (¬ (x = 0) → K (pc + 3) ls rest n σ)))
  | .ifCond .ne off => len = 3 ∧ am_1 stk (fun x rest => am_tg pc off (fun t => (¬ x = 0 → K t ls rest n σ) ∧ (x = 0 → K (pc + 3) ls rest n σ)))
  | .ifCond .lt off => len = 3 ∧ am_1 stk (fun x rest => am_tg pc off (fun t => (x < 0 → K t ls rest n σ) ∧ (¬ (x < 0) → K (pc + 3) ls rest n σ)))
  | .ifCond .ge off => len = 3 ∧ am_1 stk (fun x rest => am_tg pc off (fun t => (0 ≤ x → K t ls rest n σ) ∧ (¬ (0 ≤ x) → K (pc + 3) ls rest n σ)))
  | .ifCond .gt off => len = 3 ∧ am_1 stk (fun x rest => am_tg pc off (fun t => (0 < x → K t ls rest n σ) ∧ (¬ (0 < x) → K (pc + 3) ls rest n σ)))
  | .ifCond .le off => len = 3 ∧ am_1 stk (fun x rest => am_tg pc off (fun t => (x ≤ 0 → K t ls rest n σ) ∧ (¬ (x ≤ 0) → K (pc + 3) ls rest n σ)))
  | .if_icmp .eq off => len = 3 ∧ am_2 stk (fun x y rest => am_tg pc off (fun t => (x = y → K t ls rest n σ) ∧ (¬ (x = y) → K (pc + 3) ls rest n σ)))
  | .if_icmp .ne off => len = 3 ∧ am_2 stk (fun x y rest => am_tg pc off (fun t => (¬ x = y → K t ls rest n σ) ∧ (x = y → K (pc + 3) ls rest n σ)))
  | .if_icmp .lt off => len = 3 ∧ am_2 stk (fun x y rest => am_tg pc off (fun t => (x < y → K t ls rest n σ) ∧ (¬ (x < y) → K (pc + 3) ls rest n σ)))
  | .if_icmp .ge off => len = 3 ∧ am_2 stk (fun x y rest => am_tg pc off (fun t => (y ≤ x → K t ls rest n σ) ∧ (¬ (y ≤ x) → K (pc + 3) ls rest n σ)))
  | .if_icmp .gt off => len = 3 ∧ am_2 stk (fun x y rest => am_tg pc off (fun t => (y < x → K t ls rest n σ) ∧ (¬ (y < x) → K (pc + 3) ls rest n σ)))
  | .if_icmp .le off => len = 3 ∧ am_2 stk (fun x y rest => am_tg pc off (fun t => (x ≤ y → K t ls rest n σ) ∧ (¬ (x ≤ y) → K (pc + 3) ls rest n σ)))
  | .goto off => len = 3 ∧ am_tg pc off (fun t => K t ls stk n σ)
  | .ireturn => len = 1 ∧ n = ne ∧ am_1 stk (fun x rest => rest = [] ∧ am_ri (am_rt X) x ∧ post (some (.int x)) σ)
  | .lreturn => len = 1 ∧ n = ne ∧ am_1l stk (fun x rest => rest = [] ∧ am_rt X = some .long ∧ post (some (.long x)) σ)
  | .return_ => len = 1 ∧ n = ne ∧ stk = [] ∧ am_rt X = none ∧ post none σ
  | .tableswitch d lo hi offs => am_1 stk (fun x rest => am_ts pc x (fun t => K t ls rest n σ) lo offs.toList lo ∧ ((x.toInt < lo ∨ hi < x.toInt) → am_tg pc d (fun t => K t ls rest n σ)) ∧ (offs.size : Int) = hi - lo + 1)
  | .lookupswitch d ps => am_1 stk (fun x rest => (ps.toList.zip (ps.toList.drop 1)).all (fun (a, next) => a.1 < next.1) = true ∧ am_ls pc x d (fun t => K t ls rest n σ) ps.toList)
  | .getfield ix => len = 3 ∧ am_1a stk (fun o rest => o < n ∧ am_opt (am_find (am_FT X) ix) (fun q => am_SH X o = .inl q.1 ∧ am_opt (am_KF X o)[q.2]? (fun kd => K (pc + 3) ls (am_av kd (σ.1 o q.2) (σ.2 o q.2) :: rest) n σ)))
  | .putfield ix => len = 3 ∧ am_v stk (fun v r1 => am_1a r1 (fun o rest => o < n ∧ am_opt (am_find (am_PT X) ix) (fun q => am_SH X o = .inl q.1 ∧ am_opt (am_KF X o)[q.2]? (fun kd => am_pf kd v σ o q.2 (fun σ1 => K (pc + 3) ls rest n σ1)))))
  | .arraylength => len = 1 ∧ am_1a stk (fun o rest => o < n ∧ am_arr (am_SH X o) (fun q => q.1 < 4 ∧ K (pc + 1) ls (.int (Int32.ofNat q.2) :: rest) n σ))
  | .iaload => len = 1 ∧ am_ix stk (fun i o rest => o < n ∧ am_arr (am_SH X o) (fun q => q.1 = 0 ∧ vp_in i q.2 ∧ K (pc + 1) ls (.int (σ.1 o i.toNatClampNeg) :: rest) n σ))
  | .baload => len = 1 ∧ am_ix stk (fun i o rest => o < n ∧ am_arr (am_SH X o) (fun q => (q.1 = 1 ∨ q.1 = 2) ∧ vp_in i q.2 ∧ K (pc + 1) ls (.int (σ.1 o i.toNatClampNeg) :: rest) n σ))
  | .laload => len = 1 ∧ am_ix stk (fun i o rest => o < n ∧ am_arr (am_SH X o) (fun q => q.1 = 3 ∧ vp_in i q.2 ∧ K (pc + 1) ls (.long (σ.2 o i.toNatClampNeg) :: rest) n σ))
  | .iastore => len = 1 ∧ am_1 stk (fun x r1 => am_ix r1 (fun i o rest => o < n ∧ am_arr (am_SH X o) (fun q => q.1 = 0 ∧ vp_in i q.2 ∧ K (pc + 1) ls (rest) n (am_pi σ o i.toNatClampNeg x))))
  | .bastore => len = 1 ∧ am_1 stk (fun x r1 => am_ix r1 (fun i o rest => o < n ∧ am_arr (am_SH X o) (fun q => (q.1 = 1 ∨ q.1 = 2) ∧ vp_in i q.2 ∧ K (pc + 1) ls (rest) n (am_pi σ o i.toNatClampNeg (if q.1 = 1 then vp_nar .byte x else vp_nar .boolean x)))))
  | .lastore => len = 1 ∧ am_1l stk (fun x r1 => am_ix r1 (fun i o rest => o < n ∧ am_arr (am_SH X o) (fun q => q.1 = 3 ∧ vp_in i q.2 ∧ K (pc + 1) ls (rest) n (am_pl σ o i.toNatClampNeg x))))
  | .newarray ty => len = 2 ∧ am_1 stk (fun x rest => n < ne ∧ am_arr (am_SH X n) (fun q => am_ty q.1 = some ty ∧ ¬ x < 0 ∧ x.toNatClampNeg = q.2 ∧ q.2 < 1000000 ∧ K (pc + 2) ls (.ref n :: rest) (n + 1) (am_new σ n)))
  | .new ix => len = 3 ∧ n < ne ∧ am_opt (am_find (am_CT X) ix) (fun ci => am_SH X n = .inl ci ∧ (am_KF X n).all (fun kd => decide (kd < 4)) = true ∧ K (pc + 3) ls (.ref n :: stk) (n + 1) (am_new σ n))
  | .invokevirtual ix => len = 3 ∧ am_cl (am_find (am_NT X) ix) (fun w => am_nat w 2 stk n (am_SH X) σ (fun st σ1 => K (pc + 3) ls st n σ1)) (am_opt (am_find (am_ML X) ix) (fun q => (q.1 = 0 ∨ q.1 = 3) ∧ q.2.1 ≤ stk.length ∧ am_rc q.1 q.2.2.1 n (am_SH X) (stk.take q.2.1).reverse ∧ ((stk.drop q.2.1).map fun v => v.category).sum ≤ 8 ∧ n + q.2.2.2.1 ≤ ne ∧ am_sz (am_SH X) (am_KF X) (n + q.2.2.2.1) = am_sz (am_SH X) (am_KF X) n + q.2.2.2.2.1 ∧ q.2.2.2.2.2 (stk.take q.2.1).reverse n σ (fun v σ1 => K (pc + 3) ls (v.toList ++ stk.drop q.2.1) (n + q.2.2.2.1) σ1)))
  | .invokestatic ix => len = 3 ∧ am_cl (am_find (am_NT X) ix) (fun w => am_nat w 1 stk n (am_SH X) σ (fun st σ1 => K (pc + 3) ls st n σ1)) (am_opt (am_find (am_ML X) ix) (fun q => (q.1 = 1 ∨ q.1 = 4) ∧ q.2.1 ≤ stk.length ∧ am_rc q.1 q.2.2.1 n (am_SH X) (stk.take q.2.1).reverse ∧ ((stk.drop q.2.1).map fun v => v.category).sum ≤ 8 ∧ n + q.2.2.2.1 ≤ ne ∧ am_sz (am_SH X) (am_KF X) (n + q.2.2.2.1) = am_sz (am_SH X) (am_KF X) n + q.2.2.2.2.1 ∧ q.2.2.2.2.2 (stk.take q.2.1).reverse n σ (fun v σ1 => K (pc + 3) ls (v.toList ++ stk.drop q.2.1) (n + q.2.2.2.1) σ1)))
  | .invokespecial ix => len = 3 ∧ am_cl (am_find (am_NT X) ix) (fun w => am_nat w 0 stk n (am_SH X) σ (fun st σ1 => K (pc + 3) ls st n σ1)) (am_opt (am_find (am_ML X) ix) (fun q => (q.1 = 2 ∨ q.1 = 5) ∧ q.2.1 ≤ stk.length ∧ am_rc q.1 q.2.2.1 n (am_SH X) (stk.take q.2.1).reverse ∧ ((stk.drop q.2.1).map fun v => v.category).sum ≤ 8 ∧ n + q.2.2.2.1 ≤ ne ∧ am_sz (am_SH X) (am_KF X) (n + q.2.2.2.1) = am_sz (am_SH X) (am_KF X) n + q.2.2.2.2.1 ∧ q.2.2.2.2.2 (stk.take q.2.1).reverse n σ (fun v σ1 => K (pc + 3) ls (v.toList ++ stk.drop q.2.1) (n + q.2.2.2.1) σ1)))
  | _ => False
section
variable (X : am_X) (ne : Nat) (post : Option Value → am_S → Prop) (len pc : Nat) (ls : List (Option Value)) (stk : List Value) (n : Nat) (σ : am_S) (K : Nat → List (Option Value) → List Value → Nat → am_S → Prop)
theorem o_iconst (v : Int) : am_one X ne post (.iconst v) len pc ls stk n σ K = (len = 1 ∧ K (pc + 1) ls (.int (Int32.ofInt v) :: stk) n σ) := rfl
theorem o_bipush (v : Int) : am_one X ne post (.bipush v) len pc ls stk n σ K = (len = 2 ∧ (-128 ≤ v ∧ v ≤ 127) ∧ K (pc + 2) ls (.int (Int32.ofInt v) :: stk) n σ) := rfl
theorem o_sipush (v : Int) : am_one X ne post (.sipush v) len pc ls stk n σ K = (len = 3 ∧ (-32768 ≤ v ∧ v ≤ 32767) ∧ K (pc + 3) ls (.int (Int32.ofInt v) :: stk) n σ) := rfl
theorem o_lconst (v : Fin 2) : am_one X ne post (.lconst v) len pc ls stk n σ K = (len = 1 ∧ K (pc + 1) ls (.long (Int64.ofNat (v : Nat)) :: stk) n σ) := rfl
theorem o_ldc (ix : Nat) : am_one X ne post (.ldc ix) len pc ls stk n σ K = (len = 2 ∧ am_opt (am_find (am_KT X) ix) (fun v => K (pc + 2) ls (.int v :: stk) n σ)) := rfl
theorem o_ldc_w (ix : Nat) : am_one X ne post (.ldc_w ix) len pc ls stk n σ K = (len = 3 ∧ am_opt (am_find (am_KT X) ix) (fun v => K (pc + 3) ls (.int v :: stk) n σ)) := rfl
theorem o_ldc2_w (ix : Nat) : am_one X ne post (.ldc2_w ix) len pc ls stk n σ K = (len = 3 ∧ am_opt (am_find (am_LT X) ix) (fun v => K (pc + 3) ls (.long v :: stk) n σ)) := rfl
theorem o_iload_n (k : Fin 4) : am_one X ne post (.iload_n k) len pc ls stk n σ K = (len = 1 ∧ am_ldi ls (k : Nat) (fun x => K (pc + 1) ls (.int x :: stk) n σ)) := rfl
theorem o_iload (k : Nat) : am_one X ne post (.iload k) len pc ls stk n σ K = (len = 2 ∧ am_ldi ls k (fun x => K (pc + 2) ls (.int x :: stk) n σ)) := rfl
theorem o_lload_n (k : Fin 4) : am_one X ne post (.lload_n k) len pc ls stk n σ K = (len = 1 ∧ am_ldl ls (k : Nat) (fun x => K (pc + 1) ls (.long x :: stk) n σ)) := rfl
theorem o_lload (k : Nat) : am_one X ne post (.lload k) len pc ls stk n σ K = (len = 2 ∧ am_ldl ls k (fun x => K (pc + 2) ls (.long x :: stk) n σ)) := rfl
theorem o_aload_n (k : Fin 4) : am_one X ne post (.aload_n k) len pc ls stk n σ K = (len = 1 ∧ am_lda ls (k : Nat) (fun x => K (pc + 1) ls (.ref x :: stk) n σ)) := rfl
theorem o_istore_n (k : Fin 4) : am_one X ne post (.istore_n k) len pc ls stk n σ K = (len = 1 ∧ am_1 stk (fun x rest => am_lg ls (k : Nat) = false ∧ (k : Nat) < ls.length ∧ K (pc + 1) (ls.set (k : Nat) (some (.int x))) rest n σ)) := rfl
theorem o_istore (k : Nat) : am_one X ne post (.istore k) len pc ls stk n σ K = (len = 2 ∧ am_1 stk (fun x rest => am_lg ls k = false ∧ k < ls.length ∧ K (pc + 2) (ls.set k (some (.int x))) rest n σ)) := rfl
theorem o_lstore_n (k : Fin 4) : am_one X ne post (.lstore_n k) len pc ls stk n σ K = (len = 1 ∧ am_1l stk (fun x rest => am_lg ls (k : Nat) = false ∧ (k : Nat) + 1 < ls.length ∧ K (pc + 1) ((ls.set (k : Nat) (some (.long x))).set ((k : Nat) + 1) none) rest n σ)) := rfl
theorem o_lstore (k : Nat) : am_one X ne post (.lstore k) len pc ls stk n σ K = (len = 2 ∧ am_1l stk (fun x rest => am_lg ls k = false ∧ k + 1 < ls.length ∧ K (pc + 2) ((ls.set k (some (.long x))).set (k + 1) none) rest n σ)) := rfl
theorem o_iinc (k : Nat) (c : Int) : am_one X ne post (.iinc k c) len pc ls stk n σ K = (len = 3 ∧ am_ldi ls k (fun x => am_lg ls k = false ∧ k < ls.length ∧ K (pc + 3) (ls.set k (some (.int (x + Int32.ofInt c)))) stk n σ)) := rfl
theorem o_iadd : am_one X ne post (.iadd) len pc ls stk n σ K = (len = 1 ∧ am_2 stk (fun x y rest => K (pc + 1) ls (.int (x + y) :: rest) n σ)) := rfl
theorem o_isub : am_one X ne post (.isub) len pc ls stk n σ K = (len = 1 ∧ am_2 stk (fun x y rest => K (pc + 1) ls (.int (x - y) :: rest) n σ)) := rfl
theorem o_imul : am_one X ne post (.imul) len pc ls stk n σ K = (len = 1 ∧ am_2 stk (fun x y rest => K (pc + 1) ls (.int (x * y) :: rest) n σ)) := rfl
theorem o_iand : am_one X ne post (.iand) len pc ls stk n σ K = (len = 1 ∧ am_2 stk (fun x y rest => K (pc + 1) ls (.int (x &&& y) :: rest) n σ)) := rfl
theorem o_ior : am_one X ne post (.ior) len pc ls stk n σ K = (len = 1 ∧ am_2 stk (fun x y rest => K (pc + 1) ls (.int (x ||| y) :: rest) n σ)) := rfl
theorem o_ixor : am_one X ne post (.ixor) len pc ls stk n σ K = (len = 1 ∧ am_2 stk (fun x y rest => K (pc + 1) ls (.int (x ^^^ y) :: rest) n σ)) := rfl
theorem o_ishl : am_one X ne post (.ishl) len pc ls stk n σ K = (len = 1 ∧ am_2 stk (fun x y rest => K (pc + 1) ls (.int (x <<< (y &&& 31)) :: rest) n σ)) := rfl
theorem o_ishr : am_one X ne post (.ishr) len pc ls stk n σ K = (len = 1 ∧ am_2 stk (fun x y rest => K (pc + 1) ls (.int (x >>> (y &&& 31)) :: rest) n σ)) := rfl
theorem o_iushr : am_one X ne post (.iushr) len pc ls stk n σ K = (len = 1 ∧ am_2 stk (fun x y rest => K (pc + 1) ls (.int ((x.toUInt32 >>> (y.toUInt32 &&& Int32.toUInt32 31)).toInt32) :: rest) n σ)) := rfl
theorem o_idiv : am_one X ne post (.idiv) len pc ls stk n σ K = (len = 1 ∧ am_2 stk (fun x y rest => ¬ y = 0 ∧ K (pc + 1) ls (.int (x / y) :: rest) n σ)) := rfl
theorem o_irem : am_one X ne post (.irem) len pc ls stk n σ K = (len = 1 ∧ am_2 stk (fun x y rest => ¬ y = 0 ∧ K (pc + 1) ls (.int (x - x / y * y) :: rest) n σ)) := rfl
theorem o_ladd : am_one X ne post (.ladd) len pc ls stk n σ K = (len = 1 ∧ am_2l stk (fun x y rest => K (pc + 1) ls (.long (x + y) :: rest) n σ)) := rfl
theorem o_lmul : am_one X ne post (.lmul) len pc ls stk n σ K = (len = 1 ∧ am_2l stk (fun x y rest => K (pc + 1) ls (.long (x * y) :: rest) n σ)) := rfl
theorem o_lcmp : am_one X ne post (.lcmp) len pc ls stk n σ K = (len = 1 ∧ am_2l stk (fun x y rest => K (pc + 1) ls (.int (lg_cmp x y) :: rest) n σ)) := rfl
theorem o_i2l : am_one X ne post (.i2l) len pc ls stk n σ K = (len = 1 ∧ am_1 stk (fun x rest => K (pc + 1) ls (.long x.toInt64 :: rest) n σ)) := rfl
theorem o_i2b : am_one X ne post (.i2b) len pc ls stk n σ K = (len = 1 ∧ am_1 stk (fun x rest => K (pc + 1) ls (.int x.toInt8.toInt32 :: rest) n σ)) := rfl
theorem o_l2i : am_one X ne post (.l2i) len pc ls stk n σ K = (len = 1 ∧ am_1l stk (fun x rest => K (pc + 1) ls (.int x.toInt32 :: rest) n σ)) := rfl
theorem o_dup : am_one X ne post (.dup) len pc ls stk n σ K = (len = 1 ∧ am_v stk (fun v rest => v.category = 1 ∧ K (pc + 1) ls (v :: v :: rest) n σ)) := rfl
theorem o_pop : am_one X ne post (.pop) len pc ls stk n σ K = (len = 1 ∧ am_v stk (fun v rest => v.category = 1 ∧ K (pc + 1) ls (rest) n σ)) := rfl
theorem o_dup2 : am_one X ne post (.dup2) len pc ls stk n σ K = (len = 1 ∧ am_v stk (fun v r1 => am_v r1 (fun w rest => v.category = 1 ∧ w.category = 1 ∧ K (pc + 1) ls (v :: w :: v :: w :: rest) n σ))) := rfl
theorem o_ifCond_eq (off : Int) : am_one X ne post (.ifCond .eq off) len pc ls stk n σ K = (len = 3 ∧ am_1 stk (fun x rest => am_tg pc off (fun t => (x = 0 → K t ls rest n σ) ∧ (¬ (x = 0) → K (pc + 3) ls rest n σ)))) := rfl
theorem o_ifCond_ne (off : Int) : am_one X ne post (.ifCond .ne off) len pc ls stk n σ K = (len = 3 ∧ am_1 stk (fun x rest => am_tg pc off (fun t => (¬ x = 0 → K t ls rest n σ) ∧ (x = 0 → K (pc + 3) ls rest n σ)))) := rfl
theorem o_ifCond_lt (off : Int) : am_one X ne post (.ifCond .lt off) len pc ls stk n σ K = (len = 3 ∧ am_1 stk (fun x rest => am_tg pc off (fun t => (x < 0 → K t ls rest n σ) ∧ (¬ (x < 0) → K (pc + 3) ls rest n σ)))) := rfl
theorem o_ifCond_ge (off : Int) : am_one X ne post (.ifCond .ge off) len pc ls stk n σ K = (len = 3 ∧ am_1 stk (fun x rest => am_tg pc off (fun t => (0 ≤ x → K t ls rest n σ) ∧ (¬ (0 ≤ x) → K (pc + 3) ls rest n σ)))) := rfl
theorem o_ifCond_gt (off : Int) : am_one X ne post (.ifCond .gt off) len pc ls stk n σ K = (len = 3 ∧ am_1 stk (fun x rest => am_tg pc off (fun t => (0 < x → K t ls rest n σ) ∧ (¬ (0 < x) → K (pc + 3) ls rest n σ)))) := rfl
theorem o_ifCond_le (off : Int) : am_one X ne post (.ifCond .le off) len pc ls stk n σ K = (len = 3 ∧ am_1 stk (fun x rest => am_tg pc off (fun t => (x ≤ 0 → K t ls rest n σ) ∧ (¬ (x ≤ 0) → K (pc + 3) ls rest n σ)))) := rfl
theorem o_if_icmp_eq (off : Int) : am_one X ne post (.if_icmp .eq off) len pc ls stk n σ K = (len = 3 ∧ am_2 stk (fun x y rest => am_tg pc off (fun t => (x = y → K t ls rest n σ) ∧ (¬ (x = y) → K (pc + 3) ls rest n σ)))) := rfl
theorem o_if_icmp_ne (off : Int) : am_one X ne post (.if_icmp .ne off) len pc ls stk n σ K = (len = 3 ∧ am_2 stk (fun x y rest => am_tg pc off (fun t => (¬ x = y → K t ls rest n σ) ∧ (x = y → K (pc + 3) ls rest n σ)))) := rfl
theorem o_if_icmp_lt (off : Int) : am_one X ne post (.if_icmp .lt off) len pc ls stk n σ K = (len = 3 ∧ am_2 stk (fun x y rest => am_tg pc off (fun t => (x < y → K t ls rest n σ) ∧ (¬ (x < y) → K (pc + 3) ls rest n σ)))) := rfl
theorem o_if_icmp_ge (off : Int) : am_one X ne post (.if_icmp .ge off) len pc ls stk n σ K = (len = 3 ∧ am_2 stk (fun x y rest => am_tg pc off (fun t => (y ≤ x → K t ls rest n σ) ∧ (¬ (y ≤ x) → K (pc + 3) ls rest n σ)))) := rfl
theorem o_if_icmp_gt (off : Int) : am_one X ne post (.if_icmp .gt off) len pc ls stk n σ K = (len = 3 ∧ am_2 stk (fun x y rest => am_tg pc off (fun t => (y < x → K t ls rest n σ) ∧ (¬ (y < x) → K (pc + 3) ls rest n σ)))) := rfl
theorem o_if_icmp_le (off : Int) : am_one X ne post (.if_icmp .le off) len pc ls stk n σ K = (len = 3 ∧ am_2 stk (fun x y rest => am_tg pc off (fun t => (x ≤ y → K t ls rest n σ) ∧ (¬ (x ≤ y) → K (pc + 3) ls rest n σ)))) := rfl
theorem o_goto (off : Int) : am_one X ne post (.goto off) len pc ls stk n σ K = (len = 3 ∧ am_tg pc off (fun t => K t ls stk n σ)) := rfl
theorem o_ireturn : am_one X ne post (.ireturn) len pc ls stk n σ K = (len = 1 ∧ n = ne ∧ am_1 stk (fun x rest => rest = [] ∧ am_ri (am_rt X) x ∧ post (some (.int x)) σ)) := rfl
theorem o_lreturn : am_one X ne post (.lreturn) len pc ls stk n σ K = (len = 1 ∧ n = ne ∧ am_1l stk (fun x rest => rest = [] ∧ am_rt X = some .long ∧ post (some (.long x)) σ)) := rfl
theorem o_return_ : am_one X ne post (.return_) len pc ls stk n σ K = (len = 1 ∧ n = ne ∧ stk = [] ∧ am_rt X = none ∧ post none σ) := rfl
theorem o_tableswitch (d : Int) (lo : Int) (hi : Int) (offs : Array Int) : am_one X ne post (.tableswitch d lo hi offs) len pc ls stk n σ K = (am_1 stk (fun x rest => am_ts pc x (fun t => K t ls rest n σ) lo offs.toList lo ∧ ((x.toInt < lo ∨ hi < x.toInt) → am_tg pc d (fun t => K t ls rest n σ)) ∧ (offs.size : Int) = hi - lo + 1)) := rfl
theorem o_lookupswitch (d : Int) (ps : Array (Int × Int)) : am_one X ne post (.lookupswitch d ps) len pc ls stk n σ K = (am_1 stk (fun x rest => (ps.toList.zip (ps.toList.drop 1)).all (fun (a, next) => a.1 < next.1) = true ∧ am_ls pc x d (fun t => K t ls rest n σ) ps.toList)) := rfl
theorem o_getfield (ix : Nat) : am_one X ne post (.getfield ix) len pc ls stk n σ K = (len = 3 ∧ am_1a stk (fun o rest => o < n ∧ am_opt (am_find (am_FT X) ix) (fun q => am_SH X o = .inl q.1 ∧ am_opt (am_KF X o)[q.2]? (fun kd => K (pc + 3) ls (am_av kd (σ.1 o q.2) (σ.2 o q.2) :: rest) n σ)))) := rfl
theorem o_putfield (ix : Nat) : am_one X ne post (.putfield ix) len pc ls stk n σ K = (len = 3 ∧ am_v stk (fun v r1 => am_1a r1 (fun o rest => o < n ∧ am_opt (am_find (am_PT X) ix) (fun q => am_SH X o = .inl q.1 ∧ am_opt (am_KF X o)[q.2]? (fun kd => am_pf kd v σ o q.2 (fun σ1 => K (pc + 3) ls rest n σ1)))))) := rfl
theorem o_arraylength : am_one X ne post (.arraylength) len pc ls stk n σ K = (len = 1 ∧ am_1a stk (fun o rest => o < n ∧ am_arr (am_SH X o) (fun q => q.1 < 4 ∧ K (pc + 1) ls (.int (Int32.ofNat q.2) :: rest) n σ))) := rfl
theorem o_iaload : am_one X ne post (.iaload) len pc ls stk n σ K = (len = 1 ∧ am_ix stk (fun i o rest => o < n ∧ am_arr (am_SH X o) (fun q => q.1 = 0 ∧ vp_in i q.2 ∧ K (pc + 1) ls (.int (σ.1 o i.toNatClampNeg) :: rest) n σ))) := rfl
theorem o_baload : am_one X ne post (.baload) len pc ls stk n σ K = (len = 1 ∧ am_ix stk (fun i o rest => o < n ∧ am_arr (am_SH X o) (fun q => (q.1 = 1 ∨ q.1 = 2) ∧ vp_in i q.2 ∧ K (pc + 1) ls (.int (σ.1 o i.toNatClampNeg) :: rest) n σ))) := rfl
theorem o_laload : am_one X ne post (.laload) len pc ls stk n σ K = (len = 1 ∧ am_ix stk (fun i o rest => o < n ∧ am_arr (am_SH X o) (fun q => q.1 = 3 ∧ vp_in i q.2 ∧ K (pc + 1) ls (.long (σ.2 o i.toNatClampNeg) :: rest) n σ))) := rfl
theorem o_iastore : am_one X ne post (.iastore) len pc ls stk n σ K = (len = 1 ∧ am_1 stk (fun x r1 => am_ix r1 (fun i o rest => o < n ∧ am_arr (am_SH X o) (fun q => q.1 = 0 ∧ vp_in i q.2 ∧ K (pc + 1) ls (rest) n (am_pi σ o i.toNatClampNeg x))))) := rfl
theorem o_bastore : am_one X ne post (.bastore) len pc ls stk n σ K = (len = 1 ∧ am_1 stk (fun x r1 => am_ix r1 (fun i o rest => o < n ∧ am_arr (am_SH X o) (fun q => (q.1 = 1 ∨ q.1 = 2) ∧ vp_in i q.2 ∧ K (pc + 1) ls (rest) n (am_pi σ o i.toNatClampNeg (if q.1 = 1 then vp_nar .byte x else vp_nar .boolean x)))))) := rfl
theorem o_lastore : am_one X ne post (.lastore) len pc ls stk n σ K = (len = 1 ∧ am_1l stk (fun x r1 => am_ix r1 (fun i o rest => o < n ∧ am_arr (am_SH X o) (fun q => q.1 = 3 ∧ vp_in i q.2 ∧ K (pc + 1) ls (rest) n (am_pl σ o i.toNatClampNeg x))))) := rfl
theorem o_newarray (ty : ArrayType) : am_one X ne post (.newarray ty) len pc ls stk n σ K = (len = 2 ∧ am_1 stk (fun x rest => n < ne ∧ am_arr (am_SH X n) (fun q => am_ty q.1 = some ty ∧ ¬ x < 0 ∧ x.toNatClampNeg = q.2 ∧ q.2 < 1000000 ∧ K (pc + 2) ls (.ref n :: rest) (n + 1) (am_new σ n)))) := rfl
theorem o_new (ix : Nat) : am_one X ne post (.new ix) len pc ls stk n σ K = (len = 3 ∧ n < ne ∧ am_opt (am_find (am_CT X) ix) (fun ci => am_SH X n = .inl ci ∧ (am_KF X n).all (fun kd => decide (kd < 4)) = true ∧ K (pc + 3) ls (.ref n :: stk) (n + 1) (am_new σ n))) := rfl
theorem o_invokevirtual (ix : Nat) : am_one X ne post (.invokevirtual ix) len pc ls stk n σ K = (len = 3 ∧ am_cl (am_find (am_NT X) ix) (fun w => am_nat w 2 stk n (am_SH X) σ (fun st σ1 => K (pc + 3) ls st n σ1)) (am_opt (am_find (am_ML X) ix) (fun q => (q.1 = 0 ∨ q.1 = 3) ∧ q.2.1 ≤ stk.length ∧ am_rc q.1 q.2.2.1 n (am_SH X) (stk.take q.2.1).reverse ∧ ((stk.drop q.2.1).map fun v => v.category).sum ≤ 8 ∧ n + q.2.2.2.1 ≤ ne ∧ am_sz (am_SH X) (am_KF X) (n + q.2.2.2.1) = am_sz (am_SH X) (am_KF X) n + q.2.2.2.2.1 ∧ q.2.2.2.2.2 (stk.take q.2.1).reverse n σ (fun v σ1 => K (pc + 3) ls (v.toList ++ stk.drop q.2.1) (n + q.2.2.2.1) σ1)))) := rfl
theorem o_invokestatic (ix : Nat) : am_one X ne post (.invokestatic ix) len pc ls stk n σ K = (len = 3 ∧ am_cl (am_find (am_NT X) ix) (fun w => am_nat w 1 stk n (am_SH X) σ (fun st σ1 => K (pc + 3) ls st n σ1)) (am_opt (am_find (am_ML X) ix) (fun q => (q.1 = 1 ∨ q.1 = 4) ∧ q.2.1 ≤ stk.length ∧ am_rc q.1 q.2.2.1 n (am_SH X) (stk.take q.2.1).reverse ∧ ((stk.drop q.2.1).map fun v => v.category).sum ≤ 8 ∧ n + q.2.2.2.1 ≤ ne ∧ am_sz (am_SH X) (am_KF X) (n + q.2.2.2.1) = am_sz (am_SH X) (am_KF X) n + q.2.2.2.2.1 ∧ q.2.2.2.2.2 (stk.take q.2.1).reverse n σ (fun v σ1 => K (pc + 3) ls (v.toList ++ stk.drop q.2.1) (n + q.2.2.2.1) σ1)))) := rfl
theorem o_invokespecial (ix : Nat) : am_one X ne post (.invokespecial ix) len pc ls stk n σ K = (len = 3 ∧ am_cl (am_find (am_NT X) ix) (fun w => am_nat w 0 stk n (am_SH X) σ (fun st σ1 => K (pc + 3) ls st n σ1)) (am_opt (am_find (am_ML X) ix) (fun q => (q.1 = 2 ∨ q.1 = 5) ∧ q.2.1 ≤ stk.length ∧ am_rc q.1 q.2.2.1 n (am_SH X) (stk.take q.2.1).reverse ∧ ((stk.drop q.2.1).map fun v => v.category).sum ≤ 8 ∧ n + q.2.2.2.1 ≤ ne ∧ am_sz (am_SH X) (am_KF X) (n + q.2.2.2.1) = am_sz (am_SH X) (am_KF X) n + q.2.2.2.2.1 ∧ q.2.2.2.2.2 (stk.take q.2.1).reverse n σ (fun v σ1 => K (pc + 3) ls (v.toList ++ stk.drop q.2.1) (n + q.2.2.2.1) σ1)))) := rfl
end
