/-! ONE INSTRUCTION'S WORD IS TRUE OF THE MACHINE. -/
def am_tys (aC : Nat → ClassId) : List (ClassId × FieldType) := [(aC 0, .int), (aC 1, .byte), (aC 2, .boolean), (aC 3, .long)]
def am_tk (t : FieldType) : Nat := match t with
  | .int => 0
  | .long => 1
  | .boolean => 2
  | .object _ => 3
  | .array _ => 3
  | _ => 9
/-- what the tables say of classes, numbers and arrays -/
def am_G (TB : List Cond) (cl : List vw_C) (SH : am_Sh) (KF : am_Kf) (tyc : Nat → Nat → FieldType) : Prop :=
  (∀ (ci : Nat) (q : vw_C), cl[ci]? = some q → (∀ w ∈ u_ws q.1 q.2.1 q.2.2, w ∈ TB) ∧ (∀ k, k < q.2.2 → parseFieldDescriptor (q.2.1 k).2.2.1 = some (tyc ci k)) ∧ (∀ a, a < q.2.2 → ∀ b, b < q.2.2 → a ≠ b → (q.2.1 a).2.1 ≠ (q.2.1 b).2.1)) ∧
  (∀ o ci, SH o = .inl ci → ∃ q : vw_C, cl[ci]? = some q ∧ (KF o).length = q.2.2 ∧ ∀ k kd, (KF o)[k]? = some kd → min kd 3 = am_tk (tyc ci k)) ∧
  (∀ k ty, am_ty k = some ty → Cond.arrayClass (newarray.typeOf ty) ∈ TB)
/-- a field that is read -/
def am_FO (TB : List Cond) (cl : List vw_C) (own : String) (q : Nat × Nat × Nat) : Prop := ∃ r : vw_C, cl[q.2.1]? = some r ∧ q.2.2 < r.2.2 ∧ Cond.fieldLink own q.1 (r.2.1 q.2.2).1 (r.2.1 q.2.2).2.1 (r.2.1 q.2.2).2.2.1 ∈ TB
/-- a field that is written -/
def am_PO (TB : List Cond) (cl : List vw_C) (own nm : String) (q : Nat × Nat × Nat) : Prop := ∃ r : vw_C, cl[q.2.1]? = some r ∧ q.2.2 < r.2.2 ∧ Cond.fieldLink own q.1 (r.2.1 q.2.2).1 (r.2.1 q.2.2).2.1 (r.2.1 q.2.2).2.2.1 ∈ TB ∧ ((r.2.1 q.2.2).2.2.2 = false ∨ ((r.2.1 q.2.2).2.2.2 = true ∧ nm = "<init>" ∧ (r.2.1 q.2.2).1 = own))
def am_CC (TB : List Cond) (cl : List vw_C) (own : String) (q : Nat × Nat) : Prop := ∃ r : vw_C, cl[q.2]? = some r ∧ Cond.classLink own q.1 r.1 ∈ TB ∧ Cond.instantiable r.1 r.2.2 ∈ TB ∧ Cond.initialized r.1 ∈ TB
def am_NO (TB : List Cond) (own : String) (q : Nat × Nat) : Prop := match q.2 with
  | 0 => Cond.methodLink own q.1 Lib.Math.max.name ∈ TB ∧ Cond.static Lib.Math.max.name ∈ TB ∧ Cond.initialized "java/lang/Math" ∈ TB ∧ Cond.code Lib.Math.max.name Lib.Math.max.code 2 (some .int) ∈ TB
  | 1 => Cond.methodLink own q.1 Lib.Math.min.name ∈ TB ∧ Cond.static Lib.Math.min.name ∈ TB ∧ Cond.initialized "java/lang/Math" ∈ TB ∧ Cond.code Lib.Math.min.name Lib.Math.min.code 2 (some .int) ∈ TB
  | 2 => Cond.methodLink own q.1 Lib.Math.abs.name ∈ TB ∧ Cond.static Lib.Math.abs.name ∈ TB ∧ Cond.initialized "java/lang/Math" ∈ TB ∧ Cond.code Lib.Math.abs.name Lib.Math.abs.code 1 (some .int) ∈ TB
  | 3 => Cond.methodLink own q.1 objectInit ∈ TB ∧ Cond.instanceMethod objectInit ∈ TB ∧ Cond.code objectInit ⟨#[0xb1]⟩ 1 none ∈ TB
  | 4 => Cond.methodLink own q.1 arraycopyName ∈ TB ∧ Cond.native arraycopyName ∈ TB ∧ Cond.static arraycopyName ∈ TB ∧ Cond.initialized "java/lang/System" ∈ TB
  | _ => False
def am_gb (TB : List Cond) : List Cond := TB.filter goodWord
/-- the class's two texts, as the machine holds them, and what the JDK asks of its own when a char of one is read -/
def am_sl0 : String := "shaft person room quarrel cup breaks seed if then else rung deep minute width temper thirst waited here water "
def am_sl1 : String := ";=+-*/<()"
def am_stl : List Nat := [110, 9]
def am_stb : List (List Int32) := [[115, 104, 97, 102, 116, 32, 112, 101, 114, 115, 111, 110, 32, 114, 111, 111, 109, 32, 113, 117, 97, 114, 114, 101, 108, 32, 99, 117, 112, 32, 98, 114, 101, 97, 107, 115, 32, 115, 101, 101, 100, 32, 105, 102, 32, 116, 104, 101, 110, 32, 101, 108, 115, 101, 32, 114, 117, 110, 103, 32, 100, 101, 101, 112, 32, 109, 105, 110, 117, 116, 101, 32, 119, 105, 100, 116, 104, 32, 116, 101, 109, 112, 101, 114, 32, 116, 104, 105, 114, 115, 116, 32, 119, 97, 105, 116, 101, 100, 32, 104, 101, 114, 101, 32, 119, 97, 116, 101, 114, 32], [59, 61, 43, 45, 42, 47, 60, 40, 41]]
def am_Str (b : Nat) (U : State) : Prop := ∃ adK adV : Nat → Nat, vk_R "LadderStreet$Tokens" 27 am_sl0 (adK 0) U ∧ vk_R "LadderStreet$Tokens" 82 am_sl1 (adK 1) U ∧ vk_S 2 am_stl am_stb adK adV (fun q => b ≤ q) U U.heap ∧ va_Z "java/lang/String" "COMPACT_STRINGS" "Z" (.int 1) (fun q => b ≤ q) U U.heap ∧ va_Zq "jdk/internal/util/Preconditions" "SIOOBE_FORMATTER" "Ljava/util/function/BiFunction;" (fun q => b ≤ q) U U.heap
theorem am_Str.go {b : Nat} {s U : State} {locs : List Loc} (h : am_Str b s) (hS : va_S (fun q => b ≤ q) s.heap U.heap locs) (hW : s.WarmedH U.vm) : am_Str b U := by
  obtain ⟨adK, adV, h1, h2, h3, h4, h5⟩ := h
  exact ⟨adK, adV, h1.warm hW, h2.warm hW, (h3.kept hS.2.1).moved hW.alike, (h4.kept hS.2.1).moved hW.alike, (h5.kept hS.2.1).moved hW.alike⟩
theorem am_Str.blind {b : Nat} {u U : State} (hv : U.vm = u.vm) (hH : U.heap = u.heap) (h : am_Str b u) : am_Str b U := by
  obtain ⟨adK, adV, h1, h2, h3, h4, h5⟩ := h
  have ha : u.vm.Alike U.vm := by rw [hv]; exact Vm.Alike.refl u.vm
  refine ⟨adK, adV, h1.same hv, h2.same hv, ?_, ?_, ?_⟩
  · rw [hH]; exact h3.moved ha
  · rw [hH]; exact h4.moved ha
  · rw [hH]; exact h5.moved ha
def am_Nw (NB : List Cond) (b : Nat) (U : State) : Prop := (∀ a i x h, Cond.methodLinkNest a i x h ∈ NB → va_Nw (.methodLinkNest a i x h) U) ∧ am_Str b U
abbrev am_rm (d mc ms : Nat) : Room := { frames := d, cells := mc, slots := ms, locals := 64 * d }
def am_Pc (cl : List vw_C) (NB : List Cond) (SH : am_Sh) (KF : am_Kf) (D : va_G) (aC : Nat → ClassId) (b n0 : Nat) (as : List Value) (σ : am_S) : Array Value → State → Prop := va_Pc (as.map (am_c b)) (fun U => U.heap.size = b + n0 ∧ va_P D cl (am_ws SH KF b aC n0 σ) U.heap ∧ va_K D cl (am_tys aC) U ∧ am_Nw NB b U)
def am_Qc (cl : List vw_C) (SH : am_Sh) (KF : am_Kf) (D : va_G) (aC : Nat → ClassId) (b ne : Nat) (post : Option Value → am_S → Prop) : Array Value → State → Outcome → State → Prop := fun _ st oc t => (∃ (v : Option Value) (σ : am_S), oc = .returned (v.map (am_c b)) ∧ post v σ ∧ va_P D cl (am_ws SH KF b aC ne σ) t.heap) ∧ va_F (fun q => b ≤ q) st t
/-- A METHOD'S CONTRACT: from what its word asks for it comes to what its word says -/
def am_M (l : Launch) (TB NB : List Cond) (cl : List vw_C) (SH : am_Sh) (KF : am_Kf) (y : MethodName) (cc : ByteArray) (maxL : Nat) (ret : Option FieldType) (d mc ms : Nat) (sp : am_Sp) : Prop :=
  ∀ (D : va_G) (aC : Nat → ClassId) (b n0 : Nat) (as : List Value) (σ : am_S) (post : Option Value → am_S → Prop), sp as n0 σ post → am_sz SH KF (n0 + mc) = am_sz SH KF n0 + ms →
    Met l y (.code y cc maxL ret :: am_gb TB) (am_rm d mc ms) (am_Pc cl NB SH KF D aC b n0 as σ) (am_Qc cl SH KF D aC b (n0 + mc) post) mc ms (fun q => b ≤ q)
/-- a call that a method makes -/
def am_CO (l : Launch) (TB NB : List Cond) (cl : List vw_C) (SH : am_Sh) (KF : am_Kf) (own : String) (dR : Nat) (ix : Nat) (q : Nat × Nat × Nat × Nat × Nat × am_Sp) : Prop :=
  ∃ (y : MethodName) (cc : ByteArray) (maxL : Nat) (ret : Option FieldType) (d na : Nat), am_M l TB NB cl SH KF y cc maxL ret d q.2.2.2.1 q.2.2.2.2.1 q.2.2.2.2.2 ∧ d + 1 ≤ dR ∧ maxL ≤ 40 ∧ Cond.code y cc maxL ret ∈ TB ∧ Cond.initialized y.cls ∈ TB ∧ (y.cls ≠ "java/lang/invoke/MethodHandle" ∧ y.cls ≠ "java/lang/invoke/VarHandle" ∧ (parseMethodDescriptor y.desc).map (fun d => d.parameters.length) = some na) ∧
    match q.1 with
    | 0 => q.2.1 = na + 1 ∧ Cond.methodLink own ix y ∈ TB ∧ Cond.instanceMethod y ∈ TB ∧ ∃ r : vw_C, cl[q.2.2.1]? = some r ∧ Cond.selects r.1 y y ∈ TB
    | 1 => q.2.1 = na ∧ Cond.methodLink own ix y ∈ TB ∧ Cond.static y ∈ TB
    | 2 => q.2.1 = na + 1 ∧ Cond.methodLink own ix y ∈ TB ∧ Cond.instanceMethod y ∈ TB ∧ y.name = "<init>" ∧ ret = none
    | 4 => q.2.1 = na ∧ (∃ host, Cond.methodLinkNest own ix y host ∈ NB) ∧ Cond.static y ∈ TB
    | 5 => q.2.1 = na + 1 ∧ (∃ host, Cond.methodLinkNest own ix y host ∈ NB) ∧ Cond.instanceMethod y ∈ TB ∧ y.name = "<init>" ∧ ret = none
    | _ => False
/-- a method's tables are right -/
def am_O (l : Launch) (TB NB : List Cond) (cl : List vw_C) (own nm : String) (dR : Nat) (X : am_X) : Prop :=
  (∀ q ∈ am_FT X, am_FO TB cl own q) ∧ (∀ q ∈ am_PT X, am_PO TB cl own nm q) ∧ (∀ q ∈ am_CT X, am_CC TB cl own q) ∧ (∀ q ∈ am_KT X, Cond.constant own q.1 q.2 ∈ TB) ∧ (∀ q ∈ am_LT X, Cond.constantLong own q.1 q.2 ∈ TB) ∧ (∀ q ∈ am_NT X, am_NO TB own q) ∧ (∀ q ∈ am_ML X, am_CO l TB NB cl (am_SH X) (am_KF X) own dR q.1 q.2)
theorem am_pf_ok {SH : am_Sh} {KF : am_Kf} {b : Nat} {aC : Nat → ClassId} {kd : Nat} {v : Value} {σ : am_S} {o k : Nat} {K : am_S → Prop} (h : am_pf kd v σ o k K) : ∃ τ : am_S, K τ ∧ (∀ i, i ≠ o → am_cell SH KF b aC τ i = am_cell SH KF b aC σ i) ∧ (∀ j, j ≠ k → τ.1 o j = σ.1 o j) ∧ (∀ j, j ≠ k → τ.2 o j = σ.2 o j) ∧ am_av kd (τ.1 o k) (τ.2 o k) = v ∧ ∀ ty, min kd 3 = am_tk ty → narrow ty (am_c b v) = am_c b v ∧ fits ty (am_c b v) = true := by
  unfold am_pf at h
  split at h
  · refine ⟨_, h, fun i hi => am_pi_ne hi, fun j hj => by simp [am_pi, hj], fun j hj => rfl, by simp [am_av, am_pi], fun ty ht => ?_⟩
    cases ty <;> simp [am_tk] at ht
    exact ⟨rfl, rfl⟩
  · refine ⟨_, h, fun i hi => am_pl_ne hi, fun j hj => rfl, fun j hj => by simp [am_pl, hj], by simp [am_av, am_pl], fun ty ht => ?_⟩
    cases ty <;> simp [am_tk] at ht
    exact ⟨rfl, rfl⟩
  · rename_i x
    refine ⟨_, h.2, fun i hi => am_pi_ne hi, fun j hj => by simp [am_pi, hj], fun j hj => rfl, by simp [am_av, am_pi], fun ty ht => ?_⟩
    cases ty <;> simp [am_tk] at ht
    have h1 : x &&& 1 = x := h.1
    refine ⟨by show Value.int (x &&& 1) = _; rw [h1]; rfl, ?_⟩
    show (x == 0 || x == 1) = true
    have h2 : x.toBitVec &&& 1#32 = x.toBitVec := by
      have := congrArg Int32.toBitVec h1
      simpa using this
    have h3 : x.toBitVec.toNat = x.toBitVec.toNat % 2 := by
      have := congrArg BitVec.toNat h2
      rw [BitVec.toNat_and] at this
      rw [← this]
      simp [Nat.and_one_is_mod]
    have h4 : x.toBitVec.toNat = 0 ∨ x.toBitVec.toNat = 1 := by omega
    rcases h4 with h4 | h4
    · have : x = 0 := by
        apply Int32.toBitVec_inj.mp
        apply BitVec.eq_of_toNat_eq
        rw [h4]; rfl
      subst this; rfl
    · have : x = 1 := by
        apply Int32.toBitVec_inj.mp
        apply BitVec.eq_of_toNat_eq
        rw [h4]; rfl
      subst this; rfl
  · rename_i a
    refine ⟨_, h.2, fun i hi => am_pi_ne hi, fun j hj => by simp [am_pi, hj], fun j hj => rfl, ?_, fun ty ht => ?_⟩
    · obtain ⟨a', rfl⟩ : ∃ z : Nat, z = a := ⟨_, rfl⟩
      have h1 : a' < 1000000 := h.1
      have h2 : (Int32.ofNat (a' + 1)).toNatClampNeg = a' + 1 := nI_clamp (n := a' + 1) (by omega)
      have h3 : ¬ Int32.ofNat (a' + 1) = 0 := nI_ne0 (n := a' + 1) (by omega) (by omega)
      have h4 : (am_pi σ o k (Int32.ofNat (a' + 1))).1 o k = Int32.ofNat (a' + 1) := by simp only [am_pi, and_self, if_true]
      show (if (am_pi σ o k (Int32.ofNat (a' + 1))).1 o k = 0 then Value.null else Value.ref (((am_pi σ o k (Int32.ofNat (a' + 1))).1 o k).toNatClampNeg - 1)) = _
      rw [h4, if_neg h3, h2]
      rfl
    · cases ty <;> simp [am_tk] at ht
      · exact ⟨rfl, rfl⟩
      · exact ⟨rfl, rfl⟩
  · exact h.elim
section
variable {p : Program} {l : Launch} {e : Env} {R : Room} {s : State} {m : MethodId} {args : Array Value} {below : List Frame} {meth : Method} {c : Code} {cl : List vw_C} {TB NB : List Cond} {D : va_G} {aC : Nat → ClassId} {b n0 ne : Nat} {SH : am_Sh} {KF : am_Kf}
/-- how many cells there are -/
theorem am_size {H : Heap} {locs : List Loc} {n slots cells : Nat} {Q : State → Prop} {g : JFrame} {σ : am_S} (hP : va_P D cl (am_ws SH KF b aC n σ) H) (hS : va_S (fun q => b ≤ q) s.heap H locs) (hsz : s.heap.size = b + n0) (hn : n0 ≤ n) (hc : cells = n - n0) (k : H.size = b + n → W p l e R s m args below meth c H locs cells slots Q g) : W p l e R s m args below meth c H locs cells slots Q g := by
  intro T hT X
  refine k ?_ T hT X
  have h1 : T.heap.size ≤ s.heap.size + cells := X.heapSize
  rw [hT, hsz] at h1
  have h2 : b + n ≤ H.size := by
    rcases Nat.lt_or_ge n0 n with q | q
    · have := (hP (n - 1) _ (am_ws_at (by omega))).lt
      have h3 : b + (n - 1) < H.size := this
      omega
    · have := hS.1
      omega
  omega
/-- behind a call -/
theorem am_call {H : Heap} {locs : List Loc} {cells slots mc ms pc n1 : Nat} {Q : State → Prop} {ls : Array Slot} {st0 rest : List Value} {a : Array Value} {post : Option Value → am_S → Prop}
    (hr : va_Run p l e R s m args below meth c H locs cells slots mc ms (F0 m pc ls st0) rest (am_Qc cl SH KF D aC b n1 post a) (fun q => b ≤ q)) (hS : va_S (fun q => b ≤ q) s.heap H locs)
    (kk : ∀ (v : Option Value) (τ : am_S) (H1 : Heap) (locs1 : List Loc), post v τ → va_P D cl (am_ws SH KF b aC n1 τ) H1 → va_S (fun q => b ≤ q) s.heap H1 locs1 → W p l e R s m args below meth c H1 locs1 (cells + mc) (slots + ms) Q (F0 m (pc + 3) ls ((v.map (am_c b)).toList ++ rest))) : W p l e R s m args below meth c H locs cells slots Q (F0 m pc ls st0) := by
  intro T hT X
  obtain ⟨v, st₀, t, T', L, h0, X', hL, e1, e2, ⟨⟨w, τ, hv, hp, hb⟩, hz, hk⟩, st⟩ := hr T hT X
  cases hv
  rw [h0] at hz hk
  obtain ⟨t2, a1, b1⟩ := kk w τ T'.heap (locs ++ L) hp (by rw [e1]; exact hb)
    ⟨Nat.le_trans hS.1 (by rw [e1]; exact hz), fun q h1 h2 => by rw [e1, hk q (Nat.lt_of_lt_of_le h1 hS.1) h2]; exact hS.2.1 q h1 h2, fun q hq => by
      rcases List.mem_append.mp hq with h | h
      · exact hS.2.2 q h
      · exact hL q h⟩ T' rfl X'
  exact ⟨t2, st t2 a1, b1⟩
end
