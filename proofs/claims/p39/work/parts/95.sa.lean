theorem T51_new {τ : am_S} (h : T51 τ) : sb_lo B0 51 (am_new τ 51) := by
  obtain ⟨h1, h2⟩ := T51_ok h
  have e : ∀ o k, o < 51 → (am_new τ 51).1 o k = τ.1 o k := fun o k ho => by
    show (if o = 51 then 0 else τ.1 o k) = _
    rw [if_neg (by omega)]
  exact ⟨fun o q k ho hs hk => by rw [e o k ho]; exact h1 o q k ho hs hk, fun o c k ho hs => by rw [e o k ho]; exact h2 o c k ho hs⟩
set_option maxRecDepth 100000 in
/-- what the entry gives: the classes, the arrays, the words -/
theorem lw_ctx {p : Program} {s : State} {m : MethodId} {meth : Method} {c : Code} {b L : Nat} {xs : Nat → Int32} (C0 : lw_At p s m meth c b L xs) : ∃ (D : va_G) (aC : Nat → ClassId), lw_K p s m c D aC b L xs := by
  obtain ⟨hx, hb, hr, hml, hown, hts0, hX, hbl, hlocks, hgv⟩ := id C0
  have hts : ∀ w ∈ TB, w.before #[Value.ref b] s = true := fun w hw => hts0 w (List.mem_filter.mp hw).1
  have hN : am_Nw NB s.heap.size s := ⟨fun a i x h hm => va_Nw.of rfl (hts0 _ hm), lw_str hts0 hgv⟩
  obtain ⟨tyc, hG1⟩ := G1
  have kn : ∀ k : Nat, ∃ q : ClassId × (Nat → Nat), ∀ w : vw_C, vwCl[k]? = some w → u_Kn s w.1 w.2.1 w.2.2 q.1 q.2 := by
    intro k
    cases hk : vwCl[k]? with
    | none => exact ⟨(0, fun _ => 0), fun w h => by cases h⟩
    | some w =>
      have hin := (hG1.1 k w hk).1
      have hins : ∀ k, k < 13 → ∀ w : vw_C, vwCl[k]? = some w → Cond.instantiable w.1 w.2.2 ∈ TB := by
        have q : ∀ k, k < 13 → ∀ w : vw_C, vwCl[k]? = some w → Cond.instantiable w.1 w.2.2 ∈ TB := by
          intro k hk w hw
          match k, hw with
          | 0, hw => cases hw; exact tk_370
          | 1, hw => cases hw; exact tk_418
          | 2, hw => cases hw; exact tk_145
          | 3, hw => cases hw; exact tk_405
          | 4, hw => cases hw; exact tk_338
          | 5, hw => cases hw; exact tk_133
          | 6, hw => cases hw; exact tk_437
          | 7, hw => cases hw; exact tk_348
          | 8, hw => cases hw; exact tk_225
          | 9, hw => cases hw; exact tk_139
          | 10, hw => cases hw; exact tk_383
          | 11, hw => cases hw; exact tk_125
          | 12, hw => cases hw; exact tk_1292
          | k + 13, hw => exact absurd hk (by omega)
        exact q
      have hk13 : k < 13 := (List.getElem?_eq_some_iff.mp hk).1
      obtain ⟨cC, iS, h⟩ := u_known (n := w.2.2) hts hin (hts _ (hins k hk13 w hk))
      exact ⟨(cC, iS), fun w' h' => by cases h'; exact h⟩
  obtain ⟨dQ, hdQ⟩ := Classical.axiomOfChoice kn
  have arr : ∀ k : Nat, ∃ cA : ClassId, ∀ ty : FieldType, ([.int, .byte, .boolean, .long] : List FieldType)[k]? = some ty → ArrOfT s cA ty ∧ s.vm.findClass ("[" ++ ty.toString) = some cA := by
    intro k
    match k with
    | 0 => obtain ⟨cA, h⟩ := lw_arr (ty := .int) (hts _ (tk_170)); exact ⟨cA, fun ty ht => by cases ht; exact h⟩
    | 1 => obtain ⟨cA, h⟩ := lw_arr (ty := .byte) (hts _ (tk_169)); exact ⟨cA, fun ty ht => by cases ht; exact h⟩
    | 2 => obtain ⟨cA, h⟩ := lw_arr (ty := .boolean) (hts _ (tk_455)); exact ⟨cA, fun ty ht => by cases ht; exact h⟩
    | 3 => obtain ⟨cA, h⟩ := lw_arr (ty := .long) (hts _ (tk_299)); exact ⟨cA, fun ty ht => by cases ht; exact h⟩
    | k + 4 => exact ⟨0, fun ty ht => by cases ht⟩
  obtain ⟨aC, haC⟩ := Classical.axiomOfChoice arr
  obtain ⟨D, hDe⟩ : ∃ D : va_G, D = (fun k => (dQ k).1, fun k => (dQ k).2) := ⟨_, rfl⟩
  have hK : va_K D vwCl (am_tys aC) s := by
    subst hDe
    refine ⟨fun k q hq => hdQ k q hq, fun k q hq => ?_⟩
    match k, hq with
    | 0, hq => cases hq; exact haC 0 .int rfl
    | 1, hq => cases hq; exact haC 1 .byte rfl
    | 2, hq => cases hq; exact haC 2 .boolean rfl
    | 3, hq => cases hq; exact haC 3 .long rfl
    | k + 4, hq => cases hq
  exact ⟨D, aC, hx, hb, hml, hown, hts, hX, hbl, hK, hN⟩
