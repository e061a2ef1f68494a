theorem lw_arr {s : State} {args : Array Value} {ty : FieldType} (h : (Cond.arrayClass ty).before args s = true) : ∃ cA : ClassId, ArrOfT s cA ty ∧ s.vm.findClass ("[" ++ ty.toString) = some cA := by
  obtain ⟨cA, kA, comp, h1, h2, h3⟩ := Cond.arrayClass_spec h
  exact ⟨cA, fun n z => ⟨fun k h => (by cases h), kA, h2, comp, h3⟩, h1⟩
def lw_tm (i : Nat) : Term := if i = 0 then Term.string "LadderStreet$Tokens" 27 else Term.string "LadderStreet$Tokens" 82
theorem lw_str {b : Nat} {s : State} (hts : ∀ w ∈ lw_tbl, w.before #[Value.ref b] s = true) (hgv : (Jvm.Cond.and given_1 narrow_1).before #[Value.ref b] s = true) : am_Str s.heap.size s := by
  have hs := flat_of_before _ hgv
  have hA : ∀ a : Nat, a < s.heap.size → ¬ (fun q => s.heap.size ≤ q) a := fun a h => Nat.not_le.mpr h
  have two : ∀ i : Nat, i < 2 → i = 0 ∨ i = 1 := fun i h => by omega
  obtain ⟨adK, adV, h1, h2⟩ := vk_Sof (args := #[Value.ref b]) (s := s) (N := 2) (tm := lw_tm) (len := am_stl) (byt := am_stb) (A := fun q => s.heap.size ≤ q)
    (fun i h => by rcases two i h with rfl | rfl <;> decide +kernel)
    (fun i h => by rcases two i h with rfl | rfl <;> exact hs _ (by decide +kernel))
    (fun i h => by rcases two i h with rfl | rfl <;> exact hs _ (by decide +kernel))
    (fun i h => by rcases two i h with rfl | rfl <;> exact hs _ (by decide +kernel))
    (fun i h => by rcases two i h with rfl | rfl <;> exact hs _ (by decide +kernel))
    (fun i h j hj => by
      rcases two i h with rfl | rfl
      · have q : ∀ j : Nat, j < am_stl.getD 0 0 → (Cond.eq (.elem (.field (lw_tm 0) "java/lang/String" "value" "[B") (.int (Int32.ofNat j))) (.int ((am_stb.getD 0 []).getD j 0))) ∈ flatC (Jvm.Cond.and given_1 narrow_1) := by decide +kernel
        exact hs _ (q j hj)
      · have q : ∀ j : Nat, j < am_stl.getD 1 0 → (Cond.eq (.elem (.field (lw_tm 1) "java/lang/String" "value" "[B") (.int (Int32.ofNat j))) (.int ((am_stb.getD 1 []).getD j 0))) ∈ flatC (Jvm.Cond.and given_1 narrow_1) := by decide +kernel
        exact hs _ (q j hj))
    (fun i j hi hj hij => by
      rcases two i hi with rfl | rfl <;> rcases two j hj with rfl | rfl
      · exact absurd rfl hij
      · first | exact Or.inl (hs _ (by decide +kernel)) | exact Or.inr (hs _ (by decide +kernel))
      · first | exact Or.inl (hs _ (by decide +kernel)) | exact Or.inr (hs _ (by decide +kernel))
      · exact absurd rfl hij) hA
  exact ⟨adK, adV, vk_R.of (hts (.stringRef "LadderStreet$Tokens" 27 am_sl0) (by decide +kernel)) (h2 0 (by decide)), vk_R.of (hts (.stringRef "LadderStreet$Tokens" 82 am_sl1) (by decide +kernel)) (h2 1 (by decide)), h1, va_Zof (hts (.laysStatic "java/lang/String" "COMPACT_STRINGS" "Z") (by decide +kernel)) (hts (.initialized "java/lang/String") (by decide +kernel)) (va_eqt (hs (Cond.eq (.static "java/lang/String" "COMPACT_STRINGS" "Z") (.int 1)) (by decide +kernel))) hA, va_Zqof (hts (.laysStatic "jdk/internal/util/Preconditions" "SIOOBE_FORMATTER" "Ljava/util/function/BiFunction;") (by decide +kernel)) (hts (.initialized "jdk/internal/util/Preconditions") (by decide +kernel)) (hs _ (by decide +kernel)) hA⟩
