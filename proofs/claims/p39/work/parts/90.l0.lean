/-! far rows of the law -/
theorem dLw_s {cc : ByteArray} {D : List (Nat × Instr × Nat)} (h : D.all (s_Dc cc) = true) : ∀ pc q, am_find D pc = some q → decode cc pc = .ok q := s_D_ok h
