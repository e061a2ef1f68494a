/-! THE REFERENCE READS, its loops. Printed from wip/am/chk/hand/s7.in. -/
section
variable {σ0 : am_S} {post : Option Value → am_S → Prop} {AA : Nat → List (Option Value) → List Value → Nat → am_S → Prop}
theorem nar_b {x : Int32} (h : -128 ≤ x.toInt ∧ x.toInt ≤ 127) : vp_nar .byte x = x := by
  have e : vp_nar .byte x = x.toInt8.toInt32 := rfl
  apply Int32.toInt_inj.mp
  rw [e, Int8.toInt_toInt32, Int32.toInt_toInt8, Int.bmod_eq_of_le (by omega) (by omega)]
end