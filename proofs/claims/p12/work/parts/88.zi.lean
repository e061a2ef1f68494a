/-! BITS. Printed from wip/am/chk/hand/j0.in. -/
def bitAt (x : Int32) (i : Nat) : Bool := x.toBitVec.getLsbD i
theorem shU : ∀ i : Fin 32, (UInt32.mod ((Int32.ofInt ((i : Nat) : Int)).toUInt32 &&& Int32.toUInt32 31) 32).toBitVec.toNat = i := by decide
theorem shS : ∀ i : Fin 32, ((Int32.ofInt ((i : Nat) : Int) &&& 31).toBitVec.smod 32).toNat = i := by decide
theorem bt_1 : ∀ j : Nat, (Int32.ofInt 1).toBitVec.getLsbD j = decide (j = 0) := fun j => by
  show (1#32).getLsbD j = _
  rw [BitVec.getLsbD_one]
  simp
theorem bt_if {c : Bool} : ∀ j : Nat, (if c = true then Int32.ofInt 1 else Int32.ofInt 0).toBitVec.getLsbD j = (c && decide (j = 0)) := fun j => by
  cases c
  · show (0#32).getLsbD j = _
    rw [BitVec.getLsbD_zero]
    rfl
  · exact bt_1 j
theorem bt_ext {x y : Int32} (h : ∀ j, j < 32 → bitAt x j = bitAt y j) : x = y := Int32.toBitVec_inj.mp (BitVec.eq_of_getLsbD_eq h)
/-- bit i, shifted down without a sign -/
theorem bt_u (x : Int32) {i : Nat} (hi : i < 32) : (x.toUInt32 >>> ((Int32.ofInt (i : Int)).toUInt32 &&& Int32.toUInt32 31)).toInt32 &&& Int32.ofInt 1 = if bitAt x i = true then Int32.ofInt 1 else Int32.ofInt 0 := by
  apply bt_ext
  intro j hj
  show (BitVec.ushiftRight x.toBitVec (UInt32.mod ((Int32.ofInt (i : Int)).toUInt32 &&& Int32.toUInt32 31) 32).toBitVec.toNat &&& (Int32.ofInt 1).toBitVec).getLsbD j = (if bitAt x i = true then Int32.ofInt 1 else Int32.ofInt 0).toBitVec.getLsbD j
  rw [shU ⟨i, hi⟩, BitVec.getLsbD_and, bt_1, bt_if]
  show ((x.toBitVec >>> i).getLsbD j && _) = _
  rw [BitVec.getLsbD_ushiftRight]
  by_cases q : j = 0
  · subst q
    rfl
  · simp [q]
/-- bit i, shifted down with the sign -/
theorem bt_s (x : Int32) {i : Nat} (hi : i < 32) : (x >>> (Int32.ofInt (i : Int) &&& 31)) &&& Int32.ofInt 1 = if bitAt x i = true then Int32.ofInt 1 else Int32.ofInt 0 := by
  apply bt_ext
  intro j hj
  show (BitVec.sshiftRight x.toBitVec ((Int32.ofInt (i : Int) &&& 31).toBitVec.smod 32).toNat &&& (Int32.ofInt 1).toBitVec).getLsbD j = (if bitAt x i = true then Int32.ofInt 1 else Int32.ofInt 0).toBitVec.getLsbD j
  rw [shS ⟨i, hi⟩, BitVec.getLsbD_and, bt_1, bt_if, BitVec.getLsbD_sshiftRight]
  by_cases q : j = 0
  · subst q
    have : ¬ 32 ≤ 0 := by decide
    rw [if_pos (by omega)]
    unfold bitAt
    simp
  · simp [q]
/-- 1 << i -/
theorem bt_l {i : Nat} (hi : i < 32) (j : Nat) (hj : j < 32) : bitAt (Int32.ofInt 1 <<< (Int32.ofInt (i : Int) &&& 31)) j = decide (j = i) := by
  show (BitVec.shiftLeft (Int32.ofInt 1).toBitVec ((Int32.ofInt (i : Int) &&& 31).toBitVec.smod 32).toNat).getLsbD j = _
  rw [shS ⟨i, hi⟩]
  show ((Int32.ofInt 1).toBitVec <<< i).getLsbD j = _
  rw [BitVec.getLsbD_shiftLeft, bt_1]
  by_cases q : j = i
  · subst q
    simp [hj]
  · by_cases q2 : j < i
    · simp [q, q2]
    · have : ¬ j - i = 0 := by omega
      simp [q, this]
theorem bt_or (x y : Int32) (j : Nat) : bitAt (x ||| y) j = (bitAt x j || bitAt y j) := BitVec.getLsbD_or
theorem bt_and (x y : Int32) (j : Nat) : bitAt (x &&& y) j = (bitAt x j && bitAt y j) := BitVec.getLsbD_and
theorem bt_xor (x y : Int32) (j : Nat) : bitAt (x ^^^ y) j = (bitAt x j ^^ bitAt y j) := BitVec.getLsbD_xor
theorem bt_0 (j : Nat) : bitAt (Int32.ofInt 0) j = false := by
  show (0#32).getLsbD j = _
  exact BitVec.getLsbD_zero
theorem bt_m1 {j : Nat} (hj : j < 32) : bitAt (Int32.ofInt (-1)) j = true := by
  show (BitVec.allOnes 32).getLsbD j = _
  rw [BitVec.getLsbD_allOnes]
  simp [hj]
/-- a set of numbers below n as bits -/
def sb (f : Nat → Bool) : Nat → Int32
  | 0 => Int32.ofInt 0
  | n + 1 => if f n = true then sb f n ||| (Int32.ofInt 1 <<< (Int32.ofInt (n : Int) &&& 31)) else sb f n
theorem bt_sb (f : Nat → Bool) : ∀ (n : Nat), n ≤ 32 → ∀ j, j < 32 → bitAt (sb f n) j = (decide (j < n) && f j)
  | 0, _, j, _ => by
    show bitAt (Int32.ofInt 0) j = _
    rw [bt_0]
    simp
  | n + 1, hn, j, hj => by
    have ih := bt_sb f n (by omega) j hj
    simp only [sb]
    by_cases q : j = n
    · subst q
      by_cases q2 : f j = true
      · rw [if_pos q2, bt_or, ih, bt_l (by omega) j hj]
        simp [q2]
      · rw [if_neg q2, ih]
        simp [q2]
    · have e : decide (j < n + 1) = decide (j < n) := by
        by_cases z : j < n
        · rw [decide_eq_true z, decide_eq_true (by omega)]
        · rw [decide_eq_false z, decide_eq_false (by omega)]
      rw [e]
      split
      · rw [bt_or, ih, bt_l (by omega) j hj]
        simp [q]
      · exact ih