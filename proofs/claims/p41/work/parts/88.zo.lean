/-! THE MODEL of a town's moments: 51 cells, as the reference lays them. Printed from wip/am/chk/hand/mo.in. -/
abbrev MO : Type := Nat → Int32
/-- people of a town -/
def dP (d : DR) : Nat := d.2.2.1.length
/-! what stays as it must -/
/-! more of the model -/
/-! a BUCKET, both ways -/
/-! THE CLASS's moments, towns, laws' answers. Printed from wip/am/chk/hand/ka.in. -/
/-- a moment of the class in 51 cells; who isn't there stands nowhere -/
def oC (P : Nat) (c : Nat → Int32) : MO := fun i => if P ≤ i ∧ i < 5 then Int32.ofInt (-1) else if i < 25 then c (3 + i) else if i < 37 then (if bitAt (c 2) (i - 25) = true then Int32.ofInt 1 else Int32.ofInt 0) else if i < 49 then c (i - 9) else if i = 49 then c 0 else if i = 50 then c 1 else if i = 51 then c 2 &&& Int32.ofInt (-4096) else Int32.ofInt 0
/-! leaves -/
/-! the course's leaves -/
/-! THE CLASS's minutes and buckets. Printed from wip/am/chk/hand/kb.in. -/
/-! leaves of a moment -/
/-! the course -/
def gO (o p : Nat) (a b : Option Value) : List (Option Value) := [some (.ref 38), some (.ref o), some (.int (Int32.ofInt (p : Int))), a, b]
/-! THE CLASS's shelf; what is done. Printed from wip/am/chk/hand/kd.in. -/
/-! what is done -/
/-- the goal that SEND makes -/
def gS (m : MO) (p : Nat) (c : Int) : Int := if c = -1 ∨ Int32.ofInt c = m p then -2 else c
/-- SEND changes something -/
def oS (d : DR) (m : MO) (p c : Int) : Prop := (0 ≤ p ∧ p < (dP d : Int)) ∧ (c = -1 ∨ (0 ≤ c ∧ c < d.1)) ∧ ¬ Int32.ofInt (gS m p.toNat c) = m (5 + p.toNat)
/-! THE REFERENCE: what is done. Printed from wip/am/chk/hand/rz.in. -/
/-- the cups of a BUCKET lie in takesOf -/
def tk (σ : am_S) : Nat → Int32 := fun i => σ.1 82 i
/-! what is remembered -/
/-! what is done -/
/-! BOTH: the town, the moment, what is remembered and held, alike. Printed from wip/am/chk/hand/rw.in. -/
def aC (d : DR) (σ : am_S) (o b : Nat) : MO := oC (dP d) (fun i => σ.1 o (b + i))
/-! something is done: the class's shelf, the reference's history -/