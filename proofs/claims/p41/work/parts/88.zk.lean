/-! WHAT A LAW TELLS, by the class. Printed from wip/am/chk/hand/jb.in. -/
def wl (k nx tp tn : Int32) : List (Option Value) := [some (.ref 21), some (.int k), some (.int nx), some (.int tp), some (.int tn), none, none, none, none]
section
variable {post : Option Value → am_S → Prop} {AA : Nat → List (Option Value) → List Value → Nat → am_S → Prop} {law : Int32}
end