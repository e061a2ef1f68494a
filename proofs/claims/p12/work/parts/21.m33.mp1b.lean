-- the facts of a state that are asked for most
-- isWhole(c)
-- nobody is there: onRung, widthsOf, widthsOn
theorem am_never {l : Launch} {KF : am_Kf} {y : MethodName} {cc : ByteArray} {maxL : Nat} {ret : Option FieldType} {d mc ms : Nat} : am_M l TB NB vwCl SH KF y cc maxL ret d mc ms (fun _ _ _ _ => False) := fun _ _ _ _ _ _ _ h => h.elim