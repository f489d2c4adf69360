def nz (y : Int32) : Bool := !(y == 0)
theorem nz_e {y : Int32} (h : nz y = true) : ¬ y = 0 := by
  unfold nz at h
  simpa using h
theorem none_ne {α : Type} {r : α} {P : Prop} (h : (none : Option α) = some r) : P := by cases h
def iush (x y : Int32) : Int32 := (x.toUInt32 >>> (y.toUInt32 &&& Int32.toUInt32 31)).toInt32
