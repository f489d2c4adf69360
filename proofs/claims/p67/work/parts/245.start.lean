/-! the start of both -/
section
variable {l : Nat} {B : Nat → Nat} {M : xM}
end
/-- a text of the model's, for the class's run alone -/
def X20 : xM := fun z => if z = 2501 then nI 181 else nI (B20 (z - 4252))
theorem B20_lt {j : Nat} (h : j < 181) : B20 j < 128 := (B20_x.2 ⟨j, h⟩).2
