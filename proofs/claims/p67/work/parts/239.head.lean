/-! a setup's head, whole -/
section
variable {l : Nat} {B : Nat → Nat} {M N : xM} {p : Nat}
theorem bdS {o : Option (Int32 × xM)} {M' : xM} {g : xM → Option (Int32 × xM)} (h : o = some (1, M')) : bd2 o (fun r M => if r = 0 then some (0, M) else g M) = g M' := by
  rw [h]
  rfl
theorem w9 : ∀ v, v < 1000000 → ((nI v ≤ (9 : Int32)) = (v < 10)) := fun v hv => hi_c (h := 9) rfl (by omega) hv
theorem w60 : ∀ v, v < 1000000 → ((nI v ≤ (60 : Int32)) = (v < 61)) := fun v hv => hi_c (h := 60) rfl (by omega) hv
theorem w99 : ∀ v, v < 1000000 → ((nI v ≤ (99 : Int32)) = (v < 100)) := fun v hv => hi_c (h := 99) rfl (by omega) hv
end

