/-! the model's minute, over its window at 2520 -/
theorem utwice (f : xM) (i : Nat) (x y : Int32) : upd (upd f i x) i y = upd f i y := by
  funext z
  by_cases h1 : z = i
  · subst h1
    rw [us, us]
  · rw [un h1, un h1, un h1]
section
variable {mm ns nb nf i s : Nat} {u N : xM}
theorem ixb {k : Nat} : (77 + (8 * nI i)) + nI k = nI (77 + 8 * i + k) := by
  rw [show (77 : Int32) = nI 77 from rfl, show (8 : Int32) = nI 8 from rfl, pk_mul, nI_add, nI_add]
theorem ixs {k : Nat} : (23 + (9 * nI i)) + nI k = nI (23 + 9 * i + k) := by
  rw [show (23 : Int32) = nI 23 from rfl, show (9 : Int32) = nI 9 from rfl, pk_mul, nI_add, nI_add]
end

