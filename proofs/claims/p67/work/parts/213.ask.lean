/-! the asking calls that count or look -/
section
variable {mm : Nat} {M : xM}
theorem rng_nI {x : Int32} {n : Nat} (hn : n < 1073741824) (h : (0 : Int32) ≤ x ∧ x ≤ nI n) : ∃ j, j ≤ n ∧ x = nI j :=
  nI_of2 (M := nI n) (nI_toInt (by omega)) (by rw [Int32.not_lt]; exact h.1) h.2
end

