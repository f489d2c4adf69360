section
variable {l : Nat} {B : Nat → Nat} {N : xM} {ns nb nf verb p : Nat} {u : xM}
theorem PRef_no {i a0 V : Nat} (h4 : verb ≠ 4 ∨ i ≠ 1) (h8 : verb ≠ 8) : PRef u verb i a0 V = false := by
  unfold PRef
  rw [decide_eq_false (show ¬ (verb = 4 ∧ i = 1) by omega), decide_eq_false h8, Bool.false_and, Bool.false_and]
  rfl
end

