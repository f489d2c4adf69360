section
variable {mm : Nat} {M : xM}
theorem w0 {z : Nat} : win 0 M z = M z := by unfold win; rw [Nat.zero_add]
theorem rng_in {j n : Nat} (h : j < n) (hn : n < 1073741824) : (0 : Int32) ≤ nI j ∧ nI j ≤ nI n - 1 := by
  rw [show nI n - 1 = nI (n - 1) from pk_sub (b := 1) (by omega)]
  exact ⟨nI_pos' (by omega), nI_le (by omega) (by omega)⟩
theorem rng_out {x : Int32} {n : Nat} (h : x < 0 ∨ nI n ≤ x) (hn : n < 1073741824) : ¬ ((0 : Int32) ≤ x ∧ x ≤ nI n - 1) := by
  rintro ⟨a, b⟩
  rcases h with h | h
  · exact absurd a (by rw [Int32.not_le]; exact h)
  · have h1 := Int32.le_iff_toInt_le.mp h
    have h2 := Int32.le_iff_toInt_le.mp b
    have h3 := pk_sub_toInt (a := n) (b := 1) (by omega) (by omega)
    rw [nI_toInt (by omega)] at h1
    have h4 : (nI n - nI 1).toInt = (nI n - 1).toInt := rfl
    omega
theorem ixC (x : Int32) {n : Nat} (hn : n < 2147483648) : (x < 0 ∨ nI n ≤ x) ∨ ∃ j : Nat, j < n ∧ x = nI j := by
  rcases pk_ix x (n := n) (by omega) with h | h | h
  · exact Or.inl (Or.inl h)
  · exact Or.inl (Or.inr h)
  · exact Or.inr h
end

