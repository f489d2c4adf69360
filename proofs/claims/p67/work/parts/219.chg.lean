/-! the changes -/
section
variable {mm : Nat} {M : xM}
theorem up0 {c : Nat} {x : Int32} {N : xM} (hc : c < 125) : upd N c x = wr 0 (upd (win 0 N) c x) N := by
  rw [← uw_in (b := 0) (a := c) (z := c) (by omega) hc, wr_win]
theorem rng1 {x : Int32} {n : Nat} (hn : n < 1073741824) (h : (1 : Int32) ≤ x ∧ x ≤ nI n) : ∃ j, 1 ≤ j ∧ j ≤ n ∧ x = nI j := by
  have h0 : (0 : Int32) ≤ x := Int32.le_trans (show (0 : Int32) ≤ 1 by decide) h.1
  obtain ⟨j, hj, rfl⟩ := rng_nI hn ⟨h0, h.2⟩
  refine ⟨j, ?_, hj, rfl⟩
  exact (nI_leI (a := 1) (by omega) (by omega)).mp h.1
end

