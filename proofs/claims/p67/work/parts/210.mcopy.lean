/-! the model's copies -/
theorem ge125 {i : Nat} (h : i < 125) : ¬ (125 : Int32) ≤ nI i := nI_ge h (by decide)
theorem ge875 {i : Nat} (h : i < 875) : ¬ (875 : Int32) ≤ nI i := nI_ge h (by decide)
theorem cpn_up {a b : Nat} {M : xM} (h : a ≤ b) : ∀ n, (∀ k, k < n → cpn a b M n (a + k) = M (b + k)) ∧ ∀ z, (z < a ∨ a + n ≤ z) → cpn a b M n z = M z
  | 0 => ⟨fun k hk => absurd hk (Nat.not_lt_zero k), fun _ _ => rfl⟩
  | n + 1 => by
    obtain ⟨h1, h2⟩ := cpn_up (M := M) h n
    refine ⟨fun k hk => ?_, fun z hz => ?_⟩
    · show upd (cpn a b M n) (a + n) (cpn a b M n (b + n)) (a + k) = M (b + k)
      by_cases e : k = n
      · subst e; rw [us]; exact h2 _ (by omega)
      · rw [un (by omega)]; exact h1 k (by omega)
    · show upd (cpn a b M n) (a + n) (cpn a b M n (b + n)) z = M z
      rw [un (by omega)]; exact h2 z (by omega)
theorem cpn_wr {a b : Nat} {M : xM} (h : apartW a b) : cpn a b M 125 = wr a (win b M) M := by
  obtain ⟨h1, h2⟩ := cpn_spec (a := a) (b := b) (M := M) 125 (by unfold apartW at h; omega)
  funext z
  by_cases q : a ≤ z ∧ z < a + 125
  · rw [wr_in (z := z - a) (by omega) (by omega)]
    have := h1 (z - a) (by omega)
    rw [show a + (z - a) = z by omega] at this
    exact this
  · rw [wr_out (by omega)]
    exact h2 z (by omega)
section
variable {M : xM}
end

