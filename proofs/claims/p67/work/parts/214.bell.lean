theorem wr_wr {b : Nat} {x v T : xM} : wr b x (wr b v T) = wr b x T := by
  funext z
  by_cases q : b ≤ z ∧ z < b + 125
  · rw [wr_in (z := z - b) (by omega) (by omega), wr_in (z := z - b) (by omega) (by omega)]
  · rw [wr_out (by omega), wr_out (by omega), wr_out (by omega)]
theorem win_out {a b : Nat} {v T : xM} (h : apartW a b) : ∀ z, z < 125 → win a (wr b v T) z = win a T z := by
  intro z hz
  unfold apartW at h
  exact wr_out (by omega)
theorem wr_same {b : Nat} {x y T : xM} (h : ∀ z, z < 125 → x z = y z) : wr b x T = wr b y T := by
  funext z
  by_cases q : b ≤ z ∧ z < b + 125
  · rw [wr_in (z := z - b) (by omega) (by omega), wr_in (z := z - b) (by omega) (by omega)]
    exact h _ (by omega)
  · rw [wr_out (by omega), wr_out (by omega)]
section
variable {mm ns nb nf : Nat} {u v M T : xM}
end
section
variable {mm : Nat} {M : xM}
end
section
variable {mm ns nb nf : Nat} {u v M T : xM}
end
section
variable {mm : Nat} {M : xM}
end

