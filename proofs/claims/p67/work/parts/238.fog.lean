/-! a setup's fog, its head -/
def HS (n a b c : Nat) (f : Nat → Nat) (u : xM) : Prop := u 9 = 0 ∧ u 10 = 0 ∧ u 8 = nI n ∧ u 0 = 0 ∧ u 7 = nI c ∧ u 5 = nI a ∧ u 6 = nI b ∧ u 1 = 0 ∧ u 2 = 1 ∧ u 3 = 0 ∧ u 4 = 0 ∧ ∀ i, i < n → f i ≤ 9 ∧ u (11 + i) = nI (f i)
theorem HS.add {n a b c V : Nat} {f : Nat → Nat} {u w : xM} (h : HS n a b c f u) (hV : V ≤ 9) (hn : n < 12) (e : ∀ z, z < 125 → z ≠ 8 → z ≠ 11 + n → w z = u z) (e8 : w 8 = nI (n + 1)) (en : w (11 + n) = nI V) : HS (n + 1) a b c (setf f n V) w := by
  obtain ⟨h1, h2, h3, h4, h5, h6, h7, h8, h9, h10, h11, h12⟩ := h
  refine ⟨by rw [e _ (by omega) (by omega) (by omega), h1], by rw [e _ (by omega) (by omega) (by omega), h2], e8, by rw [e _ (by omega) (by omega) (by omega), h4], by rw [e _ (by omega) (by omega) (by omega), h5], by rw [e _ (by omega) (by omega) (by omega), h6], by rw [e _ (by omega) (by omega) (by omega), h7], by rw [e _ (by omega) (by omega) (by omega), h8], by rw [e _ (by omega) (by omega) (by omega), h9], by rw [e _ (by omega) (by omega) (by omega), h10], by rw [e _ (by omega) (by omega) (by omega), h11], fun i hi => ?_⟩
  unfold setf
  by_cases q : i = n
  · subst q
    rw [if_pos rfl]
    exact ⟨hV, en⟩
  · rw [if_neg q, e _ (by omega) (by omega) (by omega)]
    exact h12 i (by omega)
theorem HS_cong {n a b c : Nat} {f : Nat → Nat} {u w : xM} (h : HS n a b c f u) (hn : n ≤ 12) (e : ∀ z, z < 125 → w z = u z) : HS n a b c f w := by
  obtain ⟨h1, h2, h3, h4, h5, h6, h7, h8, h9, h10, h11, h12⟩ := h
  exact ⟨by rw [e _ (by omega), h1], by rw [e _ (by omega), h2], by rw [e _ (by omega), h3], by rw [e _ (by omega), h4], by rw [e _ (by omega), h5], by rw [e _ (by omega), h6], by rw [e _ (by omega), h7], by rw [e _ (by omega), h8], by rw [e _ (by omega), h9], by rw [e _ (by omega), h10], by rw [e _ (by omega), h11], fun i hi => by rw [e _ (by omega)]; exact h12 i hi⟩
theorem HS_MM {n a b c : Nat} {f : Nat → Nat} {u v : xM} (h : HS n a b c f u) (h' : HS n a b c f v) (hn : 1 ≤ n) (hn2 : n ≤ 12) (hb : 1 ≤ b) (hb2 : b ≤ 60) (hc : c < 100) : MM 0 0 0 n u v := by
  obtain ⟨h1, h2, h3, h4, h5, h6, h7, h8, h9, h10, h11, h12⟩ := h
  obtain ⟨k1, k2, k3, k4, k5, k6, k7, k8, k9, k10, k11, k12⟩ := h'
  refine ⟨⟨⟨h1, by omega⟩, ⟨h2, by omega⟩, ⟨h3, hn, hn2⟩, ⟨0, by omega, h4⟩, ⟨0, b, by omega, hb, hb2, h10, h7, Or.inr rfl⟩, Or.inl h8, Or.inr h9, ⟨c, hc, h5⟩, fun i hi => ⟨f i, (h12 i hi).1, (h12 i hi).2⟩, fun i hi => absurd hi (Nat.not_lt_zero i), fun i hi => absurd hi (Nat.not_lt_zero i)⟩, ⟨fun i hi => absurd hi (Nat.not_lt_zero i), fun i hi => absurd hi (Nat.not_lt_zero i), Nat.le_refl _, fun i hi => absurd hi (Nat.not_lt_zero i)⟩, ⟨fun i hi => absurd hi (Nat.not_lt_zero i), 0, by omega, h11⟩, fun z hz => ?_⟩
  have hz' : z < 11 + n := by
    unfold Lv at hz
    omega
  rcases (show z = 0 ∨ z = 1 ∨ z = 2 ∨ z = 3 ∨ z = 4 ∨ z = 5 ∨ z = 6 ∨ z = 7 ∨ z = 8 ∨ z = 9 ∨ z = 10 ∨ 11 ≤ z by omega) with rfl | rfl | rfl | rfl | rfl | rfl | rfl | rfl | rfl | rfl | rfl | q
  · rw [h4, k4]
  · rw [h8, k8]
  · rw [h9, k9]
  · rw [h10, k10]
  · rw [h11, k11]
  · rw [h6, k6]
  · rw [h7, k7]
  · rw [h5, k5]
  · rw [h3, k3]
  · rw [h1, k1]
  · rw [h2, k2]
  · have x1 := (h12 (z - 11) (by omega)).2
    have x2 := (k12 (z - 11) (by omega)).2
    rw [show 11 + (z - 11) = z by omega] at x1 x2
    rw [x1, x2]
section
variable {l : Nat} {B : Nat → Nat} {M N : xM} {p a b c : Nat}
end

