/-! the setup goes into the reader -/
section
variable {M : xM}
theorem c_appT {a : Nat} (ha : a < 40) (hl : x_slen a ≤ 700) (h0 : M 1778 = 0) : f_X3_appendText a M = some (KC (x_slen a) (x_sb a) M) := by
  have key : ∀ (k i n : Nat), i + k = x_slen a → k < n → lp (fun _ _ => none) (fun k => fb_X3_appendText_c2 k a) n (nI i) (KC i (x_sb a) M) = some (KC (x_slen a) (x_sb a) M) := by
    intro k
    induction k with
    | zero =>
      intro i n hi hn
      obtain ⟨n, rfl⟩ : ∃ m, n = m + 1 := ⟨n - 1, by omega⟩
      have e : i = x_slen a := by omega
      subst e
      rw [lp_s]
      unfold fb_X3_appendText_c2
      rw [bd2_s (j_len a _), if_pos (nI_le (by omega) (by omega))]
    | succ k ih =>
      intro i n hi hn
      obtain ⟨n, rfl⟩ : ∃ m, n = m + 1 := ⟨n - 1, by omega⟩
      have := ih (i + 1) n (by omega) (by omega)
      rw [lp_s]
      generalize lp (fun _ _ => none) (fun k => fb_X3_appendText_c2 k a) n = K at this ⊢
      unfold fb_X3_appendText_c2
      rw [bd2_s (j_len a _), if_neg (nI_ge (by omega) (by omega)), bd2_s (j_char ha (by omega) (by omega) _), bd_s (c_appB (by omega)), usame rfl, nI_1]
      exact this
  have e0 : KC 0 (x_sb a) M = M := by
    funext z
    by_cases q : z = 1778
    · rw [q, KC_l, h0]; rfl
    · exact KC_o (by omega) q
  have := key (x_slen a) 0 FU (by omega) (FU_e _ (by omega))
  rw [e0] at this
  exact this
theorem B0_x : x_slen 0 = 181 ∧ ∀ j : Fin 181, x_sb 0 j.val = nI (B20 j.val) := by decide +kernel
/-- the class's reader behind its constructor's text -/
theorem c_first (h0 : M 1778 = 0) : ∃ M', f_X3_appendText 0 M = some M' ∧ CT 181 B20 M' ∧ ∀ z, z ≠ 1778 → (z < 1792 ∨ 1973 ≤ z) → M' z = M z := by
  have h := c_appT (a := 0) (by omega) (by rw [B0_x.1]; decide) h0
  rw [B0_x.1] at h
  refine ⟨_, h, ⟨KC_l, by decide, fun j hj => ?_⟩, fun z h1 h2 => KC_o (by omega) h1⟩
  have := B20_lt hj
  refine ⟨by omega, ?_⟩
  rw [KC_c hj, B0_x.2 ⟨j, hj⟩]
end

