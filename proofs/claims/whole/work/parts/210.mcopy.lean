/-! the model's copies -/
theorem ge125 {i : Nat} (h : i < 125) : ¬ (125 : Int32) ≤ nI i := nI_ge h (by decide)
theorem ge875 {i : Nat} (h : i < 875) : ¬ (875 : Int32) ≤ nI i := nI_ge h (by decide)
theorem cpn_up {a b : Nat} {M : xM} (h : a ≤ b) : ∀ n, (∀ k, k < n → cpn a b M n (a + k) = M (b + k)) ∧ ∀ z, (z < a ∨ a + n ≤ z) → cpn a b M n z = M z
  | 0 => ⟨fun k hk => absurd hk (Nat.not_lt_zero k), fun _ _ => rfl⟩
  | n + 1 => by
    obtain ⟨h1, h2⟩ := cpn_up (M := M) h n
    refine ⟨fun k hk => ?_, fun z hz => ?_⟩
    · show upd (cpn a b M n) (a + n) (cpn a b M n (b + n)) (a + k) = M (b + k)
      by_cases e : k = n
      · subst e; rw [us]; exact h2 _ (by omega)
      · rw [un (by omega)]; exact h1 k (by omega)
    · show upd (cpn a b M n) (a + n) (cpn a b M n (b + n)) z = M z
      rw [un (by omega)]; exact h2 z (by omega)
theorem cpn_wr {a b : Nat} {M : xM} (h : apartW a b) : cpn a b M 125 = wr a (win b M) M := by
  obtain ⟨h1, h2⟩ := cpn_spec (a := a) (b := b) (M := M) 125 (by unfold apartW at h; omega)
  funext z
  by_cases q : a ≤ z ∧ z < a + 125
  · rw [wr_in (z := z - a) (by omega) (by omega)]
    have := h1 (z - a) (by omega)
    rw [show a + (z - a) = z by omega] at this
    exact this
  · rw [wr_out (by omega)]
    exact h2 z (by omega)
section
variable {M : xM}
theorem m_start : f_X7_startTrial M = some (wr 2770 (win 2520 M) M) := by
  have key : ∀ (k i n : Nat), i + k = 125 → k < n → lp (fun _ _ => none) (fun k => fb_X7_startTrial_c2 k) n (nI i) (cpn 2770 2520 M i) = some (cpn 2770 2520 M 125) := by
    intro k
    induction k with
    | zero =>
      intro i n hi hn
      obtain ⟨n, rfl⟩ : ∃ m, n = m + 1 := ⟨n - 1, by omega⟩
      have e : i = 125 := by omega
      subst e
      rw [lp_s]
      unfold fb_X7_startTrial_c2
      rw [if_pos (by decide)]
    | succ k ih =>
      intro i n hi hn
      obtain ⟨n, rfl⟩ : ∃ m, n = m + 1 := ⟨n - 1, by omega⟩
      have := ih (i + 1) n (by omega) (by omega)
      rw [lp_s]
      generalize lp (fun _ _ => none) (fun k => fb_X7_startTrial_c2 k) n = K at this ⊢
      unfold fb_X7_startTrial_c2
      rw [if_neg (ge125 (by omega)), gd_t (inb_nI (by omega) (by omega)), gd_t (inb_nI (by omega) (by omega)), cl (by omega), nI_1]
      exact this
  unfold f_X7_startTrial f_X7_startTrial_c2
  rw [← cpn_wr (Or.inr (by decide))]
  exact key 125 0 FU rfl (FU_e _ (by omega))
theorem m_leave {r : Int32} : f_X7_leaveTrial r M = some (r, wr 2520 (win 2770 M) M) := by
  have key : ∀ (k i n : Nat), i + k = 125 → k < n → lp (fun _ _ => none) (fun k => fb_X7_leaveTrial_c2 k r) n (nI i) (cpn 2520 2770 M i) = some (r, cpn 2520 2770 M 125) := by
    intro k
    induction k with
    | zero =>
      intro i n hi hn
      obtain ⟨n, rfl⟩ : ∃ m, n = m + 1 := ⟨n - 1, by omega⟩
      have e : i = 125 := by omega
      subst e
      rw [lp_s]
      unfold fb_X7_leaveTrial_c2
      rw [if_pos (by decide)]
    | succ k ih =>
      intro i n hi hn
      obtain ⟨n, rfl⟩ : ∃ m, n = m + 1 := ⟨n - 1, by omega⟩
      have := ih (i + 1) n (by omega) (by omega)
      rw [lp_s]
      generalize lp (fun _ _ => none) (fun k => fb_X7_leaveTrial_c2 k r) n = K at this ⊢
      unfold fb_X7_leaveTrial_c2
      rw [if_neg (ge125 (by omega)), gd_t (inb_nI (by omega) (by omega)), gd_t (inb_nI (by omega) (by omega)), cl (by omega), nI_1]
      exact this
  unfold f_X7_leaveTrial f_X7_leaveTrial_c2
  rw [← cpn_wr (Or.inl (by decide))]
  exact key 125 0 FU rfl (FU_e _ (by omega))
/-- aside into the history's slot at its end -/
theorem m_push0 {c : Nat} (hc : c < 8) (e : M 2509 = nI c) : f_X7_pushAside_c49 M = some (upd (wr (2895 + 125 * c) (win 2645 M) M) 2509 (nI (c + 1))) := by
  have ix : ∀ i, (125 : Int32) * nI c + nI i = nI (125 * c + i) := fun i => by rw [show (125 : Int32) = nI 125 from rfl, pk_mul, nI_add]
  have h9 : ∀ i, i ≤ 125 → cpn (2895 + 125 * c) 2645 M i 2509 = nI c := fun i hi => by rw [(cpn_spec (a := 2895 + 125 * c) (b := 2645) (M := M) i (by omega)).2 _ (by omega), e]
  have key : ∀ (k i n : Nat), i + k = 125 → k < n → lp (fun _ _ => none) (fun k => fb_X7_pushAside_c51 k) n (nI i) (cpn (2895 + 125 * c) 2645 M i) = some (upd (cpn (2895 + 125 * c) 2645 M 125) 2509 (nI (c + 1))) := by
    intro k
    induction k with
    | zero =>
      intro i n hi hn
      obtain ⟨n, rfl⟩ : ∃ m, n = m + 1 := ⟨n - 1, by omega⟩
      have e : i = 125 := by omega
      subst e
      rw [lp_s]
      unfold fb_X7_pushAside_c51
      rw [if_pos (by decide), h9 125 (by omega), nI_1]
    | succ k ih =>
      intro i n hi hn
      obtain ⟨n, rfl⟩ : ∃ m, n = m + 1 := ⟨n - 1, by omega⟩
      have := ih (i + 1) n (by omega) (by omega)
      rw [lp_s]
      generalize lp (fun _ _ => none) (fun k => fb_X7_pushAside_c51 k) n = K at this ⊢
      unfold fb_X7_pushAside_c51
      rw [if_neg (ge125 (by omega)), gd_t (inb_nI (by omega) (by omega)), h9 i (by omega), ix, gd_t (inb_nI (by omega) (by omega)), cl (by omega), cl (by omega), nI_1, ← Nat.add_assoc]
      exact this
  unfold f_X7_pushAside_c49 f_X7_pushAside_c51
  rw [← cpn_wr (Or.inr (by omega))]
  exact key 125 0 FU rfl (FU_e _ (by omega))
theorem m_push8 (e : M 2509 = nI 8) : f_X7_pushAside M = f_X7_pushAside_c49 (upd (cpn 2895 3020 M 875) 2509 (nI 7)) := by
  have h9 : cpn 2895 3020 M 875 2509 = nI 8 := by rw [(cpn_up (a := 2895) (b := 3020) (M := M) (by omega) 875).2 _ (by omega), e]
  have key : ∀ (k i n : Nat), i + k = 875 → k < n → lp (fun _ _ => none) (fun k => fb_X7_pushAside_c11 k) n (nI i) (cpn 2895 3020 M i) = f_X7_pushAside_c49 (upd (cpn 2895 3020 M 875) 2509 (nI 7)) := by
    intro k
    induction k with
    | zero =>
      intro i n hi hn
      obtain ⟨n, rfl⟩ : ∃ m, n = m + 1 := ⟨n - 1, by omega⟩
      have e : i = 875 := by omega
      subst e
      rw [lp_s]
      unfold fb_X7_pushAside_c11
      rw [if_pos (by decide), h9]
      rfl
    | succ k ih =>
      intro i n hi hn
      obtain ⟨n, rfl⟩ : ∃ m, n = m + 1 := ⟨n - 1, by omega⟩
      have := ih (i + 1) n (by omega) (by omega)
      have e1 : nI i + 125 = nI (i + 125) := nI_add i 125
      rw [lp_s]
      generalize lp (fun _ _ => none) (fun k => fb_X7_pushAside_c11 k) n = K at this ⊢
      unfold fb_X7_pushAside_c11
      rw [if_neg (ge875 (by omega)), e1, gd_t (inb_nI (by omega) (by omega)), gd_t (inb_nI (by omega) (by omega)), cl (by omega), cl (by omega), nI_1, show 2895 + (i + 125) = 3020 + i by omega]
      exact this
  unfold f_X7_pushAside f_X7_pushAside_c11
  rw [if_pos (by rw [e]; rfl)]
  exact key 875 0 FU rfl (FU_e _ (by omega))
/-- aside joins the history: its slots, its length, and nothing else -/
theorem m_push {c : Nat} (hc : c ≤ 8) (e : M 2509 = nI c) : ∃ M', f_X7_pushAside M = some M' ∧ M' 2509 = nI (if c = 8 then 8 else c + 1) ∧ (∀ j z, z < 125 → j < (if c = 8 then 7 else c) → M' (2895 + 125 * j + z) = M (2895 + 125 * (if c = 8 then j + 1 else j) + z)) ∧ (∀ z, z < 125 → M' (2895 + 125 * (if c = 8 then 7 else c) + z) = M (2645 + z)) ∧ ∀ z, z ≠ 2509 → (z < 2895 ∨ 3895 ≤ z) → M' z = M z := by
  by_cases q : c = 8
  · subst q
    obtain ⟨h1, h2⟩ := cpn_up (a := 2895) (b := 3020) (M := M) (by omega) 875
    rw [m_push8 e, m_push0 (c := 7) (by omega) us]
    refine ⟨_, rfl, us, fun j z hz hj => ?_, fun z hz => ?_, fun z hz h => ?_⟩
    · simp only [↓reduceIte] at hj ⊢
      rw [un (by omega), wr_out (by omega), un (by omega)]
      have := h1 (125 * j + z) (by omega)
      rw [show 2895 + (125 * j + z) = 2895 + 125 * j + z by omega, show 3020 + (125 * j + z) = 2895 + 125 * (j + 1) + z by omega] at this
      exact this
    · simp only [↓reduceIte]
      rw [un (by omega), wr_in (z := z) (by omega) hz]
      unfold win
      rw [un (by omega), h2 _ (by omega)]
    · rw [un hz, wr_out (by omega), un hz, h2 _ (by omega)]
  · have hn : f_X7_pushAside M = f_X7_pushAside_c49 M := by
      unfold f_X7_pushAside
      rw [if_neg]
      rw [e]
      exact fun h => q ((nI_eq (b := 8) (by omega) (by omega)).mp h)
    rw [hn, m_push0 (c := c) (by omega) e]
    refine ⟨_, rfl, ?_, fun j z hz hj => ?_, fun z hz => ?_, fun z hz h => ?_⟩
    · rw [us, if_neg q]
    · rw [if_neg q] at hj
      rw [if_neg q, un (by omega), wr_out (by omega)]
    · rw [if_neg q, un (by omega), wr_in (z := z) (by omega) hz]
      rfl
    · rw [un hz, wr_out (by omega)]
theorem m_record {c : Nat} (hc : c ≤ 8) (e : M 2509 = nI c) : ∃ M', f_X7_record M = some M' ∧ M' 2509 = nI (if c = 8 then 8 else c + 1) ∧ (∀ j z, z < 125 → j < (if c = 8 then 7 else c) → M' (2895 + 125 * j + z) = M (2895 + 125 * (if c = 8 then j + 1 else j) + z)) ∧ (∀ z, z < 125 → M' (2895 + 125 * (if c = 8 then 7 else c) + z) = M (2520 + z)) ∧ ∀ z, z ≠ 2509 → (z < 2895 ∨ 3895 ≤ z) → (z < 2645 ∨ 2770 ≤ z) → M' z = M z := by
  have key : ∀ (k i n : Nat), i + k = 125 → k < n → lp (fun _ _ => none) (fun k => fb_X7_record_c2 k) n (nI i) (cpn 2645 2520 M i) = bd (f_X7_pushAside (cpn 2645 2520 M 125)) (fun M3 => some M3) := by
    intro k
    induction k with
    | zero =>
      intro i n hi hn
      obtain ⟨n, rfl⟩ : ∃ m, n = m + 1 := ⟨n - 1, by omega⟩
      have e : i = 125 := by omega
      subst e
      rw [lp_s]
      unfold fb_X7_record_c2
      rw [if_pos (by decide)]
    | succ k ih =>
      intro i n hi hn
      obtain ⟨n, rfl⟩ : ∃ m, n = m + 1 := ⟨n - 1, by omega⟩
      have := ih (i + 1) n (by omega) (by omega)
      rw [lp_s]
      generalize lp (fun _ _ => none) (fun k => fb_X7_record_c2 k) n = K at this ⊢
      unfold fb_X7_record_c2
      rw [if_neg (ge125 (by omega)), gd_t (inb_nI (by omega) (by omega)), gd_t (inb_nI (by omega) (by omega)), cl (by omega), nI_1]
      exact this
  have h0 : f_X7_record M = bd (f_X7_pushAside (wr 2645 (win 2520 M) M)) (fun M3 => some M3) := by
    unfold f_X7_record f_X7_record_c2
    rw [← cpn_wr (Or.inr (by decide))]
    exact key 125 0 FU rfl (FU_e _ (by omega))
  obtain ⟨M', h1, h2, h3, h4, h5⟩ := m_push (M := wr 2645 (win 2520 M) M) hc (by rw [wr_out (by omega), e])
  refine ⟨M', by rw [h0, bd_s h1], h2, fun j z hz hj => ?_, fun z hz => ?_, fun z a b c => ?_⟩
  · rw [h3 j z hz hj, wr_out (by omega)]
  · rw [h4 z hz, wr_in (z := z) rfl hz]
    rfl
  · rw [h5 z a b, wr_out (by omega)]
end
