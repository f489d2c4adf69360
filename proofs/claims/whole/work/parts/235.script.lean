/-! runScript -/
section
variable {mm mm' : Nat} {M N : xM}
theorem m_pushD {c : Nat} (hc : c ≤ 8) (e : M 2509 = nI c) : ∃ d, ((d = 1 ∧ c = 8) ∨ (d = 0 ∧ c < 8)) ∧ ∃ M', f_X7_pushAside M = some M' ∧ M' 2509 = nI (c + 1 - d) ∧ (∀ j z, z < 125 → j < c - d → M' (2895 + 125 * j + z) = M (2895 + 125 * (j + d) + z)) ∧ (∀ z, z < 125 → M' (2895 + 125 * (c - d) + z) = M (2645 + z)) ∧ ∀ z, z ≠ 2509 → (z < 2895 ∨ 3895 ≤ z) → M' z = M z := by
  obtain ⟨M', h1, h2, h3, h4, h5⟩ := m_push hc e
  by_cases q : c = 8
  · subst q
    simp only [↓reduceIte] at h2 h3 h4
    exact ⟨1, Or.inl ⟨rfl, rfl⟩, M', h1, h2, h3, h4, h5⟩
  · simp only [if_neg q] at h2 h3 h4
    exact ⟨0, Or.inr ⟨rfl, by omega⟩, M', h1, h2, h3, h4, h5⟩
theorem s_rememberP (hM : RM mm M) (hH : RH mm M) : ∃ M1, f_X6_remember M = some M1 ∧ (∀ z, (z < 384 ∨ 1408 ≤ z) → z ≠ 1669 → z ≠ 1670 → M1 z = M z) ∧
    ∀ N, (∀ z, (384 ≤ z ∧ z < 1408) ∨ z = 1669 ∨ z = 1670 → N z = M1 z) → (∀ z, z = 2509 ∨ (2895 ≤ z ∧ z < 3895) → N z = M z) → (∀ z, z < 125 → N (2645 + z) = M (2520 + z)) →
      ∃ N1, f_X7_pushAside N = some N1 ∧ (∀ z, z ≠ 2509 → (z < 2895 ∨ 3895 ≤ z) → N1 z = N z) ∧ ∀ P, (∀ z, (z = 1669 ∨ z = 1670 ∨ z = 2509 ∨ (384 ≤ z ∧ z < 1408) ∨ (2895 ≤ z ∧ z < 3895)) → P z = N1 z) → RH mm P := by
  obtain ⟨ns, nb, nf, g1, g2, g3, g4⟩ := hM
  obtain ⟨p, c, hp, hc, h1, h2, h3, h4⟩ := hH
  obtain ⟨q, u, hq1, hq2, e2, hq3⟩ := c_remember hp hc h1 h2 g1
  obtain ⟨d0, hd0⟩ : ∃ d, (d = 1 ∧ c = 8) ∨ (d = 0 ∧ c < 8) := by
    by_cases q : c = 8
    · exact ⟨1, Or.inl ⟨rfl, q⟩⟩
    · exact ⟨0, Or.inr ⟨rfl, by omega⟩⟩
  refine ⟨_, hq3 d0 hd0, fun z a b c => by rw [un c, un b, wr_out (by omega)], fun N k1 k2 k3 => ?_⟩
  have e9 : N 2509 = nI c := by rw [k2 _ (by omega), h3]
  obtain ⟨d, hd, N1, r1, r2, r3, r4, r5⟩ := m_pushD hc e9
  have hdd : d0 = d := by omega
  subst hdd
  refine ⟨N1, r1, r5, fun P hP => ?_⟩
  refine ⟨q, c + 1 - d0, hq1, by omega, ?_, ?_, ?_, fun j hj => ?_⟩
  · rw [hP _ (by omega), r5 _ (by omega) (by omega), k1 _ (by omega), un (by omega), us]
  · rw [hP _ (by omega), r5 _ (by omega) (by omega), k1 _ (by omega), us]
  · rw [hP _ (by omega), r2]
  · have cls : ∀ z, (384 ≤ z ∧ z < 1408) → P z = wr (384 + 128 * p) u M z := fun z hz => by
      rw [hP _ (by omega), r5 _ (by omega) (by omega), k1 _ (by omega), un (by omega), un (by omega)]
    by_cases hl : j = c - d0
    · have ei : (q + 8 - (c + 1 - d0) + j) % 8 = p := by omega
      rw [ei]
      refine Mk2.of g1 g2 g3 g4 (u' := win (384 + 128 * p) P) ?_ (v' := win (2895 + 125 * j) P) ?_
      · intro z hz
        have hz2 := Lv_lt g1.s.2 g1.b.2 g1.f.2.2 hz
        show win 0 M z = P (384 + 128 * p + z)
        rw [cls _ (by omega), wr_in (z := z) rfl hz2, e2 z hz]
      · intro z hz
        have hz2 := Lv_lt g1.s.2 g1.b.2 g1.f.2.2 hz
        show M (2520 + z) = P (2895 + 125 * j + z)
        rw [hP _ (by omega), hl, r4 z hz2, k3 z hz2]
    · have ei : (q + 8 - (c + 1 - d0) + j) % 8 = (p + 8 - c + (j + d0)) % 8 := by omega
      have en : (p + 8 - c + (j + d0)) % 8 ≠ p := by omega
      have en8 : (p + 8 - c + (j + d0)) % 8 < 8 := by omega
      rw [ei]
      refine Mk2_cong (h4 (j + d0) (by omega)) (fun z hz => ?_) (fun z hz => ?_)
      · show P (384 + 128 * ((p + 8 - c + (j + d0)) % 8) + z) = M (384 + 128 * ((p + 8 - c + (j + d0)) % 8) + z)
        generalize (p + 8 - c + (j + d0)) % 8 = y at en en8 ⊢
        rw [cls _ (by omega), wr_out (by omega)]
      · show P (2895 + 125 * j + z) = M (2895 + 125 * (j + d0) + z)
        rw [hP _ (by omega), r3 j z hz (by omega), k2 _ (by omega)]
theorem RB_CT (h : RB M) : ∃ l B, CT l B M ∧ MT l B M := by
  obtain ⟨l, hl, h1, h2, h3⟩ := h
  refine ⟨l, fun j => (M (4252 + j)).toNatClampNeg, ⟨h1, hl, fun j hj => ?_⟩, ⟨h2, hl, fun j hj => ?_⟩⟩
  · obtain ⟨x, hx, e1, e2⟩ := h3 j hj
    simp only [e1, cl (show x < 2147483648 by omega)]
    exact ⟨hx, e2⟩
  · obtain ⟨x, hx, e1, e2⟩ := h3 j hj
    simp only [e1, cl (show x < 2147483648 by omega)]
    exact ⟨hx, trivial⟩
/-- the model begins a text, its market kept -/
theorem m_begin {l : Nat} {B : Nat → Nat} {X : xM} (h : MT l B X) : ∃ N2, bd (f_X7_startTrial (upd X 2504 0)) (fun M2 => f_X7_startText M2) = some N2 ∧ NXt l B N2 0 ∧ N2 2502 = 0 ∧ N2 2503 = -1 ∧ N2 2504 = 0 ∧ (∀ z, z < 125 → N2 (2770 + z) = X (2520 + z)) ∧ ∀ z, z ≠ 2502 → z ≠ 2503 → z ≠ 2504 → (z < 2515 ∨ 2518 < z) → (z < 2770 ∨ 2895 ≤ z) → N2 z = X z := by
  have hm : MT l B (upd (upd (upd (wr 2770 (win 2520 (upd X 2504 0)) (upd X 2504 0)) 2502 0) 2503 (-1)) 2515 0) := h.keep (fun z hz => by rw [un (by omega), un (by omega), un (by omega), wr_out (by omega), un (by omega)])
  obtain ⟨N2, b0, b1, b2⟩ := m_next (p := 0) hm us (Nat.zero_le _)
  refine ⟨N2, ?_, b1, ?_, ?_, ?_, fun z hz => ?_, fun z x1 x2 x3 x4 x5 => ?_⟩
  · rw [bd_s m_start]
    unfold f_X7_startText
    rw [bd_s b0]
  · rw [b2 _ (by omega) (by omega) (by omega) (by omega), un (by omega), un (by omega), us]
  · rw [b2 _ (by omega) (by omega) (by omega) (by omega), un (by omega), us]
  · rw [b2 _ (by omega) (by omega) (by omega) (by omega), un (by omega), un (by omega), un (by omega), wr_out (by omega), us]
  · rw [b2 _ (by omega) (by omega) (by omega) (by omega), un (by omega), un (by omega), un (by omega), wr_in (z := z) rfl hz]
    show upd X 2504 0 (2520 + z) = _
    rw [un (by omega)]
  · rw [b2 _ (by omega) (by omega) (by omega) (by omega), un (by omega), un (by omega), un (by omega), wr_out (by omega), un (by omega)]
theorem m_scriptL {r : Int32} : f_X7_runScript_c35 r 0 N = bd (f_X7_pushAside (wr 2645 (win 2770 N) N)) (fun M3 => some (r, M3)) := by
  have key : ∀ (k i n : Nat), i + k = 125 → k < n → lp (fun _ _ _ => none) (fun k => fb_X7_runScript_c35 k) n r (nI i) (cpn 2645 2770 N i) = bd (f_X7_pushAside (cpn 2645 2770 N 125)) (fun M3 => some (r, M3)) := by
    intro k
    induction k with
    | zero =>
      intro i n hi hn
      obtain ⟨n, rfl⟩ : ∃ m, n = m + 1 := ⟨n - 1, by omega⟩
      have e : i = 125 := by omega
      subst e
      rw [lp_s]
      unfold fb_X7_runScript_c35
      rw [if_pos (by decide)]
    | succ k ih =>
      intro i n hi hn
      obtain ⟨n, rfl⟩ : ∃ m, n = m + 1 := ⟨n - 1, by omega⟩
      have := ih (i + 1) n (by omega) (by omega)
      rw [lp_s]
      generalize lp (fun _ _ _ => none) (fun k => fb_X7_runScript_c35 k) n = K at this ⊢
      unfold fb_X7_runScript_c35
      rw [if_neg (ge125 (by omega)), gd_t (inb_nI (by omega) (by omega)), gd_t (inb_nI (by omega) (by omega)), cl (by omega), nI_1]
      exact this
  rw [← cpn_wr (Or.inl (by decide))]
  exact key 125 0 FU rfl (FU_e _ (by omega))
end
