/-! restore -/
section
variable {mm : Nat} {M : xM}
theorem m_restL {N : xM} {q : Nat} (hq : q < 2) : f_X7_restore_c37 (nI q) 0 N = some (N (3895 + 125 * q), upd (wr 2520 (win (3895 + 125 * q) N) N) 2509 0) := by
  have ix : ∀ i, (125 : Int32) * nI q + nI i = nI (125 * q + i) := fun i => by rw [show (125 : Int32) = nI 125 from rfl, pk_mul, nI_add]
  have h0 : upd (cpn 2520 (3895 + 125 * q) N 125) 2509 0 2520 = N (3895 + 125 * q) := by
    rw [un (by omega)]
    have := (cpn_spec (a := 2520) (b := 3895 + 125 * q) (M := N) 125 (by omega)).1 0 (by omega)
    exact this
  have key : ∀ (k i n : Nat), i + k = 125 → k < n → lp (fun _ _ => none) (fun k => fb_X7_restore_c37 k (nI q)) n (nI i) (cpn 2520 (3895 + 125 * q) N i) = some (N (3895 + 125 * q), upd (cpn 2520 (3895 + 125 * q) N 125) 2509 0) := by
    intro k
    induction k with
    | zero =>
      intro i n hi hn
      obtain ⟨n, rfl⟩ : ∃ m, n = m + 1 := ⟨n - 1, by omega⟩
      have e : i = 125 := by omega
      subst e
      rw [lp_s]
      unfold fb_X7_restore_c37
      rw [if_pos (by decide), h0]
    | succ k ih =>
      intro i n hi hn
      obtain ⟨n, rfl⟩ : ∃ m, n = m + 1 := ⟨n - 1, by omega⟩
      have := ih (i + 1) n (by omega) (by omega)
      rw [lp_s]
      generalize lp (fun _ _ => none) (fun k => fb_X7_restore_c37 k (nI q)) n = K at this ⊢
      unfold fb_X7_restore_c37
      rw [if_neg (ge125 (by omega)), ix, gd_t (inb_nI (by omega) (by omega)), gd_t (inb_nI (by omega) (by omega)), cl (by omega), cl (by omega), nI_1, ← Nat.add_assoc]
      exact this
  unfold f_X7_restore_c37
  rw [← cpn_wr (Or.inl (by omega))]
  exact key 125 0 FU rfl (FU_e _ (by omega))
theorem s_restore (h : RR mm M) (x : Int32) : OkT mm [1, 4] (f_X6_restore x) (f_X7_restore x) M := by
  by_cases q : (0 : Int32) ≤ x ∧ x ≤ 1
  · obtain ⟨i, hi, rfl⟩ := rng_nI (n := 1) (by omega) q
    rcases h.2.2.1 i (by omega) with ⟨o1, o2⟩ | ⟨o1, o2, ns, nb, nf, g1, g2, g3, g4⟩
    · refine ⟨4, 0, M, 0, upd (upd M 2504 0) 2504 2, ?_, ?_, R_t0 (R_t0 h), Or.inr ⟨1, rfl, by omega, us⟩⟩
      · unfold f_X6_restore
        rw [c_chk, if_pos q, tbd_0 rfl, gd_t (inb_nI (by omega) (by omega)), cl (by omega), if_pos o1]
      · unfold f_X7_restore
        rw [m_inR, if_pos q]
        simp only [bd2, m_fail1, ↓reduceIte]
        rw [gd_t (inb_nI (by omega) (by omega)), cl (by omega), un (by omega), o2]
        simp only [m_fail0, i10, ↓reduceIte]
    · obtain ⟨u, e1, e2⟩ := c_copy (a := 0) (b := 1408 + 128 * i) (M0 := M) (Or.inl (by omega)) g1
      have lt : ∀ z, Lv ns nb nf z → z < 125 := fun z hz => Lv_lt g1.s.2 g1.b.2 g1.f.2.2 hz
      have hq : ∀ z, 125 ≤ z → z ≠ 1669 → z ≠ 1670 → z ≠ 2504 → z ≠ 2509 → (z < 2520 ∨ 2645 ≤ z) → upd (wr 2520 (win (3895 + 125 * i) (upd (upd (upd (wr 0 u M) 1669 0) 1670 0) 2504 0)) (upd (upd (upd (wr 0 u M) 1669 0) 1670 0) 2504 0)) 2509 0 z = M z := fun z x1 x2 x3 x4 x5 x6 => by
        rw [un x5, wr_out (by omega), un x4, un x3, un x2, wr_out (by omega)]
      have ev : u 0 = M (3895 + 125 * i) := by
        rw [← e2 0 (Or.inl (by omega))]
        exact g4.h (z := 0) (by omega)
      refine ⟨0, u 0, upd (upd (wr 0 u M) 1669 0) 1670 0, M (3895 + 125 * i), upd (wr 2520 (win (3895 + 125 * i) (upd (upd (upd (wr 0 u M) 1669 0) 1670 0) 2504 0)) (upd (upd (upd (wr 0 u M) 1669 0) 1670 0) 2504 0)) 2509 0, ?_, ?_, ?_, Or.inl ⟨rfl, ev, ?_⟩⟩
      · have ef : f_X6_forgetChanges (wr 0 u M) = some (upd (upd (wr 0 u M) 1669 0) 1670 0) := rfl
        unfold f_X6_restore
        rw [c_chk, if_pos q, tbd_0 rfl, gd_t (inb_nI (by omega) (by omega)), cl (by omega), if_neg (by rw [o1]; decide), gd_t (inb_nI (by omega) (by omega)), bd_s e1, bd_s ef, un (by omega), un (by omega), wr_in (z := 0) (by omega) (by omega)]
      · unfold f_X7_restore
        rw [m_inR, if_pos q]
        simp only [bd2, m_fail1, ↓reduceIte]
        rw [gd_t (inb_nI (by omega) (by omega)), cl (by omega), un (by omega), un (by omega), un (by omega), wr_out (by omega), o2]
        simp only [m_fail1, ↓reduceIte]
        rw [m_restL (by omega), un (by omega), un (by omega), un (by omega), wr_out (by omega)]
      · refine ⟨Mk2.of g1 g2 g3 g4 (fun z hz => ?_) (fun z hz => ?_), ⟨0, 0, by omega, by omega, ?_, ?_, ?_, fun j hj => absurd hj (Nat.not_lt_zero j)⟩, RS_cong h.2.2.1 (fun z hz => hq z (by omega) (by omega) (by omega) (by omega) (by omega) (by omega)), RB_cong h.2.2.2.1 (fun z hz => hq z (by omega) (by omega) (by omega) (by omega) (by omega) (by omega)), RE_cong h.2.2.2.2.1 (fun z hz => hq z (by omega) (by omega) (by omega) (by omega) (by omega) (by omega)), RO_cong h.2.2.2.2.2 (fun z hz => hq z (by omega) (by omega) (by omega) (by omega) (by omega) (by omega))⟩
        · have hz2 := lt z hz
          rw [w0, un (by omega), wr_out (by omega), un (by omega), un (by omega), un (by omega), wr_in (z := z) (by omega) hz2]
          exact e2 z hz
        · have hz2 := lt z hz
          show M (3895 + 125 * i + z) = upd _ 2509 0 (2520 + z)
          rw [un (by omega), wr_in rfl hz2]
          show _ = upd _ 2504 0 (3895 + 125 * i + z)
          rw [un (by omega), un (by omega), un (by omega), wr_out (by omega)]
        · rw [un (by omega), wr_out (by omega), un (by omega), un (by omega), us]; rfl
        · rw [un (by omega), wr_out (by omega), un (by omega), us]; rfl
        · rw [us]; rfl
      · rw [un (by omega), wr_out (by omega), us]
  · refine ⟨1, 0, M, 0, upd M 2504 1, ?_, ?_, (R_t0 h), Or.inr ⟨0, rfl, by omega, us⟩⟩
    · unfold f_X6_restore
      rw [c_chk, if_neg q, tbd_x rfl]
    · unfold f_X7_restore
      rw [m_inR, if_neg q]
      simp only [bd2, m_fail0, i10, ↓reduceIte, utwice]
end
