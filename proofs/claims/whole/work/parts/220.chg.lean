/-! more changes -/
section
variable {mm : Nat} {M : xM}
theorem s_addStall (h : RR mm M) (x1 x2 x3 x4 x5 : Int32) : OkT mm [1, 3] (f_X6_addStall x1 x2 x3 x4 x5) (f_X7_addStall x1 x2 x3 x4 x5) M := by
  obtain ⟨ns', nb', nf', h1, -, -, -, h5⟩ := h.mk
  have e9 := h1.s
  rw [w0] at e9
  have e29 : M 2529 = nI ns' := h5.s.1
  have eo : ∀ N, f_X7_addStall_c74 x1 x2 x3 x4 x5 0 N = some (0, upd N 2504 1) := fun N => by
    unfold f_X7_addStall_c74
    simp only [bd2, m_fail0, i10, ↓reduceIte]
  by_cases q1 : (0 : Int32) ≤ x1 ∧ x1 ≤ 99
  case neg =>
    refine ⟨1, 0, M, 0, upd M 2504 1, ?_, ?_, (R_t0 h), Or.inr ⟨0, rfl, by omega, us⟩⟩
    · unfold f_X6_addStall
      rw [c_chk, if_neg q1, tbd_x rfl]
    · unfold f_X7_addStall f_X7_addStall_c37 f_X7_addStall_c38 f_X7_addStall_c73
      rw [m_inR, if_neg q1]
      simp only [bd2, i10, ↓reduceIte, eo, utwice]
  by_cases q2 : (0 : Int32) ≤ x2 ∧ x2 ≤ 3
  case neg =>
    refine ⟨1, 0, M, 0, upd M 2504 1, ?_, ?_, (R_t0 h), Or.inr ⟨0, rfl, by omega, us⟩⟩
    · unfold f_X6_addStall
      rw [c_chk, if_pos q1, tbd_0 rfl, c_chk, if_neg q2, tbd_x rfl]
    · unfold f_X7_addStall f_X7_addStall_c37 f_X7_addStall_c38 f_X7_addStall_c73
      rw [m_inR, if_pos q1]
      simp only [bd2, i10, ↓reduceIte]
      rw [m_inR, if_neg q2]
      simp only [bd2, i10, ↓reduceIte, eo, utwice]
  by_cases q3 : (0 : Int32) ≤ x3 ∧ x3 ≤ 2
  case neg =>
    refine ⟨1, 0, M, 0, upd M 2504 1, ?_, ?_, (R_t0 h), Or.inr ⟨0, rfl, by omega, us⟩⟩
    · unfold f_X6_addStall
      rw [c_chk, if_pos q1, tbd_0 rfl, c_chk, if_pos q2, tbd_0 rfl, c_chk, if_neg q3, tbd_x rfl]
    · unfold f_X7_addStall f_X7_addStall_c37 f_X7_addStall_c38 f_X7_addStall_c73
      rw [m_inR, if_pos q1]
      simp only [bd2, i10, ↓reduceIte]
      rw [m_inR, if_pos q2]
      simp only [bd2, i10, ↓reduceIte]
      rw [m_inR, if_neg q3]
      simp only [bd2, i10, ↓reduceIte, eo, utwice]
  by_cases q4 : (1 : Int32) ≤ x4 ∧ x4 ≤ 999
  case neg =>
    refine ⟨1, 0, M, 0, upd M 2504 1, ?_, ?_, (R_t0 h), Or.inr ⟨0, rfl, by omega, us⟩⟩
    · unfold f_X6_addStall
      rw [c_chk, if_pos q1, tbd_0 rfl, c_chk, if_pos q2, tbd_0 rfl, c_chk, if_pos q3, tbd_0 rfl, c_chk, if_neg q4, tbd_x rfl]
    · unfold f_X7_addStall f_X7_addStall_c37 f_X7_addStall_c38 f_X7_addStall_c73
      rw [m_inR, if_pos q1]
      simp only [bd2, i10, ↓reduceIte]
      rw [m_inR, if_pos q2]
      simp only [bd2, i10, ↓reduceIte]
      rw [m_inR, if_pos q3]
      simp only [bd2, i10, ↓reduceIte]
      rw [m_inR, if_neg q4]
      simp only [bd2, i10, ↓reduceIte, eo, utwice]
  by_cases q5 : (0 : Int32) ≤ x5 ∧ x5 ≤ 99
  case neg =>
    refine ⟨1, 0, M, 0, upd M 2504 1, ?_, ?_, (R_t0 h), Or.inr ⟨0, rfl, by omega, us⟩⟩
    · unfold f_X6_addStall
      rw [c_chk, if_pos q1, tbd_0 rfl, c_chk, if_pos q2, tbd_0 rfl, c_chk, if_pos q3, tbd_0 rfl, c_chk, if_pos q4, tbd_0 rfl, c_chk, if_neg q5, tbd_x rfl]
    · unfold f_X7_addStall f_X7_addStall_c37 f_X7_addStall_c38 f_X7_addStall_c73
      rw [m_inR, if_pos q1]
      simp only [bd2, i10, ↓reduceIte]
      rw [m_inR, if_pos q2]
      simp only [bd2, i10, ↓reduceIte]
      rw [m_inR, if_pos q3]
      simp only [bd2, i10, ↓reduceIte]
      rw [m_inR, if_pos q4]
      simp only [bd2, i10, ↓reduceIte]
      rw [m_inR, if_neg q5]
      simp only [bd2, i10, ↓reduceIte, eo, utwice]
  by_cases q : ns' < 6
  · obtain ⟨p, hp, e1⟩ := rng_nI (n := 99) (by omega) q1
    obtain ⟨r, -, hr, e4⟩ := rng1 (n := 999) (by omega) q4
    obtain ⟨M1, ns, nb, nf, a1, a2, a3, a4⟩ := s_change h
    have en : ns = ns' := by
      have x1 := a3.1.s
      rw [w0, a2 9 (by omega) (by omega) (by omega), e9.1] at x1
      exact ((nI_eq (by omega) (by omega)).mp x1.1).symm
    subst en
    obtain ⟨N1, b1, b2, b3, b4⟩ := a4 (P_stall ns (win 0 M1) x1 x2 x3 x4 x5)
    have hm := b2.stall q (p := p) (r := r) (l := x2) (t := x3) (g := x5) (by omega) hr
    rw [← e1, ← e4] at hm
    have hR := b4 (P_stall ns (win 2520 N1) x1 x2 x3 x4 x5) mm (N1 2512) (Nat.le_refl _) hm.mk
    rw [usame rfl] at hR
    have cp := c_place (b := 0) (M := M1) (p := x1) (l := x2) (t := x3) (r := x4) (g := x5) a3.1 q
    rw [wr_win] at cp
    have hv := b2.2.2.2.MV b2.1
    have mp := m_doStall (N := N1) (p := x1) (l := x2) (t := x3) (r := x4) (g := x5) hv q
    rw [wr_win] at mp
    refine ⟨0, nI ns, wr 0 (P_stall ns (win 0 M1) x1 x2 x3 x4 x5) M1, nI ns, wr 2520 (P_stall ns (win 2520 N1) x1 x2 x3 x4 x5) N1, ?_, ?_, hR, Or.inl ⟨rfl, rfl, by rw [wr_out (by omega)]; exact b3⟩⟩
    · unfold f_X6_addStall
      rw [c_chk, if_pos q1, tbd_0 rfl, c_chk, if_pos q2, tbd_0 rfl, c_chk, if_pos q3, tbd_0 rfl, c_chk, if_pos q4, tbd_0 rfl, c_chk, if_pos q5, tbd_0 rfl, e9.1, if_pos (show nI ns < (6 : Int32) from nI_lt (b := 6) q (by decide)), bd_s a1, bd2_s cp]
    · unfold f_X7_addStall f_X7_addStall_c37 f_X7_addStall_c38 f_X7_addStall_c73 f_X7_addStall_c74
      rw [m_inR, if_pos q1]
      simp only [bd2, i10, ↓reduceIte]
      rw [m_inR, if_pos q2]
      simp only [bd2, i10, ↓reduceIte]
      rw [m_inR, if_pos q3]
      simp only [bd2, i10, ↓reduceIte]
      rw [m_inR, if_pos q4]
      simp only [bd2, i10, ↓reduceIte]
      rw [m_inR, if_pos q5]
      simp only [bd2, i10, ↓reduceIte]
      simp only [m_fail1, ↓reduceIte]
      rw [un (by omega), wr_out (by omega), a2 _ (by omega) (by omega) (by omega), e29, if_neg (show ¬ (6 : Int32) ≤ nI ns from nI_ge (b := 6) q (by decide))]
      unfold f_X7_addStall_c99
      simp only [bd2, m_fail1, ↓reduceIte]
      rw [bd_s b1, mp]
  · refine ⟨3, 0, M, 0, upd M 2504 2, ?_, ?_, (R_t0 h), Or.inr ⟨1, rfl, by omega, us⟩⟩
    · unfold f_X6_addStall
      rw [c_chk, if_pos q1, tbd_0 rfl, c_chk, if_pos q2, tbd_0 rfl, c_chk, if_pos q3, tbd_0 rfl, c_chk, if_pos q4, tbd_0 rfl, c_chk, if_pos q5, tbd_0 rfl, e9.1, if_neg (show ¬ nI ns' < (6 : Int32) from nI_nlt (a := ns') (b := 6) (by omega) (by omega))]
    · unfold f_X7_addStall f_X7_addStall_c37 f_X7_addStall_c38 f_X7_addStall_c73 f_X7_addStall_c74
      rw [m_inR, if_pos q1]
      simp only [bd2, i10, ↓reduceIte]
      rw [m_inR, if_pos q2]
      simp only [bd2, i10, ↓reduceIte]
      rw [m_inR, if_pos q3]
      simp only [bd2, i10, ↓reduceIte]
      rw [m_inR, if_pos q4]
      simp only [bd2, i10, ↓reduceIte]
      rw [m_inR, if_pos q5]
      simp only [bd2, i10, ↓reduceIte]
      simp only [m_fail1, ↓reduceIte]
      rw [un (by omega), e29, if_pos (show (6 : Int32) ≤ nI ns' from nI_le (a := 6) (by omega) (by omega))]
      unfold f_X7_addStall_c99
      simp only [bd2, m_fail0, i10, ↓reduceIte, utwice]
theorem s_addBuyer (h : RR mm M) (x1 x2 x3 x4 : Int32) : OkT mm [1, 3] (f_X6_addBuyer x1 x2 x3 x4) (f_X7_addBuyer x1 x2 x3 x4) M := by
  obtain ⟨ns', nb', nf', h1, -, -, -, h5⟩ := h.mk
  have e9 := h1.b
  rw [w0] at e9
  have e29 : M 2530 = nI nb' := h5.b.1
  have eo : ∀ N, f_X7_addBuyer_c51 x1 x2 x3 x4 0 N = some (0, upd N 2504 1) := fun N => by
    unfold f_X7_addBuyer_c51
    simp only [bd2, m_fail0, i10, ↓reduceIte]
  by_cases q1 : (0 : Int32) ≤ x1 ∧ x1 ≤ 99
  case neg =>
    refine ⟨1, 0, M, 0, upd M 2504 1, ?_, ?_, (R_t0 h), Or.inr ⟨0, rfl, by omega, us⟩⟩
    · unfold f_X6_addBuyer
      rw [c_chk, if_neg q1, tbd_x rfl]
    · unfold f_X7_addBuyer f_X7_addBuyer_c50
      rw [m_inR, if_neg q1]
      simp only [bd2, i10, ↓reduceIte, eo, utwice]
  by_cases q2 : (0 : Int32) ≤ x2 ∧ x2 ≤ 9999
  case neg =>
    refine ⟨1, 0, M, 0, upd M 2504 1, ?_, ?_, (R_t0 h), Or.inr ⟨0, rfl, by omega, us⟩⟩
    · unfold f_X6_addBuyer
      rw [c_chk, if_pos q1, tbd_0 rfl, c_chk, if_neg q2, tbd_x rfl]
    · unfold f_X7_addBuyer f_X7_addBuyer_c50
      rw [m_inR, if_pos q1]
      simp only [bd2, i10, ↓reduceIte]
      rw [m_inR, if_neg q2]
      simp only [bd2, i10, ↓reduceIte, eo, utwice]
  by_cases q3 : (0 : Int32) ≤ x3 ∧ x3 ≤ 2
  case neg =>
    refine ⟨1, 0, M, 0, upd M 2504 1, ?_, ?_, (R_t0 h), Or.inr ⟨0, rfl, by omega, us⟩⟩
    · unfold f_X6_addBuyer
      rw [c_chk, if_pos q1, tbd_0 rfl, c_chk, if_pos q2, tbd_0 rfl, c_chk, if_neg q3, tbd_x rfl]
    · unfold f_X7_addBuyer f_X7_addBuyer_c50
      rw [m_inR, if_pos q1]
      simp only [bd2, i10, ↓reduceIte]
      rw [m_inR, if_pos q2]
      simp only [bd2, i10, ↓reduceIte]
      rw [m_inR, if_neg q3]
      simp only [bd2, i10, ↓reduceIte, eo, utwice]
  by_cases q4 : (1 : Int32) ≤ x4 ∧ x4 ≤ 20
  case neg =>
    refine ⟨1, 0, M, 0, upd M 2504 1, ?_, ?_, (R_t0 h), Or.inr ⟨0, rfl, by omega, us⟩⟩
    · unfold f_X6_addBuyer
      rw [c_chk, if_pos q1, tbd_0 rfl, c_chk, if_pos q2, tbd_0 rfl, c_chk, if_pos q3, tbd_0 rfl, c_chk, if_neg q4, tbd_x rfl]
    · unfold f_X7_addBuyer f_X7_addBuyer_c50
      rw [m_inR, if_pos q1]
      simp only [bd2, i10, ↓reduceIte]
      rw [m_inR, if_pos q2]
      simp only [bd2, i10, ↓reduceIte]
      rw [m_inR, if_pos q3]
      simp only [bd2, i10, ↓reduceIte]
      rw [m_inR, if_neg q4]
      simp only [bd2, i10, ↓reduceIte, eo, utwice]
  by_cases q : nb' < 6
  · obtain ⟨p, hp, e1⟩ := rng_nI (n := 99) (by omega) q1
    obtain ⟨c0, hc0, e2⟩ := rng_nI (n := 9999) (by omega) q2
    obtain ⟨sp, hs1, hs2, e4⟩ := rng1 (n := 20) (by omega) q4
    obtain ⟨M1, ns, nb, nf, a1, a2, a3, a4⟩ := s_change h
    have en : nb = nb' := by
      have x1 := a3.1.b
      rw [w0, a2 10 (by omega) (by omega) (by omega), e9.1] at x1
      exact ((nI_eq (by omega) (by omega)).mp x1.1).symm
    subst en
    obtain ⟨N1, b1, b2, b3, b4⟩ := a4 (P_buyer nb (win 0 M1) x1 x2 x3 x4)
    have hm := b2.buyer q (p := p) (c0 := c0) (x := sp) (t := x3) (by omega) hc0 hs1 hs2
    rw [← e1, ← e2, ← e4] at hm
    have hR := b4 (P_buyer nb (win 2520 N1) x1 x2 x3 x4) mm (N1 2512) (Nat.le_refl _) hm.mk
    rw [usame rfl] at hR
    have cp := c_placeB (b := 0) (M := M1) (p := x1) (c := x2) (t := x3) (v' := x4) a3.1 q
    rw [wr_win] at cp
    have hv := b2.2.2.2.MV b2.1
    have mp := m_doBuyer (N := N1) (p := x1) (c := x2) (t := x3) (v' := x4) hv q
    rw [wr_win] at mp
    refine ⟨0, nI nb, wr 0 (P_buyer nb (win 0 M1) x1 x2 x3 x4) M1, nI nb, wr 2520 (P_buyer nb (win 2520 N1) x1 x2 x3 x4) N1, ?_, ?_, hR, Or.inl ⟨rfl, rfl, by rw [wr_out (by omega)]; exact b3⟩⟩
    · unfold f_X6_addBuyer
      rw [c_chk, if_pos q1, tbd_0 rfl, c_chk, if_pos q2, tbd_0 rfl, c_chk, if_pos q3, tbd_0 rfl, c_chk, if_pos q4, tbd_0 rfl, e9.1, if_pos (show nI nb < (6 : Int32) from nI_lt (b := 6) q (by decide)), bd_s a1, bd2_s cp]
    · unfold f_X7_addBuyer f_X7_addBuyer_c50 f_X7_addBuyer_c51
      rw [m_inR, if_pos q1]
      simp only [bd2, i10, ↓reduceIte]
      rw [m_inR, if_pos q2]
      simp only [bd2, i10, ↓reduceIte]
      rw [m_inR, if_pos q3]
      simp only [bd2, i10, ↓reduceIte]
      rw [m_inR, if_pos q4]
      simp only [bd2, i10, ↓reduceIte]
      simp only [m_fail1, ↓reduceIte]
      rw [un (by omega), wr_out (by omega), a2 _ (by omega) (by omega) (by omega), e29, if_neg (show ¬ (6 : Int32) ≤ nI nb from nI_ge (b := 6) q (by decide))]
      unfold f_X7_addBuyer_c81
      simp only [bd2, m_fail1, ↓reduceIte]
      rw [bd_s b1, mp]
  · refine ⟨3, 0, M, 0, upd M 2504 2, ?_, ?_, (R_t0 h), Or.inr ⟨1, rfl, by omega, us⟩⟩
    · unfold f_X6_addBuyer
      rw [c_chk, if_pos q1, tbd_0 rfl, c_chk, if_pos q2, tbd_0 rfl, c_chk, if_pos q3, tbd_0 rfl, c_chk, if_pos q4, tbd_0 rfl, e9.1, if_neg (show ¬ nI nb' < (6 : Int32) from nI_nlt (a := nb') (b := 6) (by omega) (by omega))]
    · unfold f_X7_addBuyer f_X7_addBuyer_c50 f_X7_addBuyer_c51
      rw [m_inR, if_pos q1]
      simp only [bd2, i10, ↓reduceIte]
      rw [m_inR, if_pos q2]
      simp only [bd2, i10, ↓reduceIte]
      rw [m_inR, if_pos q3]
      simp only [bd2, i10, ↓reduceIte]
      rw [m_inR, if_pos q4]
      simp only [bd2, i10, ↓reduceIte]
      simp only [m_fail1, ↓reduceIte]
      rw [un (by omega), e29, if_pos (show (6 : Int32) ≤ nI nb' from nI_le (a := 6) (by omega) (by omega))]
      unfold f_X7_addBuyer_c81
      simp only [bd2, m_fail0, i10, ↓reduceIte, utwice]
theorem isb1 : vp_nar .boolean 1 = 1 := by decide
theorem isb0 : vp_nar .boolean 0 = 0 := by decide
/-- the model takes a kept market back -/
theorem m_undoL {N : xM} {q : Nat} (hq : q < 8) (e : N 2509 = nI q) : f_X7_undo_c39 0 N = some (nI q, wr 2520 (win (2895 + 125 * q) N) N) := by
  have ix : ∀ i, (125 : Int32) * nI q + nI i = nI (125 * q + i) := fun i => by rw [show (125 : Int32) = nI 125 from rfl, pk_mul, nI_add]
  have h9 : ∀ i, i ≤ 125 → cpn 2520 (2895 + 125 * q) N i 2509 = nI q := fun i hi => by rw [(cpn_spec (a := 2520) (b := 2895 + 125 * q) (M := N) i (by omega)).2 _ (by omega), e]
  have key : ∀ (k i n : Nat), i + k = 125 → k < n → lp (fun _ _ => none) (fun k => fb_X7_undo_c39 k) n (nI i) (cpn 2520 (2895 + 125 * q) N i) = some (nI q, cpn 2520 (2895 + 125 * q) N 125) := by
    intro k
    induction k with
    | zero =>
      intro i n hi hn
      obtain ⟨n, rfl⟩ : ∃ m, n = m + 1 := ⟨n - 1, by omega⟩
      have e : i = 125 := by omega
      subst e
      rw [lp_s]
      unfold fb_X7_undo_c39
      rw [if_pos (by decide), h9 125 (by omega)]
    | succ k ih =>
      intro i n hi hn
      obtain ⟨n, rfl⟩ : ∃ m, n = m + 1 := ⟨n - 1, by omega⟩
      have := ih (i + 1) n (by omega) (by omega)
      rw [lp_s]
      generalize lp (fun _ _ => none) (fun k => fb_X7_undo_c39 k) n = K at this ⊢
      unfold fb_X7_undo_c39
      rw [if_neg (ge125 (by omega)), h9 i (by omega), ix, gd_t (inb_nI (by omega) (by omega)), gd_t (inb_nI (by omega) (by omega)), cl (by omega), cl (by omega), nI_1, ← Nat.add_assoc]
      exact this
  unfold f_X7_undo_c39
  rw [← cpn_wr (Or.inl (by omega))]
  exact key 125 0 FU rfl (FU_e _ (by omega))
theorem s_undo (h : RR mm M) : OkT mm [3] f_X6_undo f_X7_undo M := by
  obtain ⟨p, c, hp, hc, h1, h2, h3, h4⟩ := h.2.1
  by_cases q : c = 0
  · subst q
    refine ⟨3, 0, M, 0, upd M 2504 1, ?_, ?_, (R_t0 h), Or.inr ⟨0, rfl, by omega, us⟩⟩
    · unfold f_X6_undo
      rw [h2, if_pos (show nI 0 = (0 : Int32) from rfl)]
    · unfold f_X7_undo f_X7_undo_c18
      rw [un (by omega), h3, if_pos (by decide)]
      simp only [bd2, m_fail0, i10, ↓reduceIte, utwice]
  · obtain ⟨p', hp', hpe⟩ : ∃ p', p' < 8 ∧ (p + 7) % 8 = p' := ⟨(p + 7) % 8, by omega, rfl⟩
    have hslot : (p + 8 - c + (c - 1)) % 8 = p' := by omega
    have hk := h4 (c - 1) (by omega)
    rw [hslot] at hk
    obtain ⟨ns, nb, nf, g1, g2, g3, g4⟩ := hk
    generalize hU : upd (upd M 1669 (nI p')) 1670 (nI (c - 1)) = U
    have hUo : ∀ z, z ≠ 1669 → z ≠ 1670 → U z = M z := fun z x1 x2 => by rw [← hU, un x2, un x1]
    have eU : Sim ns nb nf (win (384 + 128 * p') M) (win (384 + 128 * p') U) := fun z hz => by
      have := Lv_lt g1.s.2 g1.b.2 g1.f.2.2 hz
      exact (hUo _ (by omega) (by omega)).symm
    obtain ⟨u, e1, e2⟩ := c_copy (a := 0) (b := 384 + 128 * p') (M0 := U) (Or.inl (by omega)) (eU.MV g1)
    have ec : ∀ x, x = nI p' → f_X6_undo_c42 x M = some (0, nI (c - 1), wr 0 u U) := by
      rintro x rfl
      have e70 : (upd M 1669 (nI p')) 1670 - 1 = nI (c - 1) := by
        rw [un (by omega), h2]
        exact pk_sub (b := 1) (by omega)
      unfold f_X6_undo_c42
      rw [e70, hU]
      have e69 : U 1669 = nI p' := by rw [← hU, un (by omega), us]
      have e71 : U 1670 = nI (c - 1) := by rw [← hU, us]
      rw [e69, gd_t (inb_nI (by omega) (by omega)), cl (by omega), bd_s e1, wr_out (by omega), e71]
    have ef : f_X6_undo M = some (0, nI (c - 1), wr 0 u U) := by
      unfold f_X6_undo
      rw [h2, if_neg (nI_ne0 (by omega) (by omega)), h1]
      by_cases qp : p = 0
      · subst qp
        rw [if_pos (by decide)]
        exact ec _ (by rw [show p' = 7 by omega]; rfl)
      · rw [if_neg (nI_nle (by omega) (by omega))]
        exact ec _ (by rw [show nI p - 1 = nI (p - 1) from pk_sub (b := 1) (by omega)]; congr 1; omega)
    have hN : ∀ z, 125 ≤ z → z ≠ 1669 → z ≠ 1670 → z ≠ 2504 → z ≠ 2509 → upd (upd (wr 0 u U) 2504 0) 2509 (nI (c - 1)) z = M z := fun z x1 x2 x3 x4 x5 => by rw [un x5, un x4, wr_out (by omega), hUo z x2 x3]
    have hN4 : upd (upd (wr 0 u U) 2504 0) 2509 (nI (c - 1)) 2504 = 0 := by rw [un (by omega), us]
    have hN9 : upd (upd (wr 0 u U) 2504 0) 2509 (nI (c - 1)) 2509 = nI (c - 1) := us
    have hNz : ∀ z, z < 125 → upd (upd (wr 0 u U) 2504 0) 2509 (nI (c - 1)) z = u z := fun z hz => by rw [un (by omega), un (by omega), wr_in (z := z) (by omega) hz]
    have hN69 : upd (upd (wr 0 u U) 2504 0) 2509 (nI (c - 1)) 1669 = nI p' := by rw [un (by omega), un (by omega), wr_out (by omega), ← hU, un (by omega), us]
    have hN70 : upd (upd (wr 0 u U) 2504 0) 2509 (nI (c - 1)) 1670 = nI (c - 1) := by rw [un (by omega), un (by omega), wr_out (by omega), ← hU, us]
    have em : f_X7_undo (wr 0 u U) = f_X7_undo_c39 0 (upd (upd (wr 0 u U) 2504 0) 2509 (nI (c - 1))) := by
      have e9 : upd (wr 0 u U) 2504 0 2509 = nI c := by rw [un (by omega), wr_out (by omega), hUo _ (by omega) (by omega), h3]
      unfold f_X7_undo f_X7_undo_c18
      rw [e9, if_neg (nI_nle (by omega) (by omega))]
      simp only [bd2, m_fail1, ↓reduceIte]
      rw [e9, show nI c - 1 = nI (c - 1) from pk_sub (b := 1) (by omega)]
    generalize upd (upd (wr 0 u U) 2504 0) 2509 (nI (c - 1)) = N at hN hN4 hN9 hNz hN69 hN70 em
    refine ⟨0, nI (c - 1), wr 0 u U, nI (c - 1), wr 2520 (win (2895 + 125 * (c - 1)) N) N, ef, ?_, ?_, Or.inl ⟨rfl, rfl, by rw [wr_out (by omega)]; exact hN4⟩⟩
    · rw [em, m_undoL (by omega) hN9]
    · have ho : ∀ z, (z < 2520 ∨ 2645 ≤ z) → wr 2520 (win (2895 + 125 * (c - 1)) N) N z = N z := fun z hz => wr_out (by omega)
      have hq : ∀ z, 125 ≤ z → z ≠ 1669 → z ≠ 1670 → z ≠ 2504 → z ≠ 2509 → (z < 2520 ∨ 2645 ≤ z) → wr 2520 (win (2895 + 125 * (c - 1)) N) N z = M z := fun z x1 x2 x3 x4 x5 x6 => by rw [ho z x6, hN z x1 x2 x3 x4 x5]
      refine ⟨?_, ?_, ?_, ?_, ?_, ?_⟩
      · refine Mk2.of (g1) g2 g3 g4 (u' := win 0 (wr 2520 (win (2895 + 125 * (c - 1)) N) N)) (fun z hz => ?_) (v' := win 2520 (wr 2520 (win (2895 + 125 * (c - 1)) N) N)) (fun z hz => ?_)
        · have hz2 := Lv_lt g1.s.2 g1.b.2 g1.f.2.2 hz
          rw [w0, ho z (by omega), hNz z hz2, ← e2 z hz]
          exact eU z hz
        · have hz2 := Lv_lt g1.s.2 g1.b.2 g1.f.2.2 hz
          show M (2895 + 125 * (c - 1) + z) = wr 2520 (win (2895 + 125 * (c - 1)) N) N (2520 + z)
          rw [wr_in rfl hz2]
          exact (hN _ (by omega) (by omega) (by omega) (by omega) (by omega)).symm
      · refine ⟨p', c - 1, hp', by omega, by rw [ho _ (by omega), hN69], by rw [ho _ (by omega), hN70], by rw [ho _ (by omega), hN9], fun j hj => ?_⟩
        rw [show (p' + 8 - (c - 1) + j) % 8 = (p + 8 - c + j) % 8 by omega]
        refine Mk2_cong (h4 j (by omega)) (fun z hz => ?_) (fun z hz => ?_)
        · exact hq _ (by omega) (by omega) (by omega) (by omega) (by omega) (by omega)
        · exact hq _ (by omega) (by omega) (by omega) (by omega) (by omega) (by omega)
      · exact RS_cong h.2.2.1 (fun z hz => hq z (by omega) (by omega) (by omega) (by omega) (by omega) (by omega))
      · exact RB_cong h.2.2.2.1 (fun z hz => hq z (by omega) (by omega) (by omega) (by omega) (by omega) (by omega))
      · exact RE_cong h.2.2.2.2.1 (fun z hz => hq z (by omega) (by omega) (by omega) (by omega) (by omega) (by omega))
      · exact RO_cong h.2.2.2.2.2 (fun z hz => hq z (by omega) (by omega) (by omega) (by omega) (by omega) (by omega))
theorem m_saveL {N : xM} {q : Nat} (hq : q < 2) : f_X7_save_c23 (nI q) 0 N = some (N 2520, upd (wr (3895 + 125 * q) (win 2520 N) N) (4145 + q) 1) := by
  have ix : ∀ i, (125 : Int32) * nI q + nI i = nI (125 * q + i) := fun i => by rw [show (125 : Int32) = nI 125 from rfl, pk_mul, nI_add]
  have key : ∀ (k i n : Nat), i + k = 125 → k < n → lp (fun _ _ => none) (fun k => fb_X7_save_c23 k (nI q)) n (nI i) (cpn (3895 + 125 * q) 2520 N i) = some (N 2520, upd (cpn (3895 + 125 * q) 2520 N 125) (4145 + q) 1) := by
    intro k
    induction k with
    | zero =>
      intro i n hi hn
      obtain ⟨n, rfl⟩ : ∃ m, n = m + 1 := ⟨n - 1, by omega⟩
      have e : i = 125 := by omega
      subst e
      rw [lp_s]
      unfold fb_X7_save_c23
      rw [if_pos (by decide), gd_t (inb_nI (by omega) (by omega)), cl (by omega), isb1, un (by omega), (cpn_spec (a := 3895 + 125 * q) (b := 2520) (M := N) 125 (by omega)).2 _ (by omega)]
    | succ k ih =>
      intro i n hi hn
      obtain ⟨n, rfl⟩ : ∃ m, n = m + 1 := ⟨n - 1, by omega⟩
      have := ih (i + 1) n (by omega) (by omega)
      rw [lp_s]
      generalize lp (fun _ _ => none) (fun k => fb_X7_save_c23 k (nI q)) n = K at this ⊢
      unfold fb_X7_save_c23
      rw [if_neg (ge125 (by omega)), ix, gd_t (inb_nI (by omega) (by omega)), gd_t (inb_nI (by omega) (by omega)), cl (by omega), cl (by omega), nI_1, ← Nat.add_assoc]
      exact this
  unfold f_X7_save_c23
  rw [← cpn_wr (Or.inr (by omega))]
  exact key 125 0 FU rfl (FU_e _ (by omega))
theorem s_save (h : RR mm M) (x : Int32) : OkT mm [1] (f_X6_save x) (f_X7_save x) M := by
  by_cases q : (0 : Int32) ≤ x ∧ x ≤ 1
  · obtain ⟨i, hi, rfl⟩ := rng_nI (n := 1) (by omega) q
    obtain ⟨ns, nb, nf, g1, g2, g3, g4, g5⟩ := h.mk
    obtain ⟨u, e1, e2⟩ := c_copy (a := 1408 + 128 * i) (b := 0) (M0 := M) (Or.inr (by omega)) g1
    have hq : ∀ z, (z < 1408 + 128 * i ∨ 1408 + 128 * i + 125 ≤ z) → z ≠ 1675 + i → z ≠ 2504 → z ≠ 4145 + i → (z < 3895 + 125 * i ∨ 3895 + 125 * i + 125 ≤ z) → upd (wr (3895 + 125 * i) (win 2520 (upd (upd (wr (1408 + 128 * i) u M) (1675 + i) 1) 2504 0)) (upd (upd (wr (1408 + 128 * i) u M) (1675 + i) 1) 2504 0)) (4145 + i) 1 z = M z := fun z x1 x2 x3 x4 x5 => by
      rw [un x4, wr_out (by omega), un x3, un x2, wr_out (by omega)]
    refine ⟨0, M 0, upd (wr (1408 + 128 * i) u M) (1675 + i) 1, M 2520, upd (wr (3895 + 125 * i) (win 2520 (upd (upd (wr (1408 + 128 * i) u M) (1675 + i) 1) 2504 0)) (upd (upd (wr (1408 + 128 * i) u M) (1675 + i) 1) 2504 0)) (4145 + i) 1, ?_, ?_, ?_, Or.inl ⟨rfl, h.hd (z := 0) (by omega), ?_⟩⟩
    · unfold f_X6_save
      rw [c_chk, if_pos q, tbd_0 rfl, gd_t (inb_nI (by omega) (by omega)), cl (by omega), bd_s e1]
      simp only [isb1]
      rw [gd_t (inb_nI (by omega) (by omega)), un (by omega), wr_out (by omega)]
    · unfold f_X7_save
      rw [m_inR, if_pos q]
      simp only [bd2, m_fail1, ↓reduceIte]
      rw [m_saveL (by omega), un (by omega), un (by omega), wr_out (by omega)]
    · refine ⟨?_, ?_, ?_, ?_, ?_, ?_⟩
      · exact RM_cong h.1 (fun z hz => hq z (by omega) (by omega) (by omega) (by omega) (by omega))
      · exact RH_cong h.2.1 (fun z hz => hq z (by omega) (by omega) (by omega) (by omega) (by omega))
      · intro j hj
        by_cases e : j = i
        · subst e
          refine Or.inr ⟨?_, ?_, Mk2.of g1 g2 g3 g4 (fun z hz => ?_) (fun z hz => ?_)⟩
          · rw [un (by omega), wr_out (by omega), un (by omega), us]
          · rw [us]
          · have hz2 := Lv_lt g1.s.2 g1.b.2 g1.f.2.2 hz
            show _ = upd _ (4145 + j) 1 (1408 + 128 * j + z)
            rw [un (by omega), wr_out (by omega), un (by omega), un (by omega), wr_in rfl hz2]
            exact e2 z hz
          · have hz2 := Lv_lt g1.s.2 g1.b.2 g1.f.2.2 hz
            show _ = upd _ (4145 + j) 1 (3895 + 125 * j + z)
            rw [un (by omega), wr_in rfl hz2]
            show M (2520 + z) = upd _ 2504 0 (2520 + z)
            rw [un (by omega), un (by omega), wr_out (by omega)]
        · rw [hq (1675 + j) (by omega) (by omega) (by omega) (by omega) (by omega), hq (4145 + j) (by omega) (by omega) (by omega) (by omega) (by omega)]
          rcases h.2.2.1 j hj with o | ⟨o1, o2, o3⟩
          · exact Or.inl o
          · exact Or.inr ⟨o1, o2, Mk2_cong o3 (fun z hz => hq _ (by omega) (by omega) (by omega) (by omega) (by omega)) (fun z hz => hq _ (by omega) (by omega) (by omega) (by omega) (by omega))⟩
      · exact RB_cong h.2.2.2.1 (fun z hz => hq z (by omega) (by omega) (by omega) (by omega) (by omega))
      · exact RE_cong h.2.2.2.2.1 (fun z hz => hq z (by omega) (by omega) (by omega) (by omega) (by omega))
      · exact RO_cong h.2.2.2.2.2 (fun z hz => hq z (by omega) (by omega) (by omega) (by omega) (by omega))
    · rw [un (by omega), wr_out (by omega), us]
  · refine ⟨1, 0, M, 0, upd M 2504 1, ?_, ?_, (R_t0 h), Or.inr ⟨0, rfl, by omega, us⟩⟩
    · unfold f_X6_save
      rw [c_chk, if_neg q, tbd_x rfl]
    · unfold f_X7_save
      rw [m_inR, if_neg q]
      simp only [bd2, m_fail0, i10, ↓reduceIte, utwice]
end
