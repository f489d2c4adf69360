/-! the law's bell -/
section
variable {mm ns nb nf : Nat} {u M : xM} {d : Int32}
theorem LBe {a b c e : Int32} : ∀ (k i n : Nat) (w : xM), i + k = nb → k < n → MV mm ns nb nf w → lp (fun _ _ _ _ _ _ => none) (fun f => fb_LS_B_c310 f ns nb d) n a b c e (nI i) (ars ns nb w M) = some (a, b, c, e, ars ns nb (P_ends k i w) M)
  | 0, i, n + 1, w, hk, hn, hv => by
    have hb := hv.b.2
    have e : i = nb := by omega
    subst e
    rw [lp_s]
    unfold fb_LS_B_c310
    rw [if_pos (nI_le (Nat.le_refl _) (by omega))]
    rfl
  | k + 1, i, n + 1, w, hk, hn, hv => by
    have hb := hv.b.2
    have hs := hv.s.2
    have hi : i < nb := by omega
    have ih := LBe (a := a) (b := b) (c := c) (e := e) k (i + 1) n (P_end1 w i) (by omega) (by omega) (MV_end1 hv hi)
    rw [lp_s]
    show _ = some (a, b, c, e, ars ns nb (P_ends k (i + 1) (P_end1 w i)) M)
    generalize lp (fun _ _ _ _ _ _ => none) (fun f => fb_LS_B_c310 f ns nb d) n = K at ih ⊢
    unfold fb_LS_B_c310 f_LS_B_c337
    rw [if_neg (nI_ge hi (by omega)), gd_t (inb_nI hi (by omega)), cl (show i < 2147483648 by omega), aB4 hi hb]
    rw [← ih]
    unfold P_end1 P_ret P_ret1
    rcases hold_cases (hv.bu i hi) hs with ⟨e1, e2, -⟩ | ⟨q, hq, e1, e2⟩
    · rw [e1, e2, if_pos (by decide), gd_t (inb_nI hi (by omega)), gd_t (inb_nI hi (by omega)), gd_t (inb_nI hi (by omega)), uB4 hi hb hs, uB5 hi hb hs, uB6 hi hb hs, nI_1]
    · rw [e1, e2, if_neg (nI_pos (by omega)), gd_t (inb_nI hi (by omega)), gd_t (inb_nI hq (by omega)), gd_t (inb_nI hq (by omega)), cl (show q < 2147483648 by omega), aR4 hq hs, uR4 hq hs, gd_t (inb_nI hi (by omega)), gd_t (inb_nI hi (by omega)), gd_t (inb_nI hi (by omega)), uB4 hi hb hs, uB5 hi hb hs, uB6 hi hb hs, nI_1]
/-- segment B: the bell -/
theorem LSB (h : AG ns nb u M) (hv : MV mm ns nb nf u) : f_LS_B ns nb d (u 1) (P_rdy d u 2) (u 3) (u 4) (ars ns nb u M) = some (P_bell nb d u 1, P_bell nb d u 2, P_bell nb d u 3, P_bell nb d u 4, ars ns nb (P_bell nb d u) M) := by
  have hb := hv.b.2
  have hs := hv.s.2
  have hr := MV_rdy (d := d) hv
  have hz : ∀ z, z ≠ 2 → P_rdy d u z = u z := fun z hz => by
    unfold P_rdy
    split
    · rfl
    · exact un hz
  have ea : ars ns nb u M = ars ns nb (P_rdy d u) M := ars_cong hs hb (fun z h1 h2 => (hz z (by omega)).symm)
  obtain ⟨a, c, t1, t2, t3, t4, t5, t6⟩ := hv.t
  -- the close
  have hc : f_LS_B_c301 ns nb d (P_rdy d u 2) (u 4) (ars ns nb u M) = some (P_close nb (P_rdy d u) 1, P_close nb (P_rdy d u) 2, P_close nb (P_rdy d u) 3, P_close nb (P_rdy d u) 4, ars ns nb (P_close nb (P_rdy d u)) M) := by
    have e0 : ars ns nb u M = ars ns nb (upd (upd (P_rdy d u) 1 0) 3 0) M := ars_cong hs hb (fun z h1 h2 => by rw [un (by omega), un (by omega), hz z (by omega)])
    unfold f_LS_B_c301 f_LS_B_c310 P_close
    have key := LBe (M := M) (d := d) (a := 0) (b := P_rdy d u 2) (c := 0) (e := u 4) nb 0 FU _ (by omega) (FU_e _ (by omega)) (MV_cl0 hr)
    rw [e0]
    refine key.trans ?_
    rw [P_ends_lo (by omega), P_ends_lo (by omega), P_ends_lo (by omega), P_ends_lo (by omega)]
    rw [un (show (1 : Nat) ≠ 3 by omega), us, un (show (2 : Nat) ≠ 3 by omega), un (show (2 : Nat) ≠ 1 by omega), us, un (show (4 : Nat) ≠ 3 by omega), un (show (4 : Nat) ≠ 1 by omega), hz 4 (by omega)]
  have h364 : u 1 = 0 → f_LS_B_c364 ns nb d (u 1) (P_rdy d u 2) (u 3) (u 4) (ars ns nb u M) = some (P_bell nb d u 1, P_bell nb d u 2, P_bell nb d u 3, P_bell nb d u 4, ars ns nb (P_bell nb d u) M) := by
    intro e
    have e1 : P_rdy d u 1 = 0 := (hz 1 (by omega)).trans e
    have e3 : u 3 = 0 := by
      rcases t6 with t6 | t6
      · rw [e] at t6; exact absurd t6 (by decide)
      · rw [t4, t6]; rfl
    unfold f_LS_B_c364 P_bell P_bell2
    rw [if_pos e, e1, if_neg (show ¬ (0 : Int32) = 1 by decide)]
    rcases hr.r with q | q
    · rw [q, if_pos (show (0 : Int32) = 0 from rfl), if_neg (show ¬ (0 : Int32) = 1 by decide), e1, q, hz 3 (by omega), hz 4 (by omega), ← ea, e]
    · rw [q, if_neg (show ¬ (1 : Int32) = 0 by decide), if_pos (show (1 : Int32) = 1 from rfl), bd2_s (gA_threshold h), hz 5 (by omega)]
      by_cases q2 : d < u 5
      · rw [if_pos q2, if_pos q2, e1, q, hz 3 (by omega), hz 4 (by omega), ← ea, e]
      · rw [if_neg q2, if_neg q2]
        have e5 : ars ns nb (P_ring (P_rdy d u)) M = ars ns nb u M := ars_cong hs hb (fun z h1 h2 => by
          unfold P_ring
          rw [un (by omega), un (by omega), un (by omega), un (by omega), hz z (by omega)])
        rw [e5]
        unfold P_ring
        rw [un (show (1 : Nat) ≠ 4 by omega), un (show (1 : Nat) ≠ 2 by omega), un (show (1 : Nat) ≠ 3 by omega), us, un (show (2 : Nat) ≠ 4 by omega), us, un (show (3 : Nat) ≠ 4 by omega), un (show (3 : Nat) ≠ 2 by omega), us, us, hz 4 (by omega), e3]
  rcases hv.o with e | e
  · unfold f_LS_B
    rw [if_pos e]
    exact h364 e
  · have e1 : P_rdy d u 1 = 1 := (hz 1 (by omega)).trans e
    unfold f_LS_B
    rw [if_neg (by rw [e]; decide), bd2_s (gA_threshold h)]
    unfold P_bell P_bell2
    rw [if_pos e1, hz 5 (by omega), hz 3 (by omega), hz 6 (by omega)]
    by_cases q2 : d < u 5
    · rw [if_pos q2, if_pos q2, hc]
    · rw [if_neg q2, if_neg q2, bd2_s (gA_duration h)]
      by_cases q3 : u 3 = u 6
      · rw [if_pos q3, if_pos q3, hc]
      · rw [if_neg q3, if_neg q3]
        unfold f_LS_B_c364
        rw [if_neg (by rw [e]; decide), hz 1 (by omega), hz 3 (by omega), hz 4 (by omega), ← ea]
end
