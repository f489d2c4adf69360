/-! the rope's text -/
def wq (b : Nat) (o M : xM) : xM := fun z => if b ≤ z ∧ z < b + 100 then o (z - b) else M z
theorem wq_in {b a z : Nat} {u M : xM} (h : a = b + z) (hz : z < 100) : wq b u M a = u z := by
  subst h
  unfold wq
  rw [if_pos ⟨Nat.le_add_right _ _, by omega⟩, Nat.add_sub_cancel_left]
theorem wq_out {b a : Nat} {u M : xM} (h : a < b ∨ b + 100 ≤ a) : wq b u M a = M a := by
  unfold wq
  rw [if_neg (by omega)]
theorem wq_upd {b z : Nat} {u M : xM} {x : Int32} (hz : z < 100) : upd (wq b u M) (b + z) x = wq b (upd u z x) M := by
  funext y
  by_cases hy : y = b + z
  · subst hy
    rw [us, wq_in rfl hz, us]
  · rw [un hy]
    by_cases h2 : b ≤ y ∧ y < b + 100
    · rw [wq_in (z := y - b) (by omega) (by omega), wq_in (z := y - b) (by omega) (by omega), un (by omega)]
    · rw [wq_out (by omega), wq_out (by omega)]
theorem wq_self {b : Nat} {M : xM} : wq b (win b M) M = M := by
  funext y
  by_cases h2 : b ≤ y ∧ y < b + 100
  · rw [wq_in (z := y - b) (by omega) (by omega)]
    unfold win
    rw [show b + (y - b) = y by omega]
  · rw [wq_out (by omega)]
theorem byteF : ∀ n : Fin 128, vp_nar .byte ((nI n.val).toInt8.toInt32) = nI n.val := by decide +kernel
theorem byteN {n : Nat} (h : n < 128) : vp_nar .byte ((nI n).toInt8.toInt32) = nI n := byteF ⟨n, h⟩
def SGs (u : xM) (j : Nat) : Nat → Nat → Int32
  | 0, _ => 45
  | k + 1, s => if u (23 + 9 * s + 0) = nI j then nI (65 + s) else SGs u j k (s + 1)
def SGb (u : xM) (ns j : Nat) : Nat → Nat → Int32
  | 0, _ => SGs u j ns 0
  | k + 1, i => if u (77 + 8 * i + 0) = nI j then nI (97 + i) else SGb u ns j k (i + 1)
def SG (u : xM) (ns nb j : Nat) : Int32 := if u 7 = nI j then 42 else SGb u ns j nb 0
theorem SGs_sim {ns nb nf j : Nat} {u v : xM} (h : Sim ns nb nf u v) : ∀ k s, s + k ≤ ns → SGs u j k s = SGs v j k s
  | 0, _, _ => rfl
  | k + 1, s, hk => by
    show (if u (23 + 9 * s + 0) = nI j then nI (65 + s) else SGs u j k (s + 1)) = (if v (23 + 9 * s + 0) = nI j then nI (65 + s) else SGs v j k (s + 1))
    rw [h.ss (show s < ns by omega) (by omega), SGs_sim h k (s + 1) (by omega)]
theorem SGb_sim {ns nb nf j : Nat} {u v : xM} (h : Sim ns nb nf u v) : ∀ k i, i + k ≤ nb → SGb u ns j k i = SGb v ns j k i
  | 0, _, _ => SGs_sim h ns 0 (by omega)
  | k + 1, i, hk => by
    show (if u (77 + 8 * i + 0) = nI j then nI (97 + i) else SGb u ns j k (i + 1)) = (if v (77 + 8 * i + 0) = nI j then nI (97 + i) else SGb v ns j k (i + 1))
    rw [h.b (show i < nb by omega) (by omega), SGb_sim h k (i + 1) (by omega)]
theorem SG_sim {ns nb nf j : Nat} {u v : xM} (h : Sim ns nb nf u v) : SG u ns nb j = SG v ns nb j := by
  unfold SG
  rw [h.h (z := 7) (by omega), SGb_sim h nb 0 (by omega)]
section
variable {mm ns nb nf : Nat} {M Q : xM}
theorem c_draw {p n : Nat} {o : xM} (hp : p < 100) (hn : n < 128) : f_X6_drawOnRope (nI p) (nI n) (wq 1677 o M) = some (wq 1677 (upd o p (nI n)) M) := by
  unfold f_X6_drawOnRope
  rw [if_neg (nI_pos (by omega)), if_neg (show ¬ (100 : Int32) ≤ nI p from nI_ge (a := p) (b := 100) hp (by decide)), gd_t (inb_nI hp (by omega)), cl (by omega), byteN hn, wq_upd hp]
theorem c_ropeB (h : MV mm ns nb nf (win 0 M)) : ∀ (i n : Nat) (o : xM), i ≤ nb → i < n → (∀ j, j < 100 → o j = SGb (win 0 M) ns j (nb - i) i) → ∃ o', lp (fun _ _ => none) (fun k => fb_X6_writeRope_c75 k) n (nI i - 1) (wq 1677 o M) = some (100, upd (wq 1677 o' M) 1674 100) ∧ ∀ j, j < 100 → o' j = SG (win 0 M) ns nb j
  | 0, n + 1, o, hi, hn, ho => by
    obtain ⟨p, hp, e⟩ := h.p
    rw [lp_s]
    unfold fb_X6_writeRope_c75
    rw [if_pos (show (nI 0 - 1 : Int32) < 0 by decide), wq_out (a := 7) (by omega), show M 7 = nI p from w0.symm.trans e, show (42 : Int32) = nI 42 from rfl, bd_s (c_draw hp (by omega))]
    refine ⟨_, by rw [us], fun j hj => ?_⟩
    unfold SG
    rw [e]
    by_cases q : j = p
    · subst q; rw [us, if_pos rfl]; rfl
    · rw [un q, if_neg (fun e => q ((nI_eq (by omega) (by omega)).mp e).symm), ho j hj]
      rfl
  | i + 1, n + 1, o, hi, hn, ho => by
    have hb6 := h.b.2
    obtain ⟨p, hp, e⟩ := (h.bu i (by omega)).1
    have ih := c_ropeB h i n (upd o p (nI (97 + i))) (by omega) (by omega) (fun j hj => by
      rw [show nb - i = (nb - (i + 1)) + 1 by omega]
      show _ = if win 0 M (77 + 8 * i + 0) = nI j then nI (97 + i) else SGb (win 0 M) ns j (nb - (i + 1)) (i + 1)
      rw [e]
      by_cases q : j = p
      · subst q; rw [us, if_pos rfl]
      · rw [un q, if_neg (fun e => q ((nI_eq (by omega) (by omega)).mp e).symm), ho j hj])
    rw [lp_s]
    generalize lp (fun _ _ => none) (fun k => fb_X6_writeRope_c75 k) n = K at ih ⊢
    unfold fb_X6_writeRope_c75
    rw [nI_pred, if_neg (nI_pos (by omega)), gd_t (inb_nI (by omega) (by omega)), cl (by omega), wq_out (a := 77 + 8 * i + 0) (by omega), show M (77 + 8 * i + 0) = nI p from w0.symm.trans e, show (97 : Int32) + nI i = nI (97 + i) from nI_add 97 i, bd_s (c_draw hp (by omega)), sub_m1]
    exact ih
theorem c_ropeS (h : MV mm ns nb nf (win 0 M)) : ∀ (i n : Nat) (o : xM), i ≤ ns → i < n → (∀ j, j < 100 → o j = SGs (win 0 M) j (ns - i) i) → ∃ o', lp (fun _ _ => none) (fun k => fb_X6_writeRope_c35 k) n (nI i - 1) (wq 1677 o M) = some (100, upd (wq 1677 o' M) 1674 100) ∧ ∀ j, j < 100 → o' j = SG (win 0 M) ns nb j
  | 0, n + 1, o, hi, hn, ho => by
    have hb6 := h.b
    rw [lp_s]
    unfold fb_X6_writeRope_c35 f_X6_writeRope_c75
    rw [if_pos (show (nI 0 - 1 : Int32) < 0 by decide), wq_out (a := 10) (by omega), show M 10 = nI nb from w0.symm.trans hb6.1]
    exact c_ropeB h nb FU o (Nat.le_refl _) (FU_e _ (by omega)) (fun j hj => by
      rw [Nat.sub_self]
      exact ho j hj)
  | i + 1, n + 1, o, hi, hn, ho => by
    have hs6 := h.s.2
    obtain ⟨p, hp, e⟩ := h.st i (by omega)
    have ih := c_ropeS h i n (upd o p (nI (65 + i))) (by omega) (by omega) (fun j hj => by
      rw [show ns - i = (ns - (i + 1)) + 1 by omega]
      show _ = if win 0 M (23 + 9 * i + 0) = nI j then nI (65 + i) else SGs (win 0 M) j (ns - (i + 1)) (i + 1)
      rw [e]
      by_cases q : j = p
      · subst q; rw [us, if_pos rfl]
      · rw [un q, if_neg (fun e => q ((nI_eq (by omega) (by omega)).mp e).symm), ho j hj])
    rw [lp_s]
    generalize lp (fun _ _ => none) (fun k => fb_X6_writeRope_c35 k) n = K at ih ⊢
    unfold fb_X6_writeRope_c35
    rw [nI_pred, if_neg (nI_pos (by omega)), gd_t (inb_nI (by omega) (by omega)), cl (by omega), wq_out (a := 23 + 9 * i + 0) (by omega), show M (23 + 9 * i + 0) = nI p from w0.symm.trans e, show (65 : Int32) + nI i = nI (65 + i) from nI_add 65 i, bd_s (c_draw hp (by omega)), sub_m1]
    exact ih
theorem c_ropeF (h : MV mm ns nb nf (win 0 M)) : ∀ (k i n : Nat) (o : xM), i + k = 100 → k < n → (∀ j, j < i → o j = 45) → ∃ o', lp (fun _ _ => none) (fun k => fb_X6_writeRope_c2 k) n (nI i) (wq 1677 o M) = some (100, upd (wq 1677 o' M) 1674 100) ∧ ∀ j, j < 100 → o' j = SG (win 0 M) ns nb j
  | 0, i, n + 1, o, hi, hn, ho => by
    have hs6 := h.s
    rw [lp_s]
    unfold fb_X6_writeRope_c2 f_X6_writeRope_c35
    rw [if_pos (show (100 : Int32) ≤ nI i from nI_le (a := 100) (by omega) (by omega)), wq_out (a := 9) (by omega), show M 9 = nI ns from w0.symm.trans hs6.1]
    exact c_ropeS h ns FU o (Nat.le_refl _) (FU_e _ (by omega)) (fun j hj => by
      rw [Nat.sub_self]
      exact ho j (by omega))
  | k + 1, i, n + 1, o, hi, hn, ho => by
    have ih := c_ropeF h k (i + 1) n (upd o i 45) (by omega) (by omega) (fun j hj => by
      by_cases q : j = i
      · subst q; exact us
      · rw [un q]; exact ho j (by omega))
    rw [lp_s]
    generalize lp (fun _ _ => none) (fun k => fb_X6_writeRope_c2 k) n = K at ih ⊢
    unfold fb_X6_writeRope_c2
    rw [if_neg (show ¬ (100 : Int32) ≤ nI i from nI_ge (a := i) (b := 100) (by omega) (by decide)), gd_t (inb_nI (by omega) (by omega)), cl (by omega), show vp_nar .byte 45 = 45 from by decide, wq_upd (by omega), nI_1]
    exact ih
theorem m_signS (h : MV mm ns nb nf (win 2520 Q)) {j : Nat} : ∀ (k s n : Nat), s + k = ns → k < n → lp (fun _ _ => none) (fun k => fb_X7_signAt_c50 k (nI j)) n (nI s) Q = some (SGs (win 2520 Q) j k s, Q)
  | 0, s, n + 1, hs, hn => by
    have h6 := h.s
    rw [lp_s]
    unfold fb_X7_signAt_c50
    rw [show Q 2529 = nI ns from h6.1, if_pos (nI_le (by omega) (by omega))]
    rfl
  | k + 1, s, n + 1, hs, hn => by
    have h6 := h.s
    have ih := m_signS h (j := j) k (s + 1) n (by omega) (by omega)
    rw [lp_s]
    generalize lp (fun _ _ => none) (fun k => fb_X7_signAt_c50 k (nI j)) n = K at ih ⊢
    unfold fb_X7_signAt_c50
    rw [show Q 2529 = nI ns from h6.1, if_neg (nI_ge (by omega) (by omega)), bd2_s (show f_X7_st (nI s) 0 Q = _ from m_st' (k := 0) (by omega) (by omega)), show (65 : Int32) + nI s = nI (65 + s) from nI_add 65 s, nI_1]
    show _ = some (if win 2520 Q (23 + 9 * s + 0) = nI j then nI (65 + s) else SGs (win 2520 Q) j k (s + 1), Q)
    by_cases q : Q (2520 + (23 + 9 * s + 0)) = nI j
    · rw [if_pos q, if_pos (show win 2520 Q (23 + 9 * s + 0) = nI j from q)]
    · rw [if_neg q, if_neg (show ¬ win 2520 Q (23 + 9 * s + 0) = nI j from q)]
      exact ih
theorem m_signB (h : MV mm ns nb nf (win 2520 Q)) {j : Nat} : ∀ (k s n : Nat), s + k = nb → k < n → lp (fun _ _ => none) (fun k => fb_X7_signAt_c16 k (nI j)) n (nI s) Q = some (SGb (win 2520 Q) ns j k s, Q)
  | 0, s, n + 1, hs, hn => by
    have h6 := h.b
    have h5 := h.s.2
    rw [lp_s]
    unfold fb_X7_signAt_c16 f_X7_signAt_c50
    rw [show Q 2530 = nI nb from h6.1, if_pos (nI_le (by omega) (by omega))]
    exact m_signS h ns 0 FU (by omega) (FU_e _ (by omega))
  | k + 1, s, n + 1, hs, hn => by
    have h6 := h.b
    have ih := m_signB h (j := j) k (s + 1) n (by omega) (by omega)
    rw [lp_s]
    generalize lp (fun _ _ => none) (fun k => fb_X7_signAt_c16 k (nI j)) n = K at ih ⊢
    unfold fb_X7_signAt_c16
    rw [show Q 2530 = nI nb from h6.1, if_neg (nI_ge (by omega) (by omega)), bd2_s (show f_X7_by (nI s) 0 Q = _ from m_by' (k := 0) (by omega) (by omega)), show (97 : Int32) + nI s = nI (97 + s) from nI_add 97 s, nI_1]
    show _ = some (if win 2520 Q (77 + 8 * s + 0) = nI j then nI (97 + s) else SGb (win 2520 Q) ns j k (s + 1), Q)
    by_cases q : Q (2520 + (77 + 8 * s + 0)) = nI j
    · rw [if_pos q, if_pos (show win 2520 Q (77 + 8 * s + 0) = nI j from q)]
    · rw [if_neg q, if_neg (show ¬ win 2520 Q (77 + 8 * s + 0) = nI j from q)]
      exact ih
theorem m_sign (h : MV mm ns nb nf (win 2520 Q)) {j : Nat} : f_X7_signAt (nI j) Q = some (SG (win 2520 Q) ns nb j, Q) := by
  have h6 := h.b.2
  unfold f_X7_signAt SG
  by_cases q : Q 2527 = nI j
  · rw [if_pos q.symm, if_pos (show win 2520 Q 7 = nI j from q)]
  · rw [if_neg (fun e => q e.symm), if_neg (show ¬ win 2520 Q 7 = nI j from q)]
    exact m_signB h nb 0 FU (by omega) (FU_e _ (by omega))
theorem m_rope {N : xM} (h : MV mm ns nb nf (win 2520 N)) (h100 : N 2519 = 100) : ∀ (k i n : Nat) (o : xM), i + k = 100 → k < n → (∀ j, j < i → o j = SG (win 2520 N) ns nb j) → ∃ o', lp (fun _ _ => none) (fun k => fb_X7_writeRope_c13 k) n (nI i) (wq 4152 o N) = some (100, wq 4152 o' N) ∧ ∀ j, j < 100 → o' j = SG (win 2520 N) ns nb j
  | 0, i, n + 1, o, hi, hn, ho => by
    rw [lp_s]
    unfold fb_X7_writeRope_c13
    rw [if_pos (show (100 : Int32) ≤ nI i from nI_le (a := 100) (by omega) (by omega)), wq_out (by omega), h100]
    exact ⟨o, rfl, fun j hj => ho j (by omega)⟩
  | k + 1, i, n + 1, o, hi, hn, ho => by
    have hs : Sim ns nb nf (win 2520 N) (win 2520 (wq 4152 o N)) := fun z hz => by
      have := Lv_lt h.s.2 h.b.2 h.f.2.2 hz
      exact (wq_out (b := 4152) (a := 2520 + z) (by omega)).symm
    have ih := m_rope h h100 k (i + 1) n (upd o i (SG (win 2520 N) ns nb i)) (by omega) (by omega) (fun j hj => by
      by_cases q : j = i
      · subst q; exact us
      · rw [un q]; exact ho j (by omega))
    rw [lp_s]
    generalize lp (fun _ _ => none) (fun k => fb_X7_writeRope_c13 k) n = K at ih ⊢
    unfold fb_X7_writeRope_c13
    rw [if_neg (show ¬ (100 : Int32) ≤ nI i from nI_ge (a := i) (b := 100) (by omega) (by decide)), bd2_s (m_sign (hs.MV h)), gd_t (inb_nI (by omega) (by omega)), cl (by omega), wq_upd (by omega), nI_1, ← SG_sim hs]
    exact ih
theorem s_writeRope (h : RR mm M) : OkP mm f_X6_writeRope f_X7_writeRope M := by
  obtain ⟨ns, nb, nf, g1, g2, g3, g4, g5⟩ := h.mk
  obtain ⟨o, c1, c2⟩ := c_ropeF g1 100 0 FU (win 1677 M) rfl (FU_e _ (by omega)) (fun j hj => absurd hj (Nat.not_lt_zero j))
  rw [wq_self] at c1
  have hN : ∀ z, (z < 1677 ∨ 1777 ≤ z) → z ≠ 1674 → z ≠ 2504 → z ≠ 2519 → upd (upd (upd (wq 1677 o M) 1674 100) 2504 0) 2519 100 z = M z := fun z x1 x2 x3 x4 => by rw [un x4, un x3, un x2, wq_out (by omega)]
  have hN2 : ∀ j, j < 100 → upd (upd (upd (wq 1677 o M) 1674 100) 2504 0) 2519 100 (1677 + j) = o j := fun j hj => by rw [un (by omega), un (by omega), un (by omega), wq_in rfl hj]
  have hN4 : upd (upd (upd (wq 1677 o M) 1674 100) 2504 0) 2519 100 1674 = 100 := by rw [un (by omega), un (by omega), us]
  have hN9 : upd (upd (upd (wq 1677 o M) 1674 100) 2504 0) 2519 100 2519 = 100 := us
  generalize hNd : upd (upd (upd (wq 1677 o M) 1674 100) 2504 0) 2519 100 = N at hN hN2 hN4 hN9
  have hs : Sim ns nb nf (win 0 M) (win 2520 N) := g4.trans (fun z hz => by
    have := Lv_lt g1.s.2 g1.b.2 g1.f.2.2 hz
    exact (hN _ (by omega) (by omega) (by omega) (by omega)).symm)
  obtain ⟨o2, d1, d2⟩ := m_rope (hs.MV g1) hN9 100 0 FU (win 4152 N) rfl (FU_e _ (by omega)) (fun j hj => absurd hj (Nat.not_lt_zero j))
  rw [wq_self] at d1
  refine ⟨100, _, wq 4152 o2 N, c1, ?_, ?_⟩
  · unfold f_X7_writeRope
    rw [hNd]
    exact d1
  · have hq : ∀ z, (z < 1677 ∨ 1777 ≤ z) → z ≠ 1674 → z ≠ 2504 → z ≠ 2519 → (z < 4152 ∨ 4252 ≤ z) → wq 4152 o2 N z = M z := fun z x1 x2 x3 x4 x5 => by rw [wq_out (by omega), hN z x1 x2 x3 x4]
    refine ⟨RM_cong h.1 (fun z hz => hq z (by omega) (by omega) (by omega) (by omega) (by omega)), RH_cong h.2.1 (fun z hz => hq z (by omega) (by omega) (by omega) (by omega) (by omega)), RS_cong h.2.2.1 (fun z hz => hq z (by omega) (by omega) (by omega) (by omega) (by omega)), RB_cong h.2.2.2.1 (fun z hz => hq z (by omega) (by omega) (by omega) (by omega) (by omega)), RE_cong h.2.2.2.2.1 (fun z hz => hq z (by omega) (by omega) (by omega) (by omega) (by omega)), Or.inr ⟨?_, ?_, fun j hj => ?_⟩⟩
    · rw [wq_out (by omega), hN4]
    · rw [wq_out (by omega), hN9]
    · rw [wq_out (by omega), hN2 j hj, wq_in rfl hj, c2 j hj, d2 j hj, SG_sim hs]
theorem s_outputByte (h : RR mm M) (x : Int32) : OkP mm (f_X6_outputByte x) (f_X7_outputByte x) M := by
  rcases h.2.2.2.2.2 with ⟨h1, h2⟩ | ⟨h1, h2, h3⟩
  · refine ⟨-1, M, upd M 2504 0, ?_, ?_, R_t0 h⟩
    · unfold f_X6_outputByte
      rw [h1]
      by_cases q : x < 0
      · rw [if_pos q]
      · rw [if_neg q, if_neg q]
    · unfold f_X7_outputByte
      rw [un (by omega), h2, m_inR]
      have : ¬ ((0 : Int32) ≤ x ∧ x ≤ 0 - 1) := by
        rintro ⟨a, b⟩
        have h1 := Int32.le_iff_toInt_le.mp a
        have h2 := Int32.le_iff_toInt_le.mp b
        have h3 : (0 - 1 : Int32).toInt = -1 := by decide
        have h4 : (0 : Int32).toInt = 0 := rfl
        omega
      rw [if_neg this]
      simp only [bd2, ↓reduceIte]
  · rcases ixC x (n := 100) (by omega) with q | ⟨j, hj, rfl⟩
    · refine ⟨-1, M, upd M 2504 0, ?_, ?_, R_t0 h⟩
      · unfold f_X6_outputByte
        rw [h1]
        by_cases q1 : x < 0
        · rw [if_pos q1]
        · rw [if_neg q1, if_neg]
          rcases q with q | q
          · exact absurd q q1
          · rw [Int32.not_lt]; exact q
      · unfold f_X7_outputByte
        rw [un (by omega), h2, m_inR, if_neg (show ¬ ((0 : Int32) ≤ x ∧ x ≤ 100 - 1) from rng_out (n := 100) q (by omega))]
        simp only [bd2, ↓reduceIte]
    · refine ⟨M (1677 + j), M, upd M 2504 0, ?_, ?_, R_t0 h⟩
      · unfold f_X6_outputByte
        rw [h1, if_neg (nI_pos (by omega)), if_pos (show nI j < (100 : Int32) from nI_lt (b := 100) hj (by decide)), gd_t (inb_nI hj (by omega)), cl (by omega)]
      · unfold f_X7_outputByte
        rw [un (by omega), h2, m_inR, if_pos (show ((0 : Int32) ≤ nI j ∧ nI j ≤ 100 - 1) from rng_in (n := 100) hj (by omega))]
        simp only [bd2, i10, ↓reduceIte]
        rw [gd_t (inb_nI hj (by omega)), cl (by omega), un (by omega), h3 j hj]
end
