/-! one step of the law: the segments one behind another; its call between the minutes -/
section
variable {ns nb nf K : Nat} {M X : xM}
theorem CI.min {M' : xM} (h : CI ns nb nf K M) (hK : K + 200 < 1000000000) {t : Nat} (ht : t ≤ 30) (hr : RG M') (hS : Sim ns nb nf (P_pass ns nb nf t M) M') : CI ns nb nf (K + 200) M' := by
  have hM := h.2.1.pass t
  have hv := h.2.1.1
  refine ⟨⟨h.1.1, h.1.2.1, by have := h.1.2.2.1; omega, hK⟩, MM.mono (mm := K + t) ⟨hS.MV hM.1, EC_sim hS hM.2.1, BT_sim hS hM.2.2.1, Sim.rfl'⟩ (by omega), hr, ?_, CQ_sim hS (CQ_pass t K M hv h.2.2.2.2)⟩
  exact SB_mono (SB_sim hS (SB_pass t K K M (by omega) hv h.2.2.2.1)) (by omega)
/-- a minute: foretold by the law, passed by the class -/
theorem law_step (h : CI ns nb nf K X) (hK : K + 200 < 1000000000) : ∃ M', f_LS_A ns nb X = some (ars ns nb X X) ∧
    f_LS_B ns nb (P_dens nf X) (X 1) (P_rdy (P_dens nf X) X 2) (X 3) (X 4) (ars ns nb X X) = some (PFo ns nb nf X 1, PFo ns nb nf X 2, PFo ns nb nf X 3, PFo ns nb nf X 4, ars ns nb (PFo ns nb nf X) X) ∧
    (∃ Y, f_LS_C ns nb (P_dens nf X) (PFo ns nb nf X 1) (ars ns nb (PFo ns nb nf X) X) = some (PFa ns nb nf X, Y) ∧ f_LS_D ns nb (P_dens nf X) (PFo ns nb nf X 1) Y = some (ars ns nb (PFe ns nb nf X) X)) ∧
    f_LS_E (PFa ns nb nf X) (PFo ns nb nf X 1) (PFo ns nb nf X 2) (PFo ns nb nf X 3) (PFo ns nb nf X 4) (ars ns nb (PFe ns nb nf X) X) = some M' ∧ f_LS_F ns nb M' = some M' ∧ CI ns nb nf (K + 200) M' := by
  have hv := h.2.1.1
  have hAG := h.AG
  have hs := hv.s.2
  have hb := hv.b.2
  have hK2 := h.1.2.2.2
  have hvb := MV_bell (d := P_dens nf X) hv
  have hkb : KCw ns nb X (PFo ns nb nf X) := KCw_bell hv
  have hsb : SB (K + 6) ns (PFo ns nb nf X) := SB_bell h.2.2.2.1 (by omega) hv
  have hC := LSC (d := P_dens nf X) (op := PFo ns nb nf X 1) hAG hvb hkb (by omega) hsb
  obtain ⟨M', e1, e2, e3, e4⟩ := LSE (ns := ns) (nb := nb) (nf := nf) (mm := K) (M := X) (X := ars ns nb (PFe ns nb nf X) X) (by
    obtain ⟨p, c, a1, a2, a3, a4⟩ := h.2.2.1
    exact ⟨p, c, a1, a2, by rw [ars_lo (by omega)]; exact a3, by rw [ars_lo (by omega)]; exact a4⟩) (by rw [win0]; exact hv) (fun z hz => ars_lo (by omega)) (by omega)
  rw [win0] at e1 e4
  rw [win0] at e4
  refine ⟨M', LSA hAG, LSB hAG hv, ?_, e1, ?_, h.min hK (t := 1) (by omega) e2 e4⟩
  · refine ⟨_, hC, ?_⟩
    unfold PFe
    by_cases q : PFo ns nb nf X 1 = 0
    · rw [if_pos q, if_pos q]
      have := LSD (d := P_dens nf X) (op := PFo ns nb nf X 1) hAG hkb (B := K + 6) (by omega) hsb
      rw [if_pos q] at this
      exact this
    · rw [if_neg q, if_neg q]
      have := LSD (d := P_dens nf X) (op := PFo ns nb nf X 1) hAG (KCw_acts (d := P_dens nf X) nb 0 _ (by omega) hvb hkb) (B := K + 6) (by omega) (SB_acts (d := P_dens nf X) (by omega) nb 0 _ (by omega) hvb hsb)
      rw [if_neg q] at this
      exact this
  · have hX : ∀ z, 3000 ≤ z → M' z = ars ns nb (PFe ns nb nf X) X z := fun z hz => e3 z (by omega) (by omega) (by omega)
    have hP : ∀ z, 23 ≤ z → P_min ns nb nf X z = PFe ns nb nf X z := fun z hz => by
      rw [PFe_min hv]
      unfold P_tick P_since
      rw [un (by omega)]
      split
      · rfl
      · exact un (by omega)
    have hA' : AG ns nb M' M' := ⟨fun _ _ => rfl, by rw [← e4.h (z := 9) (by omega)]; exact (MV_min hv).s.1, hs, by rw [← e4.h (z := 10) (by omega)]; exact (MV_min hv).b.1, hb⟩
    refine LSF hA' (fun k hk => ?_) (fun k hk => ?_)
    · refine ⟨by rw [hX (3000 + k) (by omega), aR4 hk hs, ← e4.ss hk (k := 4) (by omega), hP _ (by omega)], by rw [hX (3016 + k) (by omega), aR5 hk hs, ← e4.ss hk (k := 5) (by omega), hP _ (by omega)], by rw [hX (3032 + k) (by omega), aR6 hk hs, ← e4.ss hk (k := 6) (by omega), hP _ (by omega)], by rw [hX (3048 + k) (by omega), aR7 hk hs, ← e4.ss hk (k := 7) (by omega), hP _ (by omega)]⟩
    · refine ⟨by rw [hX (3064 + k) (by omega), aB0 hk hb, ← e4.b hk (k := 0) (by omega), hP _ (by omega)], by rw [hX (3080 + k) (by omega), aB1 hk hb, ← e4.b hk (k := 1) (by omega), hP _ (by omega)], by rw [hX (3096 + k) (by omega), aB4 hk hb, ← e4.b hk (k := 4) (by omega), hP _ (by omega)], by rw [hX (3112 + k) (by omega), aB5 hk hb, ← e4.b hk (k := 5) (by omega), hP _ (by omega)], by rw [hX (3128 + k) (by omega), aB6 hk hb, ← e4.b hk (k := 6) (by omega), hP _ (by omega)], by rw [hX (3144 + k) (by omega), aB7 hk hb, ← e4.b hk (k := 7) (by omega), hP _ (by omega)]⟩
/-- a change is remembered -/
theorem CI.rem (h : CI ns nb nf K M) : ∃ M1, f_X6_remember M = some M1 ∧ CI ns nb nf K M1 := by
  obtain ⟨M1, a, b, c⟩ := c_remN h.2.2.1 (by rw [win0]; exact h.2.1.1)
  exact ⟨M1, a, h.cong c (fun z hz => b z (by omega) (by omega) (by omega))⟩
theorem RG_u {z : Nat} {x : Int32} (hr : RG M) (hz : z < 1669) : RG (upd M z x) := by
  obtain ⟨p, c, a, b, e1, e2⟩ := hr
  exact ⟨p, c, a, b, by rw [un (by omega)]; exact e1, by rw [un (by omega)]; exact e2⟩
theorem RG_w {u : xM} (hr : RG M) : RG (wr 0 u M) := by
  obtain ⟨p, c, a, b, e1, e2⟩ := hr
  exact ⟨p, c, a, b, by rw [wr_out (by omega)]; exact e1, by rw [wr_out (by omega)]; exact e2⟩
theorem a_price (h : CI ns nb nf K M) {s r : Nat} (hs : s < ns) (h1 : 1 ≤ r) (h2 : r ≤ 999) : ∃ x M', f_X6_setPrice (nI s) (nI r) M = some (x, M') ∧ CI ns nb nf K M' := by
  have hn := h.2.1.1.s.2
  obtain ⟨M1, a, hc⟩ := h.rem
  refine ⟨M1 (23 + 9 * s + 3), upd M1 (23 + 9 * s + 3) (nI r), ?_, hc.1, hc.2.1.price hs h2, RG_u hc.2.2.1 (by omega), SB_cong hc.2.2.2.1 (fun k hk => un (by omega)), CQ_cong hc.2.2.2.2 (fun k hk c hc => un (by omega)) (fun j hj => un (by omega))⟩
  unfold f_X6_setPrice
  rw [bd2_s (c_stN h.2.1.1.s.1 hn hs), bd_s (show f_X6_checkRange (nI r) 1 999 M = some M from c_chkN ⟨nI_le (a := 1) h1 (by omega), nI_le (b := 999) h2 (by omega)⟩), bd_s a]
theorem a_lan (h : CI ns nb nf K M) {s r : Nat} (hs : s < ns) (h2 : r ≤ 3) : ∃ x M', f_X6_setLantern (nI s) (nI r) M = some (x, M') ∧ CI ns nb nf K M' := by
  have hn := h.2.1.1.s.2
  obtain ⟨M1, a, hc⟩ := h.rem
  refine ⟨M1 (23 + 9 * s + 1), upd M1 (23 + 9 * s + 1) (nI r), ?_, hc.1, hc.2.1.lan hs, RG_u hc.2.2.1 (by omega), SB_cong hc.2.2.2.1 (fun k hk => un (by omega)), CQ_cong hc.2.2.2.2 (fun k hk c hc => un (by omega)) (fun j hj => un (by omega))⟩
  unfold f_X6_setLantern
  rw [bd2_s (c_stN h.2.1.1.s.1 hn hs), bd_s (show f_X6_checkRange (nI r) 0 3 M = some M from c_chkN ⟨nI_le (a := 0) (Nat.zero_le _) (by omega), nI_le (b := 3) h2 (by omega)⟩), bd_s a]
theorem a_move (h : CI ns nb nf K M) {s r : Nat} (hs : s < ns) (h2 : r < 100) : ∃ x M', f_X6_moveStall (nI s) (nI r) M = some (x, M') ∧ CI ns nb nf K M' := by
  have hn := h.2.1.1.s.2
  obtain ⟨M1, a, hc⟩ := h.rem
  refine ⟨M1 (23 + 9 * s + 0), upd M1 (23 + 9 * s + 0) (nI r), ?_, hc.1, hc.2.1.move hs h2, RG_u hc.2.2.1 (by omega), SB_cong hc.2.2.2.1 (fun k hk => un (by omega)), CQ_cong hc.2.2.2.2 (fun k hk c hc => un (by omega)) (fun j hj => un (by omega))⟩
  unfold f_X6_moveStall
  rw [bd2_s (c_stN h.2.1.1.s.1 hn hs), bd_s (show f_X6_checkRange (nI r) 0 99 M = some M from c_chkN ⟨nI_le (a := 0) (Nat.zero_le _) (by omega), nI_le (b := 99) (by omega) (by omega)⟩), bd_s a]
theorem a_fog (h : CI ns nb nf K M) {r : Nat} (h2 : r ≤ 9) : ∃ x M', f_X6_setFog 0 (nI r) M = some (x, M') ∧ CI ns nb nf K M' := by
  have hf := h.2.1.1.f
  obtain ⟨M1, a, hc⟩ := h.rem
  refine ⟨M1 11, upd M1 11 (nI r), ?_, hc.1, hc.2.1.fog (i := 0) (by omega) h2, RG_u hc.2.2.1 (by omega), SB_cong hc.2.2.2.1 (fun k hk => un (by omega)), CQ_cong hc.2.2.2.2 (fun k hk c hc => un (by omega)) (fun j hj => un (by omega))⟩
  unfold f_X6_setFog
  rw [if_neg (show ¬ (0 : Int32) < 0 by decide), hf.1, if_pos (show (0 : Int32) < nI nf from nI_lt (a := 0) (by omega) (by omega)), bd_s (show f_X6_checkRange (nI r) 0 9 M = some M from c_chkN ⟨nI_le (a := 0) (Nat.zero_le _) (by omega), nI_le (b := 9) h2 (by omega)⟩), bd_s a, gd_t (show inb 0 12 = true by decide), gd_t (show inb 0 12 = true by decide)]
  rfl
theorem a_stock (h : CI ns nb nf K M) {s g t : Nat} (hs : s < ns) (hg : g < 100) (e : M (23 + 9 * s + 4) = nI t) (ht : t + g < 100) : ∃ x M', f_X6_addStock (nI s) (nI g) M = some (x, M') ∧ CI ns nb nf K M' := by
  have hn := h.2.1.1.s.2
  have hK := h.1.2.2.1
  obtain ⟨M1, a, b, c⟩ := c_remN h.2.2.1 (by rw [win0]; exact h.2.1.1)
  have hc := h.cong c (fun z hz => b z (by omega) (by omega) (by omega))
  have e1 : M1 (23 + 9 * s + 4) = nI t := by rw [b _ (by omega) (by omega) (by omega)]; exact e
  have hr := c_receive (b := 0) (u := M1) (M := M1) (x := nI g) (s := s) (by omega)
  rw [wr0_self, Nat.zero_add] at hr
  have ew : ∀ z, z < 125 → wr 0 (P_stock M1 s (nI g)) M1 z = P_stock M1 s (nI g) z := fun z hz => wr_in (z := z) (by omega) hz
  refine ⟨wr 0 (P_stock M1 s (nI g)) M1 (23 + 9 * s + 4), wr 0 (P_stock M1 s (nI g)) M1, ?_, hc.1, MM2 (hc.2.1.stock hs (x := nI g)) ew, RG_w c, fun k hk => ?_, fun k hk => ?_⟩
  · unfold f_X6_addStock f_X4_hasRoomFor
    rw [bd2_s (c_stN h.2.1.1.s.1 hn hs), bd_s (show f_X6_checkRange (nI g) 0 99 M = some M from c_chkN ⟨nI_le (a := 0) (Nat.zero_le _) (by omega), nI_le (b := 99) (by omega) (by omega)⟩), e, nI_add, if_neg (show ¬ (99 : Int32) < nI (t + g) from fun f => absurd ((nI_ltI (a := 99) (by omega) (by omega)).mp f) (by omega))]
    simp only [bd2, i10, ↓reduceIte]
    rw [bd_s a, bd_s hr]
  · rw [ew _ (by omega)]
    unfold P_stock
    by_cases q : k = s
    · subst q
      exact ⟨t + g, by omega, by rw [un (by omega), us, e1, nI_add]⟩
    · obtain ⟨y, y1, y2⟩ := hc.2.2.2.1 k hk
      exact ⟨y, y1, by rw [un (by omega), un (by omega)]; exact y2⟩
  · have hcq := hc.2.2.2.2 k hk
    have hb := h.2.1.1.b.2
    rw [ew _ (by omega), ew _ (by omega), ew _ (by omega), ew _ (by omega), HC_cong (u := M1) nb (fun j hj => by
      rw [ew _ (by omega)]
      unfold P_stock
      rw [un (by omega), un (by omega)])]
    unfold P_stock
    generalize HC M1 (nI k) nb = b at hcq ⊢
    by_cases q : k = s
    · subst q
      rw [us, un (show 23 + 9 * k + 4 ≠ 23 + 9 * k + 8 by omega), us, un (show 23 + 9 * k + 5 ≠ 23 + 9 * k + 8 by omega), un (show 23 + 9 * k + 5 ≠ 23 + 9 * k + 4 by omega), un (show 23 + 9 * k + 6 ≠ 23 + 9 * k + 8 by omega), un (show 23 + 9 * k + 6 ≠ 23 + 9 * k + 4 by omega)]
      grind
    · rw [un (by omega), un (by omega), un (by omega), un (by omega), un (by omega), un (by omega), un (by omega), un (by omega)]
      exact hcq
theorem a_back (h : CI ns nb nf K M) (hK : K + 200 < 1000000000) {i q : Nat} (hi : i < nb) (hq : q < ns) (e : M (77 + 8 * i + 4) = nI q) : ∃ x M', f_X6_putBack (nI i) M = some (x, M') ∧ CI ns nb nf (K + 200) M' := by
  have hn := h.2.1.1.s.2
  have hb := h.2.1.1.b.2
  obtain ⟨M1, a, b, c⟩ := c_remN h.2.2.1 (by rw [win0]; exact h.2.1.1)
  have hc := h.cong c (fun z hz => b z (by omega) (by omega) (by omega))
  have e1 : M1 (77 + 8 * i + 4) = nI q := by rw [b _ (by omega) (by omega) (by omega)]; exact e
  have hr := c_back (b := 0) (u := M1) (M := M1) hc.2.1.1 hi e1
  rw [wr0_self, Nat.zero_add] at hr
  have ew : ∀ z, z < 125 → wr 0 (P_back M1 i q) M1 z = P_back M1 i q z := fun z hz => wr_in (z := z) (by omega) hz
  have hSB := SB_ret hc.2.2.2.1 (by omega) hc.2.1.1 hi
  have hCQ := CQ_ret hc.2.2.2.2 hc.2.1.1 hi
  refine ⟨M1 (77 + 8 * i + 4), wr 0 (P_back M1 i q) M1, ?_, ⟨h.1.1, h.1.2.1, by have := h.1.2.2.1; omega, hK⟩, MM.mono (MM2 (hc.2.1.back hi (q := q)) ew) (by omega), RG_w c, SB_mono (SB_cong hSB (fun k hk => ?_)) (by omega), CQ_cong hCQ (fun k hk c2 hc2 => ?_) (fun j hj => ?_)⟩
  · unfold f_X6_putBack f_X1_holds
    rw [bd2_s (c_buN h.2.1.1.b.1 hb hi), e, if_neg (show ¬ nI q = -1 by rw [nI_m1 (by omega)]; exact fun f => f)]
    simp only [bd2, i10, ↓reduceIte]
    rw [bd_s a, bd_s hr]
  · rw [ew _ (by omega)]
    unfold P_back P_avoid
    exact un (by omega)
  · rw [ew _ (by omega)]
    unfold P_back P_avoid
    exact un (by omega)
  · rw [ew _ (by omega)]
    unfold P_back P_avoid
    exact un (by omega)
end
