/-! a command, done -/
def GA (ns nb nf : Nat) (u : xM) (a : Nat → Nat) : Nat → Prop
  | 1 => ns < 6 ∧ a 0 < 100 ∧ a 3 ≤ 999
  | 2 => nb < 6 ∧ a 0 < 100 ∧ a 1 ≤ 9999 ∧ 1 ≤ a 3 ∧ a 3 ≤ 20
  | 3 => a 0 < ns ∧ a 1 ≤ 999
  | 4 => a 0 < ns
  | 5 => a 0 < ns
  | 6 => a 0 < ns ∧ a 1 < 100
  | 7 => a 0 < nf ∧ a 1 ≤ 9
  | 8 => a 0 < nb ∧ ∃ q, q < ns ∧ P_hold u (a 0) = some q ∧ u (77 + 8 * a 0 + 4) = nI q
  | 9 => a 0 ≤ 100
  | _ => False
def P_do (ns nb nf : Nat) (a : Nat → Nat) (u : xM) : Nat → xM
  | 1 => P_stall ns u (nI (a 0)) (nI (a 1)) (nI (a 2)) (nI (a 3)) (nI (a 4))
  | 2 => P_buyer nb u (nI (a 0)) (nI (a 1)) (nI (a 2)) (nI (a 3))
  | 3 => upd u (23 + 9 * a 0 + 3) (nI (a 1))
  | 4 => P_stock u (a 0) (nI (a 1))
  | 5 => upd u (23 + 9 * a 0 + 1) (nI (a 1))
  | 6 => upd u (23 + 9 * a 0 + 0) (nI (a 1))
  | 7 => upd u (11 + a 0) (nI (a 1))
  | 8 => P_back u (a 0) (u (77 + 8 * a 0 + 4)).toNatClampNeg
  | 9 => P_pass ns nb nf (a 0) u
  | _ => u
def dS (v : Nat) : Nat := if v = 1 then 1 else 0
def dB (v : Nat) : Nat := if v = 2 then 1 else 0
def mi : Nat → Nat
  | 1 => 0
  | 2 => 1
  | 3 => 2
  | 4 => 3
  | 5 => 4
  | 6 => 6
  | 7 => 7
  | 8 => 8
  | _ => 5
theorem v9 {v : Nat} (h1 : 1 ≤ v) (h9 : v ≤ 9) : v = 1 ∨ v = 2 ∨ v = 3 ∨ v = 4 ∨ v = 5 ∨ v = 6 ∨ v = 7 ∨ v = 8 ∨ v = 9 := by omega
theorem sm_i : ∀ v : Fin 10, 1 ≤ v.val → inb (nI v.val - 1) 9 = true ∧ inb (nI (nI v.val - 1).toNatClampNeg) 9 = true ∧ x_smap (nI (nI v.val - 1).toNatClampNeg).toNatClampNeg = [9, 1, 2, 6, 7, 8, 0, 3, 4, 5].getD v.val 0 := by decide +kernel
section
variable {mm ns nb nf : Nat} {u M N : xM} {a : Nat → Nat}
theorem GA_of {v : Nat} (h : MV mm ns nb nf u) (h1 : 1 ≤ v) (h9 : v ≤ 9) (hf : ¬ full ns nb v = true) (hA : ∀ m, m < (kinds v).length → AK ns nb nf ((kinds v).getD m 0) (a m) ∧ ((kinds v).getD m 0 = 108 ∨ (kinds v).getD m 0 = 116 ∨ PRef u v m (a 0) (a m) = false)) : GA ns nb nf u a v := by
  have hs := h.s.2
  have hb := h.b.2
  have hF : ¬ ((v = 1 ∧ 6 ≤ ns) ∨ (v = 2 ∧ 6 ≤ nb)) := fun e => hf (decide_eq_true e)
  rcases v9 h1 h9 with rfl | rfl | rfl | rfl | rfl | rfl | rfl | rfl | rfl
  · have e0 : 0 ≤ a 0 ∧ a 0 < 100 := (hA 0 (by decide)).1
    have e3 : 1 ≤ a 3 ∧ a 3 < 1000 := (hA 3 (by decide)).1
    exact ⟨by omega, e0.2, by omega⟩
  · have e0 : 0 ≤ a 0 ∧ a 0 < 100 := (hA 0 (by decide)).1
    have e1 : 0 ≤ a 1 ∧ a 1 < 10000 := (hA 1 (by decide)).1
    have e3 : 1 ≤ a 3 ∧ a 3 < 21 := (hA 3 (by decide)).1
    exact ⟨by omega, e0.2, by omega, e3.1, by omega⟩
  · have e0 : 0 ≤ a 0 ∧ a 0 < ns := (hA 0 (by decide)).1
    have e1 : 1 ≤ a 1 ∧ a 1 < 1000 := (hA 1 (by decide)).1
    exact ⟨e0.2, by omega⟩
  · have e0 : 0 ≤ a 0 ∧ a 0 < ns := (hA 0 (by decide)).1
    exact e0.2
  · have e0 : 0 ≤ a 0 ∧ a 0 < ns := (hA 0 (by decide)).1
    exact e0.2
  · have e0 : 0 ≤ a 0 ∧ a 0 < ns := (hA 0 (by decide)).1
    have e1 : 0 ≤ a 1 ∧ a 1 < 100 := (hA 1 (by decide)).1
    exact ⟨e0.2, e1.2⟩
  · have e0 : 0 ≤ a 0 ∧ a 0 < nf := (hA 0 (by decide)).1
    have e1 : 0 ≤ a 1 ∧ a 1 < 10 := (hA 1 (by decide)).1
    exact ⟨e0.2, by omega⟩
  · have e0 : 0 ≤ a 0 ∧ a 0 < nb := (hA 0 (by decide)).1
    refine ⟨e0.2, ?_⟩
    rcases hold_cases (h.bu _ e0.2) hs with ⟨-, x2, -⟩ | ⟨q, x1, x2, x3⟩
    · exfalso
      rcases (hA 0 (by decide)).2 with y | y | y
      · exact absurd y (by decide)
      · exact absurd y (by decide)
      · unfold PRef at y
        rw [decide_eq_true x2] at y
        simp at y
    · exact ⟨q, x1, x2, x3⟩
  · have e0 : 1 ≤ a 0 ∧ a 0 < 101 := (hA 0 (by decide)).1
    show a 0 ≤ 100
    omega
theorem c_arg {j : Nat} (hj : j < 5) (N : xM) : f_X3_argument (nI j) N = some (N (1787 + j), N) := by
  unfold f_X3_argument
  rw [if_neg (nI_pos (by omega)), if_neg (show ¬ (5 : Int32) ≤ nI j from nI_ge (a := j) (b := 5) hj (by decide)), gd_t (inb_nI hj (by omega)), cl (by omega)]
theorem c_isBu {b i : Nat} (h : MV mm ns nb nf u) (hi : i < nb) : f_X2_isBuyer b (nI i) (wr b u M) = some (1, wr b u M) := by
  have hs := h.b
  unfold f_X2_isBuyer
  simp (disch := omega) only [wr_h, hs.1, nI_n0, nI_lx, ↓reduceIte]
theorem c_do {v : Nat} (h : MV mm ns nb nf u) (hm : mm < 1073741824) (h1 : 1 ≤ v) (h9 : v ≤ 9) (hg : GA ns nb nf u a v) (h81 : M 1781 = nI v) (hA : ∀ j, j < (kinds v).length → M (1787 + j) = nI (a j)) : f_X2_perform 128 (wr 128 u M) = some (wr 128 (P_do ns nb nf a u v) M) := by
  have hs := h.s.2
  have hb := h.b.2
  have hf := h.f
  have e81 : wr 128 u M 1781 = nI v := by rw [wr_out (by omega), h81]
  have x0 : f_X3_argument 0 (wr 128 u M) = some (M 1787, wr 128 u M) := by
    have := c_arg (j := 0) (by omega) (wr 128 u M)
    rw [wr_out (by omega)] at this
    exact this
  have x1 : f_X3_argument 1 (wr 128 u M) = some (M 1788, wr 128 u M) := by
    have := c_arg (j := 1) (by omega) (wr 128 u M)
    rw [wr_out (by omega)] at this
    exact this
  have x2 : f_X3_argument 2 (wr 128 u M) = some (M 1789, wr 128 u M) := by
    have := c_arg (j := 2) (by omega) (wr 128 u M)
    rw [wr_out (by omega)] at this
    exact this
  have x3 : f_X3_argument 3 (wr 128 u M) = some (M 1790, wr 128 u M) := by
    have := c_arg (j := 3) (by omega) (wr 128 u M)
    rw [wr_out (by omega)] at this
    exact this
  have x4 : f_X3_argument 4 (wr 128 u M) = some (M 1791, wr 128 u M) := by
    have := c_arg (j := 4) (by omega) (wr 128 u M)
    rw [wr_out (by omega)] at this
    exact this
  obtain ⟨s1, s2, s3⟩ := sm_i ⟨v, by omega⟩ h1
  simp only at s1 s2 s3
  have stall : ∀ (w : xM), a 0 < ns → M 1787 = nI (a 0) → f_X2_changeStall (nI v) (128 + 23 + 9 * a 0) (M 1788) (wr 128 u M) = some w → (bd2 (f_X2_isStall 128 (M 1787) (wr 128 u M)) (fun r51 M50 => (if r51 = 0 then (some M50) else (gd (inb (M 1787) 6) (gd (inb ((M50 1781) - 1) 9) ((bd (f_X2_changeStall (M50 1781) ((128 + 23) + 9 * (M 1787).toNatClampNeg) (M 1788) M50) (fun M57 => (some M57))))))))) = some w := fun w g0 g1 g2 => by
    rw [g1, bd2_s (c_isS h g0), if_neg (by decide), gd_t (inb_nI (by omega) (by omega)), e81, gd_t s1, cl (by omega), bd_s g2]
  unfold f_X2_perform
  rw [e81, if_neg (show ¬ nI v = 0 from fun e => by have := (nI_eq (b := 0) (by omega) (by omega)).mp e; omega), bd2_s x0, bd2_s x1, e81, gd_t s1, gd_t s2, s3]
  rcases v9 h1 h9 with rfl | rfl | rfl | rfl | rfl | rfl | rfl | rfl | rfl
  · obtain ⟨g1, -⟩ := hg
    rw [if_pos (by decide), bd2_s x2, bd2_s x3, bd2_s x4, show M 1787 = nI (a 0) from hA 0 (by decide), show M 1788 = nI (a 1) from hA 1 (by decide), show M 1789 = nI (a 2) from hA 2 (by decide), show M 1790 = nI (a 3) from hA 3 (by decide), show M 1791 = nI (a 4) from hA 4 (by decide), bd2_s (c_place h g1)]
    rfl
  · obtain ⟨g1, -⟩ := hg
    rw [if_neg (by decide), if_pos (by decide), bd2_s x2, bd2_s x3, show M 1787 = nI (a 0) from hA 0 (by decide), show M 1788 = nI (a 1) from hA 1 (by decide), show M 1789 = nI (a 2) from hA 2 (by decide), show M 1790 = nI (a 3) from hA 3 (by decide), bd2_s (c_placeB h g1)]
    rfl
  · obtain ⟨g1, -⟩ := hg
    rw [if_neg (by decide), if_neg (by decide), if_neg (by decide), if_neg (by decide), if_neg (by decide)]
    refine stall _ g1 (hA 0 (by decide)) ?_
    unfold f_X2_changeStall
    rw [gd_t s2, s3, if_pos (by decide), uw_s (by omega) (by omega), show M 1788 = nI (a 1) from hA 1 (by decide)]
    rfl
  · rw [if_neg (by decide), if_neg (by decide), if_neg (by decide), if_neg (by decide), if_neg (by decide)]
    have g1 : a 0 < ns := hg
    refine stall _ g1 (hA 0 (by decide)) ?_
    unfold f_X2_changeStall
    rw [gd_t s2, s3, if_neg (by decide), if_pos (by decide), bd_s (c_receive (by omega)), show M 1788 = nI (a 1) from hA 1 (by decide)]
    rfl
  · rw [if_neg (by decide), if_neg (by decide), if_neg (by decide), if_neg (by decide), if_neg (by decide)]
    have g1 : a 0 < ns := hg
    refine stall _ g1 (hA 0 (by decide)) ?_
    unfold f_X2_changeStall
    rw [gd_t s2, s3, if_neg (by decide), if_neg (by decide), if_pos (by decide), uw_s (by omega) (by omega), show M 1788 = nI (a 1) from hA 1 (by decide)]
    rfl
  · obtain ⟨g1, -⟩ := hg
    rw [if_neg (by decide), if_neg (by decide), if_neg (by decide), if_neg (by decide), if_neg (by decide)]
    refine stall _ g1 (hA 0 (by decide)) ?_
    unfold f_X2_changeStall
    rw [gd_t s2, s3, if_neg (by decide), if_neg (by decide), if_neg (by decide), uw_s (by omega) (by omega), show M 1788 = nI (a 1) from hA 1 (by decide)]
    rfl
  · obtain ⟨g1, -⟩ := hg
    rw [if_neg (by decide), if_neg (by decide), if_pos (by decide), show M 1787 = nI (a 0) from hA 0 (by decide), if_neg (nI_pos (by omega)), wr_h (by omega), hf.1, if_neg (nI_ge g1 (by omega)), gd_t (inb_nI (by omega) (by omega)), cl (by omega), uw_in (z := 11 + a 0) (by omega) (by omega), show M 1788 = nI (a 1) from hA 1 (by decide)]
    rfl
  · obtain ⟨g1, q, g2, g3, g4⟩ := hg
    rw [if_neg (by decide), if_neg (by decide), if_neg (by decide), if_pos (by decide), show M 1787 = nI (a 0) from hA 0 (by decide), bd2_s (c_isBu h g1), if_neg (by decide), gd_t (inb_nI (by omega) (by omega)), cl (by omega), bd_s (c_back h g1 g4)]
    show _ = some (wr 128 (P_back u (a 0) (u (77 + 8 * a 0 + 4)).toNatClampNeg) M)
    rw [g4, cl (by omega)]
  · have g1 : a 0 ≤ 100 := hg
    rw [if_neg (by decide), if_neg (by decide), if_neg (by decide), if_neg (by decide), if_pos (by decide), show M 1787 = nI (a 0) from hA 0 (by decide), bd_s (c_pass h (by omega) (by omega))]
    rfl
theorem MM.mono {mm' : Nat} {w : xM} (h : MM mm ns nb nf u w) (hm : mm ≤ mm') : MM mm' ns nb nf u w := ⟨MV_mono h.1 hm, h.2.1, BT_mono hm h.2.2.1, h.2.2.2⟩
theorem MM_do {v : Nat} {w : xM} (h : MM mm ns nb nf u w) (h1 : 1 ≤ v) (h9 : v ≤ 9) (hg : GA ns nb nf u a v) : MM (mm + 100) (ns + dS v) (nb + dB v) nf (P_do ns nb nf a u v) (P_do ns nb nf a w v) := by
  rcases v9 h1 h9 with rfl | rfl | rfl | rfl | rfl | rfl | rfl | rfl | rfl
  · exact (h.stall hg.1 hg.2.1 hg.2.2).mono (by omega)
  · exact (h.buyer hg.1 hg.2.1 hg.2.2.1 hg.2.2.2.1 hg.2.2.2.2).mono (by omega)
  · exact (h.price hg.1 hg.2).mono (by omega)
  · exact (h.stock hg).mono (by omega)
  · exact (h.lan hg).mono (by omega)
  · exact (h.move hg.1 hg.2).mono (by omega)
  · exact (h.fog hg.1 hg.2).mono (by omega)
  · obtain ⟨g1, q, g2, g3, g4⟩ := hg
    have e : w (77 + 8 * a 0 + 4) = nI q := by rw [← h.2.2.2.b g1 (by omega)]; exact g4
    show MM (mm + 100) ns nb nf (P_back u (a 0) (u (77 + 8 * a 0 + 4)).toNatClampNeg) (P_back w (a 0) (w (77 + 8 * a 0 + 4)).toNatClampNeg)
    rw [e, g4]
    exact (h.back g1).mono (by omega)
  · have g1 : a 0 ≤ 100 := hg
    exact (h.pass (a 0)).mono (by omega)
theorem GA_sim {v : Nat} {w : xM} (h : MM mm ns nb nf u w) (h1 : 1 ≤ v) (h9 : v ≤ 9) (hg : GA ns nb nf u a v) : GA ns nb nf w a v := by
  rcases v9 h1 h9 with rfl | rfl | rfl | rfl | rfl | rfl | rfl | rfl | rfl
  · exact ⟨hg.1, hg.2.1, hg.2.2⟩
  · exact ⟨hg.1, hg.2.1, hg.2.2.1, hg.2.2.2.1, hg.2.2.2.2⟩
  · exact ⟨hg.1, hg.2⟩
  · exact (show a 0 < ns from hg)
  · exact (show a 0 < ns from hg)
  · exact ⟨hg.1, hg.2⟩
  · exact ⟨hg.1, hg.2⟩
  rotate_left
  · exact (show a 0 ≤ 100 from hg)
  obtain ⟨g1, q, g2, g3, g4⟩ := hg
  exact ⟨g1, q, g2, by rw [← S_hold h.2.2.2 g1]; exact g3, by rw [← h.2.2.2.b g1 (by omega)]; exact g4⟩
end

