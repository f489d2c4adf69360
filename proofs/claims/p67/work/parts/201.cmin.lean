/-! the class's minute, over a window -/
theorem i10 : ((1 : Int32) = 0) = False := eq_false (by decide)
theorem im10 : ((-1 : Int32) < 0) = True := eq_true (by decide)
theorem nI_m1 {h : Nat} (hh : h < 2147483648) : (nI h = -1) = False := by
  refine eq_false (fun e => ?_)
  have e2 := congrArg Int32.toInt e
  rw [nI_toInt (by omega)] at e2
  have : (-1 : Int32).toInt = -1 := by decide
  omega
theorem nI_n0 {h : Nat} (hh : h < 2147483648) : (nI h < 0) = False := eq_false (nI_pos (by omega))
theorem nI_ll {a b : Nat} (ha : a < 2147483648) (hb : b < 2147483648) (h : a ≤ b) : (nI a ≤ nI b) = True := eq_true ((nI_leI (by omega) (by omega)).mpr h)
theorem nI_lx {a b : Nat} (ha : a < 2147483648) (hb : b < 2147483648) (h : b < a) : (nI a ≤ nI b) = False := eq_false (fun q => absurd ((nI_leI (by omega) (by omega)).mp q) (by omega))
theorem nI_tt {a b : Nat} (ha : a < 2147483648) (hb : b < 2147483648) (h : a < b) : (nI a < nI b) = True := eq_true ((nI_ltI (by omega) (by omega)).mpr h)
theorem nI_tx {a b : Nat} (ha : a < 2147483648) (hb : b < 2147483648) (h : b ≤ a) : (nI a < nI b) = False := eq_false (fun q => absurd ((nI_ltI (by omega) (by omega)).mp q) (by omega))
theorem hold_cases {ns i : Nat} {u : xM} (h : BV ns u i) (hs : ns ≤ 6) : (P_hold u i = none ∧ u (77 + 8 * i + 4) = -1 ∧ u (77 + 8 * i + 5) = 0) ∨ ∃ q, q < ns ∧ P_hold u i = some q ∧ u (77 + 8 * i + 4) = nI q := by
  rcases h.2.2 with ⟨a, b⟩ | ⟨q, a, b⟩
  · exact Or.inl ⟨by unfold P_hold; rw [if_pos a], a, b⟩
  · refine Or.inr ⟨q, a, ?_, b⟩
    unfold P_hold
    rw [b, if_neg (by rw [nI_m1 (by omega)]; exact fun h => h), cl (by omega)]
section
variable {mm ns nb nf b i : Nat} {u M : xM}
theorem c_isS {q : Nat} (h : MV mm ns nb nf u) (hq : q < ns) : f_X2_isStall b (nI q) (wr b u M) = some (1, wr b u M) := by
  have hs := h.s
  unfold f_X2_isStall
  simp (disch := omega) only [wr_h, hs.1, nI_n0, nI_lx, ↓reduceIte]
theorem c_isSn : f_X2_isStall b (-1) (wr b u M) = some (0, wr b u M) := by
  unfold f_X2_isStall
  simp only [im10, ↓reduceIte]
theorem c_ret (h : MV mm ns nb nf u) (hi : i < nb) : f_X2_returnGood b (b + 77 + 8 * i) (wr b u M) = some (wr b (P_ret u i) M) := by
  have hs := h.s.2
  have hb := h.b.2
  unfold f_X2_returnGood P_ret P_ret1
  rcases hold_cases (h.bu i hi) hs with ⟨e1, e2, e3⟩ | ⟨q, hq, e1, e2⟩
  · simp (disch := omega) only [wr_b, e1, e2, c_isSn, bd2, bd, f_X1_letGo, ↓reduceIte, uw_b]
  · simp (disch := omega) only [wr_b, e1, e2, c_isS h hq, bd2, bd, gd, f_X1_letGo, ↓reduceIte, uw_b, i10, inb_nI, cl, wr_s, uw_s]
theorem c_dens {t : Nat} (h : MV mm ns nb nf u) (ht : t < 2147483648) : f_X2_densityIn b (nI t) (wr b u M) = some (u (11 + t / 5 % nf), wr b u M) := by
  have hf := h.f
  have e5 : nI t / 5 = nI (t / 5) := pk_div (d := 5) (by omega) (by omega) (by omega)
  have em : nI (t / 5) - nI (t / 5) / nI nf * nI nf = nI (t / 5 % nf) := pk_rem (by omega) (by omega) (by omega)
  have hl : t / 5 % nf < nf := Nat.mod_lt _ (by omega)
  have hn : nz (nI nf) = true := by
    unfold nz
    have : ¬ nI nf = 0 := nI_ne0 (by omega) (by omega)
    simpa using this
  have h1 : (nI nf < 1) = False := nI_tx (b := 1) (by omega) (by omega) (by omega)
  have h12 : (nI nf ≤ 12) = True := nI_ll (b := 12) (by omega) (by omega) (by omega)
  unfold f_X2_densityIn
  simp (disch := omega) only [wr_h, hf.1, nI_n0, h1, h12, e5, em, hn, gd, inb_nI, cl, ↓reduceIte]
  rw [wr_in (z := 11 + t / 5 % nf) (by omega) (by omega)]
theorem c_now (h : MV mm ns nb nf u) (hm : mm < 2147483648) : f_X2_densityNow b (wr b u M) = some (P_dens nf u, wr b u M) := by
  obtain ⟨m, h1, h2⟩ := h.m
  unfold f_X2_densityNow P_dens
  simp (disch := omega) only [wr_h, h2, c_dens h, bd2, cl]
end

