section
variable {mm ns nb nf b i : Nat} {u M : xM}
theorem c_mists {d a1 v2 : Int32} {k2 : Int32 → xM → Option xM} : ∀ (k s n : Nat) (u : xM), s + k = ns → k < n → MV mm ns nb nf u → lp (fun _ _ _ _ => none) (fun k => fb_X2_pass_c57 k2 k b a1) n v2 d (nI s) (wr b u M) = f_X2_pass_c83 k2 b a1 v2 (wr b (P_mists d k s u) M)
  | 0, s, n + 1, u, hs, hn, h => by
    have h6 := h.s
    rw [lp_s]
    unfold fb_X2_pass_c57
    simp (disch := omega) only [wr_h, h6.1, nI_ll, ↓reduceIte, P_mists]
  | k + 1, s, n + 1, u, hs, hn, h => by
    have h6 := h.s
    rw [lp_s]
    have ih := c_mists (d := d) (a1 := a1) (v2 := v2) (k2 := k2) k (s + 1) n (P_mist d s u) (by omega) (by omega) (MV_mist h (by omega))
    generalize lp (fun _ _ _ _ => none) (fun k => fb_X2_pass_c57 k2 k b a1) n = K at ih ⊢
    unfold fb_X2_pass_c57
    simp (disch := omega) only [wr_h, h6.1, nI_lx, ↓reduceIte, inb_nI, gd, cl, c_mist, bd, nI_1]
    exact ih
theorem c_acts {d a1 v2 : Int32} {k2 : Int32 → xM → Option xM} : ∀ (k i n : Nat) (u : xM), i + k = nb → k < n → MV mm ns nb nf u → lp (fun _ _ _ _ => none) (fun k => fb_X2_pass_c27 k2 k b a1) n v2 d (nI i) (wr b u M) = f_X2_pass_c57 k2 b a1 v2 d 0 (wr b (P_acts ns d k i u) M)
  | 0, i, n + 1, u, hs, hn, h => by
    have h6 := h.b
    rw [lp_s]
    unfold fb_X2_pass_c27
    simp (disch := omega) only [wr_h, h6.1, nI_ll, ↓reduceIte, P_acts]
  | k + 1, i, n + 1, u, hs, hn, h => by
    have h6 := h.b
    rw [lp_s]
    have ih := c_acts (d := d) (a1 := a1) (v2 := v2) (k2 := k2) k (i + 1) n (P_act ns d i u) (by omega) (by omega) (MV_act h (by omega))
    generalize lp (fun _ _ _ _ => none) (fun k => fb_X2_pass_c27 k2 k b a1) n = K at ih ⊢
    have hc := c_act (b := b) (M := M) (d := d) h (show i < nb by omega)
    unfold fb_X2_pass_c27
    simp (disch := omega) only [wr_h, h6.1, nI_lx, ↓reduceIte, inb_nI, gd, cl, hc, bd, nI_1]
    exact ih
theorem c_count (ho : u 1 = 0 ∨ u 1 = 1) : f_X2_countMinute b (wr b u M) = some (wr b (P_tick (if u 1 = 1 then P_since u else u)) M) := by
  unfold f_X2_countMinute f_X2_countMinute_c17 P_tick P_since
  rcases ho with e | e
  · simp (disch := omega) only [wr_h, e, ↓reduceIte, i01, uw_h]
  · simp (disch := omega) only [wr_h, e, ↓reduceIte, i10, uw_h]
theorem c_min {a1 v2 : Int32} {k2 : Int32 → xM → Option xM} (h : MV mm ns nb nf u) (hm : mm < 2147483648) (hlt : ¬ a1 ≤ v2) : fb_X2_pass_c2 k2 b a1 v2 (wr b u M) = k2 (v2 + 1) (wr b (P_min ns nb nf u) M) := by
  have hb := MV_bell (d := P_dens nf u) h
  have h6 := h.b.2
  have h5 := h.s.2
  unfold fb_X2_pass_c2 P_min P_min1
  simp (disch := omega) only [hlt, ↓reduceIte, c_now h hm, bd2, c_bell _ h, bd, wr_h]
  rcases hb.o with e | e
  · simp (disch := omega) only [e, ↓reduceIte, i01, f_X2_pass_c83, c_count hb.o, bd]
  · simp (disch := omega) only [e, ↓reduceIte, i10]
    unfold f_X2_pass_c27
    rw [show (0 : Int32) = nI 0 from rfl, c_acts nb 0 FU _ (by omega) (FU_e _ (by omega)) hb]
    unfold f_X2_pass_c57
    have ha := MV_acts (d := P_dens nf u) nb 0 _ (by omega) hb
    rw [show (0 : Int32) = nI 0 from rfl, c_mists ns 0 FU _ (by omega) (FU_e _ (by omega)) ha]
    have hw := MV_mists (d := P_dens nf u) ns 0 _ (by omega) ha
    have e1 : P_mists (P_dens nf u) ns 0 (P_acts ns (P_dens nf u) nb 0 (P_bell nb (P_dens nf u) u)) 1 = 1 := by rw [P_mists_lo (by omega), P_acts_lo (by omega), e]
    simp only [f_X2_pass_c83, c_count hw.o, bd, e1, ↓reduceIte, P_opn]
theorem c_passL {t : Nat} (ht : t < 2147483648) : ∀ (k i n mm : Nat) (u : xM), i + k = t → k < n → mm + k < 2147483648 → MV mm ns nb nf u → lp (fun _ _ => none) (fun k => fb_X2_pass_c2 k b (nI t)) n (nI i) (wr b u M) = some (wr b (P_pass ns nb nf k u) M)
  | 0, i, n + 1, mm, u, hi, hn, hm, h => by
    rw [lp_s]
    unfold fb_X2_pass_c2
    simp (disch := omega) only [nI_ll, ↓reduceIte, P_pass]
  | k + 1, i, n + 1, mm, u, hi, hn, hm, h => by
    rw [lp_s, c_min h (by omega) (nI_ge (by omega) (by omega)), nI_1]
    exact c_passL ht k (i + 1) n (mm + 1) _ (by omega) (by omega) (by omega) (MV_min h)
theorem c_pass {t : Nat} (h : MV mm ns nb nf u) (ht : t < 4096) (hm : mm + t < 2147483648) : f_X2_pass b (nI t) (wr b u M) = some (wr b (P_pass ns nb nf t u) M) := by
  unfold f_X2_pass f_X2_pass_c2
  exact c_passL (by omega) t 0 FU mm u (by omega) (FU_e _ ht) hm h
end

