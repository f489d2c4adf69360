/-! what holds of the class between the law's calls -/
theorem win0 {M : xM} : win 0 M = M := funext (fun _ => w0)
theorem wr0_self {M : xM} : wr 0 M M = M := by
  have := wr_win 0 M
  rw [win0] at this
  exact this
section
variable {mm ns nb nf i B : Nat} {u v w M : xM} {d : Int32}
theorem SB_mono {B' : Nat} (h : SB B ns u) (hB : B ≤ B') : SB B' ns u := fun s q => by
  obtain ⟨t, h1, h2⟩ := h s q
  exact ⟨t, by omega, h2⟩
theorem SB_cong (h : SB B ns u) (e : ∀ s, s < ns → v (23 + 9 * s + 4) = u (23 + 9 * s + 4)) : SB B ns v := fun s q => by
  rw [e s q]
  exact h s q
theorem SB_lo (h : SB B ns w) {z : Nat} {x : Int32} (hz : z < 23) : SB B ns (upd w z x) := SB_cong h (fun s q => un (by omega))
theorem SB_sim (hS : Sim ns nb nf u v) (h : SB B ns u) : SB B ns v := SB_cong h (fun s q => (hS.ss q (by omega)).symm)
theorem SB_ret (h : SB B ns w) (hB : B < 2147483647) (hv : MV mm ns nb nf w) (hi : i < nb) : SB (B + 1) ns (P_ret w i) := by
  have hs := hv.s.2
  have hb := hv.b.2
  unfold P_ret P_ret1
  rcases hold_cases (hv.bu i hi) hs with ⟨e1, e2, -⟩ | ⟨q, hq, e1, e2⟩
  · rw [e1]
    exact SB_mono (SB_cong h (fun s hsn => by rw [un (by omega), un (by omega)])) (by omega)
  · rw [e1]
    intro s hsn
    obtain ⟨t, t1, t2⟩ := h s hsn
    show ∃ t, t ≤ B + 1 ∧ upd (upd (upd w (23 + 9 * q + 4) (w (23 + 9 * q + 4) + 1)) (77 + 8 * i + 4) (-1)) (77 + 8 * i + 5) 0 (23 + 9 * s + 4) = nI t
    by_cases e : s = q
    · subst e
      exact ⟨t + 1, by omega, by rw [un (by omega), un (by omega), us, t2, nI_1]⟩
    · exact ⟨t, by omega, by rw [un (by omega), un (by omega), un (by omega)]; exact t2⟩
theorem SB_ends : ∀ (k i B : Nat) (w : xM), i + k ≤ nb → B + k < 2147483647 → MV mm ns nb nf w → SB B ns w → SB (B + k) ns (P_ends k i w)
  | 0, _, _, _, _, _, _, h => h
  | k + 1, i, B, w, hk, hB, hv, h => by
    have hs := hv.s.2
    rw [show B + (k + 1) = B + 1 + k by omega]
    refine SB_ends k (i + 1) (B + 1) _ (by omega) (by omega) (MV_end1 hv (by omega)) ?_
    unfold P_end1
    exact SB_cong (SB_ret h (by omega) hv (by omega)) (fun s q => un (by omega))
theorem SB_bell (h : SB B ns u) (hB : B < 2147483000) (hv : MV mm ns nb nf u) : SB (B + 6) ns (P_bell nb d u) := by
  have hr := MV_rdy (d := d) hv
  have hb := hv.b.2
  have h1 : SB B ns (P_rdy d u) := by
    unfold P_rdy
    split
    · exact h
    · exact SB_lo h (by omega)
  have hc : SB (B + 6) ns (P_close nb (P_rdy d u)) := by
    unfold P_close
    exact SB_mono (SB_ends nb 0 B _ (by omega) (by omega) (MV_cl0 hr) (SB_lo (SB_lo h1 (by omega)) (by omega))) (by omega)
  have hg : SB (B + 6) ns (P_ring (P_rdy d u)) := by
    unfold P_ring
    exact SB_mono (SB_lo (SB_lo (SB_lo (SB_lo h1 (by omega)) (by omega)) (by omega)) (by omega)) (by omega)
  have h2 := SB_mono (B' := B + 6) h1 (by omega)
  unfold P_bell P_bell2
  repeat' split
  all_goals first | exact hc | exact hg | exact h2
theorem SB_acts (hB : B < 2147483648) : ∀ (k i : Nat) (w : xM), i + k ≤ nb → MV mm ns nb nf w → SB B ns w → SB B ns (P_acts ns d k i w)
  | 0, _, _, _, _, h => h
  | k + 1, i, w, hk, hv, h => SB_acts hB k (i + 1) _ (by omega) (MV_act hv (by omega)) (SB_act hB h hv (by omega))
theorem SB_mists (hB : B < 2147483648) (hs : ns ≤ 6) : ∀ (k s : Nat) (w : xM), s + k ≤ ns → SB B ns w → SB B ns (P_mists d k s w)
  | 0, _, _, _, h => h
  | k + 1, s, w, hk, h => SB_mists hB hs k (s + 1) _ (by omega) (SB_mist hB h (by omega) hs)
theorem SB_min (h : SB B ns u) (hB : B < 2147483000) (hv : MV mm ns nb nf u) : SB (B + 6) ns (P_min ns nb nf u) := by
  have hb := MV_bell (d := P_dens nf u) hv
  have h1 := SB_bell (d := P_dens nf u) h hB hv
  unfold P_min P_min1 P_tick
  refine SB_lo ?_ (by omega)
  split
  · unfold P_opn P_since
    exact SB_lo (SB_mists (by omega) hv.s.2 ns 0 _ (by omega) (SB_acts (by omega) nb 0 _ (by omega) hb h1)) (by omega)
  · exact h1
theorem SB_pass : ∀ (k mm B : Nat) (u : xM), B + 6 * k < 2147483000 → MV mm ns nb nf u → SB B ns u → SB (B + 6 * k) ns (P_pass ns nb nf k u)
  | 0, _, _, _, _, _, h => h
  | k + 1, mm, B, u, hB, hv, h => by
    rw [show B + 6 * (k + 1) = B + 6 + 6 * k by omega]
    exact SB_pass k (mm + 1) (B + 6) _ (by omega) (MV_min hv) (SB_min h (by omega) hv)
theorem KCw_lo (hk : KCw ns nb u w) {z : Nat} {x : Int32} (hz : z < 7) : KCw ns nb u (upd w z x) := ⟨fun s q c hc => by rw [un (by omega)]; exact hk.1 s q c hc, fun j hj c hc => by rw [un (by omega)]; exact hk.2.1 j hj c hc, by rw [un (by omega)]; exact hk.2.2⟩
theorem KCw_end1 (hk : KCw ns nb u w) (hv : MV mm ns nb nf w) (hi : i < nb) : KCw ns nb u (P_end1 w i) := by
  have hs := hv.s.2
  have hb := hv.b.2
  unfold P_end1 P_ret P_ret1
  rcases hold_cases (hv.bu i hi) hs with ⟨e1, e2, -⟩ | ⟨q, hq, e1, e2⟩
  · rw [e1]
    exact ⟨fun s hsn c hc => by rw [un (by omega), un (by omega), un (by omega)]; exact hk.1 s hsn c hc, fun j hj c hc => by rw [un (by omega), un (by omega), un (by omega)]; exact hk.2.1 j hj c hc, by rw [un (by omega), un (by omega), un (by omega)]; exact hk.2.2⟩
  · rw [e1]
    show KCw ns nb u (upd (upd (upd (upd w (23 + 9 * q + 4) (w (23 + 9 * q + 4) + 1)) (77 + 8 * i + 4) (-1)) (77 + 8 * i + 5) 0) (77 + 8 * i + 6) 0)
    exact ⟨fun s hsn c hc => by rw [un (by omega), un (by omega), un (by omega), un (by omega)]; exact hk.1 s hsn c hc, fun j hj c hc => by rw [un (by omega), un (by omega), un (by omega), un (by omega)]; exact hk.2.1 j hj c hc, by rw [un (by omega), un (by omega), un (by omega), un (by omega)]; exact hk.2.2⟩
theorem KCw_ends : ∀ (k i : Nat) (w : xM), i + k ≤ nb → MV mm ns nb nf w → KCw ns nb u w → KCw ns nb u (P_ends k i w)
  | 0, _, _, _, _, h => h
  | k + 1, i, w, hk, hv, h => KCw_ends k (i + 1) _ (by omega) (MV_end1 hv (by omega)) (KCw_end1 h hv (by omega))
theorem KCw_bell (hv : MV mm ns nb nf u) : KCw ns nb u (P_bell nb d u) := by
  have hr := MV_rdy (d := d) hv
  have h0 : KCw ns nb u u := ⟨fun _ _ _ _ => rfl, fun _ _ _ _ => rfl, rfl⟩
  have h1 : KCw ns nb u (P_rdy d u) := by
    unfold P_rdy
    split
    · exact h0
    · exact KCw_lo h0 (by omega)
  have hc : KCw ns nb u (P_close nb (P_rdy d u)) := by
    unfold P_close
    exact KCw_ends nb 0 _ (by omega) (MV_cl0 hr) (KCw_lo (KCw_lo h1 (by omega)) (by omega))
  have hg : KCw ns nb u (P_ring (P_rdy d u)) := by
    unfold P_ring
    exact KCw_lo (KCw_lo (KCw_lo (KCw_lo h1 (by omega)) (by omega)) (by omega)) (by omega)
  unfold P_bell P_bell2
  repeat' split
  all_goals first | exact hc | exact hg | exact h1
theorem KCw_acts : ∀ (k i : Nat) (w : xM), i + k ≤ nb → MV mm ns nb nf w → KCw ns nb u w → KCw ns nb u (P_acts ns d k i w)
  | 0, _, _, _, _, h => h
  | k + 1, i, w, hk, hv, h => KCw_acts k (i + 1) _ (by omega) (MV_act hv (by omega)) (KCw_act h hv (by omega))
end
/-- the class between two calls -/
def CI (ns nb nf K : Nat) (M : xM) : Prop := (1 ≤ ns ∧ 1 ≤ nb ∧ 100 ≤ K ∧ K < 1000000000) ∧ MM K ns nb nf M M ∧ RG M ∧ SB K ns M ∧ CQ ns nb M
section
variable {ns nb nf K : Nat} {M : xM}
theorem CI.mono {K' : Nat} (h : CI ns nb nf K M) (hK : K ≤ K') (h2 : K' < 1000000000) : CI ns nb nf K' M := ⟨⟨h.1.1, h.1.2.1, by have := h.1.2.2.1; omega, h2⟩, h.2.1.mono hK |> fun q => q, h.2.2.1, SB_mono h.2.2.2.1 hK, h.2.2.2.2⟩
theorem MM2 {mm : Nat} {u u' : xM} (h : MM mm ns nb nf u u) (e : ∀ z, z < 125 → u' z = u z) : MM mm ns nb nf u' u' := (h.r e).lft e
theorem CI.cong {M' : xM} (h : CI ns nb nf K M) (hr : RG M') (e : ∀ z, z < 125 → M' z = M z) : CI ns nb nf K M' := by
  have hs := h.2.1.1.s.2
  have hb := h.2.1.1.b.2
  exact ⟨h.1, MM2 h.2.1 e, hr, SB_cong h.2.2.2.1 (fun s q => e _ (by omega)), CQ_cong h.2.2.2.2 (fun s q c hc => e _ (by omega)) (fun j hj => e _ (by omega))⟩
theorem CI.AG (h : CI ns nb nf K M) : AG ns nb M M := ⟨fun _ _ => rfl, h.2.1.1.s.1, h.2.1.1.s.2, h.2.1.1.b.1, h.2.1.1.b.2⟩
/-- the accounts are never wrong -/
theorem c_cons (h : CI ns nb nf K M) : f_X6_consistencyError M = some (0, M) := by
  have hv := h.2.1.1
  have hs := hv.s
  have key : ∀ (d k n : Nat), k + d = ns → d < n → lp (fun _ _ _ => none) (fun f => fb_X6_consistencyError_c4 f) n 0 (nI k) M = some (0, M) := by
    intro d
    induction d with
    | zero =>
      intro k n hk hn
      obtain ⟨n, rfl⟩ : ∃ m, n = m + 1 := ⟨n - 1, by omega⟩
      have e : k = ns := by omega
      subst e
      rw [lp_s]
      unfold fb_X6_consistencyError_c4
      rw [hs.1, if_pos (nI_le (Nat.le_refl _) (by omega))]
    | succ d ih =>
      intro k n hk hn
      obtain ⟨n, rfl⟩ : ∃ m, n = m + 1 := ⟨n - 1, by omega⟩
      have ih2 := ih (k + 1) n (by omega) (by omega)
      have hh := c_held (b := 0) (u := M) (M := M) hv (nI k)
      rw [wr0_self] at hh
      have hc := h.2.2.2.2 k (by omega)
      have e0 : iabs (M (23 + 9 * k + 8) - (M (23 + 9 * k + 4) + HC M (nI k) nb + M (23 + 9 * k + 5) + M (23 + 9 * k + 6))) = 0 := by
        rw [← hc, Int32.sub_self]
        rfl
      rw [lp_s]
      generalize lp (fun _ _ _ => none) (fun f => fb_X6_consistencyError_c4 f) n = F at ih2 ⊢
      unfold fb_X6_consistencyError_c4
      rw [hs.1, if_neg (nI_ge (by omega) (by omega)), gd_t (inb_nI (by omega) (by omega)), cl (show k < 2147483648 by omega), bd2_s hh, e0, nI_1]
      exact ih2
  exact key ns 0 FU (by omega) (FU_e _ (by omega))
end
