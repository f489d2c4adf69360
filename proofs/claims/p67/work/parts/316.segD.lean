/-! the law's mist; a minute passed by the class; what the law compares -/
section
variable {mm ns nb nf i : Nat} {u w M : xM} {d op al : Int32}
theorem KCw_mist (hk : KCw ns nb u w) {s : Nat} (hq : s < ns) (hs : ns ≤ 6) : KCw ns nb u (P_mist d s w) := by
  unfold P_mist
  split
  · exact hk
  · split
    · exact hk
    · exact ⟨fun s2 hs2 c hc => by rw [un (by omega), un (by omega)]; exact hk.1 s2 hs2 c hc, fun j hj c hc => by rw [un (by omega), un (by omega)]; exact hk.2.1 j hj c hc, by rw [un (by omega), un (by omega)]; exact hk.2.2⟩
theorem SB_mist {B : Nat} (hB : B < 2147483648) (h : SB B ns w) {s : Nat} (hq : s < ns) (hs : ns ≤ 6) : SB B ns (P_mist d s w) := by
  unfold P_mist
  split
  · exact h
  · rename_i q0
    split
    · exact h
    · intro s2 hs2
      obtain ⟨t, t1, t2⟩ := h s2 hs2
      by_cases e : s2 = s
      · subst e
        have t0 : t ≠ 0 := by
          rintro rfl
          rw [t2] at q0
          exact q0 (by decide)
        exact ⟨t - 1, by omega, by rw [un (by omega), us, t2]; exact pk_sub (b := 1) (by omega)⟩
      · exact ⟨t, t1, by rw [un (by omega), un (by omega)]; exact t2⟩
theorem LDl (h : AG ns nb u M) {B : Nat} (hB : B < 2147483648) (hop : ¬ op = 0) : ∀ (k s n : Nat) (w : xM), s + k = ns → k < n → KCw ns nb u w → SB B ns w → lp (fun _ _ => none) (fun f => fb_LS_D_c753 f ns nb d op) n (nI s) (ars ns nb w M) = some (ars ns nb (P_mists d k s w) M)
  | 0, s, n + 1, w, hk, hn, _, _ => by
    have hs := h.2.2.1
    have e : s = ns := by omega
    subst e
    rw [lp_s]
    unfold fb_LS_D_c753
    rw [if_pos (nI_le (Nat.le_refl _) (by omega))]
    rfl
  | k + 1, s, n + 1, w, hk, hn, hkc, hsb => by
    have hs := h.2.2.1
    have hq : s < ns := by omega
    have ih := LDl h hB hop k (s + 1) n (P_mist d s w) (by omega) (by omega) (KCw_mist hkc hq hs) (SB_mist hB hsb hq hs)
    obtain ⟨t, t1, t2⟩ := hsb s hq
    rw [lp_s]
    show _ = some (ars ns nb (P_mists d k (s + 1) (P_mist d s w)) M)
    rw [← ih]
    generalize lp (fun _ _ => none) (fun f => fb_LS_D_c753 f ns nb d op) n = F
    unfold fb_LS_D_c753 f_LS_D_c807 P_mist
    rw [if_neg (nI_ge hq (by omega)), if_neg hop, gd_t (inb_nI hq (by omega)), cl (show s < 2147483648 by omega), aR4 hq hs, t2, nI_1]
    by_cases q : t = 0
    · subst q
      rw [if_pos (show nI 0 = 0 from rfl), if_pos (show nI 0 ≤ 0 by decide)]
    · rw [if_neg (nI_ne0 (by omega) (by omega)), if_neg (show ¬ nI t ≤ 0 from fun e => absurd ((nI_leI (b := 0) (by omega) (by omega)).mp e) (by omega)), bd2_s (gA_lanternOf h hq), bd2_s (l_guard _ _), hkc.1 s hq 1 (by omega)]
      by_cases q2 : P_guard (w (23 + 9 * s + 1)) < d
      · rw [if_pos q2, if_neg (Int32.not_le.mpr q2), gd_t (inb_nI hq (by omega)), gd_t (inb_nI hq (by omega)), gd_t (inb_nI hq (by omega)), gd_t (inb_nI hq (by omega)), aR4 hq hs, uR4 hq hs, aR6 hq hs, uR6 hq hs, t2, un (show 23 + 9 * s + 6 ≠ 23 + 9 * s + 4 by omega)]
      · rw [if_neg q2, if_pos (Int32.not_lt.mp q2)]
/-- segment D: the mist -/
theorem LSD (h : AG ns nb u M) (hk : KCw ns nb u w) {B : Nat} (hB : B < 2147483648) (hSB : SB B ns w) : f_LS_D ns nb d op (ars ns nb w M) = some (if op = 0 then ars ns nb w M else ars ns nb (P_mists d ns 0 w) M) := by
  have hs := h.2.2.1
  unfold f_LS_D f_LS_D_c753
  by_cases e : op = 0
  · subst e
    obtain ⟨n, hn⟩ : ∃ n, FU = n + 1 := ⟨4095, rfl⟩
    rw [if_pos rfl, hn, lp_s]
    unfold fb_LS_D_c753
    by_cases q : (nI ns) ≤ 0
    · rw [if_pos q]
    · rw [if_neg q, if_pos rfl]
  · rw [if_neg e]
    exact LDl h hB e ns 0 FU w (by omega) (FU_e _ (by omega)) hk hSB
/-- the ring of what undo brings back -/
def RG (M : xM) : Prop := ∃ p c, p < 8 ∧ c ≤ 8 ∧ M 1669 = nI p ∧ M 1670 = nI c
theorem c_chkN {x lo hi : Int32} (h : lo ≤ x ∧ x ≤ hi) : f_X6_checkRange x lo hi M = some M := by
  unfold f_X6_checkRange
  rw [if_neg (Int32.not_lt.mpr h.1), if_pos h.2]
theorem c_remN (hr : RG M) (hv : MV mm ns nb nf (win 0 M)) : ∃ M1, f_X6_remember M = some M1 ∧ (∀ z, (z < 384 ∨ 1408 ≤ z) → z ≠ 1669 → z ≠ 1670 → M1 z = M z) ∧ RG M1 := by
  obtain ⟨p, c, hp, hc, e1, e2⟩ := hr
  obtain ⟨q, u', hq, -, -, hf⟩ := c_remember hp hc e1 e2 hv
  by_cases q8 : c = 8
  · refine ⟨_, hf 1 (Or.inl ⟨rfl, q8⟩), fun z h1 h2 h3 => by rw [un h3, un h2, wr_out (by omega)], q, c + 1 - 1, hq, by omega, ?_, us⟩
    rw [un (by omega), us]
  · refine ⟨_, hf 0 (Or.inr ⟨rfl, by omega⟩), fun z h1 h2 h3 => by rw [un h3, un h2, wr_out (by omega)], q, c + 1 - 0, hq, by omega, ?_, us⟩
    rw [un (by omega), us]
theorem c_passN (hr : RG M) (hv : MV mm ns nb nf (win 0 M)) {t : Nat} (t1 : 1 ≤ t) (t2 : t ≤ 100) (hm : mm + t < 2147483648) : ∃ M', f_X6_passMinutes (nI t) M = some (SI (soC (P_pass ns nb nf t (win 0 M))) ns - SI (soC (win 0 M)) ns, M') ∧ RG M' ∧ (∀ z, 1408 ≤ z → z ≠ 1669 → z ≠ 1670 → M' z = M z) ∧ Sim ns nb nf (P_pass ns nb nf t (win 0 M)) (win 0 M') := by
  obtain ⟨M1, m1, m2, m3⟩ := c_remN hr hv
  have hS : Sim ns nb nf (win 0 M) (win 0 M1) := fun z hz => by
    have := Lv_lt hv.s.2 hv.b.2 hv.f.2.2 hz
    rw [w0, w0, m2 z (by omega) (by omega) (by omega)]
  have hv1 := hS.MV hv
  have hp := S_pass t mm _ _ hS hv
  have h1 := c_soldA (b := 0) (M := M1) hv1
  have h2 := c_pass (b := 0) (M := M1) (t := t) hv1 (by omega) hm
  have h3 := c_soldA (b := 0) (M := M1) (MV_pass t mm _ hv1)
  rw [wr_win] at h1 h2
  refine ⟨wr 0 (P_pass ns nb nf t (win 0 M1)) M1, ?_, ?_, fun z a b c => by rw [wr_out (by omega), m2 z (by omega) b c], fun z hz => ?_⟩
  · unfold f_X6_passMinutes
    rw [bd_s (show f_X6_checkRange (nI t) 1 100 M = some M from c_chkN ⟨nI_le (a := 1) t1 (by omega), nI_le (b := 100) t2 (by omega)⟩), bd_s m1, bd2_s h1, bd_s h2, bd2_s h3]
    have e1 : SI (stC (P_pass ns nb nf t (win 0 M1)) 5) ns = SI (soC (P_pass ns nb nf t (win 0 M))) ns := (SI_sim hp (c := 5) (by omega)).symm
    have e2 : SI (stC (win 0 M1) 5) ns = SI (soC (win 0 M)) ns := (SI_sim hS (c := 5) (by omega)).symm
    rw [e1, e2]
  · obtain ⟨p, c, a1, a2, a3, a4⟩ := m3
    exact ⟨p, c, a1, a2, by rw [wr_out (by omega)]; exact a3, by rw [wr_out (by omega)]; exact a4⟩
  · have hl := Lv_lt hv.s.2 hv.b.2 hv.f.2.2 hz
    rw [hp z hz, w0, wr_in (z := z) (by omega) hl]
end
