/-! the minute foretold is the minute passed -/
section
variable {mm ns nb nf : Nat} {M X : xM}
def PFo (ns nb nf : Nat) (u : xM) : xM := P_bell nb (P_dens nf u) u
def PFe (ns nb nf : Nat) (u : xM) : xM := if PFo ns nb nf u 1 = 0 then PFo ns nb nf u else P_mists (P_dens nf u) ns 0 (P_acts ns (P_dens nf u) nb 0 (PFo ns nb nf u))
def PFa (ns nb nf : Nat) (u : xM) : Int32 := if PFo ns nb nf u 1 = 0 then 0 else P_solds ns (P_dens nf u) nb 0 (PFo ns nb nf u) 0
theorem PFo_o {u : xM} (hv : MV mm ns nb nf u) : (PFo ns nb nf u 1 = 0 ∧ ¬ PFo ns nb nf u 1 = 1) ∨ (PFo ns nb nf u 1 = 1 ∧ ¬ PFo ns nb nf u 1 = 0) := by
  rcases (MV_bell (d := P_dens nf u) hv).o with e | e
  · exact Or.inl ⟨e, by unfold PFo; rw [e]; decide⟩
  · exact Or.inr ⟨e, by unfold PFo; rw [e]; decide⟩
theorem PFe_min {u : xM} (hv : MV mm ns nb nf u) : P_min ns nb nf u = P_tick (if PFo ns nb nf u 1 = 0 then PFe ns nb nf u else P_since (PFe ns nb nf u)) := by
  unfold P_min P_min1 PFe
  rcases PFo_o hv with ⟨a, b⟩ | ⟨a, b⟩
  · rw [if_pos a, if_pos a]
    show P_tick (if PFo ns nb nf u 1 = 1 then _ else _) = _
    rw [if_neg b]
    rfl
  · rw [if_neg b, if_neg b]
    show P_tick (if PFo ns nb nf u 1 = 1 then _ else _) = _
    rw [if_pos a]
    rfl
theorem PFe_lo {u : xM} {z : Nat} (hz : z < 23) : PFe ns nb nf u z = PFo ns nb nf u z := by
  unfold PFe
  split
  · rfl
  · rw [P_mists_lo hz, P_acts_lo hz]
theorem PFa_min {u : xM} (hv : MV mm ns nb nf u) : SI (soC (P_min ns nb nf u)) ns - SI (soC u) ns = PFa ns nb nf u := by
  rw [P_min_so hv]
  have e : P_minS ns nb nf u = PFa ns nb nf u := by
    unfold P_minS PFa
    rcases PFo_o hv with ⟨a, b⟩ | ⟨a, b⟩
    · rw [if_pos a]
      show (if PFo ns nb nf u 1 = 1 then _ else _) = _
      rw [if_neg b]
    · rw [if_neg b]
      show (if PFo ns nb nf u 1 = 1 then _ else _) = _
      rw [if_pos a]
      rfl
  rw [e]
  grind
theorem PFo_0 {u : xM} : PFo ns nb nf u 0 = u 0 := by
  unfold PFo P_bell P_bell2
  have h1 : P_rdy (P_dens nf u) u 0 = u 0 := by
    unfold P_rdy
    split
    · rfl
    · exact un (by omega)
  have h2 : P_close nb (P_rdy (P_dens nf u) u) 0 = u 0 := by
    unfold P_close
    rw [P_ends_lo (by omega), un (by omega), un (by omega), h1]
  have h3 : P_ring (P_rdy (P_dens nf u) u) 0 = u 0 := by
    unfold P_ring
    rw [un (by omega), un (by omega), un (by omega), un (by omega), h1]
  repeat' split
  all_goals first | exact h1 | exact h2 | exact h3
/-- segment E: the scalars -/
theorem LSE (hr : RG X) (hv : MV mm ns nb nf (win 0 M)) (hX : ∀ z, z < 125 → X z = M z) (hm : mm + 1 < 2147483648) : ∃ M', f_LS_E (PFa ns nb nf (win 0 M)) (PFo ns nb nf (win 0 M) 1) (PFo ns nb nf (win 0 M) 2) (PFo ns nb nf (win 0 M) 3) (PFo ns nb nf (win 0 M) 4) X = some M' ∧ RG M' ∧ (∀ z, 1408 ≤ z → z ≠ 1669 → z ≠ 1670 → M' z = X z) ∧ Sim ns nb nf (P_min ns nb nf (win 0 M)) (win 0 M') := by
  have hS : Sim ns nb nf (win 0 M) (win 0 X) := fun z hz => by
    have := Lv_lt hv.s.2 hv.b.2 hv.f.2.2 hz
    rw [w0, w0, hX z this]
  have hvX := hS.MV hv
  obtain ⟨M', p1, p2, p3, p4⟩ := c_passN hr hvX (t := 1) (Nat.le_refl _) (by omega) hm
  have hS2 : Sim ns nb nf (P_min ns nb nf (win 0 M)) (win 0 M') := (S_min hS hv).trans p4
  have er : SI (soC (P_pass ns nb nf 1 (win 0 X))) ns - SI (soC (win 0 X)) ns = PFa ns nb nf (win 0 M) := by
    rw [← PFa_min hv]
    have e1 : SI (soC (P_min ns nb nf (win 0 M))) ns = SI (soC (P_pass ns nb nf 1 (win 0 X))) ns := SI_sim (S_min hS hv) (c := 5) (by omega)
    have e2 : SI (soC (win 0 M)) ns = SI (soC (win 0 X)) ns := SI_sim hS (c := 5) (by omega)
    rw [e1, e2]
  have p1 : f_X6_passMinutes 1 X = some (PFa ns nb nf (win 0 M), M') := by rw [← er]; exact p1
  have hz : ∀ z, z < 11 → M' z = P_min ns nb nf (win 0 M) z := fun z hz => by
    have := hS2.h (z := z) hz
    rw [w0] at this
    exact this.symm
  have g : ∀ z, z < 11 → z ≠ 0 → z ≠ 3 → M' z = PFo ns nb nf (win 0 M) z := fun z a b c => by
    rw [hz z a, PFe_min hv]
    unfold P_tick P_since
    rw [un b]
    split
    · exact PFe_lo (by omega)
    · rw [un c]; exact PFe_lo (by omega)
  have g0 : M' 0 = X 0 + 1 := by
    rw [hz 0 (by omega), PFe_min hv]
    unfold P_tick P_since
    rw [us]
    have e0 : PFe ns nb nf (win 0 M) 0 = M 0 := by rw [PFe_lo (by omega), PFo_0, w0]
    split
    · rw [e0, hX 0 (by omega)]
    · rw [un (by omega), e0, hX 0 (by omega)]
  have g3 : M' 3 = if PFo ns nb nf (win 0 M) 1 = 0 then PFo ns nb nf (win 0 M) 3 else PFo ns nb nf (win 0 M) 3 + 1 := by
    rw [hz 3 (by omega), PFe_min hv]
    unfold P_tick P_since
    rw [un (by omega)]
    by_cases q : PFo ns nb nf (win 0 M) 1 = 0
    · rw [if_pos q, if_pos q]; exact PFe_lo (by omega)
    · rw [if_neg q, if_neg q, us, PFe_lo (by omega)]
  have b1 : isb (M' 1) = true := by
    rw [g 1 (by omega) (by omega) (by omega)]
    rcases (MV_bell (d := P_dens nf (win 0 M)) hv).o with e | e
    · show isb (P_bell nb _ _ 1) = true; rw [e]; rfl
    · show isb (P_bell nb _ _ 1) = true; rw [e]; rfl
  have b2 : isb (M' 2) = true := by
    rw [g 2 (by omega) (by omega) (by omega)]
    rcases (MV_bell (d := P_dens nf (win 0 M)) hv).r with e | e
    · show isb (P_bell nb _ _ 2) = true; rw [e]; rfl
    · show isb (P_bell nb _ _ 2) = true; rw [e]; rfl
  have key : ∀ v8, v8 = M' 3 → f_LS_E_c821 (PFa ns nb nf (win 0 M)) (PFo ns nb nf (win 0 M) 1) (PFo ns nb nf (win 0 M) 2) (PFo ns nb nf (win 0 M) 4) v8 X = some M' := by
    intro v8 h8
    unfold f_LS_E_c821
    rw [bd2_s (show f_X6_minute X = some (X 0, X) from rfl), bd2_s p1, if_pos rfl, bd2_s (show f_X6_minute M' = some (M' 0, M') from rfl), if_pos g0]
    have i1 : f_X6_isOpen M' = some (M' 1, M') := by unfold f_X6_isOpen; rw [gd_t b1]
    have i2 : f_X6_isReady M' = some (M' 2, M') := by unfold f_X6_isReady; rw [gd_t b2]
    rw [bd2_s i1, if_pos (g 1 (by omega) (by omega) (by omega)), bd2_s i2, if_pos (g 2 (by omega) (by omega) (by omega)), bd2_s (show f_X6_openMinutes M' = some (M' 3, M') from rfl), if_pos h8.symm, bd2_s (show f_X6_ringings M' = some (M' 4, M') from rfl), if_pos (g 4 (by omega) (by omega) (by omega))]
  refine ⟨M', ?_, p2, p3, hS2⟩
  unfold f_LS_E
  by_cases q : PFo ns nb nf (win 0 M) 1 = 0
  · rw [if_pos q]
    exact key _ (by rw [g3, if_pos q])
  · rw [if_neg q]
    exact key _ (by rw [g3, if_neg q])
/-- segment F: the arrays -/
theorem LF2 {u : xM} (h : AG ns nb u M) (hB : ∀ k, k < nb → u (77 + 8 * k + 0) = M (3064 + k) ∧ u (77 + 8 * k + 1) = M (3080 + k) ∧ u (77 + 8 * k + 4) = M (3096 + k) ∧ u (77 + 8 * k + 5) = M (3112 + k) ∧ u (77 + 8 * k + 6) = M (3128 + k) ∧ u (77 + 8 * k + 7) = M (3144 + k)) : ∀ (d k n : Nat), k + d = nb → d < n → lp (fun _ _ => none) (fun f => fb_LS_F_c962 f ns nb) n (nI k) M = some M
  | 0, k, n + 1, hk, hn => by
    have hb := h.2.2.2.2
    have e : k = nb := by omega
    subst e
    rw [lp_s]
    unfold fb_LS_F_c962
    rw [if_pos (nI_le (Nat.le_refl _) (by omega))]
  | d + 1, k, n + 1, hk, hn => by
    have hb := h.2.2.2.2
    have hkb : k < nb := by omega
    have ih := LF2 h hB d (k + 1) n (by omega) (by omega)
    obtain ⟨b1, b2, b3, b4, b5, b6⟩ := hB k hkb
    rw [lp_s]
    generalize lp (fun _ _ => none) (fun f => fb_LS_F_c962 f ns nb) n = K at ih ⊢
    unfold fb_LS_F_c962
    rw [if_neg (nI_ge hkb (by omega)), bd2_s (gG_placeOf h hkb), gd_t (inb_nI hkb (by omega)), cl (show k < 2147483648 by omega), if_pos b1, bd2_s (gG_coinsOf h hkb), gd_t (inb_nI hkb (by omega)), if_pos b2, bd2_s (gG_heldFrom h hkb), gd_t (inb_nI hkb (by omega)), if_pos b3, bd2_s (gG_debtOf h hkb), gd_t (inb_nI hkb (by omega)), if_pos b4, bd2_s (gG_avoidedBy h hkb), gd_t (inb_nI hkb (by omega)), if_pos b5, bd2_s (gG_boughtBy h hkb), gd_t (inb_nI hkb (by omega)), if_pos b6, nI_1]
    exact ih
theorem LF1 {u : xM} (h : AG ns nb u M) (hS : ∀ k, k < ns → u (23 + 9 * k + 4) = M (3000 + k) ∧ u (23 + 9 * k + 5) = M (3016 + k) ∧ u (23 + 9 * k + 6) = M (3032 + k) ∧ u (23 + 9 * k + 7) = M (3048 + k)) (hB : ∀ k, k < nb → u (77 + 8 * k + 0) = M (3064 + k) ∧ u (77 + 8 * k + 1) = M (3080 + k) ∧ u (77 + 8 * k + 4) = M (3096 + k) ∧ u (77 + 8 * k + 5) = M (3112 + k) ∧ u (77 + 8 * k + 6) = M (3128 + k) ∧ u (77 + 8 * k + 7) = M (3144 + k)) : ∀ (d k n : Nat), k + d = ns → d < n → lp (fun _ _ => none) (fun f => fb_LS_F_c889 f ns nb) n (nI k) M = some M
  | 0, k, n + 1, hk, hn => by
    have hb := h.2.2.1
    have e : k = ns := by omega
    subst e
    rw [lp_s]
    unfold fb_LS_F_c889
    rw [if_pos (nI_le (Nat.le_refl _) (by omega))]
    exact LF2 h hB nb 0 FU (by omega) (FU_e _ (by have := h.2.2.2.2; omega))
  | d + 1, k, n + 1, hk, hn => by
    have hb := h.2.2.1
    have hkb : k < ns := by omega
    have ih := LF1 h hS hB d (k + 1) n (by omega) (by omega)
    obtain ⟨b1, b2, b3, b4⟩ := hS k hkb
    rw [lp_s]
    generalize lp (fun _ _ => none) (fun f => fb_LS_F_c889 f ns nb) n = K at ih ⊢
    unfold fb_LS_F_c889
    rw [if_neg (nI_ge hkb (by omega)), bd2_s (gG_stockOf h hkb), gd_t (inb_nI hkb (by omega)), cl (show k < 2147483648 by omega), if_pos b1, bd2_s (gG_soldOf h hkb), gd_t (inb_nI hkb (by omega)), if_pos b2, bd2_s (gG_lostOf h hkb), gd_t (inb_nI hkb (by omega)), if_pos b3, bd2_s (gG_earnings h hkb), gd_t (inb_nI hkb (by omega)), if_pos b4, nI_1]
    exact ih
theorem LSF {u : xM} (h : AG ns nb u M) (hS : ∀ k, k < ns → u (23 + 9 * k + 4) = M (3000 + k) ∧ u (23 + 9 * k + 5) = M (3016 + k) ∧ u (23 + 9 * k + 6) = M (3032 + k) ∧ u (23 + 9 * k + 7) = M (3048 + k)) (hB : ∀ k, k < nb → u (77 + 8 * k + 0) = M (3064 + k) ∧ u (77 + 8 * k + 1) = M (3080 + k) ∧ u (77 + 8 * k + 4) = M (3096 + k) ∧ u (77 + 8 * k + 5) = M (3112 + k) ∧ u (77 + 8 * k + 6) = M (3128 + k) ∧ u (77 + 8 * k + 7) = M (3144 + k)) : f_LS_F ns nb M = some M :=
  LF1 h hS hB ns 0 FU (by omega) (FU_e _ (by have := h.2.2.1; omega))
end
