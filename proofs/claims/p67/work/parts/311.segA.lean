/-! the law's first loops: the market is read into the arrays -/
section
variable {ns nb : Nat} {u w M X : xM}
theorem AG.upd (h : AG ns nb u X) {z : Nat} {x : Int32} (hz : 125 ≤ z) : AG ns nb u (upd X z x) := ⟨fun y hy => by rw [un (by omega), h.1 y hy], h.2⟩
theorem AG.ars (h : AG ns nb u M) {n2 b2 : Nat} : AG ns nb u (ars n2 b2 w M) := ⟨fun y hy => by rw [ars_lo (by omega), h.1 y hy], h.2⟩
theorem gG_positionOf (h : AG ns nb u X) {j : Nat} (hj : j < ns) : f_X6_positionOf (nI j) X = some (u (23 + 9 * j + 0), X) := by
  obtain ⟨h1, h2, h3, h4, h5⟩ := h
  rw [g_positionOf (ns := ns) (by rw [h1 _ (by omega), h2]) h3 hj, h1 _ (by omega)]
theorem gG_lanternOf (h : AG ns nb u X) {j : Nat} (hj : j < ns) : f_X6_lanternOf (nI j) X = some (u (23 + 9 * j + 1), X) := by
  obtain ⟨h1, h2, h3, h4, h5⟩ := h
  rw [g_lanternOf (ns := ns) (by rw [h1 _ (by omega), h2]) h3 hj, h1 _ (by omega)]
theorem gG_textureOf (h : AG ns nb u X) {j : Nat} (hj : j < ns) : f_X6_textureOf (nI j) X = some (u (23 + 9 * j + 2), X) := by
  obtain ⟨h1, h2, h3, h4, h5⟩ := h
  rw [g_textureOf (ns := ns) (by rw [h1 _ (by omega), h2]) h3 hj, h1 _ (by omega)]
theorem gG_priceOf (h : AG ns nb u X) {j : Nat} (hj : j < ns) : f_X6_priceOf (nI j) X = some (u (23 + 9 * j + 3), X) := by
  obtain ⟨h1, h2, h3, h4, h5⟩ := h
  rw [g_priceOf (ns := ns) (by rw [h1 _ (by omega), h2]) h3 hj, h1 _ (by omega)]
theorem gG_stockOf (h : AG ns nb u X) {j : Nat} (hj : j < ns) : f_X6_stockOf (nI j) X = some (u (23 + 9 * j + 4), X) := by
  obtain ⟨h1, h2, h3, h4, h5⟩ := h
  rw [g_stockOf (ns := ns) (by rw [h1 _ (by omega), h2]) h3 hj, h1 _ (by omega)]
theorem gG_soldOf (h : AG ns nb u X) {j : Nat} (hj : j < ns) : f_X6_soldOf (nI j) X = some (u (23 + 9 * j + 5), X) := by
  obtain ⟨h1, h2, h3, h4, h5⟩ := h
  rw [g_soldOf (ns := ns) (by rw [h1 _ (by omega), h2]) h3 hj, h1 _ (by omega)]
theorem gG_lostOf (h : AG ns nb u X) {j : Nat} (hj : j < ns) : f_X6_lostOf (nI j) X = some (u (23 + 9 * j + 6), X) := by
  obtain ⟨h1, h2, h3, h4, h5⟩ := h
  rw [g_lostOf (ns := ns) (by rw [h1 _ (by omega), h2]) h3 hj, h1 _ (by omega)]
theorem gG_earnings (h : AG ns nb u X) {j : Nat} (hj : j < ns) : f_X6_earnings (nI j) X = some (u (23 + 9 * j + 7), X) := by
  obtain ⟨h1, h2, h3, h4, h5⟩ := h
  rw [g_earnings (ns := ns) (by rw [h1 _ (by omega), h2]) h3 hj, h1 _ (by omega)]
theorem gG_placeOf (h : AG ns nb u X) {j : Nat} (hj : j < nb) : f_X6_placeOf (nI j) X = some (u (77 + 8 * j + 0), X) := by
  obtain ⟨h1, h2, h3, h4, h5⟩ := h
  rw [g_placeOf (nb := nb) (by rw [h1 _ (by omega), h4]) h5 hj, h1 _ (by omega)]
theorem gG_coinsOf (h : AG ns nb u X) {j : Nat} (hj : j < nb) : f_X6_coinsOf (nI j) X = some (u (77 + 8 * j + 1), X) := by
  obtain ⟨h1, h2, h3, h4, h5⟩ := h
  rw [g_coinsOf (nb := nb) (by rw [h1 _ (by omega), h4]) h5 hj, h1 _ (by omega)]
theorem gG_wantedTexture (h : AG ns nb u X) {j : Nat} (hj : j < nb) : f_X6_wantedTexture (nI j) X = some (u (77 + 8 * j + 2), X) := by
  obtain ⟨h1, h2, h3, h4, h5⟩ := h
  rw [g_wantedTexture (nb := nb) (by rw [h1 _ (by omega), h4]) h5 hj, h1 _ (by omega)]
theorem gG_speedOf (h : AG ns nb u X) {j : Nat} (hj : j < nb) : f_X6_speedOf (nI j) X = some (u (77 + 8 * j + 3), X) := by
  obtain ⟨h1, h2, h3, h4, h5⟩ := h
  rw [g_speedOf (nb := nb) (by rw [h1 _ (by omega), h4]) h5 hj, h1 _ (by omega)]
theorem gG_heldFrom (h : AG ns nb u X) {j : Nat} (hj : j < nb) : f_X6_heldFrom (nI j) X = some (u (77 + 8 * j + 4), X) := by
  obtain ⟨h1, h2, h3, h4, h5⟩ := h
  rw [g_heldFrom (nb := nb) (by rw [h1 _ (by omega), h4]) h5 hj, h1 _ (by omega)]
theorem gG_debtOf (h : AG ns nb u X) {j : Nat} (hj : j < nb) : f_X6_debtOf (nI j) X = some (u (77 + 8 * j + 5), X) := by
  obtain ⟨h1, h2, h3, h4, h5⟩ := h
  rw [g_debtOf (nb := nb) (by rw [h1 _ (by omega), h4]) h5 hj, h1 _ (by omega)]
theorem gG_avoidedBy (h : AG ns nb u X) {j : Nat} (hj : j < nb) : f_X6_avoidedBy (nI j) X = some (u (77 + 8 * j + 6), X) := by
  obtain ⟨h1, h2, h3, h4, h5⟩ := h
  rw [g_avoidedBy (nb := nb) (by rw [h1 _ (by omega), h4]) h5 hj, h1 _ (by omega)]
theorem gG_boughtBy (h : AG ns nb u X) {j : Nat} (hj : j < nb) : f_X6_boughtBy (nI j) X = some (u (77 + 8 * j + 7), X) := by
  obtain ⟨h1, h2, h3, h4, h5⟩ := h
  rw [g_boughtBy (nb := nb) (by rw [h1 _ (by omega), h4]) h5 hj, h1 _ (by omega)]
theorem ars_00 : ars 0 0 u M = M := by
  funext z
  unfold ars
  rw [if_neg (by omega), if_neg (by omega)]
theorem ars_nS {k : Nat} (hk : k < 6) : upd (upd (upd (upd (ars k nb u M) (3000 + k) (u (23 + 9 * k + 4))) (3016 + k) (u (23 + 9 * k + 5))) (3032 + k) (u (23 + 9 * k + 6))) (3048 + k) (u (23 + 9 * k + 7)) = ars (k + 1) nb u M := by
  funext z
  by_cases h3 : z = 3048 + k
  · subst h3; rw [us, aR7 (by omega) (by omega)]
  · rw [un h3]
    by_cases h2 : z = 3032 + k
    · subst h2; rw [us, aR6 (by omega) (by omega)]
    · rw [un h2]
      by_cases h1 : z = 3016 + k
      · subst h1; rw [us, aR5 (by omega) (by omega)]
      · rw [un h1]
        by_cases h0 : z = 3000 + k
        · subst h0; rw [us, aR4 (by omega) (by omega)]
        · rw [un h0]
          unfold ars
          by_cases q : 3000 ≤ z ∧ z < 3064 ∧ (z - 3000) % 16 < k
          · rw [if_pos q, if_pos (by omega)]
          · rw [if_neg q, if_neg (show ¬ (3000 ≤ z ∧ z < 3064 ∧ (z - 3000) % 16 < k + 1) by omega)]
theorem ars_nB {k : Nat} (hk : k < 6) (hs : ns ≤ 6) : upd (upd (upd (upd (upd (upd (ars ns k u M) (3064 + k) (u (77 + 8 * k + 0))) (3080 + k) (u (77 + 8 * k + 1))) (3096 + k) (u (77 + 8 * k + 4))) (3112 + k) (u (77 + 8 * k + 5))) (3128 + k) (u (77 + 8 * k + 6))) (3144 + k) (u (77 + 8 * k + 7)) = ars ns (k + 1) u M := by
  funext z
  by_cases h5 : z = 3144 + k
  · subst h5; rw [us, aB7 (by omega) (by omega)]
  · rw [un h5]
    by_cases h4 : z = 3128 + k
    · subst h4; rw [us, aB6 (by omega) (by omega)]
    · rw [un h4]
      by_cases h3 : z = 3112 + k
      · subst h3; rw [us, aB5 (by omega) (by omega)]
      · rw [un h3]
        by_cases h2 : z = 3096 + k
        · subst h2; rw [us, aB4 (by omega) (by omega)]
        · rw [un h2]
          by_cases h1 : z = 3080 + k
          · subst h1; rw [us, aB1 (by omega) (by omega)]
          · rw [un h1]
            by_cases h0 : z = 3064 + k
            · subst h0; rw [us, aB0 (by omega) (by omega)]
            · rw [un h0]
              unfold ars
              by_cases q : 3000 ≤ z ∧ z < 3064 ∧ (z - 3000) % 16 < ns
              · rw [if_pos q, if_pos q]
              · rw [if_neg q, if_neg q]
                by_cases q2 : 3064 ≤ z ∧ z < 3160 ∧ (z - 3064) % 16 < k
                · rw [if_pos q2, if_pos (by omega)]
                · rw [if_neg q2, if_neg (show ¬ (3064 ≤ z ∧ z < 3160 ∧ (z - 3064) % 16 < k + 1) by omega)]
theorem LA2 (h : AG ns nb u M) : ∀ (d k n : Nat), k + d = nb → d < n → lp (fun _ _ => none) (fun f => fb_LS_A_c199 f ns nb) n (nI k) (ars ns k u M) = some (ars ns nb u M)
  | 0, k, n + 1, hk, hn => by
    have hb := h.2.2.2.2
    have e : k = nb := by omega
    subst e
    rw [lp_s]
    unfold fb_LS_A_c199
    rw [if_pos (nI_le (Nat.le_refl _) (by omega))]
  | d + 1, k, n + 1, hk, hn => by
    have hb := h.2.2.2.2
    have hs := h.2.2.1
    have ih := LA2 h d (k + 1) n (by omega) (by omega)
    have hkb : k < nb := by omega
    have h0 : AG ns nb u (ars ns k u M) := h.ars
    rw [lp_s]
    generalize lp (fun _ _ => none) (fun f => fb_LS_A_c199 f ns nb) n = K at ih ⊢
    unfold fb_LS_A_c199
    rw [if_neg (nI_ge hkb (by omega)), bd2_s (gG_placeOf h0 hkb), gd_t (inb_nI hkb (by omega)), cl (show k < 2147483648 by omega)]
    have h1 := h0.upd (z := 3064 + k) (x := u (77 + 8 * k + 0)) (by omega)
    have h2 := h1.upd (z := 3080 + k) (x := u (77 + 8 * k + 1)) (by omega)
    have h3 := h2.upd (z := 3096 + k) (x := u (77 + 8 * k + 4)) (by omega)
    have h4 := h3.upd (z := 3112 + k) (x := u (77 + 8 * k + 5)) (by omega)
    have h5 := h4.upd (z := 3128 + k) (x := u (77 + 8 * k + 6)) (by omega)
    rw [bd2_s (gG_coinsOf h1 hkb), gd_t (inb_nI hkb (by omega)), bd2_s (gG_heldFrom h2 hkb), gd_t (inb_nI hkb (by omega)), bd2_s (gG_debtOf h3 hkb), gd_t (inb_nI hkb (by omega)), bd2_s (gG_avoidedBy h4 hkb), gd_t (inb_nI hkb (by omega)), bd2_s (gG_boughtBy h5 hkb), gd_t (inb_nI hkb (by omega)), nI_1, ars_nB (by omega) hs]
    exact ih
theorem LA1 (h : AG ns nb u M) : ∀ (d k n : Nat), k + d = ns → d < n → lp (fun _ _ => none) (fun f => fb_LS_A_c140 f ns nb) n (nI k) (ars k 0 u M) = some (ars ns nb u M)
  | 0, k, n + 1, hk, hn => by
    have hb := h.2.2.1
    have e : k = ns := by omega
    subst e
    rw [lp_s]
    unfold fb_LS_A_c140
    rw [if_pos (nI_le (Nat.le_refl _) (by omega))]
    exact LA2 h nb 0 FU (by omega) (FU_e _ (by have := h.2.2.2.2; omega))
  | d + 1, k, n + 1, hk, hn => by
    have hb := h.2.2.1
    have ih := LA1 h d (k + 1) n (by omega) (by omega)
    have hkb : k < ns := by omega
    have h0 : AG ns nb u (ars k 0 u M) := h.ars
    rw [lp_s]
    generalize lp (fun _ _ => none) (fun f => fb_LS_A_c140 f ns nb) n = K at ih ⊢
    unfold fb_LS_A_c140
    rw [if_neg (nI_ge hkb (by omega)), bd2_s (gG_stockOf h0 hkb), gd_t (inb_nI hkb (by omega)), cl (show k < 2147483648 by omega)]
    have h1 := h0.upd (z := 3000 + k) (x := u (23 + 9 * k + 4)) (by omega)
    have h2 := h1.upd (z := 3016 + k) (x := u (23 + 9 * k + 5)) (by omega)
    have h3 := h2.upd (z := 3032 + k) (x := u (23 + 9 * k + 6)) (by omega)
    rw [bd2_s (gG_soldOf h1 hkb), gd_t (inb_nI hkb (by omega)), bd2_s (gG_lostOf h2 hkb), gd_t (inb_nI hkb (by omega)), bd2_s (gG_earnings h3 hkb), gd_t (inb_nI hkb (by omega)), nI_1, ars_nS (by omega)]
    exact ih
/-- segment A: the arrays hold the market -/
theorem LSA (h : AG ns nb u M) : f_LS_A ns nb M = some (ars ns nb u M) := by
  have := LA1 h ns 0 FU (by omega) (FU_e _ (by have := h.2.2.1; omega))
  rw [ars_00] at this
  exact this
end
