/-! the law's ten arrays beside the class: ars puts a market's figures into them -/
def fB (k : Nat) : Nat := if k < 2 then k else k + 2
def ars (ns nb : Nat) (w M : xM) : xM := fun z =>
  if 3000 ≤ z ∧ z < 3064 ∧ (z - 3000) % 16 < ns then w (23 + 9 * ((z - 3000) % 16) + (4 + (z - 3000) / 16))
  else if 3064 ≤ z ∧ z < 3160 ∧ (z - 3064) % 16 < nb then w (77 + 8 * ((z - 3064) % 16) + fB ((z - 3064) / 16)) else M z
section
variable {ns nb : Nat} {u w M : xM}
theorem ars_lo {z : Nat} (h : z < 3000 ∨ 3160 ≤ z) : ars ns nb w M z = M z := by
  unfold ars
  rw [if_neg (by omega), if_neg (by omega)]
theorem ars_s {k j : Nat} (hk : k < 4) (hj : j < ns) (hn : ns ≤ 6) : ars ns nb w M (3000 + 16 * k + j) = w (23 + 9 * j + (4 + k)) := by
  unfold ars
  rw [if_pos (by omega), show (3000 + 16 * k + j - 3000) % 16 = j by omega, show (3000 + 16 * k + j - 3000) / 16 = k by omega]
theorem ars_b {k j : Nat} (hk : k < 6) (hj : j < nb) (hn : nb ≤ 6) : ars ns nb w M (3064 + 16 * k + j) = w (77 + 8 * j + fB k) := by
  unfold ars
  rw [if_neg (by omega), if_pos (by omega), show (3064 + 16 * k + j - 3064) % 16 = j by omega, show (3064 + 16 * k + j - 3064) / 16 = k by omega]
theorem uar_s {k j : Nat} {x : Int32} (hk : k < 4) (hj : j < ns) (hn : ns ≤ 6) : upd (ars ns nb w M) (3000 + 16 * k + j) x = ars ns nb (upd w (23 + 9 * j + (4 + k)) x) M := by
  funext z
  by_cases h : z = 3000 + 16 * k + j
  · subst h
    rw [us, ars_s hk hj hn, us]
  · rw [un h]
    unfold ars
    by_cases h1 : 3000 ≤ z ∧ z < 3064 ∧ (z - 3000) % 16 < ns
    · rw [if_pos h1, if_pos h1, un (by omega)]
    · rw [if_neg h1, if_neg h1]
      by_cases h2 : 3064 ≤ z ∧ z < 3160 ∧ (z - 3064) % 16 < nb
      · rw [if_pos h2, if_pos h2, un (by omega)]
      · rw [if_neg h2, if_neg h2]
theorem uar_b {k j : Nat} {x : Int32} (hk : k < 6) (hj : j < nb) (hn : nb ≤ 6) (hs : ns ≤ 6) : upd (ars ns nb w M) (3064 + 16 * k + j) x = ars ns nb (upd w (77 + 8 * j + fB k) x) M := by
  funext z
  by_cases h : z = 3064 + 16 * k + j
  · subst h
    rw [us, ars_b hk hj hn, us]
  · rw [un h]
    unfold ars
    by_cases h1 : 3000 ≤ z ∧ z < 3064 ∧ (z - 3000) % 16 < ns
    · rw [if_pos h1, if_pos h1, un (by omega)]
    · rw [if_neg h1, if_neg h1]
      by_cases h2 : 3064 ≤ z ∧ z < 3160 ∧ (z - 3064) % 16 < nb
      · rw [if_pos h2, if_pos h2, un ?_]
        have hf : ∀ a, a < 6 → fB a < 8 := by decide
        have hfi : ∀ a, a < 6 → ∀ b, b < 6 → fB a = fB b → a = b := by decide
        have a1 := hf k hk
        have a2 := hf ((z - 3064) / 16) (by omega)
        intro e
        have e2 : (z - 3064) % 16 = j := by omega
        have e3 := hfi _ (show (z - 3064) / 16 < 6 by omega) k hk (by omega)
        omega
      · rw [if_neg h2, if_neg h2]
theorem ars_cong {w2 : xM} (hs : ns ≤ 6) (hb : nb ≤ 6) (h : ∀ z, 23 ≤ z → z < 125 → w z = w2 z) : ars ns nb w M = ars ns nb w2 M := by
  funext z
  unfold ars
  by_cases h1 : 3000 ≤ z ∧ z < 3064 ∧ (z - 3000) % 16 < ns
  · rw [if_pos h1, if_pos h1, h _ (by omega) (by omega)]
  · rw [if_neg h1, if_neg h1]
    by_cases h2 : 3064 ≤ z ∧ z < 3160 ∧ (z - 3064) % 16 < nb
    · have hf : ∀ a, a < 6 → fB a < 8 := by decide
      have a2 := hf ((z - 3064) / 16) (by omega)
      rw [if_pos h2, if_pos h2, h _ (by omega) (by omega)]
    · rw [if_neg h2, if_neg h2]
theorem aR4 {j : Nat} (hj : j < ns) (hn : ns ≤ 6) : ars ns nb w M (3000 + j) = w (23 + 9 * j + 4) := ars_s (k := 0) (by decide) hj hn
theorem uR4 {j : Nat} {x : Int32} (hj : j < ns) (hn : ns ≤ 6) : upd (ars ns nb w M) (3000 + j) x = ars ns nb (upd w (23 + 9 * j + 4) x) M := uar_s (k := 0) (by decide) hj hn
theorem aR5 {j : Nat} (hj : j < ns) (hn : ns ≤ 6) : ars ns nb w M (3016 + j) = w (23 + 9 * j + 5) := ars_s (k := 1) (by decide) hj hn
theorem uR5 {j : Nat} {x : Int32} (hj : j < ns) (hn : ns ≤ 6) : upd (ars ns nb w M) (3016 + j) x = ars ns nb (upd w (23 + 9 * j + 5) x) M := uar_s (k := 1) (by decide) hj hn
theorem aR6 {j : Nat} (hj : j < ns) (hn : ns ≤ 6) : ars ns nb w M (3032 + j) = w (23 + 9 * j + 6) := ars_s (k := 2) (by decide) hj hn
theorem uR6 {j : Nat} {x : Int32} (hj : j < ns) (hn : ns ≤ 6) : upd (ars ns nb w M) (3032 + j) x = ars ns nb (upd w (23 + 9 * j + 6) x) M := uar_s (k := 2) (by decide) hj hn
theorem aR7 {j : Nat} (hj : j < ns) (hn : ns ≤ 6) : ars ns nb w M (3048 + j) = w (23 + 9 * j + 7) := ars_s (k := 3) (by decide) hj hn
theorem uR7 {j : Nat} {x : Int32} (hj : j < ns) (hn : ns ≤ 6) : upd (ars ns nb w M) (3048 + j) x = ars ns nb (upd w (23 + 9 * j + 7) x) M := uar_s (k := 3) (by decide) hj hn
theorem aB0 {j : Nat} (hj : j < nb) (hn : nb ≤ 6) : ars ns nb w M (3064 + j) = w (77 + 8 * j + 0) := ars_b (k := 0) (by decide) hj hn
theorem uB0 {j : Nat} {x : Int32} (hj : j < nb) (hn : nb ≤ 6) (hs : ns ≤ 6) : upd (ars ns nb w M) (3064 + j) x = ars ns nb (upd w (77 + 8 * j + 0) x) M := uar_b (k := 0) (by decide) hj hn hs
theorem aB1 {j : Nat} (hj : j < nb) (hn : nb ≤ 6) : ars ns nb w M (3080 + j) = w (77 + 8 * j + 1) := ars_b (k := 1) (by decide) hj hn
theorem uB1 {j : Nat} {x : Int32} (hj : j < nb) (hn : nb ≤ 6) (hs : ns ≤ 6) : upd (ars ns nb w M) (3080 + j) x = ars ns nb (upd w (77 + 8 * j + 1) x) M := uar_b (k := 1) (by decide) hj hn hs
theorem aB4 {j : Nat} (hj : j < nb) (hn : nb ≤ 6) : ars ns nb w M (3096 + j) = w (77 + 8 * j + 4) := ars_b (k := 2) (by decide) hj hn
theorem uB4 {j : Nat} {x : Int32} (hj : j < nb) (hn : nb ≤ 6) (hs : ns ≤ 6) : upd (ars ns nb w M) (3096 + j) x = ars ns nb (upd w (77 + 8 * j + 4) x) M := uar_b (k := 2) (by decide) hj hn hs
theorem aB5 {j : Nat} (hj : j < nb) (hn : nb ≤ 6) : ars ns nb w M (3112 + j) = w (77 + 8 * j + 5) := ars_b (k := 3) (by decide) hj hn
theorem uB5 {j : Nat} {x : Int32} (hj : j < nb) (hn : nb ≤ 6) (hs : ns ≤ 6) : upd (ars ns nb w M) (3112 + j) x = ars ns nb (upd w (77 + 8 * j + 5) x) M := uar_b (k := 3) (by decide) hj hn hs
theorem aB6 {j : Nat} (hj : j < nb) (hn : nb ≤ 6) : ars ns nb w M (3128 + j) = w (77 + 8 * j + 6) := ars_b (k := 4) (by decide) hj hn
theorem uB6 {j : Nat} {x : Int32} (hj : j < nb) (hn : nb ≤ 6) (hs : ns ≤ 6) : upd (ars ns nb w M) (3128 + j) x = ars ns nb (upd w (77 + 8 * j + 6) x) M := uar_b (k := 4) (by decide) hj hn hs
theorem aB7 {j : Nat} (hj : j < nb) (hn : nb ≤ 6) : ars ns nb w M (3144 + j) = w (77 + 8 * j + 7) := ars_b (k := 5) (by decide) hj hn
theorem uB7 {j : Nat} {x : Int32} (hj : j < nb) (hn : nb ≤ 6) (hs : ns ≤ 6) : upd (ars ns nb w M) (3144 + j) x = ars ns nb (upd w (77 + 8 * j + 7) x) M := uar_b (k := 5) (by decide) hj hn hs
theorem c_stN {X : xM} {j : Nat} (e9 : X 9 = nI ns) (hn : ns ≤ 6) (hj : j < ns) : f_X6_stallAt (nI j) X = some (23 + 9 * j, X) := by
  unfold f_X6_stallAt f_X6_checkStall
  rw [if_neg (nI_pos (by omega)), e9, if_pos (nI_lt hj (by omega))]
  simp only [bd, gd_t (inb_nI (show j < 6 by omega) (by decide)), cl (show j < 2147483648 by omega)]
theorem c_buN {X : xM} {j : Nat} (e9 : X 10 = nI nb) (hn : nb ≤ 6) (hj : j < nb) : f_X6_buyerAt (nI j) X = some (77 + 8 * j, X) := by
  unfold f_X6_buyerAt f_X6_checkBuyer
  rw [if_neg (nI_pos (by omega)), e9, if_pos (nI_lt hj (by omega))]
  simp only [bd, gd_t (inb_nI (show j < 6 by omega) (by decide)), cl (show j < 2147483648 by omega)]
/-- the class's market u under the law's memory -/
def AG (ns nb : Nat) (u M : xM) : Prop := (∀ z, z < 125 → M z = u z) ∧ u 9 = nI ns ∧ ns ≤ 6 ∧ u 10 = nI nb ∧ nb ≤ 6
theorem g_positionOf {X : xM} {j : Nat} (e9 : X 9 = nI ns) (hn : ns ≤ 6) (hj : j < ns) : f_X6_positionOf (nI j) X = some (X (23 + 9 * j + 0), X) := by
  unfold f_X6_positionOf
  rw [bd2_s (c_stN e9 hn hj)]
theorem gA_positionOf (h : AG ns nb u M) {j n2 b2 : Nat} (hj : j < ns) : f_X6_positionOf (nI j) (ars n2 b2 w M) = some (u (23 + 9 * j + 0), ars n2 b2 w M) := by
  obtain ⟨h1, h2, h3, h4, h5⟩ := h
  rw [g_positionOf (ns := ns) (by rw [ars_lo (by omega), h1 _ (by omega), h2]) h3 hj, ars_lo (by omega), h1 _ (by omega)]
theorem g_lanternOf {X : xM} {j : Nat} (e9 : X 9 = nI ns) (hn : ns ≤ 6) (hj : j < ns) : f_X6_lanternOf (nI j) X = some (X (23 + 9 * j + 1), X) := by
  unfold f_X6_lanternOf
  rw [bd2_s (c_stN e9 hn hj)]
theorem gA_lanternOf (h : AG ns nb u M) {j n2 b2 : Nat} (hj : j < ns) : f_X6_lanternOf (nI j) (ars n2 b2 w M) = some (u (23 + 9 * j + 1), ars n2 b2 w M) := by
  obtain ⟨h1, h2, h3, h4, h5⟩ := h
  rw [g_lanternOf (ns := ns) (by rw [ars_lo (by omega), h1 _ (by omega), h2]) h3 hj, ars_lo (by omega), h1 _ (by omega)]
theorem g_textureOf {X : xM} {j : Nat} (e9 : X 9 = nI ns) (hn : ns ≤ 6) (hj : j < ns) : f_X6_textureOf (nI j) X = some (X (23 + 9 * j + 2), X) := by
  unfold f_X6_textureOf
  rw [bd2_s (c_stN e9 hn hj)]
theorem gA_textureOf (h : AG ns nb u M) {j n2 b2 : Nat} (hj : j < ns) : f_X6_textureOf (nI j) (ars n2 b2 w M) = some (u (23 + 9 * j + 2), ars n2 b2 w M) := by
  obtain ⟨h1, h2, h3, h4, h5⟩ := h
  rw [g_textureOf (ns := ns) (by rw [ars_lo (by omega), h1 _ (by omega), h2]) h3 hj, ars_lo (by omega), h1 _ (by omega)]
theorem g_priceOf {X : xM} {j : Nat} (e9 : X 9 = nI ns) (hn : ns ≤ 6) (hj : j < ns) : f_X6_priceOf (nI j) X = some (X (23 + 9 * j + 3), X) := by
  unfold f_X6_priceOf
  rw [bd2_s (c_stN e9 hn hj)]
theorem gA_priceOf (h : AG ns nb u M) {j n2 b2 : Nat} (hj : j < ns) : f_X6_priceOf (nI j) (ars n2 b2 w M) = some (u (23 + 9 * j + 3), ars n2 b2 w M) := by
  obtain ⟨h1, h2, h3, h4, h5⟩ := h
  rw [g_priceOf (ns := ns) (by rw [ars_lo (by omega), h1 _ (by omega), h2]) h3 hj, ars_lo (by omega), h1 _ (by omega)]
theorem g_stockOf {X : xM} {j : Nat} (e9 : X 9 = nI ns) (hn : ns ≤ 6) (hj : j < ns) : f_X6_stockOf (nI j) X = some (X (23 + 9 * j + 4), X) := by
  unfold f_X6_stockOf
  rw [bd2_s (c_stN e9 hn hj)]
theorem gA_stockOf (h : AG ns nb u M) {j n2 b2 : Nat} (hj : j < ns) : f_X6_stockOf (nI j) (ars n2 b2 w M) = some (u (23 + 9 * j + 4), ars n2 b2 w M) := by
  obtain ⟨h1, h2, h3, h4, h5⟩ := h
  rw [g_stockOf (ns := ns) (by rw [ars_lo (by omega), h1 _ (by omega), h2]) h3 hj, ars_lo (by omega), h1 _ (by omega)]
theorem g_soldOf {X : xM} {j : Nat} (e9 : X 9 = nI ns) (hn : ns ≤ 6) (hj : j < ns) : f_X6_soldOf (nI j) X = some (X (23 + 9 * j + 5), X) := by
  unfold f_X6_soldOf
  rw [bd2_s (c_stN e9 hn hj)]
theorem gA_soldOf (h : AG ns nb u M) {j n2 b2 : Nat} (hj : j < ns) : f_X6_soldOf (nI j) (ars n2 b2 w M) = some (u (23 + 9 * j + 5), ars n2 b2 w M) := by
  obtain ⟨h1, h2, h3, h4, h5⟩ := h
  rw [g_soldOf (ns := ns) (by rw [ars_lo (by omega), h1 _ (by omega), h2]) h3 hj, ars_lo (by omega), h1 _ (by omega)]
theorem g_lostOf {X : xM} {j : Nat} (e9 : X 9 = nI ns) (hn : ns ≤ 6) (hj : j < ns) : f_X6_lostOf (nI j) X = some (X (23 + 9 * j + 6), X) := by
  unfold f_X6_lostOf
  rw [bd2_s (c_stN e9 hn hj)]
theorem gA_lostOf (h : AG ns nb u M) {j n2 b2 : Nat} (hj : j < ns) : f_X6_lostOf (nI j) (ars n2 b2 w M) = some (u (23 + 9 * j + 6), ars n2 b2 w M) := by
  obtain ⟨h1, h2, h3, h4, h5⟩ := h
  rw [g_lostOf (ns := ns) (by rw [ars_lo (by omega), h1 _ (by omega), h2]) h3 hj, ars_lo (by omega), h1 _ (by omega)]
theorem g_earnings {X : xM} {j : Nat} (e9 : X 9 = nI ns) (hn : ns ≤ 6) (hj : j < ns) : f_X6_earnings (nI j) X = some (X (23 + 9 * j + 7), X) := by
  unfold f_X6_earnings
  rw [bd2_s (c_stN e9 hn hj)]
theorem gA_earnings (h : AG ns nb u M) {j n2 b2 : Nat} (hj : j < ns) : f_X6_earnings (nI j) (ars n2 b2 w M) = some (u (23 + 9 * j + 7), ars n2 b2 w M) := by
  obtain ⟨h1, h2, h3, h4, h5⟩ := h
  rw [g_earnings (ns := ns) (by rw [ars_lo (by omega), h1 _ (by omega), h2]) h3 hj, ars_lo (by omega), h1 _ (by omega)]
theorem g_placeOf {X : xM} {j : Nat} (e9 : X 10 = nI nb) (hn : nb ≤ 6) (hj : j < nb) : f_X6_placeOf (nI j) X = some (X (77 + 8 * j + 0), X) := by
  unfold f_X6_placeOf
  rw [bd2_s (c_buN e9 hn hj)]
theorem gA_placeOf (h : AG ns nb u M) {j n2 b2 : Nat} (hj : j < nb) : f_X6_placeOf (nI j) (ars n2 b2 w M) = some (u (77 + 8 * j + 0), ars n2 b2 w M) := by
  obtain ⟨h1, h2, h3, h4, h5⟩ := h
  rw [g_placeOf (nb := nb) (by rw [ars_lo (by omega), h1 _ (by omega), h4]) h5 hj, ars_lo (by omega), h1 _ (by omega)]
theorem g_coinsOf {X : xM} {j : Nat} (e9 : X 10 = nI nb) (hn : nb ≤ 6) (hj : j < nb) : f_X6_coinsOf (nI j) X = some (X (77 + 8 * j + 1), X) := by
  unfold f_X6_coinsOf
  rw [bd2_s (c_buN e9 hn hj)]
theorem gA_coinsOf (h : AG ns nb u M) {j n2 b2 : Nat} (hj : j < nb) : f_X6_coinsOf (nI j) (ars n2 b2 w M) = some (u (77 + 8 * j + 1), ars n2 b2 w M) := by
  obtain ⟨h1, h2, h3, h4, h5⟩ := h
  rw [g_coinsOf (nb := nb) (by rw [ars_lo (by omega), h1 _ (by omega), h4]) h5 hj, ars_lo (by omega), h1 _ (by omega)]
theorem g_wantedTexture {X : xM} {j : Nat} (e9 : X 10 = nI nb) (hn : nb ≤ 6) (hj : j < nb) : f_X6_wantedTexture (nI j) X = some (X (77 + 8 * j + 2), X) := by
  unfold f_X6_wantedTexture
  rw [bd2_s (c_buN e9 hn hj)]
theorem gA_wantedTexture (h : AG ns nb u M) {j n2 b2 : Nat} (hj : j < nb) : f_X6_wantedTexture (nI j) (ars n2 b2 w M) = some (u (77 + 8 * j + 2), ars n2 b2 w M) := by
  obtain ⟨h1, h2, h3, h4, h5⟩ := h
  rw [g_wantedTexture (nb := nb) (by rw [ars_lo (by omega), h1 _ (by omega), h4]) h5 hj, ars_lo (by omega), h1 _ (by omega)]
theorem g_speedOf {X : xM} {j : Nat} (e9 : X 10 = nI nb) (hn : nb ≤ 6) (hj : j < nb) : f_X6_speedOf (nI j) X = some (X (77 + 8 * j + 3), X) := by
  unfold f_X6_speedOf
  rw [bd2_s (c_buN e9 hn hj)]
theorem gA_speedOf (h : AG ns nb u M) {j n2 b2 : Nat} (hj : j < nb) : f_X6_speedOf (nI j) (ars n2 b2 w M) = some (u (77 + 8 * j + 3), ars n2 b2 w M) := by
  obtain ⟨h1, h2, h3, h4, h5⟩ := h
  rw [g_speedOf (nb := nb) (by rw [ars_lo (by omega), h1 _ (by omega), h4]) h5 hj, ars_lo (by omega), h1 _ (by omega)]
theorem g_heldFrom {X : xM} {j : Nat} (e9 : X 10 = nI nb) (hn : nb ≤ 6) (hj : j < nb) : f_X6_heldFrom (nI j) X = some (X (77 + 8 * j + 4), X) := by
  unfold f_X6_heldFrom
  rw [bd2_s (c_buN e9 hn hj)]
theorem gA_heldFrom (h : AG ns nb u M) {j n2 b2 : Nat} (hj : j < nb) : f_X6_heldFrom (nI j) (ars n2 b2 w M) = some (u (77 + 8 * j + 4), ars n2 b2 w M) := by
  obtain ⟨h1, h2, h3, h4, h5⟩ := h
  rw [g_heldFrom (nb := nb) (by rw [ars_lo (by omega), h1 _ (by omega), h4]) h5 hj, ars_lo (by omega), h1 _ (by omega)]
theorem g_debtOf {X : xM} {j : Nat} (e9 : X 10 = nI nb) (hn : nb ≤ 6) (hj : j < nb) : f_X6_debtOf (nI j) X = some (X (77 + 8 * j + 5), X) := by
  unfold f_X6_debtOf
  rw [bd2_s (c_buN e9 hn hj)]
theorem gA_debtOf (h : AG ns nb u M) {j n2 b2 : Nat} (hj : j < nb) : f_X6_debtOf (nI j) (ars n2 b2 w M) = some (u (77 + 8 * j + 5), ars n2 b2 w M) := by
  obtain ⟨h1, h2, h3, h4, h5⟩ := h
  rw [g_debtOf (nb := nb) (by rw [ars_lo (by omega), h1 _ (by omega), h4]) h5 hj, ars_lo (by omega), h1 _ (by omega)]
theorem g_avoidedBy {X : xM} {j : Nat} (e9 : X 10 = nI nb) (hn : nb ≤ 6) (hj : j < nb) : f_X6_avoidedBy (nI j) X = some (X (77 + 8 * j + 6), X) := by
  unfold f_X6_avoidedBy
  rw [bd2_s (c_buN e9 hn hj)]
theorem gA_avoidedBy (h : AG ns nb u M) {j n2 b2 : Nat} (hj : j < nb) : f_X6_avoidedBy (nI j) (ars n2 b2 w M) = some (u (77 + 8 * j + 6), ars n2 b2 w M) := by
  obtain ⟨h1, h2, h3, h4, h5⟩ := h
  rw [g_avoidedBy (nb := nb) (by rw [ars_lo (by omega), h1 _ (by omega), h4]) h5 hj, ars_lo (by omega), h1 _ (by omega)]
theorem g_boughtBy {X : xM} {j : Nat} (e9 : X 10 = nI nb) (hn : nb ≤ 6) (hj : j < nb) : f_X6_boughtBy (nI j) X = some (X (77 + 8 * j + 7), X) := by
  unfold f_X6_boughtBy
  rw [bd2_s (c_buN e9 hn hj)]
theorem gA_boughtBy (h : AG ns nb u M) {j n2 b2 : Nat} (hj : j < nb) : f_X6_boughtBy (nI j) (ars n2 b2 w M) = some (u (77 + 8 * j + 7), ars n2 b2 w M) := by
  obtain ⟨h1, h2, h3, h4, h5⟩ := h
  rw [g_boughtBy (nb := nb) (by rw [ars_lo (by omega), h1 _ (by omega), h4]) h5 hj, ars_lo (by omega), h1 _ (by omega)]
theorem gA_threshold (h : AG ns nb u M) {n2 b2 : Nat} : f_X6_threshold (ars n2 b2 w M) = some (u 5, ars n2 b2 w M) := by
  show some (ars n2 b2 w M 5, ars n2 b2 w M) = _
  rw [ars_lo (by omega), h.1 _ (by omega)]
theorem gA_duration (h : AG ns nb u M) {n2 b2 : Nat} : f_X6_duration (ars n2 b2 w M) = some (u 6, ars n2 b2 w M) := by
  show some (ars n2 b2 w M 6, ars n2 b2 w M) = _
  rw [ars_lo (by omega), h.1 _ (by omega)]
theorem gA_bellPosition (h : AG ns nb u M) {n2 b2 : Nat} : f_X6_bellPosition (ars n2 b2 w M) = some (u 7, ars n2 b2 w M) := by
  show some (ars n2 b2 w M 7, ars n2 b2 w M) = _
  rw [ars_lo (by omega), h.1 _ (by omega)]
theorem gA_minute (h : AG ns nb u M) {n2 b2 : Nat} : f_X6_minute (ars n2 b2 w M) = some (u 0, ars n2 b2 w M) := by
  show some (ars n2 b2 w M 0, ars n2 b2 w M) = _
  rw [ars_lo (by omega), h.1 _ (by omega)]
theorem gA_openMinutes (h : AG ns nb u M) {n2 b2 : Nat} : f_X6_openMinutes (ars n2 b2 w M) = some (u 3, ars n2 b2 w M) := by
  show some (ars n2 b2 w M 3, ars n2 b2 w M) = _
  rw [ars_lo (by omega), h.1 _ (by omega)]
theorem gA_ringings (h : AG ns nb u M) {n2 b2 : Nat} : f_X6_ringings (ars n2 b2 w M) = some (u 4, ars n2 b2 w M) := by
  show some (ars n2 b2 w M 4, ars n2 b2 w M) = _
  rw [ars_lo (by omega), h.1 _ (by omega)]
theorem gA_stallCount (h : AG ns nb u M) {n2 b2 : Nat} : f_X6_stallCount (ars n2 b2 w M) = some (u 9, ars n2 b2 w M) := by
  show some (ars n2 b2 w M 9, ars n2 b2 w M) = _
  rw [ars_lo (by omega), h.1 _ (by omega)]
theorem gA_buyerCount (h : AG ns nb u M) {n2 b2 : Nat} : f_X6_buyerCount (ars n2 b2 w M) = some (u 10, ars n2 b2 w M) := by
  show some (ars n2 b2 w M 10, ars n2 b2 w M) = _
  rw [ars_lo (by omega), h.1 _ (by omega)]
end
theorem l_reach (l d : Int32) (M : xM) : f_L_reach l d M = some (P_reach l d, M) := by
  unfold f_L_reach P_reach
  repeat' split
  all_goals rfl
theorem l_guard (l : Int32) (M : xM) : f_L_guard l M = some (P_guard l, M) := by
  unfold f_L_guard P_guard
  repeat' split
  all_goals rfl
theorem l_in (x : Int32) {k : Nat} (h0 : 0 < k) (hk : k < 1073741824) (M : xM) : ∃ j, j < k ∧ f_L_in x (nI k) M = some (nI j, M) := by
  obtain ⟨j, hj, e⟩ : ∃ j, j < 2147483648 ∧ x &&& 2147483647 = nI j := by
    refine ⟨(x &&& 2147483647).toBitVec.toNat, ?_, ?_⟩
    · rw [Int32.toBitVec_and, BitVec.toNat_and]
      exact Nat.lt_of_le_of_lt Nat.and_le_right (by decide)
    · apply Int32.toBitVec_inj.mp
      show (x &&& 2147483647).toBitVec = BitVec.ofNat 32 (x &&& 2147483647).toBitVec.toNat
      simp
  refine ⟨j % k, Nat.mod_lt _ h0, ?_⟩
  have hn : nz (nI k) = true := by
    unfold nz
    have : ¬ nI k = 0 := nI_ne0 (by omega) (by omega)
    simpa using this
  unfold f_L_in
  rw [gd_t hn, e, pk_rem (by omega) (by omega) (by omega)]
theorem l_cmp {a b : Nat} (ha : a < 100) (hb : b < 100) (M : xM) : f_J6_compare_7cf53 (nI a) (nI b) M = some (if b ≤ a then (if a = b then 0 else 1) else -1, M) := by
  unfold f_J6_compare_7cf53
  by_cases h : b ≤ a
  · rw [if_pos (nI_le h (by omega)), if_pos h]
    by_cases e : a = b
    · subst e; rw [if_pos rfl, if_pos rfl]
    · rw [if_neg (fun q => e ((nI_eq (by omega) (by omega)).mp q)), if_neg e]
  · rw [if_neg (nI_ge (by omega) (by omega)), if_neg h]
