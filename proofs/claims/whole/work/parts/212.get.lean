/-! the calls that only ask -/
def OkP (mm : Nat) (fc fm : xM → Option (Int32 × xM)) (M : xM) : Prop := ∃ r M1 M2, fc M = some (r, M1) ∧ fm M1 = some (r, M2) ∧ RR mm M2
def OkT (mm : Nat) (l : List Nat) (fc : xM → Option (Nat × Int32 × xM)) (fm : xM → Option (Int32 × xM)) (M : xM) : Prop :=
  ∃ k r M1 b M2, fc M = some (k, r, M1) ∧ fm M1 = some (b, M2) ∧ RR mm M2 ∧ ((k = 0 ∧ r = b ∧ M2 2504 = 0) ∨ ∃ i, l[i]? = some k ∧ 0 < k ∧ M2 2504 = nI (i + 1))
section
variable {mm : Nat} {M : xM}
theorem w0 {z : Nat} : win 0 M z = M z := by unfold win; rw [Nat.zero_add]
/-- the two markets at hand -/
theorem RR.mk (h : RR mm M) : ∃ ns nb nf, MV mm ns nb nf (win 0 M) ∧ EC ns nb (win 0 M) ∧ BT mm nb (win 0 M) ∧ Sim ns nb nf (win 0 M) (win 2520 M) ∧ MV mm ns nb nf (win 2520 M) := by
  obtain ⟨ns, nb, nf, h1, h2, h3, h4⟩ := h.1
  exact ⟨ns, nb, nf, h1, h2, h3, h4, h4.MV h1⟩
theorem RR.hd (h : RR mm M) {z : Nat} (hz : z < 11) : M z = M (2520 + z) := by
  obtain ⟨ns, nb, nf, -, -, -, h4, -⟩ := h.mk
  have := h4.h hz
  rw [w0] at this
  exact this
theorem s_plain {a c : Nat} {fc fm : xM → Option (Int32 × xM)} (h : RR mm M) (e : M a = M c) (e1 : fc M = some (M a, M)) (e2 : fm M = some (M c, upd M 2504 0)) : OkP mm fc fm M :=
  ⟨_, _, _, e1, by rw [e2, e], h.upd (by unfold rz; omega)⟩
theorem s_errorCode (h : RR mm M) : OkP mm f_X6_errorCode f_X7_errorCode M := s_plain h h.2.2.2.2.1.1 rfl rfl
theorem s_errorPosition (h : RR mm M) : OkP mm f_X6_errorPosition f_X7_errorPosition M := s_plain h h.2.2.2.2.1.2 rfl rfl
theorem s_minute (h : RR mm M) : OkP mm f_X6_minute f_X7_minute M := s_plain h (h.hd (z := 0) (by omega)) rfl rfl
theorem s_bellPosition (h : RR mm M) : OkP mm f_X6_bellPosition f_X7_bellPosition M := s_plain h (h.hd (z := 7) (by omega)) rfl rfl
theorem s_threshold (h : RR mm M) : OkP mm f_X6_threshold f_X7_threshold M := s_plain h (h.hd (z := 5) (by omega)) rfl rfl
theorem s_duration (h : RR mm M) : OkP mm f_X6_duration f_X7_duration M := s_plain h (h.hd (z := 6) (by omega)) rfl rfl
theorem s_openMinutes (h : RR mm M) : OkP mm f_X6_openMinutes f_X7_openMinutes M := s_plain h (h.hd (z := 3) (by omega)) rfl rfl
theorem s_ringings (h : RR mm M) : OkP mm f_X6_ringings f_X7_ringings M := s_plain h (h.hd (z := 4) (by omega)) rfl rfl
theorem s_stallCount (h : RR mm M) : OkP mm f_X6_stallCount f_X7_stallCount M := s_plain h (h.hd (z := 9) (by omega)) rfl rfl
theorem s_buyerCount (h : RR mm M) : OkP mm f_X6_buyerCount f_X7_buyerCount M := s_plain h (h.hd (z := 10) (by omega)) rfl rfl
theorem s_undoCount (h : RR mm M) : OkP mm f_X6_undoCount f_X7_undoCount M := by
  obtain ⟨p, c, -, -, -, h2, h3, -⟩ := h.2.1
  exact s_plain h (h2.trans h3.symm) rfl rfl
theorem s_isOpen (h : RR mm M) : OkP mm f_X6_isOpen f_X7_isOpen M := by
  obtain ⟨ns, nb, nf, h1, -⟩ := h.mk
  have e := h.hd (z := 1) (by omega)
  have o := h1.o
  rw [w0] at o
  refine ⟨M 1, M, upd M 2504 0, ?_, ?_, h.upd (by unfold rz; omega)⟩
  · unfold f_X6_isOpen
    rw [gd_t (isb_of o)]
  · unfold f_X7_isOpen f_X7_plain
    simp only [bd2]
    rw [← e]
    rcases o with q | q
    · rw [q]; rfl
    · rw [q]; rfl
theorem s_isReady (h : RR mm M) : OkP mm f_X6_isReady f_X7_isReady M := by
  obtain ⟨ns, nb, nf, h1, -⟩ := h.mk
  have e := h.hd (z := 2) (by omega)
  have o := h1.r
  rw [w0] at o
  refine ⟨M 2, M, upd M 2504 0, ?_, ?_, h.upd (by unfold rz; omega)⟩
  · unfold f_X6_isReady
    rw [gd_t (isb_of o)]
  · unfold f_X7_isReady f_X7_plain
    simp only [bd2]
    rw [← e]
    rcases o with q | q
    · rw [q]; rfl
    · rw [q]; rfl
/-! ranges -/
theorem m_inR (x lo hi : Int32) (M : xM) : f_X7_inRange x lo hi M = some (if lo ≤ x ∧ x ≤ hi then 1 else 0, M) := by
  unfold f_X7_inRange
  by_cases h : x < lo
  · rw [if_pos h, if_neg (fun q => absurd q.1 (by rw [Int32.not_le]; exact h))]
  · have h' : lo ≤ x := by rw [← Int32.not_lt]; exact h
    rw [if_neg h]
    by_cases h2 : hi < x
    · rw [if_pos h2, if_neg (fun q => absurd q.2 (by rw [Int32.not_le]; exact h2))]
    · rw [if_neg h2, if_pos ⟨h', by rw [← Int32.not_lt]; exact h2⟩]
theorem c_chk (x lo hi : Int32) (M : xM) : f_X6_checkRange x lo hi M = some (if lo ≤ x ∧ x ≤ hi then 0 else 1, (), M) := by
  unfold f_X6_checkRange f_X6_checkRange_c10
  by_cases h : x < lo
  · rw [if_pos h, if_neg (fun q => absurd q.1 (by rw [Int32.not_le]; exact h))]
  · have h' : lo ≤ x := by rw [← Int32.not_lt]; exact h
    rw [if_neg h]
    by_cases h2 : x ≤ hi
    · rw [if_pos h2, if_pos ⟨h', h2⟩]
    · rw [if_neg h2, if_neg (fun q => h2 q.2)]
theorem m_fail0 (w : Int32) (M : xM) : f_X7_fails 0 w M = some (1, upd M 2504 w) := rfl
theorem m_fail1 (w : Int32) (M : xM) : f_X7_fails 1 w M = some (0, M) := rfl
theorem rng_in {j n : Nat} (h : j < n) (hn : n < 1073741824) : (0 : Int32) ≤ nI j ∧ nI j ≤ nI n - 1 := by
  rw [show nI n - 1 = nI (n - 1) from pk_sub (b := 1) (by omega)]
  exact ⟨nI_pos' (by omega), nI_le (by omega) (by omega)⟩
theorem rng_out {x : Int32} {n : Nat} (h : x < 0 ∨ nI n ≤ x) (hn : n < 1073741824) : ¬ ((0 : Int32) ≤ x ∧ x ≤ nI n - 1) := by
  rintro ⟨a, b⟩
  rcases h with h | h
  · exact absurd a (by rw [Int32.not_le]; exact h)
  · have h1 := Int32.le_iff_toInt_le.mp h
    have h2 := Int32.le_iff_toInt_le.mp b
    have h3 := pk_sub_toInt (a := n) (b := 1) (by omega) (by omega)
    rw [nI_toInt (by omega)] at h1
    have h4 : (nI n - nI 1).toInt = (nI n - 1).toInt := rfl
    omega
theorem c_stI {j ns : Nat} (hj : j < ns) (hn : ns ≤ 6) (e : M 9 = nI ns) : f_X6_stallAt (nI j) M = some (0, 23 + 9 * j, M) := by
  unfold f_X6_stallAt f_X6_checkStall
  rw [if_neg (nI_pos (by omega)), e, if_pos (nI_lt hj (by omega)), tbd_0 rfl, gd_t (inb_nI (by omega) (by omega)), cl (by omega)]
theorem c_stO {x : Int32} {ns : Nat} (h : x < 0 ∨ nI ns ≤ x) (e : M 9 = nI ns) : f_X6_checkStall x M = some (2, (), M) := by
  unfold f_X6_checkStall f_X6_checkStall_c15
  by_cases q : x < 0
  · rw [if_pos q]
  · rw [if_neg q, e, if_neg]
    rcases h with h | h
    · exact absurd h q
    · rw [Int32.not_lt]; exact h
theorem c_stO2 {x : Int32} {ns : Nat} (h : x < 0 ∨ nI ns ≤ x) (e : M 9 = nI ns) : f_X6_stallAt x M = some (2, 0, M) := by
  unfold f_X6_stallAt
  rw [tbd_x (c_stO h e)]
theorem c_chS {j ns : Nat} (hj : j < ns) (hn : ns ≤ 6) (e : M 9 = nI ns) : f_X6_checkStall (nI j) M = some (0, (), M) := by
  unfold f_X6_checkStall
  rw [if_neg (nI_pos (by omega)), e, if_pos (nI_lt hj (by omega))]
theorem c_byI {j nb : Nat} (hj : j < nb) (hn : nb ≤ 6) (e : M 10 = nI nb) : f_X6_buyerAt (nI j) M = some (0, 77 + 8 * j, M) := by
  unfold f_X6_buyerAt f_X6_checkBuyer
  rw [if_neg (nI_pos (by omega)), e, if_pos (nI_lt hj (by omega)), tbd_0 rfl, gd_t (inb_nI (by omega) (by omega)), cl (by omega)]
theorem c_byO2 {x : Int32} {nb : Nat} (h : x < 0 ∨ nI nb ≤ x) (e : M 10 = nI nb) : f_X6_buyerAt x M = some (2, 0, M) := by
  have : f_X6_checkBuyer x M = some (2, (), M) := by
    unfold f_X6_checkBuyer f_X6_checkBuyer_c15
    by_cases q : x < 0
    · rw [if_pos q]
    · rw [if_neg q, e, if_neg]
      rcases h with h | h
      · exact absurd h q
      · rw [Int32.not_lt]; exact h
  unfold f_X6_buyerAt
  rw [tbd_x this]
theorem m_isSI {j ns : Nat} (hj : j < ns) (hn : ns ≤ 6) (e : M 2529 = nI ns) : f_X7_isStall (nI j) M = some (1, upd M 2504 0) := by
  unfold f_X7_isStall
  rw [un (by omega), e, m_inR, if_pos (rng_in hj (by omega))]
  rfl
theorem m_isSO {x : Int32} {ns : Nat} (h : x < 0 ∨ nI ns ≤ x) (hn : ns ≤ 6) (e : M 2529 = nI ns) : f_X7_isStall x M = some (0, upd M 2504 1) := by
  unfold f_X7_isStall
  rw [un (by omega), e, m_inR, if_neg (rng_out h (by omega))]
  simp only [bd2, m_fail0, utwice, i10, ↓reduceIte]
theorem m_isBI {j nb : Nat} (hj : j < nb) (hn : nb ≤ 6) (e : M 2530 = nI nb) : f_X7_isBuyer (nI j) M = some (1, upd M 2504 0) := by
  unfold f_X7_isBuyer
  rw [un (by omega), e, m_inR, if_pos (rng_in hj (by omega))]
  rfl
theorem m_isBO {x : Int32} {nb : Nat} (h : x < 0 ∨ nI nb ≤ x) (hn : nb ≤ 6) (e : M 2530 = nI nb) : f_X7_isBuyer x M = some (0, upd M 2504 1) := by
  unfold f_X7_isBuyer
  rw [un (by omega), e, m_inR, if_neg (rng_out h (by omega))]
  simp only [bd2, m_fail0, utwice, i10, ↓reduceIte]
theorem ixC (x : Int32) {n : Nat} (hn : n < 2147483648) : (x < 0 ∨ nI n ≤ x) ∨ ∃ j : Nat, j < n ∧ x = nI j := by
  rcases pk_ix x (n := n) (by omega) with h | h | h
  · exact Or.inl (Or.inl h)
  · exact Or.inl (Or.inr h)
  · exact Or.inr h
/-- the law's ways out -/
theorem R_t0 (h : RR mm M) {x : Int32} : RR mm (upd M 2504 x) := h.upd (by unfold rz; omega)
theorem RR.ns (h : RR mm M) : ∃ ns, ns ≤ 6 ∧ M 9 = nI ns ∧ M 2529 = nI ns ∧ ∀ s k, s < ns → k < 9 → M (23 + 9 * s + k) = M (2520 + (23 + 9 * s + k)) := by
  obtain ⟨ns, nb, nf, h1, -, -, h4, h5⟩ := h.mk
  have e1 := h1.s
  rw [w0] at e1
  refine ⟨ns, e1.2, e1.1, h5.s.1, fun s k hs hk => ?_⟩
  have := h4.ss hs hk
  rw [w0] at this
  exact this
theorem RR.nb (h : RR mm M) : ∃ nb, nb ≤ 6 ∧ M 10 = nI nb ∧ M 2530 = nI nb ∧ ∀ s k, s < nb → k < 8 → M (77 + 8 * s + k) = M (2520 + (77 + 8 * s + k)) := by
  obtain ⟨ns, nb, nf, h1, -, -, h4, h5⟩ := h.mk
  have e1 := h1.b
  rw [w0] at e1
  refine ⟨nb, e1.2, e1.1, h5.b.1, fun s k hs hk => ?_⟩
  have := h4.b hs hk
  rw [w0] at this
  exact this
theorem m_st' {s k : Nat} (hs : s < 6) (hk : k < 9) : f_X7_st (nI s) (nI k) M = some (M (2520 + (23 + 9 * s + k)), M) := by
  unfold f_X7_st
  rw [ixs, gd_t (inb_nI (by omega) (by omega)), cl (by omega)]
theorem m_by' {s k : Nat} (hs : s < 6) (hk : k < 8) : f_X7_by (nI s) (nI k) M = some (M (2520 + (77 + 8 * s + k)), M) := by
  unfold f_X7_by
  rw [ixb, gd_t (inb_nI (by omega) (by omega)), cl (by omega)]
theorem s_stall (h : RR mm M) {x kl : Int32} {k : Nat} (hk : k < 9) (hl : kl = nI k) {fc : xM → Option (Nat × Int32 × xM)} {fm : xM → Option (Int32 × xM)} (e1 : fc M = tbd (0 : Int32) (f_X6_stallAt x M) (fun r4 M3 => some (0, M3 (r4 + k), M3))) (e2 : fm M = bd2 (f_X7_asked x kl M) (fun r3 M2 => some (r3, M2))) : OkT mm [2] fc fm M := by
  obtain ⟨ns, hn, e9, e29, hS⟩ := h.ns
  rcases ixC x (n := ns) (by omega) with q | ⟨j, hj, rfl⟩
  · refine ⟨2, 0, M, 0, upd M 2504 1, by rw [e1, tbd_x (c_stO2 q e9)], ?_, (R_t0 h), Or.inr ⟨0, rfl, by omega, us⟩⟩
    rw [e2]
    unfold f_X7_asked
    rw [m_isSO q hn e29]
    rfl
  · refine ⟨0, M (23 + 9 * j + k), M, M (23 + 9 * j + k), upd M 2504 0, by rw [e1, tbd_0 (c_stI hj hn e9)], ?_, (R_t0 h), Or.inl ⟨rfl, rfl, us⟩⟩
    rw [e2, hl]
    unfold f_X7_asked
    rw [m_isSI hj hn e29]
    simp only [bd2, i10, ↓reduceIte, m_st' (show j < 6 by omega) hk]
    rw [un (by omega), hS j k hj hk]
theorem s_buyer (h : RR mm M) {x kl : Int32} {k : Nat} (hk : k < 8) (hl : kl = nI k) {fc : xM → Option (Nat × Int32 × xM)} {fm : xM → Option (Int32 × xM)} (e1 : fc M = tbd (0 : Int32) (f_X6_buyerAt x M) (fun r4 M3 => some (0, M3 (r4 + k), M3))) (e2 : fm M = bd2 (f_X7_askedOf x kl M) (fun r3 M2 => some (r3, M2))) : OkT mm [2] fc fm M := by
  obtain ⟨nb, hn, e9, e29, hS⟩ := h.nb
  rcases ixC x (n := nb) (by omega) with q | ⟨j, hj, rfl⟩
  · refine ⟨2, 0, M, 0, upd M 2504 1, by rw [e1, tbd_x (c_byO2 q e9)], ?_, (R_t0 h), Or.inr ⟨0, rfl, by omega, us⟩⟩
    rw [e2]
    unfold f_X7_askedOf
    rw [m_isBO q hn e29]
    rfl
  · refine ⟨0, M (77 + 8 * j + k), M, M (77 + 8 * j + k), upd M 2504 0, by rw [e1, tbd_0 (c_byI hj hn e9)], ?_, (R_t0 h), Or.inl ⟨rfl, rfl, us⟩⟩
    rw [e2, hl]
    unfold f_X7_askedOf
    rw [m_isBI hj hn e29]
    simp only [bd2, i10, ↓reduceIte, m_by' (show j < 6 by omega) hk]
    rw [un (by omega), hS j k hj hk]
theorem s_positionOf (h : RR mm M) (x : Int32) : OkT mm [2] (f_X6_positionOf x) (f_X7_positionOf x) M := s_stall h (k := 0) (by decide) rfl rfl rfl
theorem s_lanternOf (h : RR mm M) (x : Int32) : OkT mm [2] (f_X6_lanternOf x) (f_X7_lanternOf x) M := s_stall h (k := 1) (by decide) rfl rfl rfl
theorem s_textureOf (h : RR mm M) (x : Int32) : OkT mm [2] (f_X6_textureOf x) (f_X7_textureOf x) M := s_stall h (k := 2) (by decide) rfl rfl rfl
theorem s_priceOf (h : RR mm M) (x : Int32) : OkT mm [2] (f_X6_priceOf x) (f_X7_priceOf x) M := s_stall h (k := 3) (by decide) rfl rfl rfl
theorem s_stockOf (h : RR mm M) (x : Int32) : OkT mm [2] (f_X6_stockOf x) (f_X7_stockOf x) M := s_stall h (k := 4) (by decide) rfl rfl rfl
theorem s_soldOf (h : RR mm M) (x : Int32) : OkT mm [2] (f_X6_soldOf x) (f_X7_soldOf x) M := s_stall h (k := 5) (by decide) rfl rfl rfl
theorem s_lostOf (h : RR mm M) (x : Int32) : OkT mm [2] (f_X6_lostOf x) (f_X7_lostOf x) M := s_stall h (k := 6) (by decide) rfl rfl rfl
theorem s_earnings (h : RR mm M) (x : Int32) : OkT mm [2] (f_X6_earnings x) (f_X7_earnings x) M := s_stall h (k := 7) (by decide) rfl rfl rfl
theorem s_placeOf (h : RR mm M) (x : Int32) : OkT mm [2] (f_X6_placeOf x) (f_X7_placeOf x) M := s_buyer h (k := 0) (by decide) rfl rfl rfl
theorem s_coinsOf (h : RR mm M) (x : Int32) : OkT mm [2] (f_X6_coinsOf x) (f_X7_coinsOf x) M := s_buyer h (k := 1) (by decide) rfl rfl rfl
theorem s_wantedTexture (h : RR mm M) (x : Int32) : OkT mm [2] (f_X6_wantedTexture x) (f_X7_wantedTexture x) M := s_buyer h (k := 2) (by decide) rfl rfl rfl
theorem s_speedOf (h : RR mm M) (x : Int32) : OkT mm [2] (f_X6_speedOf x) (f_X7_speedOf x) M := s_buyer h (k := 3) (by decide) rfl rfl rfl
theorem s_heldFrom (h : RR mm M) (x : Int32) : OkT mm [2] (f_X6_heldFrom x) (f_X7_heldFrom x) M := s_buyer h (k := 4) (by decide) rfl rfl rfl
theorem s_debtOf (h : RR mm M) (x : Int32) : OkT mm [2] (f_X6_debtOf x) (f_X7_debtOf x) M := s_buyer h (k := 5) (by decide) rfl rfl rfl
theorem s_avoidedBy (h : RR mm M) (x : Int32) : OkT mm [2] (f_X6_avoidedBy x) (f_X7_avoidedBy x) M := s_buyer h (k := 6) (by decide) rfl rfl rfl
theorem s_boughtBy (h : RR mm M) (x : Int32) : OkT mm [2] (f_X6_boughtBy x) (f_X7_boughtBy x) M := s_buyer h (k := 7) (by decide) rfl rfl rfl
end
