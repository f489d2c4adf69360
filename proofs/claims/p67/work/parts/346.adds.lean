/-! stalls and buyers come to the market: the mirrors' part -/
def PQ (ns nb : Nat) (M : xM) : Prop := ∃ nf, MM 900 ns nb nf M M ∧ RG M ∧ SB 900 ns M ∧ CQ ns nb M
theorem PQ.ci {ns nb : Nat} {M : xM} (h1 : 1 ≤ ns) (h2 : 1 ≤ nb) (h : PQ ns nb M) : ∃ nf, CI ns nb nf 1000 M := by
  obtain ⟨nf, a, b, c, d⟩ := h
  exact ⟨nf, ⟨h1, h2, by decide, by decide⟩, a.mono (by decide), b, SB_mono c (by decide), d⟩
/-- what is remembered first changes nothing of the market itself -/
theorem PQ.rem {ns nb nf : Nat} {M : xM} (a : MM 900 ns nb nf M M) (b : RG M) (c : SB 900 ns M) (d : CQ ns nb M) : ∃ M1, f_X6_remember M = some M1 ∧ MM 900 ns nb nf M1 M1 ∧ RG M1 ∧ SB 900 ns M1 ∧ CQ ns nb M1 := by
  have hs := a.1.s.2
  have hb := a.1.b.2
  obtain ⟨M1, m1, m2, m3⟩ := c_remN b (by rw [win0]; exact a.1)
  have e : ∀ z, z < 125 → M1 z = M z := fun z hz => m2 z (by omega) (by omega) (by omega)
  exact ⟨M1, m1, MM2 a e, m3, SB_cong c (fun s q => e _ (by omega)), CQ_cong d (fun s q c hc => e _ (by omega)) (fun j hj => e _ (by omega))⟩
theorem wr0_in {v M : xM} {z : Nat} (h : z < 125) : wr 0 v M z = v z := wr_in (by omega) h
theorem RG_wr {v M : xM} (h : RG M) : RG (wr 0 v M) := by
  obtain ⟨p, c, hp, hc, e1, e2⟩ := h
  exact ⟨p, c, hp, hc, by rw [wr_out (by omega)]; exact e1, by rw [wr_out (by omega)]; exact e2⟩
theorem a_stall {i a b d q r : Nat} {M : xM} (hi : i < 6) (ha : a < 100) (hb : b < 4) (hd : d < 3) (hq : 1 ≤ q) (hq2 : q ≤ 60) (hr : r < 20) (h : PQ i 0 M) : ∃ M', f_X6_addStall (nI a) (nI b) (nI d) (nI q) (nI r) M = some (nI i, M') ∧ PQ (i + 1) 0 M' := by
  obtain ⟨nf, h1, h2, h3, h4⟩ := h
  obtain ⟨M1, m1, g1, g2, g3, g4⟩ := PQ.rem h1 h2 h3 h4
  have hp := c_place (b := 0) (M := M1) (p := nI a) (l := nI b) (t := nI d) (r := nI q) (g := nI r) g1.1 hi
  rw [wr0_self] at hp
  refine ⟨wr 0 (P_stall i M1 (nI a) (nI b) (nI d) (nI q) (nI r)) M1, ?_, nf, MM2 (g1.stall hi ha (by omega)) (fun z hz => wr0_in hz), RG_wr g2, ?_, ?_⟩
  · have h9 : M 9 < 6 := by
      rw [h1.1.s.1]
      exact nI_lt (b := 6) hi (by omega)
    unfold f_X6_addStall
    rw [bd_s (show f_X6_checkRange (nI a) 0 99 M = some M from c_chkN ⟨nI_le (a := 0) (Nat.zero_le _) (by omega), nI_le (b := 99) (by omega) (by omega)⟩), bd_s (show f_X6_checkRange (nI b) 0 3 M = some M from c_chkN ⟨nI_le (a := 0) (Nat.zero_le _) (by omega), nI_le (b := 3) (by omega) (by omega)⟩), bd_s (show f_X6_checkRange (nI d) 0 2 M = some M from c_chkN ⟨nI_le (a := 0) (Nat.zero_le _) (by omega), nI_le (b := 2) (by omega) (by omega)⟩), bd_s (show f_X6_checkRange (nI q) 1 999 M = some M from c_chkN ⟨nI_le (a := 1) hq (by omega), nI_le (b := 999) (by omega) (by omega)⟩), bd_s (show f_X6_checkRange (nI r) 0 99 M = some M from c_chkN ⟨nI_le (a := 0) (Nat.zero_le _) (by omega), nI_le (b := 99) (by omega) (by omega)⟩), if_pos h9, bd_s m1, bd2_s hp]
  · intro s hs
    rw [wr0_in (by omega)]
    by_cases e : s = i
    · subst e
      exact ⟨r, by omega, stallC (k := 4) (by omega)⟩
    · rw [stallO (by omega) (by omega)]
      exact g3 s (by omega)
  · intro s hs
    rw [wr0_in (by omega), wr0_in (by omega), wr0_in (by omega), wr0_in (by omega)]
    show _ = _ + (0 : Int32) + _ + _
    by_cases e : s = i
    · subst e
      rw [stallC (k := 8) (by omega), stallC (k := 4) (by omega), stallC (k := 5) (by omega), stallC (k := 6) (by omega)]
      show nI r = nI r + 0 + 0 + 0
      grind
    · rw [stallO (by omega) (by omega), stallO (by omega) (by omega), stallO (by omega) (by omega), stallO (by omega) (by omega)]
      exact g4 s (by omega)
theorem a_buyer {n i a b d q : Nat} {M : xM} (hn : n ≤ 6) (hi : i < 6) (ha : a < 100) (hb : b < 400) (hd : d < 3) (hq : 1 ≤ q) (hq2 : q ≤ 20) (h : PQ n i M) : ∃ M', f_X6_addBuyer (nI a) (nI b) (nI d) (nI q) M = some (nI i, M') ∧ PQ n (i + 1) M' := by
  obtain ⟨nf, h1, h2, h3, h4⟩ := h
  obtain ⟨M1, m1, g1, g2, g3, g4⟩ := PQ.rem h1 h2 h3 h4
  have hp := c_placeB (b := 0) (M := M1) (p := nI a) (c := nI b) (t := nI d) (v' := nI q) g1.1 hi
  rw [wr0_self] at hp
  refine ⟨wr 0 (P_buyer i M1 (nI a) (nI b) (nI d) (nI q)) M1, ?_, nf, MM2 (g1.buyer hi ha (by omega) hq hq2) (fun z hz => wr0_in hz), RG_wr g2, ?_, ?_⟩
  · have h9 : M 10 < 6 := by
      rw [h1.1.b.1]
      exact nI_lt (b := 6) hi (by omega)
    unfold f_X6_addBuyer
    rw [bd_s (show f_X6_checkRange (nI a) 0 99 M = some M from c_chkN ⟨nI_le (a := 0) (Nat.zero_le _) (by omega), nI_le (b := 99) (by omega) (by omega)⟩), bd_s (show f_X6_checkRange (nI b) 0 9999 M = some M from c_chkN ⟨nI_le (a := 0) (Nat.zero_le _) (by omega), nI_le (b := 9999) (by omega) (by omega)⟩), bd_s (show f_X6_checkRange (nI d) 0 2 M = some M from c_chkN ⟨nI_le (a := 0) (Nat.zero_le _) (by omega), nI_le (b := 2) (by omega) (by omega)⟩), bd_s (show f_X6_checkRange (nI q) 1 20 M = some M from c_chkN ⟨nI_le (a := 1) hq (by omega), nI_le (b := 20) (by omega) (by omega)⟩), if_pos h9, bd_s m1, bd2_s hp]
  · intro s hs
    rw [wr0_in (by omega), buyerO (by omega) (by omega)]
    exact g3 s hs
  · intro s hs
    rw [wr0_in (by omega), wr0_in (by omega), wr0_in (by omega), wr0_in (by omega), buyerO (by omega) (by omega), buyerO (by omega) (by omega), buyerO (by omega) (by omega), buyerO (by omega) (by omega), HC_s]
    have e1 : HC (wr 0 (P_buyer i M1 (nI a) (nI b) (nI d) (nI q)) M1) (nI s) i = HC M1 (nI s) i := HC_cong i (fun j hj => by rw [wr0_in (by omega), buyerO (by omega) (by omega)])
    have e2 : wr 0 (P_buyer i M1 (nI a) (nI b) (nI d) (nI q)) M1 (77 + 8 * i + 4) = -1 := by
      rw [wr0_in (by omega), buyerC (by omega)]
      rfl
    have e3 : ¬ ((-1 : Int32) = nI s) := fun e => by
      have := congrArg Int32.toInt e
      rw [show (-1 : Int32).toInt = -1 from rfl] at this
      have h2 : (nI s).toInt = (s : Int) := nI_toInt (by omega)
      omega
    rw [e1, e2, if_neg e3, g4 s hs]
    grind
