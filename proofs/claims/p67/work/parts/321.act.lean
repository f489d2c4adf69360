/-! the law's call between the minutes -/
section
variable {ns nb nf K : Nat} {M : xM}
theorem law_act (h : CI ns nb nf K M) (hK : K + 200 < 1000000000) (x : Int32) : ∃ M', f_L_act x M = some M' ∧ CI ns nb nf (K + 200) M' := by
  have hv := h.2.1.1
  have hs := hv.s
  have hb := hv.b
  have hm : ∀ M', CI ns nb nf K M' → CI ns nb nf (K + 200) M' := fun M' q => q.mono (by omega) hK
  obtain ⟨l, hl, e1⟩ := l_in (x >>> (4 &&& 31)) (k := ns) (by have := h.1.1; omega) (by omega) M
  obtain ⟨b, hbl, e2⟩ := l_in (x >>> (7 &&& 31)) (k := nb) (by have := h.1.2.1; omega) (by omega) M
  obtain ⟨j, hj, e3⟩ := l_in x (k := 10) (by omega) (by omega) M
  have g9 : f_X6_stallCount M = some (nI ns, M) := by
    show some (M 9, M) = _
    rw [hs.1]
  have g10 : f_X6_buyerCount M = some (nI nb, M) := by
    show some (M 10, M) = _
    rw [hb.1]
  have hp : ∃ M', f_L_act_c209 x M = some M' ∧ CI ns nb nf (K + 200) M' := by
    obtain ⟨t, ht, e⟩ := l_in (x >>> (10 &&& 31)) (k := 25) (by omega) (by omega) M
    obtain ⟨M', p1, p2, p3, p4⟩ := c_passN (M := M) h.2.2.1 (by rw [win0]; exact hv) (t := 1 + t) (by omega) (by omega) (by have := h.1.2.2.2; omega)
    rw [win0] at p4
    rw [win0] at p4
    refine ⟨M', ?_, h.min hK (t := 1 + t) (by omega) p2 p4⟩
    unfold f_L_act_c209
    rw [bd2_s (show f_L_in (x >>> (10 &&& 31)) 25 M = some (nI t, M) from e), show (1 : Int32) + nI t = nI (1 + t) from nI_add 1 t, bd2_s p1]
  unfold f_L_act
  rw [bd2_s g9, bd2_s e1, bd2_s g10, bd2_s e2, bd2_s (show f_L_in x 10 M = some (nI j, M) from e3)]
  rcases (show j = 0 ∨ j = 1 ∨ j = 2 ∨ j = 3 ∨ j = 4 ∨ j = 5 ∨ j = 6 ∨ j = 7 ∨ j = 8 ∨ j = 9 by omega) with rfl | rfl | rfl | rfl | rfl | rfl | rfl | rfl | rfl | rfl
  · rw [if_pos (show nI 0 = 0 from rfl)]
    obtain ⟨r, hr, e⟩ := l_in (x >>> (10 &&& 31)) (k := 80) (by omega) (by omega) M
    obtain ⟨y, M', a, c⟩ := a_price h hl (r := 1 + r) (by omega) (by omega)
    refine ⟨M', ?_, hm _ c⟩
    rw [bd2_s (show f_L_in (x >>> (10 &&& 31)) 80 M = some (nI r, M) from e), show (1 : Int32) + nI r = nI (1 + r) from nI_add 1 r, bd2_s a]
  · rw [if_neg (show ¬ nI 1 = 0 by decide), if_pos (show nI 1 = 1 from rfl)]
    obtain ⟨g, hg, e⟩ := l_in (x >>> (10 &&& 31)) (k := 12) (by omega) (by omega) M
    obtain ⟨t, t1, t2⟩ := h.2.2.2.1 l hl
    have hK2 := h.1.2.2.2
    rw [bd2_s (show f_L_in (x >>> (10 &&& 31)) 12 M = some (nI g, M) from e), bd2_s (g_stockOf hs.1 hs.2 hl), t2, nI_add]
    by_cases q : t + g < 100
    · rw [if_neg (show ¬ (100 : Int32) ≤ nI (t + g) from fun f => absurd ((nI_leI (a := 100) (by omega) (by omega)).mp f) (by omega))]
      obtain ⟨y, M', a, c⟩ := a_stock h hl (g := g) (by omega) t2 q
      refine ⟨M', ?_, hm _ c⟩
      rw [bd2_s a]
    · rw [if_pos (show (100 : Int32) ≤ nI (t + g) from nI_le (a := 100) (by omega) (by omega))]
      exact ⟨M, rfl, hm _ h⟩
  · rw [if_neg (show ¬ nI 2 = 0 by decide), if_neg (show ¬ nI 2 = 1 by decide), if_pos (show nI 2 = 2 from rfl)]
    obtain ⟨r, hr, e⟩ := l_in (x >>> (10 &&& 31)) (k := 4) (by omega) (by omega) M
    obtain ⟨y, M', a, c⟩ := a_lan h hl (r := r) (by omega)
    refine ⟨M', ?_, hm _ c⟩
    rw [bd2_s (show f_L_in (x >>> (10 &&& 31)) 4 M = some (nI r, M) from e), bd2_s a]
  · rw [if_neg (show ¬ nI 3 = 0 by decide), if_neg (show ¬ nI 3 = 1 by decide), if_neg (show ¬ nI 3 = 2 by decide), if_pos (show nI 3 = 3 from rfl)]
    obtain ⟨r, hr, e⟩ := l_in (x >>> (10 &&& 31)) (k := 10) (by omega) (by omega) M
    obtain ⟨y, M', a, c⟩ := a_fog h (r := r) (by omega)
    refine ⟨M', ?_, hm _ c⟩
    rw [bd2_s (show f_L_in (x >>> (10 &&& 31)) 10 M = some (nI r, M) from e), bd2_s a]
  · rw [if_neg (show ¬ nI 4 = 0 by decide), if_neg (show ¬ nI 4 = 1 by decide), if_neg (show ¬ nI 4 = 2 by decide), if_neg (show ¬ nI 4 = 3 by decide), if_pos (show nI 4 = 4 from rfl), bd2_s (g_heldFrom hb.1 hb.2 hbl)]
    rcases hold_cases (hv.bu b hbl) hs.2 with ⟨z1, z2, z3⟩ | ⟨q, hq, z1, z2⟩
    · rw [z2, if_pos (show (-1 : Int32) < 0 by decide)]
      exact ⟨M, rfl, hm _ h⟩
    · rw [z2, if_neg (nI_pos (by omega))]
      obtain ⟨y, M', a, c⟩ := a_back h hK hbl hq z2
      refine ⟨M', ?_, c⟩
      rw [bd2_s a]
  · rw [if_neg (show ¬ nI 5 = 0 by decide), if_neg (show ¬ nI 5 = 1 by decide), if_neg (show ¬ nI 5 = 2 by decide), if_neg (show ¬ nI 5 = 3 by decide), if_neg (show ¬ nI 5 = 4 by decide), if_pos (show nI 5 = 5 from rfl)]
    exact hp
  · rw [if_neg (show ¬ nI 6 = 0 by decide), if_neg (show ¬ nI 6 = 1 by decide), if_neg (show ¬ nI 6 = 2 by decide), if_neg (show ¬ nI 6 = 3 by decide), if_neg (show ¬ nI 6 = 4 by decide), if_neg (show ¬ nI 6 = 5 by decide), if_pos (show nI 6 = 6 from rfl)]
    exact hp
  · rw [if_neg (show ¬ nI 7 = 0 by decide), if_neg (show ¬ nI 7 = 1 by decide), if_neg (show ¬ nI 7 = 2 by decide), if_neg (show ¬ nI 7 = 3 by decide), if_neg (show ¬ nI 7 = 4 by decide), if_neg (show ¬ nI 7 = 5 by decide), if_neg (show ¬ nI 7 = 6 by decide), if_pos (show nI 7 = 7 from rfl)]
    exact hp
  · rw [if_neg (show ¬ nI 8 = 0 by decide), if_neg (show ¬ nI 8 = 1 by decide), if_neg (show ¬ nI 8 = 2 by decide), if_neg (show ¬ nI 8 = 3 by decide), if_neg (show ¬ nI 8 = 4 by decide), if_neg (show ¬ nI 8 = 5 by decide), if_neg (show ¬ nI 8 = 6 by decide), if_neg (show ¬ nI 8 = 7 by decide), if_pos (show nI 8 = 8 from rfl)]
    exact hp
  · rw [if_neg (show ¬ nI 9 = 0 by decide), if_neg (show ¬ nI 9 = 1 by decide), if_neg (show ¬ nI 9 = 2 by decide), if_neg (show ¬ nI 9 = 3 by decide), if_neg (show ¬ nI 9 = 4 by decide), if_neg (show ¬ nI 9 = 5 by decide), if_neg (show ¬ nI 9 = 6 by decide), if_neg (show ¬ nI 9 = 7 by decide), if_neg (show ¬ nI 9 = 8 by decide), if_pos (show nI 9 = 9 from rfl)]
    obtain ⟨r, hr, e⟩ := l_in (x >>> (10 &&& 31)) (k := 100) (by omega) (by omega) M
    obtain ⟨y, M', a, c⟩ := a_move h hl (r := r) hr
    refine ⟨M', ?_, hm _ c⟩
    rw [bd2_s (show f_L_in (x >>> (10 &&& 31)) 100 M = some (nI r, M) from e), bd2_s a]
end
