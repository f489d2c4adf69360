/-! the sums that meanPaid and spoiledShare divide -/
section
variable {mm : Nat} {M : xM}
theorem m_sumN {ns nb nf c : Nat} (h : MV mm ns nb nf (win 2520 M)) (hc : c < 9) : f_X7_sumOf (nI c) (upd M 2504 0) = some (SI (stC (win 2520 M) c) ns, upd M 2504 0) := by
  have e : wr 2520 (win 2520 M) (upd M 2504 0) = upd M 2504 0 := by
    rw [← uw_out (by omega), wr_win]
  have := m_sum (N := upd M 2504 0) h hc
  rw [e] at this
  exact this
theorem s_meanPaid (h : RR mm M) : ∃ S E, f_X2_soldInAll 0 M = some (S, M) ∧ f_X2_earnedInAll 0 M = some (E, M) ∧ f_X7_sumOf 5 (upd M 2504 0) = some (S, upd M 2504 0) ∧ f_X7_sumOf 7 (upd M 2504 0) = some (E, upd M 2504 0) ∧ RR mm (upd M 2504 0) := by
  obtain ⟨ns, nb, nf, h1, -, -, h4, h5⟩ := h.mk
  have c5 := c_soldA (b := 0) (M := M) h1
  have c7 := c_earned (b := 0) (M := M) h1
  rw [wr_win] at c5 c7
  refine ⟨SI (stC (win 0 M) 5) ns, SI (stC (win 0 M) 7) ns, c5, c7, ?_, ?_, R_t0 h⟩
  · rw [SI_sim h4 (show 5 < 9 by omega)]
    exact m_sumN (c := 5) h5 (by omega)
  · rw [SI_sim h4 (show 7 < 9 by omega)]
    exact m_sumN (c := 7) h5 (by omega)
/-- came is 8, lost is 6: the class adds them up by itself -/
theorem s_spoiledShare (h : RR mm M) : ∃ ns, ns ≤ 6 ∧ M 9 = nI ns ∧ f_X7_sumOf 8 (upd M 2504 0) = some (SI (fun i => M (23 + 9 * i + 8)) ns, upd M 2504 0) ∧ f_X7_sumOf 6 (upd M 2504 0) = some (SI (fun i => M (23 + 9 * i + 6)) ns, upd M 2504 0) ∧ RR mm (upd M 2504 0) := by
  obtain ⟨ns, nb, nf, h1, -, -, h4, h5⟩ := h.mk
  have e9 := h1.s
  rw [w0] at e9
  have ec : ∀ c, stC (win 0 M) c = fun i => M (23 + 9 * i + c) := fun c => by
    funext i
    unfold stC
    rw [w0]
  refine ⟨ns, e9.2, e9.1, ?_, ?_, R_t0 h⟩
  · rw [← ec 8, SI_sim h4 (show 8 < 9 by omega)]
    exact m_sumN (c := 8) h5 (by omega)
  · rw [← ec 6, SI_sim h4 (show 6 < 9 by omega)]
    exact m_sumN (c := 6) h5 (by omega)
end
