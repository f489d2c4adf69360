/-! loadSetup, the same on both sides -/
section
variable {mm : Nat} {M : xM}
theorem s_loadSetup (h : RR mm M) : OkP (mm + 4000) f_X6_loadSetup f_X7_loadSetup M := by
  obtain ⟨l, B, ct, mt⟩ := RB_CT h.2.2.2.1
  obtain ⟨C0, r, M', eB, a1, hr, kM, hv, hX⟩ := s_loadR ct mt
  rcases hr with rfl | rfl
  · have e1 : f_X6_replaceMarket M = some (0, upd M' 1778 0) := by
      rw [repl_path eB, bd2_s a1, if_pos rfl]
    obtain ⟨N2, N', y1, y2, y3, y4, y5, y6, -⟩ := hX (upd M' 1778 0) (mt.keep (fun z hz => by rw [un (by omega), kM z (by omega)]))
    refine ⟨-1, upd M' 1778 0, wr 2520 (win 2770 (upd N' 2501 0)) (upd N' 2501 0), ?_, ?_, ?_⟩
    · unfold f_X6_loadSetup
      rw [bd2_s e1, if_pos rfl]
    · rw [y1]
      unfold LREST
      rw [bd2_s y2, if_pos rfl, m_leave]
      rfl
    · have pk : ∀ z, (z < 2520 ∨ 2645 ≤ z) → z ≠ 2501 → wr 2520 (win 2770 (upd N' 2501 0)) (upd N' 2501 0) z = N' z := fun z x1 x2 => by rw [wr_out (by omega), un x2]
      have pM : ∀ z, (z < 128 ∨ (253 ≤ z ∧ z < 1778) ∨ (1791 < z ∧ z < 2501) ∨ (2504 < z ∧ z < 2512) ∨ (2512 < z ∧ z < 2515) ∨ (2518 < z ∧ z < 2520) ∨ (2895 ≤ z ∧ z < 4147) ∨ 4151 < z) → wr 2520 (win 2770 (upd N' 2501 0)) (upd N' 2501 0) z = M z := fun z hz => by
        rw [pk z (by omega) (by omega), y3 z (by omega), un (by omega), kM z (by omega)]
      have pw : ∀ z, 2520 ≤ z → z < 2645 → wr 2520 (win 2770 (upd N' 2501 0)) (upd N' 2501 0) z = M z := fun z h1 h2 => by
        rw [wr_in (z := z - 2520) (by omega) (by omega)]
        show upd N' 2501 0 (2770 + (z - 2520)) = M z
        rw [un (by omega), y4 _ (by omega), un (by omega), kM _ (by omega), show 2520 + (z - 2520) = z by omega]
      refine RR_mono ⟨RM_cong h.1 (fun z hz => ?_), RH_cong h.2.1 (fun z hz => pM z (by omega)), RS_cong h.2.2.1 (fun z hz => pM z (by omega)), ?_, ?_, RO_cong h.2.2.2.2.2 (fun z hz => pM z (by omega))⟩ (by omega)
      · rcases hz with hz | hz
        · exact pM z (by omega)
        · exact pw z hz.1 hz.2
      · exact ⟨0, by omega, by rw [pk _ (by omega) (by omega), y3 _ (by omega), us]; rfl, by rw [wr_out (by omega), us]; rfl, fun j hj => absurd hj (Nat.not_lt_zero j)⟩
      · refine ⟨?_, ?_⟩
        · rw [pk _ (by omega) (by omega), pk _ (by omega) (by omega), y3 _ (by omega), un (by omega), y5]
        · rw [pk _ (by omega) (by omega), pk _ (by omega) (by omega), y3 _ (by omega), un (by omega), y6]
  · obtain ⟨M1, t1, t2, t3, t4⟩ := s_loadS h.2.2.2.2.2 mt eB a1 kM (hv rfl) hX
    obtain ⟨M2, t5, t6⟩ := t4 M1 t3 (fun _ _ => rfl)
    refine ⟨M1 9, M1, M2, ?_, t5, RR_mono t6 (by omega)⟩
    unfold f_X6_loadSetup
    rw [bd2_s t1, if_neg (show ¬ (1 : Int32) = 0 by decide)]
end
