/-! runScript, the same on both sides -/
section
variable {mm : Nat} {M : xM}
/-- the model's run of a text, whatever the class has left -/
def MRun (l : Nat) (B : Nat → Nat) (mm' : Nat) (r : Int32) (M' X : xM) : Prop := ∃ N2 N', bd (f_X7_startTrial (upd X 2504 0)) (fun M2 => f_X7_startText M2) = some N2 ∧ f_X7_commandsText N2 = some (r, N') ∧ (∀ z, z < 2502 ∨ (2504 < z ∧ z < 2512) ∨ (2512 < z ∧ z < 2515) ∨ (2518 < z ∧ z < 2520) ∨ (2645 ≤ z ∧ z < 2770) ∨ (2895 ≤ z ∧ z < 4147) ∨ 4151 < z → N' z = X z) ∧ (∀ z, z < 125 → N' (2770 + z) = X (2520 + z)) ∧ M' 1779 = N' 2502 ∧ M' 1780 = N' 2503 ∧ N' 2504 = 0 ∧ (r = -1 ∨ ∃ c, c ≤ 40 ∧ r = nI c ∧ Mk2 mm' (win 128 M') (win 2520 N'))
theorem m_both {N X : xM} {g : xM → Option (Int32 × xM)} (h : bd (f_X7_startTrial X) (fun M2 => f_X7_startText M2) = some N) : bd (f_X7_startTrial X) (fun M2 => bd (f_X7_startText M2) g) = g N := by
  cases e : f_X7_startTrial X with
  | none => rw [e] at h; cases h
  | some Y =>
    rw [e] at h
    simp only [bd] at h ⊢
    rw [h]
theorem s_runScript (h : RR mm M) (hm : mm < 536870912) : OkP (mm + 4000) f_X6_runScript f_X7_runScript M := by
  obtain ⟨ns, nb, nf, g1, g2, g3, g4, g5⟩ := h.mk
  obtain ⟨u, e1, e2⟩ := c_copy (a := 128) (b := 0) (M0 := M) (Or.inr (by omega)) g1
  obtain ⟨l, B, ct, mt⟩ := RB_CT h.2.2.2.1
  have eB : f_X3_begin (wr 128 u M) = some (upd (upd (upd (wr 128 u M) 1783 0) 1779 0) 1780 (-1)) := rfl
  have kC : ∀ z, z ≠ 1783 → z ≠ 1779 → z ≠ 1780 → (z < 128 ∨ 253 ≤ z) → upd (upd (upd (wr 128 u M) 1783 0) 1779 0) 1780 (-1) z = M z := fun z x1 x2 x3 x4 => by rw [un x3, un x2, un x1, wr_out (by omega)]
  have ctC : CT l B (upd (upd (upd (wr 128 u M) 1783 0) 1779 0) 1780 (-1)) := ct.keep (fun z hz => kC z (by omega) (by omega) (by omega) (by omega))
  have c83 : upd (upd (upd (wr 128 u M) 1783 0) 1779 0) 1780 (-1) 1783 = nI 0 := by rw [un (by omega), un (by omega), us]; rfl
  have c79 : upd (upd (upd (wr 128 u M) 1783 0) 1779 0) 1780 (-1) 1779 = 0 := by rw [un (by omega), us]
  have c80 : upd (upd (upd (wr 128 u M) 1783 0) 1779 0) 1780 (-1) 1780 = -1 := us
  have cw : ∀ z, z < 125 → win 128 (upd (upd (upd (wr 128 u M) 1783 0) 1779 0) 1780 (-1)) z = u z := fun z hz => by
    show upd (upd (upd (wr 128 u M) 1783 0) 1779 0) 1780 (-1) (128 + z) = u z
    rw [un (by omega), un (by omega), un (by omega), wr_in rfl hz]
  generalize upd (upd (upd (wr 128 u M) 1783 0) 1779 0) 1780 (-1) = C0 at eB kC ctC c83 c79 c80 cw
  have MM0 : MM mm ns nb nf (win 128 C0) (win 2520 M) := by
    have : MM mm ns nb nf u (win 2520 M) := ⟨e2.MV g1, EC_sim e2 g2, BT_sim e2 g3, e2.symm.trans g4⟩
    exact this.lft cw
  have run : ∀ X, MT l B X → (∀ z, z < 125 → X (2520 + z) = M (2520 + z)) → ∃ r M', f_X6_readCommands C0 = some (r, M') ∧ KW C0 M' ∧ MRun l B (mm + 4000) r M' X := by
    intro X hX hw
    obtain ⟨N2, b0, b1, b2, b3, b4, b5, b6⟩ := m_begin hX
    have mt2 : MT l B N2 := hX.keep (fun z hz => b6 z (by omega) (by omega) (by omega) (by omega) (by omega))
    have hMM := MM0.r (v' := win 2520 N2) (fun z hz => by
      show N2 (2520 + z) = M (2520 + z)
      rw [b6 _ (by omega) (by omega) (by omega) (by omega) (by omega), hw z hz])
    obtain ⟨r, M', N', a1, a2, a3, a4, a5, a6, a7⟩ := s_cmds 40 0 FU FU 0 ns nb mm C0 N2 rfl (FU_e _ (by omega)) (FU_e _ (by omega)) ctC mt2 c83 b1 (Nat.zero_le _) hMM (by omega) c79 b2 (by rw [c80, b3])
    refine ⟨r, M', a1, a3, N2, N', b0, a2, fun z hz => ?_, fun z hz => ?_, a5, a6, ?_, a7⟩
    · rw [a4 z (by unfold rm; omega), b6 z (by omega) (by omega) (by omega) (by omega) (by omega)]
    · rw [a4 _ (by unfold rm; omega), b5 z hz]
    · rw [a4 _ (by unfold rm; omega), b4]
  obtain ⟨r, M', a1, a3, N2f, Nf, -, -, -, -, -, -, -, a7⟩ := run M mt (fun _ _ => rfl)
  have runX : ∀ X, MT l B X → (∀ z, z < 125 → X (2520 + z) = M (2520 + z)) → MRun l B (mm + 4000) r M' X := by
    intro X hX hw
    obtain ⟨r2, M2, x1, x2, x3⟩ := run X hX hw
    have := Option.some.inj (x1.symm.trans a1)
    obtain ⟨rfl, rfl⟩ := Prod.mk.inj this
    exact x3
  have kM : ∀ z, z < 128 ∨ (253 ≤ z ∧ z < 1779) ∨ z = 1782 ∨ 1791 < z → M' z = M z := fun z hz => by
    rw [a3 z (by unfold rd rc; omega), kC z (by omega) (by omega) (by omega) (by omega)]
  have cls : f_X6_runScript M = (if r = -1 then some (-1, upd M' 1778 0) else bd (f_X6_remember (upd M' 1778 0)) (fun M12 => bd (f_X2_copyFrom 0 128 M12) (fun M14 => some (r, M14)))) := by
    unfold f_X6_runScript f_X3_clear
    rw [bd_s e1, bd_s eB, bd2_s a1]
    rfl
  have mod : ∀ X N2, bd (f_X7_startTrial (upd X 2504 0)) (fun M2 => f_X7_startText M2) = some N2 → ∀ N', f_X7_commandsText N2 = some (r, N') → f_X7_runScript X = if 0 ≤ r then f_X7_runScript_c35 r 0 (upd N' 2501 0) else some (-1, wr 2520 (win 2770 (upd N' 2501 0)) (upd N' 2501 0)) := by
    intro X N2 x1 N' x2
    unfold f_X7_runScript
    rw [m_both x1, bd2_s x2, m_leave]
    rfl
  by_cases q : r = -1
  · subst q
    obtain ⟨N2, N', y1, y2, y3, y4, y5, y6, y7, -⟩ := runX (upd M' 1778 0) (mt.keep (fun z hz => by rw [un (by omega), kM z (by omega)])) (fun z hz => by rw [un (by omega), kM _ (by omega)])
    refine ⟨-1, upd M' 1778 0, wr 2520 (win 2770 (upd N' 2501 0)) (upd N' 2501 0), by rw [cls, if_pos rfl], by rw [mod _ _ y1 _ y2, if_neg (by decide)], ?_⟩
    have pk : ∀ z, (z < 2520 ∨ 2645 ≤ z) → z ≠ 2501 → wr 2520 (win 2770 (upd N' 2501 0)) (upd N' 2501 0) z = N' z := fun z x1 x2 => by rw [wr_out (by omega), un x2]
    have pM : ∀ z, (z < 128 ∨ (253 ≤ z ∧ z < 1778) ∨ (1791 < z ∧ z < 2501) ∨ (2504 < z ∧ z < 2512) ∨ (2512 < z ∧ z < 2515) ∨ (2518 < z ∧ z < 2520) ∨ (2895 ≤ z ∧ z < 4147) ∨ 4151 < z) → wr 2520 (win 2770 (upd N' 2501 0)) (upd N' 2501 0) z = M z := fun z hz => by
      rw [pk z (by omega) (by omega), y3 z (by omega), un (by omega), kM z (by omega)]
    have pw : ∀ z, 2520 ≤ z → z < 2645 → wr 2520 (win 2770 (upd N' 2501 0)) (upd N' 2501 0) z = M z := fun z h1 h2 => by
      rw [wr_in (z := z - 2520) (by omega) (by omega)]
      show upd N' 2501 0 (2770 + (z - 2520)) = M z
      rw [un (by omega), y4 _ (by omega), un (by omega), kM _ (by omega), show 2520 + (z - 2520) = z by omega]
    refine RR_mono ⟨RM_cong h.1 (fun z hz => ?_), RH_cong h.2.1 (fun z hz => pM z (by omega)), RS_cong h.2.2.1 (fun z hz => pM z (by omega)), ?_, ?_, RO_cong h.2.2.2.2.2 (fun z hz => pM z (by omega))⟩ (by omega)
    · rcases hz with hz | hz
      · exact pM z (by omega)
      · exact pw z hz.1 hz.2
    · exact ⟨0, by omega, by rw [pk _ (by omega) (by omega), y3 _ (by omega), us]; rfl, by rw [wr_out (by omega), us]; rfl, fun j hj => absurd hj (Nat.not_lt_zero j)⟩
    · refine ⟨?_, ?_⟩
      · rw [pk _ (by omega) (by omega), pk _ (by omega) (by omega), y3 _ (by omega), un (by omega), y5]
      · rw [pk _ (by omega) (by omega), pk _ (by omega) (by omega), y3 _ (by omega), un (by omega), y6]
  · have q0 : (0 : Int32) ≤ r := by
      rcases a7 with a7 | ⟨c, y1, y2, -⟩
      · exact absurd a7 q
      · rw [y2]; exact nI_pos' (by omega)
    obtain ⟨ns1, nb1, nf1, f1⟩ : ∃ ns1 nb1 nf1, MV (mm + 4000) ns1 nb1 nf1 (win 128 M') := by
      rcases a7 with a7 | ⟨c, -, -, ns1, nb1, nf1, y3, -⟩
      · exact absurd a7 q
      · exact ⟨ns1, nb1, nf1, y3⟩
    have kc : ∀ z, z < 128 ∨ (253 ≤ z ∧ z < 1778) ∨ 1791 < z → upd M' 1778 0 z = M z := fun z hz => by rw [un (by omega), kM z (by omega)]
    have hRM : RM mm (upd M' 1778 0) := RM_cong h.1 (fun z hz => kc z (by omega))
    have hRH : RH mm (upd M' 1778 0) := RH_cong h.2.1 (fun z hz => kc z (by omega))
    obtain ⟨M3, t1, t2, t3⟩ := s_rememberP hRM hRH
    have w3 : ∀ z, z < 125 → win 128 M3 z = win 128 M' z := fun z hz => by
      show M3 (128 + z) = M' (128 + z)
      rw [t2 _ (by omega) (by omega) (by omega), un (by omega)]
    have dims : ∀ ns2 nb2 nf2, MV (mm + 4000) ns2 nb2 nf2 (win 128 M') → MV (mm + 4000) ns2 nb2 nf2 (win 128 M3) := fun ns2 nb2 nf2 hv => by
      have hS : Sim ns2 nb2 nf2 (win 128 M') (win 128 M3) := fun z hz => (w3 z (Lv_lt hv.s.2 hv.b.2 hv.f.2.2 hz)).symm
      exact hS.MV hv
    obtain ⟨u', v1, v2⟩ := c_copy (a := 0) (b := 128) (M0 := M3) (Or.inl (by omega)) (dims _ _ _ f1)
    have kX : ∀ z, (125 ≤ z ∧ z < 128) ∨ (253 ≤ z ∧ z < 384) ∨ (1408 ≤ z ∧ z < 1669) ∨ (1670 < z ∧ z < 1778) ∨ 1791 < z → wr 0 u' M3 z = M z := fun z hz => by
      rw [wr_out (by omega), t2 z (by omega) (by omega) (by omega), kc z (by omega)]
    obtain ⟨N2, N', y1, y2, y3, y4, y5, y6, y7, y8⟩ := runX (wr 0 u' M3) (mt.keep (fun z hz => kX z (by omega))) (fun z hz => kX _ (by omega))
    have fz : ∀ z, wr 2645 (win 2770 (upd N' 2501 0)) (upd N' 2501 0) z = if 2645 ≤ z ∧ z < 2770 then N' (2770 + (z - 2645)) else if z = 2501 then 0 else N' z := fun z => by
      by_cases w : 2645 ≤ z ∧ z < 2770
      · rw [if_pos w, wr_in (z := z - 2645) (by omega) (by omega)]
        show upd N' 2501 0 (2770 + (z - 2645)) = _
        rw [un (by omega)]
      · rw [if_neg w, wr_out (by omega)]
        by_cases w2 : z = 2501
        · rw [if_pos w2, w2, us]
        · rw [if_neg w2, un w2]
    have fo : ∀ z, (z < 2645 ∨ 2770 ≤ z) → z ≠ 2501 → wr 2645 (win 2770 (upd N' 2501 0)) (upd N' 2501 0) z = N' z := fun z a b => by rw [fz, if_neg (by omega), if_neg b]
    obtain ⟨N1, s1, s2, s3⟩ := t3 (wr 2645 (win 2770 (upd N' 2501 0)) (upd N' 2501 0)) (fun z hz => by
      rw [fo z (by omega) (by omega), y3 z (by omega), wr_out (by omega)]) (fun z hz => by
      rw [fo z (by omega) (by omega), y3 z (by omega), kX z (by omega), kc z (by omega)]) (fun z hz => by
      rw [fz, if_pos (by omega), show 2645 + z - 2645 = z by omega, y4 z hz, kX _ (by omega), kc _ (by omega)])
    refine ⟨r, wr 0 u' M3, N1, ?_, ?_, ?_⟩
    · rw [cls, if_neg q, bd_s t1, bd_s v1]
    · rw [mod _ _ y1 _ y2, if_pos q0, m_scriptL, bd_s s1]
    · have pk : ∀ z, z ≠ 2501 → z ≠ 2509 → (z < 2645 ∨ (2770 ≤ z ∧ z < 2895) ∨ 3895 ≤ z) → N1 z = N' z := fun z x1 x2 x3 => by
        rw [s2 z x2 (by omega), fo z (by omega) x1]
      have pM : ∀ z, (125 ≤ z ∧ z < 128) ∨ (253 ≤ z ∧ z < 384) ∨ (1408 ≤ z ∧ z < 1669) ∨ (1670 < z ∧ z < 1778) ∨ (1791 < z ∧ z < 2501) ∨ (2518 < z ∧ z < 2520) ∨ (3895 ≤ z ∧ z < 4147) ∨ 4151 < z → N1 z = M z := fun z hz => by
        rw [pk z (by omega) (by omega) (by omega), y3 z (by omega), kX z (by omega)]
      refine ⟨?_, RH_mono (s3 N1 (fun _ _ => rfl)) (by omega), RS_cong (RS_mono h.2.2.1 (by omega)) (fun z hz => pM z (by omega)), ?_, ?_, RO_cong h.2.2.2.2.2 (fun z hz => pM z (by omega))⟩
      · rcases y8 with y8 | ⟨c, -, -, ns2, nb2, nf2, z1, z2, z3, z4⟩
        · exact absurd y8 q
        · obtain ⟨u2, v3, v4⟩ := c_copy (a := 0) (b := 128) (M0 := M3) (Or.inl (by omega)) (dims _ _ _ z1)
          have ew : wr 0 u' M3 = wr 0 u2 M3 := Option.some.inj (v1.symm.trans v3)
          refine Mk2.of z1 z2 z3 z4 (u' := win 0 N1) (fun z hz => ?_) (v' := win 2520 N1) (fun z hz => ?_)
          · have hz2 := Lv_lt z1.s.2 z1.b.2 z1.f.2.2 hz
            rw [w0, pk z (by omega) (by omega) (by omega), y3 z (by omega), ew, wr_in (z := z) (by omega) hz2, ← v4 z hz, w3 z hz2]
          · have hz2 := Lv_lt z1.s.2 z1.b.2 z1.f.2.2 hz
            show N' (2520 + z) = N1 (2520 + z)
            rw [pk _ (by omega) (by omega) (by omega)]
      · refine ⟨0, by omega, ?_, ?_, fun j hj => absurd hj (Nat.not_lt_zero j)⟩
        · rw [pk _ (by omega) (by omega) (by omega), y3 _ (by omega), wr_out (by omega), t2 _ (by omega) (by omega) (by omega), us]; rfl
        · rw [s2 _ (by omega) (by omega), fz, if_neg (by omega), if_pos rfl]; rfl
      · refine ⟨?_, ?_⟩
        · rw [pk _ (by omega) (by omega) (by omega), pk _ (by omega) (by omega) (by omega), y3 _ (by omega), wr_out (by omega), t2 _ (by omega) (by omega) (by omega), un (by omega), y5]
        · rw [pk _ (by omega) (by omega) (by omega), pk _ (by omega) (by omega) (by omega), y3 _ (by omega), wr_out (by omega), t2 _ (by omega) (by omega) (by omega), un (by omega), y6]
end
