/-! loadSetup -/
def PATH (C : xM) : Option (Int32 × xM) := bd2 (f_X3_readHead 128 C) (fun r5 M4 => if r5 = 0 then some (0, M4) else bd2 (f_X6_readCommands M4) (fun r9 M8 => if r9 = -1 then some (0, M8) else some (1, M8)))
theorem repl_path {C M : xM} (h : f_X3_begin M = some C) : f_X6_replaceMarket M = bd2 (PATH C) (fun r M => if r = 0 then some (0, upd M 1778 0) else f_X6_replaceMarket_c34 1 M) := by
  unfold f_X6_replaceMarket PATH
  rw [bd_s h]
  cases e : f_X3_readHead 128 C with
  | none => rfl
  | some q =>
    obtain ⟨r5, M4⟩ := q
    simp only [bd2]
    by_cases q : r5 = 0
    · rw [if_pos q, if_pos q]; rfl
    · rw [if_neg q, if_neg q]
      cases e2 : f_X6_readCommands M4 with
      | none => rfl
      | some w =>
        obtain ⟨r9, M8⟩ := w
        simp only []
        by_cases q2 : r9 = -1
        · rw [if_pos q2, if_pos q2]; rfl
        · rw [if_neg q2, if_neg q2]; rfl
section
variable {l : Nat} {B : Nat → Nat} {M N : xM} {p mm : Nat}
theorem s_path (h : JS l B M N p) (hz : ∀ z, z < 125 → N (2520 + z) = 0) : ∃ r M' N', PATH M = some (r, M') ∧ f_X7_setupText N = some (r, N') ∧ KW M M' ∧ KX N N' ∧ M' 1779 = N' 2502 ∧ M' 1780 = N' 2503 ∧ (r = 0 ∨ (r = 1 ∧ Mk2 4000 (win 128 M') (win 2520 N'))) := by
  unfold PATH
  rcases s_head h hz with ⟨M', N', a, b, c, d, e1, e2⟩ | ⟨M', N', p', nf, a, b, c, d, J, e⟩
  · exact ⟨0, M', N', by rw [a]; rfl, b, c, d, e1, e2, Or.inl rfl⟩
  · obtain ⟨h1, h2, hp, hx, hpl, x0, x1, x2⟩ := J
    obtain ⟨r, M2, N2, a1, a2, a3, a4, a5, a6, a7⟩ := s_cmds 40 0 FU FU p' 0 0 0 M' N' rfl (FU_e _ (by omega)) (FU_e _ (by omega)) h1 h2 hp hx hpl e (by omega) x0 x1 x2
    rw [bdS a, b, show f_X6_readCommands M' = some (r, M2) from a1, show f_X7_commandsText N' = some (r, N2) from a2]
    simp only [bd2]
    rcases a7 with a7 | ⟨k, y1, y2, y3⟩
    · rw [if_pos a7, a7, if_pos (by decide)]
      exact ⟨0, M2, N2, rfl, rfl, c.tr a3, d.tr a4, a5, a6, Or.inl rfl⟩
    · rw [y2, if_neg (by rw [nI_m1 (by omega)]; exact fun h => h), if_neg (nI_pos (by omega))]
      exact ⟨1, M2, N2, rfl, rfl, c.tr a3, d.tr a4, a5, a6, Or.inr ⟨rfl, y3⟩⟩
def LREST (M5 : xM) : Option (Int32 × xM) := bd2 (f_X7_setupText M5) (fun r8 M7 => (if r8 = 0 then (bd2 (f_X7_leaveTrial (-1) (upd M7 2501 0)) (fun r12 M11 => (some (r12, M11)))) else (some (((upd (upd (upd (upd M7 2501 0) 2509 0) 4145 (vp_nar .boolean 0)) 4146 (vp_nar .boolean 0)) 2529), (upd (upd (upd (upd M7 2501 0) 2509 0) 4145 (vp_nar .boolean 0)) 4146 (vp_nar .boolean 0))))))
theorem m_zero {Y : xM} : f_X7_loadSetup_c11 0 Y = bd (f_X7_startText (zl 2520 125 Y)) LREST := by
  have key : ∀ (k i n : Nat), i + k = 125 → k < n → lp (fun _ _ => none) (fun k => fb_X7_loadSetup_c11 k) n (nI i) (zl 2520 i Y) = bd (f_X7_startText (zl 2520 125 Y)) LREST := by
    intro k
    induction k with
    | zero =>
      intro i n hi hn
      obtain ⟨n, rfl⟩ : ∃ m, n = m + 1 := ⟨n - 1, by omega⟩
      have e : i = 125 := by omega
      subst e
      rw [lp_s]
      unfold fb_X7_loadSetup_c11
      rw [if_pos (by decide)]
      rfl
    | succ k ih =>
      intro i n hi hn
      obtain ⟨n, rfl⟩ : ∃ m, n = m + 1 := ⟨n - 1, by omega⟩
      have := ih (i + 1) n (by omega) (by omega)
      rw [lp_s]
      generalize lp (fun _ _ => none) (fun k => fb_X7_loadSetup_c11 k) n = K at this ⊢
      unfold fb_X7_loadSetup_c11
      rw [if_neg (ge125 (by omega)), gd_t (inb_nI (by omega) (by omega)), cl (by omega), nI_1, zl_s]
      exact this
  have := key 125 0 FU rfl (FU_e _ (by omega))
  rw [zl_0] at this
  exact this
theorem m_begin0 {X : xM} (h : MT l B X) : ∃ N2, f_X7_loadSetup X = LREST N2 ∧ NXt l B N2 0 ∧ N2 2502 = 0 ∧ N2 2503 = -1 ∧ N2 2504 = 0 ∧ (∀ z, z < 125 → N2 (2770 + z) = X (2520 + z)) ∧ (∀ z, z < 125 → N2 (2520 + z) = 0) ∧ ∀ z, z ≠ 2502 → z ≠ 2503 → z ≠ 2504 → (z < 2515 ∨ 2518 < z) → (z < 2520 ∨ 2645 ≤ z) → (z < 2770 ∨ 2895 ≤ z) → N2 z = X z := by
  have hY : ∀ z, z ≠ 2504 → (z < 2520 ∨ 2645 ≤ z) → (z < 2770 ∨ 2895 ≤ z) → zl 2520 125 (wr 2770 (win 2520 (upd X 2504 0)) (upd X 2504 0)) z = X z := fun z h1 h2 h3 => by rw [zl_out (by omega), wr_out (by omega), un h1]
  have hm : MT l B (upd (upd (upd (zl 2520 125 (wr 2770 (win 2520 (upd X 2504 0)) (upd X 2504 0))) 2502 0) 2503 (-1)) 2515 0) := h.keep (fun z hz => by rw [un (by omega), un (by omega), un (by omega), hY _ (by omega) (by omega) (by omega)])
  obtain ⟨N2, b0, b1, b2⟩ := m_next (p := 0) hm us (Nat.zero_le _)
  refine ⟨N2, ?_, b1, ?_, ?_, ?_, fun z hz => ?_, fun z hz => ?_, fun z x1 x2 x3 x4 x5 x6 => ?_⟩
  · unfold f_X7_loadSetup
    rw [bd_s m_start, m_zero]
    unfold f_X7_startText
    rw [bd_s b0]
    rfl
  · rw [b2 _ (by omega) (by omega) (by omega) (by omega), un (by omega), un (by omega), us]
  · rw [b2 _ (by omega) (by omega) (by omega) (by omega), un (by omega), us]
  · rw [b2 _ (by omega) (by omega) (by omega) (by omega), un (by omega), un (by omega), un (by omega), zl_out (by omega), wr_out (by omega), us]
  · rw [b2 _ (by omega) (by omega) (by omega) (by omega), un (by omega), un (by omega), un (by omega), zl_out (by omega), wr_in (z := z) rfl hz]
    show upd X 2504 0 (2520 + z) = _
    rw [un (by omega)]
  · rw [b2 _ (by omega) (by omega) (by omega) (by omega), un (by omega), un (by omega), un (by omega), zl_in (by omega) (by omega)]
  · rw [b2 _ (by omega) (by omega) (by omega) (by omega), un (by omega), un (by omega), un (by omega), hY z x3 x5 x6]
/-- the model's loading, whatever the class has left -/
def LRun (r : Int32) (M' X : xM) : Prop := ∃ N2 N', f_X7_loadSetup X = LREST N2 ∧ f_X7_setupText N2 = some (r, N') ∧ (∀ z, z < 2502 ∨ (2504 < z ∧ z < 2512) ∨ (2512 < z ∧ z < 2515) ∨ (2518 < z ∧ z < 2520) ∨ (2645 ≤ z ∧ z < 2770) ∨ (2895 ≤ z ∧ z < 4147) ∨ 4151 < z → N' z = X z) ∧ (∀ z, z < 125 → N' (2770 + z) = X (2520 + z)) ∧ M' 1779 = N' 2502 ∧ M' 1780 = N' 2503 ∧ (r = 0 ∨ (r = 1 ∧ Mk2 4000 (win 128 M') (win 2520 N')))
theorem s_loadR {X0 : xM} (ct : CT l B M) (mt : MT l B X0) : ∃ C0 r M', f_X3_begin M = some C0 ∧ PATH C0 = some (r, M') ∧ (r = 0 ∨ r = 1) ∧ (∀ z, z < 128 ∨ (253 ≤ z ∧ z < 1779) ∨ z = 1782 ∨ 1791 < z → M' z = M z) ∧ (r = 1 → ∃ ns nb nf, MV 4000 ns nb nf (win 128 M')) ∧ ∀ X, MT l B X → LRun r M' X := by
  have eB : f_X3_begin M = some (upd (upd (upd M 1783 0) 1779 0) 1780 (-1)) := rfl
  have kC : ∀ z, z ≠ 1783 → z ≠ 1779 → z ≠ 1780 → upd (upd (upd M 1783 0) 1779 0) 1780 (-1) z = M z := fun z x1 x2 x3 => by rw [un x3, un x2, un x1]
  have ctC : CT l B (upd (upd (upd M 1783 0) 1779 0) 1780 (-1)) := ct.keep (fun z hz => kC z (by omega) (by omega) (by omega))
  have c83 : upd (upd (upd M 1783 0) 1779 0) 1780 (-1) 1783 = nI 0 := by rw [un (by omega), un (by omega), us]; rfl
  have c79 : upd (upd (upd M 1783 0) 1779 0) 1780 (-1) 1779 = 0 := by rw [un (by omega), us]
  have c80 : upd (upd (upd M 1783 0) 1779 0) 1780 (-1) 1780 = -1 := us
  generalize upd (upd (upd M 1783 0) 1779 0) 1780 (-1) = C0 at eB kC ctC c83 c79 c80
  have run : ∀ X, MT l B X → ∃ r M', PATH C0 = some (r, M') ∧ KW C0 M' ∧ LRun r M' X := by
    intro X hX
    obtain ⟨N2, b0, b1, b2, b3, b4, b5, b6, b7⟩ := m_begin0 hX
    have mt2 : MT l B N2 := hX.keep (fun z hz => b7 z (by omega) (by omega) (by omega) (by omega) (by omega) (by omega))
    obtain ⟨r, M', N', a1, a2, a3, a4, a5, a6, a7⟩ := s_path (⟨ctC, mt2, c83, b1, Nat.zero_le _, c79, b2, by rw [c80, b3]⟩ : JS l B C0 N2 0) b6
    refine ⟨r, M', a1, a3, N2, N', b0, a2, fun z hz => ?_, fun z hz => ?_, a5, a6, a7⟩
    · rw [a4 z (by unfold rm; omega), b7 z (by omega) (by omega) (by omega) (by omega) (by omega) (by omega)]
    · rw [a4 _ (by unfold rm; omega), b5 z hz]
  obtain ⟨r, M', a1, a3, a4⟩ := run X0 mt
  refine ⟨C0, r, M', eB, a1, ?_, fun z hz => ?_, fun hr => ?_, fun X hX => ?_⟩
  · obtain ⟨N2f, Nf, -, -, -, -, -, -, a7⟩ := a4
    rcases a7 with a7 | ⟨a7, -⟩
    · exact Or.inl a7
    · exact Or.inr a7
  · rw [a3 z (by unfold rd rc; omega), kC z (by omega) (by omega) (by omega)]
  · obtain ⟨N2f, Nf, -, -, -, -, -, -, a7⟩ := a4
    rcases a7 with a7 | ⟨-, ns, nb, nf, a7, -⟩
    · rw [a7] at hr
      exact absurd hr (by decide)
    · exact ⟨ns, nb, nf, a7⟩
  · obtain ⟨r2, M2, x1, -, x3⟩ := run X hX
    have := Option.some.inj (x1.symm.trans a1)
    obtain ⟨rfl, rfl⟩ := Prod.mk.inj this
    exact x3
theorem c_c65 {Y : xM} : f_X6_replaceMarket_c65 0 Y = some (1, upd (upd Y 1675 0) 1676 0) := by
  obtain ⟨n, hn⟩ : ∃ n, FU = n + 1 + 1 + 1 := ⟨4093, rfl⟩
  unfold f_X6_replaceMarket_c65
  rw [hn, lp_s, lp_s, lp_s]
  generalize lp (fun _ _ => none) (fun k => fb_X6_replaceMarket_c65 k) n = K
  unfold fb_X6_replaceMarket_c65
  rw [if_neg (show ¬ (2 : Int32) ≤ 0 by decide), gd_t (show inb 0 2 = true by decide), if_neg (show ¬ (2 : Int32) ≤ 0 + 1 by decide), gd_t (show inb (0 + 1) 2 = true by decide), if_pos (show (2 : Int32) ≤ 0 + 1 + 1 by decide), isb0, show (0 : Int32).toNatClampNeg = 0 by decide, show (0 + 1 : Int32).toNatClampNeg = 1 by decide]
theorem c_c34 {Y Y' : xM} (h : f_X2_copyFrom 0 128 (upd Y 1778 0) = some Y') : f_X6_replaceMarket_c34 1 Y = some (1, upd (upd (upd (upd Y' 1669 0) 1670 0) 1675 0) 1676 0) := by
  have e1 : f_X3_clear Y = some (upd Y 1778 0) := rfl
  have e2 : f_X6_forgetChanges Y' = some (upd (upd Y' 1669 0) 1670 0) := rfl
  unfold f_X6_replaceMarket_c34
  rw [bd_s e1, if_neg (show ¬ (1 : Int32) = 0 by decide), bd_s h, bd_s e2, c_c65]
/-- a setup loaded: the state behind it -/
theorem s_loadS {C0 M' : xM} (hO : RO M) (mt : MT l B M) (eB : f_X3_begin M = some C0) (a1 : PATH C0 = some (1, M')) (kM : ∀ z, z < 128 ∨ (253 ≤ z ∧ z < 1779) ∨ z = 1782 ∨ 1791 < z → M' z = M z) (hv : ∃ ns nb nf, MV 4000 ns nb nf (win 128 M')) (hX : ∀ X, MT l B X → LRun 1 M' X) : ∃ M1, f_X6_replaceMarket M = some (1, M1) ∧ (∀ z, (125 ≤ z ∧ z < 128) ∨ (253 ≤ z ∧ z < 1669) ∨ (1676 < z ∧ z < 1778) ∨ 1791 < z → M1 z = M z) ∧ MT l B M1 ∧ ∀ X, MT l B X → (∀ z, z < 2502 ∨ (2518 < z ∧ z < 2520) ∨ (2645 ≤ z ∧ z < 2770) ∨ (2895 ≤ z ∧ z < 4145) ∨ 4151 < z → X z = M1 z) → ∃ M2, f_X7_loadSetup X = some (M1 9, M2) ∧ RR 4000 M2 := by
  obtain ⟨ns1, nb1, nf1, f1⟩ := hv
  have w3 : ∀ z, z < 125 → win 128 (upd M' 1778 0) z = win 128 M' z := fun z hz => by
    show upd M' 1778 0 (128 + z) = M' (128 + z)
    rw [un (by omega)]
  have dims : ∀ ns2 nb2 nf2, MV 4000 ns2 nb2 nf2 (win 128 M') → MV 4000 ns2 nb2 nf2 (win 128 (upd M' 1778 0)) := fun ns2 nb2 nf2 hv => by
    have hS : Sim ns2 nb2 nf2 (win 128 M') (win 128 (upd M' 1778 0)) := fun z hz => (w3 z (Lv_lt hv.s.2 hv.b.2 hv.f.2.2 hz)).symm
    exact hS.MV hv
  obtain ⟨u', v1, v2⟩ := c_copy (a := 0) (b := 128) (M0 := upd M' 1778 0) (Or.inl (by omega)) (dims _ _ _ f1)
  have k1 : ∀ z, 125 ≤ z → z ≠ 1669 → z ≠ 1670 → z ≠ 1675 → z ≠ 1676 → z ≠ 1778 → upd (upd (upd (upd (wr 0 u' (upd M' 1778 0)) 1669 0) 1670 0) 1675 0) 1676 0 z = M' z := fun z x1 x2 x3 x4 x5 x6 => by
    rw [un x5, un x4, un x3, un x2, wr_out (by omega), un x6]
  have kF : ∀ z, (125 ≤ z ∧ z < 128) ∨ (253 ≤ z ∧ z < 1669) ∨ (1676 < z ∧ z < 1778) ∨ 1791 < z → upd (upd (upd (upd (wr 0 u' (upd M' 1778 0)) 1669 0) 1670 0) 1675 0) 1676 0 z = M z := fun z hz => by
    rw [k1 z (by omega) (by omega) (by omega) (by omega) (by omega) (by omega), kM z (by omega)]
  refine ⟨upd (upd (upd (upd (wr 0 u' (upd M' 1778 0)) 1669 0) 1670 0) 1675 0) 1676 0, ?_, kF, mt.keep (fun z hz => kF z (by omega)), fun X mX eX => ?_⟩
  · rw [repl_path eB, bd2_s a1, if_neg (show ¬ (1 : Int32) = 0 by decide)]
    exact c_c34 v1
  · obtain ⟨N2, N', y1, y2, y3, y4, y5, y6, y7⟩ := hX X mX
    obtain ⟨ns2, nb2, nf2, z1, z2, z3, z4⟩ : Mk2 4000 (win 128 M') (win 2520 N') := by
      rcases y7 with y7 | ⟨-, y7⟩
      · exact absurd y7 (by decide)
      · exact y7
    obtain ⟨u2, v3, v4⟩ := c_copy (a := 0) (b := 128) (M0 := upd M' 1778 0) (Or.inl (by omega)) (dims _ _ _ z1)
    have ew : wr 0 u' (upd M' 1778 0) = wr 0 u2 (upd M' 1778 0) := Option.some.inj (v1.symm.trans v3)
    have c0 : ∀ z, z < 125 → upd (upd (upd (upd (wr 0 u' (upd M' 1778 0)) 1669 0) 1670 0) 1675 0) 1676 0 z = u2 z := fun z hz => by
      rw [un (by omega), un (by omega), un (by omega), un (by omega), ew, wr_in (z := z) (by omega) hz]
    have kk : ∀ z, Lv ns2 nb2 nf2 z → win 128 M' z = u2 z := fun z hz => by
      rw [← v4 z hz, w3 z (Lv_lt z1.s.2 z1.b.2 z1.f.2.2 hz)]
    have e9 : N' 2529 = upd (upd (upd (upd (wr 0 u' (upd M' 1778 0)) 1669 0) 1670 0) 1675 0) 1676 0 9 := by
      rw [c0 9 (by omega), ← kk 9 (Or.inl (by omega))]
      exact (z4.h (z := 9) (by omega)).symm
    have pf : ∀ z, z ≠ 2501 → z ≠ 2509 → z ≠ 4145 → z ≠ 4146 → upd (upd (upd (upd N' 2501 0) 2509 0) 4145 0) 4146 0 z = N' z := fun z x1 x2 x3 x4 => by rw [un x4, un x3, un x2, un x1]
    have pX : ∀ z, z < 2501 ∨ (2518 < z ∧ z < 2520) ∨ (2645 ≤ z ∧ z < 2770) ∨ (2895 ≤ z ∧ z < 4145) ∨ 4151 < z → upd (upd (upd (upd N' 2501 0) 2509 0) 4145 0) 4146 0 z = upd (upd (upd (upd (wr 0 u' (upd M' 1778 0)) 1669 0) 1670 0) 1675 0) 1676 0 z := fun z hz => by
      rw [pf z (by omega) (by omega) (by omega) (by omega), y3 z (by omega), eX z (by omega)]
    refine ⟨upd (upd (upd (upd N' 2501 0) 2509 0) 4145 0) 4146 0, ?_, ?_, ?_, ?_, ?_, ?_, ?_⟩
    · rw [y1]
      unfold LREST
      rw [bd2_s y2, if_neg (by decide), isb0, un (by omega), un (by omega), un (by omega), un (by omega), e9]
    · refine Mk2.of z1 z2 z3 z4 (fun z hz => ?_) (fun z hz => ?_)
      · have hz2 := Lv_lt z1.s.2 z1.b.2 z1.f.2.2 hz
        rw [w0, pX z (by omega), c0 z hz2, kk z hz]
      · have hz2 := Lv_lt z1.s.2 z1.b.2 z1.f.2.2 hz
        show N' (2520 + z) = upd (upd (upd (upd N' 2501 0) 2509 0) 4145 0) 4146 0 (2520 + z)
        rw [pf _ (by omega) (by omega) (by omega) (by omega)]
    · refine ⟨0, 0, by omega, by omega, ?_, ?_, ?_, fun j hj => absurd hj (Nat.not_lt_zero j)⟩
      · rw [pX _ (by omega), un (by omega), un (by omega), un (by omega), us]; rfl
      · rw [pX _ (by omega), un (by omega), un (by omega), us]; rfl
      · rw [un (by omega), un (by omega), us]; rfl
    · intro i hi
      refine Or.inl ⟨?_, ?_⟩
      · rw [pX _ (by omega)]
        rcases (show i = 0 ∨ i = 1 by omega) with rfl | rfl
        · rw [un (by omega), us]
        · rw [us]
      · rcases (show i = 0 ∨ i = 1 by omega) with rfl | rfl
        · rw [un (by omega), us]
        · rw [us]
    · refine ⟨0, by omega, ?_, ?_, fun j hj => absurd hj (Nat.not_lt_zero j)⟩
      · rw [pX _ (by omega), un (by omega), un (by omega), un (by omega), un (by omega), wr_out (by omega), us]; rfl
      · rw [un (by omega), un (by omega), un (by omega), us]; rfl
    · refine ⟨?_, ?_⟩
      · rw [pX _ (by omega), pf _ (by omega) (by omega) (by omega) (by omega), k1 _ (by omega) (by omega) (by omega) (by omega) (by omega) (by omega), y5]
      · rw [pX _ (by omega), pf _ (by omega) (by omega) (by omega) (by omega), k1 _ (by omega) (by omega) (by omega) (by omega) (by omega) (by omega), y6]
    · refine RO_cong hO (fun z hz => ?_)
      by_cases q : z = 1674
      · subst q
        rw [pX _ (by omega), k1 _ (by omega) (by omega) (by omega) (by omega) (by omega) (by omega), kM _ (by omega)]
      · rw [pX z (by omega), kF z (by omega)]
end
