/-! the start of both -/
section
variable {l : Nat} {B : Nat → Nat} {M : xM}
/-- a setup loaded by both at their start: the state behind it -/
theorem s_loadI {C0 M' : xM} (hO : M 1674 = 0) (eB : f_X3_begin M = some C0) (a1 : PATH C0 = some (1, M')) (kM : ∀ z, z < 128 ∨ (253 ≤ z ∧ z < 1779) ∨ z = 1782 ∨ 1791 < z → M' z = M z) (hv : ∃ ns nb nf, MV 4000 ns nb nf (win 128 M')) (hX : ∀ X, MT l B X → LRun 1 M' X) : ∃ M1, f_X6_replaceMarket M = some (1, M1) ∧ (∀ z, (125 ≤ z ∧ z < 128) ∨ (253 ≤ z ∧ z < 1669) ∨ (1676 < z ∧ z < 1778) ∨ 1791 < z → M1 z = M z) ∧ ∀ X, MT l B X → (∀ z, z < 2500 → X z = M1 z) → X 2519 = 0 → ∃ M2, f_X7_loadSetup X = some (M1 9, M2) ∧ (∀ z, z < 2500 → M2 z = X z) ∧ RR 4000 M2 := by
  obtain ⟨ns1, nb1, nf1, f1⟩ := hv
  have w3 : ∀ z, z < 125 → win 128 (upd M' 1778 0) z = win 128 M' z := fun z hz => by
    show upd M' 1778 0 (128 + z) = M' (128 + z)
    rw [un (by omega)]
  have dims : ∀ ns2 nb2 nf2, MV 4000 ns2 nb2 nf2 (win 128 M') → MV 4000 ns2 nb2 nf2 (win 128 (upd M' 1778 0)) := fun ns2 nb2 nf2 hv => by
    have hS : Sim ns2 nb2 nf2 (win 128 M') (win 128 (upd M' 1778 0)) := fun z hz => (w3 z (Lv_lt hv.s.2 hv.b.2 hv.f.2.2 hz)).symm
    exact hS.MV hv
  obtain ⟨u', v1, v2⟩ := c_copy (a := 0) (b := 128) (M0 := upd M' 1778 0) (Or.inl (by omega)) (dims _ _ _ f1)
  have k1 : ∀ z, 125 ≤ z → z ≠ 1669 → z ≠ 1670 → z ≠ 1675 → z ≠ 1676 → z ≠ 1778 → upd (upd (upd (upd (wr 0 u' (upd M' 1778 0)) 1669 0) 1670 0) 1675 0) 1676 0 z = M' z := fun z x1 x2 x3 x4 x5 x6 => by
    rw [un x5, un x4, un x3, un x2, wr_out (by omega), un x6]
  have kF : ∀ z, (125 ≤ z ∧ z < 128) ∨ (253 ≤ z ∧ z < 1669) ∨ (1676 < z ∧ z < 1778) ∨ 1791 < z → upd (upd (upd (upd (wr 0 u' (upd M' 1778 0)) 1669 0) 1670 0) 1675 0) 1676 0 z = M z := fun z hz => by
    rw [k1 z (by omega) (by omega) (by omega) (by omega) (by omega) (by omega), kM z (by omega)]
  refine ⟨upd (upd (upd (upd (wr 0 u' (upd M' 1778 0)) 1669 0) 1670 0) 1675 0) 1676 0, ?_, kF, fun X mX eX e19 => ?_⟩
  · rw [repl_path eB, bd2_s a1, if_neg (show ¬ (1 : Int32) = 0 by decide)]
    exact c_c34 v1
  · obtain ⟨N2, N', y1, y2, y3, y4, y5, y6, y7⟩ := hX X mX
    obtain ⟨ns2, nb2, nf2, z1, z2, z3, z4⟩ : Mk2 4000 (win 128 M') (win 2520 N') := by
      rcases y7 with y7 | ⟨-, y7⟩
      · exact absurd y7 (by decide)
      · exact y7
    obtain ⟨u2, v3, v4⟩ := c_copy (a := 0) (b := 128) (M0 := upd M' 1778 0) (Or.inl (by omega)) (dims _ _ _ z1)
    have ew : wr 0 u' (upd M' 1778 0) = wr 0 u2 (upd M' 1778 0) := Option.some.inj (v1.symm.trans v3)
    have c0 : ∀ z, z < 125 → upd (upd (upd (upd (wr 0 u' (upd M' 1778 0)) 1669 0) 1670 0) 1675 0) 1676 0 z = u2 z := fun z hz => by
      rw [un (by omega), un (by omega), un (by omega), un (by omega), ew, wr_in (z := z) (by omega) hz]
    have kk : ∀ z, Lv ns2 nb2 nf2 z → win 128 M' z = u2 z := fun z hz => by
      rw [← v4 z hz, w3 z (Lv_lt z1.s.2 z1.b.2 z1.f.2.2 hz)]
    have e9 : N' 2529 = upd (upd (upd (upd (wr 0 u' (upd M' 1778 0)) 1669 0) 1670 0) 1675 0) 1676 0 9 := by
      rw [c0 9 (by omega), ← kk 9 (Or.inl (by omega))]
      exact (z4.h (z := 9) (by omega)).symm
    have pf : ∀ z, z ≠ 2501 → z ≠ 2509 → z ≠ 4145 → z ≠ 4146 → upd (upd (upd (upd N' 2501 0) 2509 0) 4145 0) 4146 0 z = N' z := fun z x1 x2 x3 x4 => by rw [un x4, un x3, un x2, un x1]
    have pX : ∀ z, z < 2500 → upd (upd (upd (upd N' 2501 0) 2509 0) 4145 0) 4146 0 z = upd (upd (upd (upd (wr 0 u' (upd M' 1778 0)) 1669 0) 1670 0) 1675 0) 1676 0 z := fun z hz => by
      rw [pf z (by omega) (by omega) (by omega) (by omega), y3 z (by omega), eX z (by omega)]
    refine ⟨upd (upd (upd (upd N' 2501 0) 2509 0) 4145 0) 4146 0, ?_, fun z hz => (pX z hz).trans (eX z hz).symm, ?_, ?_, ?_, ?_, ?_, ?_⟩
    · rw [y1]
      unfold LREST
      rw [bd2_s y2, if_neg (by decide), isb0, un (by omega), un (by omega), un (by omega), un (by omega), e9]
    · refine Mk2.of z1 z2 z3 z4 (fun z hz => ?_) (fun z hz => ?_)
      · have hz2 := Lv_lt z1.s.2 z1.b.2 z1.f.2.2 hz
        rw [w0, pX z (by omega), c0 z hz2, kk z hz]
      · have hz2 := Lv_lt z1.s.2 z1.b.2 z1.f.2.2 hz
        show N' (2520 + z) = upd (upd (upd (upd N' 2501 0) 2509 0) 4145 0) 4146 0 (2520 + z)
        rw [pf _ (by omega) (by omega) (by omega) (by omega)]
    · refine ⟨0, 0, by omega, by omega, ?_, ?_, ?_, fun j hj => absurd hj (Nat.not_lt_zero j)⟩
      · rw [pX _ (by omega), un (by omega), un (by omega), un (by omega), us]; rfl
      · rw [pX _ (by omega), un (by omega), un (by omega), us]; rfl
      · rw [un (by omega), un (by omega), us]; rfl
    · intro i hi
      refine Or.inl ⟨?_, ?_⟩
      · rw [pX _ (by omega)]
        rcases (show i = 0 ∨ i = 1 by omega) with rfl | rfl
        · rw [un (by omega), us]
        · rw [us]
      · rcases (show i = 0 ∨ i = 1 by omega) with rfl | rfl
        · rw [un (by omega), us]
        · rw [us]
    · refine ⟨0, by omega, ?_, ?_, fun j hj => absurd hj (Nat.not_lt_zero j)⟩
      · rw [pX _ (by omega), un (by omega), un (by omega), un (by omega), un (by omega), wr_out (by omega), us]; rfl
      · rw [un (by omega), un (by omega), un (by omega), us]; rfl
    · refine ⟨?_, ?_⟩
      · rw [pX _ (by omega), pf _ (by omega) (by omega) (by omega) (by omega), k1 _ (by omega) (by omega) (by omega) (by omega) (by omega) (by omega), y5]
      · rw [pX _ (by omega), pf _ (by omega) (by omega) (by omega) (by omega), k1 _ (by omega) (by omega) (by omega) (by omega) (by omega) (by omega), y6]
    · refine Or.inl ⟨?_, ?_⟩
      · rw [pX _ (by omega), k1 _ (by omega) (by omega) (by omega) (by omega) (by omega) (by omega), kM _ (by omega), hO]
      · rw [pf _ (by omega) (by omega) (by omega) (by omega), y3 _ (by omega), e19]
end
/-- a text of the model's, for the class's run alone -/
def X20 : xM := fun z => if z = 2501 then nI 181 else nI (B20 (z - 4252))
theorem B20_lt {j : Nat} (h : j < 181) : B20 j < 128 := (B20_x.2 ⟨j, h⟩).2
theorem X20_mt : MT 181 B20 X20 := ⟨rfl, by decide, fun j hj => ⟨by have := B20_lt hj; omega, by
  unfold X20
  rw [if_neg (by omega), show 4252 + j - 4252 = j by omega]⟩⟩
/-- both constructors' ends: the class's buffer holds the setup, its rope is empty; the model's likewise, then -/
theorem s_start {M : xM} (ct : CT 181 B20 M) (hO : M 1674 = 0) : ∃ M1, f_X6_replaceMarket M = some (1, M1) ∧ (∀ z, (125 ≤ z ∧ z < 128) ∨ (253 ≤ z ∧ z < 1669) ∨ (1676 < z ∧ z < 1778) ∨ 1791 < z → M1 z = M z) ∧ ∀ X, MT 181 B20 X → (∀ z, z < 2500 → X z = M1 z) → X 2519 = 0 → ∃ M2, f_X7_loadSetup X = some (M1 9, M2) ∧ (∀ z, z < 2500 → M2 z = X z) ∧ RR 4000 M2 := by
  obtain ⟨C0, r, M', eB, a1, hr, kM, hv, hX⟩ := s_loadR ct X20_mt
  have eC : C0 = upd (upd (upd M 1783 0) 1779 0) 1780 (-1) := Option.some.inj (eB.symm.trans rfl)
  have hcs : CS 181 B20 C0 0 := by
    subst eC
    exact ⟨ct.keep (fun z hz => by rw [un (by omega), un (by omega), un (by omega)]), by rw [un (by omega), un (by omega), us]; rfl, by omega, by rw [un (by omega), us]⟩
  obtain ⟨M9, h9⟩ := start_path hcs
  have e1 : r = 1 := (Prod.mk.inj (Option.some.inj (a1.symm.trans h9))).1
  subst e1
  exact s_loadI hO eB a1 kM (hv rfl) hX
