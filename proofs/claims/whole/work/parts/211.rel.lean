/-! what holds between the class and the model -/
def Mk2 (mm : Nat) (u v : xM) : Prop := ∃ ns nb nf, MV mm ns nb nf u ∧ EC ns nb u ∧ BT mm nb u ∧ Sim ns nb nf u v
theorem Lv_lt {ns nb nf z : Nat} (hs : ns ≤ 6) (hb : nb ≤ 6) (hf : nf ≤ 12) (h : Lv ns nb nf z) : z < 125 := by
  unfold Lv at h
  omega
theorem Mk2.of {mm ns nb nf : Nat} {u v u' : xM} (h : MV mm ns nb nf u) (hE : EC ns nb u) (hB : BT mm nb u) (hS : Sim ns nb nf u v) (hu : Sim ns nb nf u u') {v' : xM} (hv : Sim ns nb nf v v') : Mk2 mm u' v' :=
  ⟨ns, nb, nf, hu.MV h, EC_sim hu hE, BT_sim hu hB, (hu.symm.trans hS).trans hv⟩
theorem Mk2_cong {mm : Nat} {u v u' v' : xM} (h : Mk2 mm u v) (hu : ∀ z, z < 125 → u' z = u z) (hv : ∀ z, z < 125 → v' z = v z) : Mk2 mm u' v' := by
  obtain ⟨ns, nb, nf, h1, h2, h3, h4⟩ := h
  exact Mk2.of h1 h2 h3 h4 (fun z hz => (hu z (Lv_lt h1.s.2 h1.b.2 h1.f.2.2 hz)).symm) (fun z hz => (hv z (Lv_lt h1.s.2 h1.b.2 h1.f.2.2 hz)).symm)
theorem Mk2_mono {mm mm' : Nat} {u v : xM} (h : Mk2 mm u v) (hm : mm ≤ mm') : Mk2 mm' u v := by
  obtain ⟨ns, nb, nf, h1, h2, h3, h4⟩ := h
  exact ⟨ns, nb, nf, MV_mono h1 hm, h2, BT_mono hm h3, h4⟩
def RM (mm : Nat) (M : xM) : Prop := Mk2 mm (win 0 M) (win 2520 M)
def RH (mm : Nat) (M : xM) : Prop := ∃ p c, p < 8 ∧ c ≤ 8 ∧ M 1669 = nI p ∧ M 1670 = nI c ∧ M 2509 = nI c ∧ ∀ j, j < c → Mk2 mm (win (384 + 128 * ((p + 8 - c + j) % 8)) M) (win (2895 + 125 * j) M)
def RS (mm : Nat) (M : xM) : Prop := ∀ i, i < 2 → (M (1675 + i) = 0 ∧ M (4145 + i) = 0) ∨ (M (1675 + i) = 1 ∧ M (4145 + i) = 1 ∧ Mk2 mm (win (1408 + 128 * i) M) (win (3895 + 125 * i) M))
def RB (M : xM) : Prop := ∃ l, l ≤ 700 ∧ M 1778 = nI l ∧ M 2501 = nI l ∧ ∀ j, j < l → ∃ x, x < 256 ∧ M (4252 + j) = nI x ∧ M (1792 + j) = (nI x).toInt8.toInt32
def RE (M : xM) : Prop := M 1779 = M 2502 ∧ M 1780 = M 2503
def RO (M : xM) : Prop := (M 1674 = 0 ∧ M 2519 = 0) ∨ (M 1674 = 100 ∧ M 2519 = 100 ∧ ∀ j, j < 100 → M (1677 + j) = M (4152 + j))
def RR (mm : Nat) (M : xM) : Prop := RM mm M ∧ RH mm M ∧ RS mm M ∧ RB M ∧ RE M ∧ RO M
section
variable {mm mm' : Nat} {M N : xM}
theorem RM_cong (h : RM mm M) (e : ∀ z, (z < 125 ∨ (2520 ≤ z ∧ z < 2645)) → N z = M z) : RM mm N :=
  Mk2_cong h (fun z hz => e _ (by omega)) (fun z hz => e _ (by omega))
theorem RH_cong (h : RH mm M) (e : ∀ z, (z = 1669 ∨ z = 1670 ∨ z = 2509 ∨ (384 ≤ z ∧ z < 1408) ∨ (2895 ≤ z ∧ z < 3895)) → N z = M z) : RH mm N := by
  obtain ⟨p, c, hp, hc, h1, h2, h3, h4⟩ := h
  refine ⟨p, c, hp, hc, by rw [e _ (by omega), h1], by rw [e _ (by omega), h2], by rw [e _ (by omega), h3], fun j hj => ?_⟩
  exact Mk2_cong (h4 j hj) (fun z hz => e _ (by omega)) (fun z hz => e _ (by omega))
theorem RS_cong (h : RS mm M) (e : ∀ z, (z = 1675 ∨ z = 1676 ∨ z = 4145 ∨ z = 4146 ∨ (1408 ≤ z ∧ z < 1664) ∨ (3895 ≤ z ∧ z < 4145)) → N z = M z) : RS mm N := by
  intro i hi
  rw [e (1675 + i) (by omega), e (4145 + i) (by omega)]
  rcases h i hi with q | ⟨a, b, c⟩
  · exact Or.inl q
  · exact Or.inr ⟨a, b, Mk2_cong c (fun z hz => e _ (by omega)) (fun z hz => e _ (by omega))⟩
theorem RB_cong (h : RB M) (e : ∀ z, (z = 1778 ∨ z = 2501 ∨ (1792 ≤ z ∧ z < 2492) ∨ (4252 ≤ z ∧ z < 4952)) → N z = M z) : RB N := by
  obtain ⟨l, hl, h1, h2, h3⟩ := h
  refine ⟨l, hl, by rw [e _ (by omega), h1], by rw [e _ (by omega), h2], fun j hj => ?_⟩
  rw [e _ (by omega), e _ (by omega)]
  exact h3 j hj
theorem RE_cong (h : RE M) (e : ∀ z, (z = 1779 ∨ z = 1780 ∨ z = 2502 ∨ z = 2503) → N z = M z) : RE N := by
  unfold RE
  rw [e 1779 (by omega), e 1780 (by omega), e 2502 (by omega), e 2503 (by omega)]
  exact h
theorem RO_cong (h : RO M) (e : ∀ z, (z = 1674 ∨ z = 2519 ∨ (1677 ≤ z ∧ z < 1777) ∨ (4152 ≤ z ∧ z < 4252)) → N z = M z) : RO N := by
  unfold RO
  rw [e 1674 (by omega), e 2519 (by omega)]
  rcases h with h | ⟨a, b, c⟩
  · exact Or.inl h
  · exact Or.inr ⟨a, b, fun j hj => by rw [e _ (by omega), e _ (by omega)]; exact c j hj⟩
/-- what the relation speaks of -/
def rz (z : Nat) : Prop := z < 125 ∨ (384 ≤ z ∧ z < 1664) ∨ z = 1669 ∨ z = 1670 ∨ (1674 ≤ z ∧ z < 1777) ∨ (1778 ≤ z ∧ z ≤ 1780) ∨ (1792 ≤ z ∧ z < 2492) ∨ z = 2501 ∨ z = 2502 ∨ z = 2503 ∨ z = 2509 ∨ (2519 ≤ z ∧ z < 2645) ∨ (2895 ≤ z ∧ z < 4147) ∨ (4152 ≤ z ∧ z < 4952)
theorem RR_cong (h : RR mm M) (e : ∀ z, rz z → N z = M z) : RR mm N := by
  unfold rz at e
  exact ⟨RM_cong h.1 (fun z hz => e z (by omega)), RH_cong h.2.1 (fun z hz => e z (by omega)), RS_cong h.2.2.1 (fun z hz => e z (by omega)), RB_cong h.2.2.2.1 (fun z hz => e z (by omega)), RE_cong h.2.2.2.2.1 (fun z hz => e z (by omega)), RO_cong h.2.2.2.2.2 (fun z hz => e z (by omega))⟩
theorem RM_mono (h : RM mm M) (hm : mm ≤ mm') : RM mm' M := Mk2_mono h hm
theorem RH_mono (h : RH mm M) (hm : mm ≤ mm') : RH mm' M := by
  obtain ⟨p, c, hp, hc, h1, h2, h3, h4⟩ := h
  exact ⟨p, c, hp, hc, h1, h2, h3, fun j hj => Mk2_mono (h4 j hj) hm⟩
theorem RS_mono (h : RS mm M) (hm : mm ≤ mm') : RS mm' M := by
  intro i hi
  rcases h i hi with q | ⟨a, b, c⟩
  · exact Or.inl q
  · exact Or.inr ⟨a, b, Mk2_mono c hm⟩
theorem RR_mono (h : RR mm M) (hm : mm ≤ mm') : RR mm' M :=
  ⟨RM_mono h.1 hm, RH_mono h.2.1 hm, RS_mono h.2.2.1 hm, h.2.2.2.1, h.2.2.2.2.1, h.2.2.2.2.2⟩
theorem RR.upd {z : Nat} {x : Int32} (h : RR mm M) (hz : ¬ rz z) : RR mm (upd M z x) := RR_cong h (fun y hy => un (fun e => hz (e ▸ hy)))
/-- the history's shift -/
theorem m_recordD {c : Nat} (hc : c ≤ 8) (e : M 2509 = nI c) : ∃ d, ((d = 1 ∧ c = 8) ∨ (d = 0 ∧ c < 8)) ∧ ∃ M', f_X7_record M = some M' ∧ M' 2509 = nI (c + 1 - d) ∧ (∀ j z, z < 125 → j < c - d → M' (2895 + 125 * j + z) = M (2895 + 125 * (j + d) + z)) ∧ (∀ z, z < 125 → M' (2895 + 125 * (c - d) + z) = M (2520 + z)) ∧ ∀ z, z ≠ 2509 → (z < 2895 ∨ 3895 ≤ z) → (z < 2645 ∨ 2770 ≤ z) → M' z = M z := by
  obtain ⟨M', h1, h2, h3, h4, h5⟩ := m_record hc e
  by_cases q : c = 8
  · subst q
    simp only [↓reduceIte] at h2 h3 h4
    exact ⟨1, Or.inl ⟨rfl, rfl⟩, M', h1, h2, h3, h4, h5⟩
  · simp only [if_neg q] at h2 h3 h4
    exact ⟨0, Or.inr ⟨rfl, by omega⟩, M', h1, h2, h3, h4, h5⟩
/-- the class keeps its state -/
theorem c_remember {p c ns nb nf : Nat} (hp : p < 8) (hc : c ≤ 8) (h1 : M 1669 = nI p) (h2 : M 1670 = nI c) (g1 : MV mm ns nb nf (win 0 M)) : ∃ q u, q < 8 ∧ (p + 1) % 8 = q ∧ Sim ns nb nf (win 0 M) u ∧ ∀ d, ((d = 1 ∧ c = 8) ∨ (d = 0 ∧ c < 8)) → f_X6_remember M = some (upd (upd (wr (384 + 128 * p) u M) 1669 (nI q)) 1670 (nI (c + 1 - d))) := by
  obtain ⟨u, e1, e2⟩ := c_copy (a := 384 + 128 * p) (b := 0) (M0 := M) (Or.inr (by omega)) g1
  have em : ∀ d, ((d = 1 ∧ c = 8) ∨ (d = 0 ∧ c < 8)) → imin (nI c + 1) 8 = nI (c + 1 - d) := by
    intro d hd
    rw [nI_1, show (8 : Int32) = nI 8 from rfl, imn (by omega) (by omega)]
    congr 1
    split <;> omega
  have st : f_X6_remember M = if (8 : Int32) ≤ nI (p + 1) then f_X6_remember_c41 0 (wr (384 + 128 * p) u M) else f_X6_remember_c41 (nI (p + 1)) (wr (384 + 128 * p) u M) := by
    unfold f_X6_remember
    rw [h1, gd_t (inb_nI (by omega) (by omega)), cl (by omega), bd_s e1, wr_out (by omega), h1, nI_1]
  have c41 : ∀ x d, ((d = 1 ∧ c = 8) ∨ (d = 0 ∧ c < 8)) → f_X6_remember_c41 x (wr (384 + 128 * p) u M) = some (upd (upd (wr (384 + 128 * p) u M) 1669 x) 1670 (nI (c + 1 - d))) := by
    intro x d hd
    unfold f_X6_remember_c41
    rw [un (by omega), wr_out (by omega), h2, em d hd]
  by_cases q : p = 7
  · subst q
    exact ⟨0, u, by omega, rfl, e2, fun d hd => by rw [st, if_pos (by decide), c41 _ d hd]; rfl⟩
  · exact ⟨p + 1, u, by omega, by omega, e2, fun d hd => by rw [st, if_neg (show ¬ (8 : Int32) ≤ nI (p + 1) from nI_ge (a := p + 1) (b := 8) (by omega) (by decide)), c41 _ d hd]⟩
/-- the state before a change is kept: on both sides; the two calls one behind the other -/
theorem s_remember (hM : RM mm M) (hH : RH mm M) : ∃ M1, f_X6_remember M = some M1 ∧ (∀ z, (z < 384 ∨ 1408 ≤ z) → z ≠ 1669 → z ≠ 1670 → M1 z = M z) ∧
    ∀ N, (∀ z, (384 ≤ z ∧ z < 1408) ∨ z = 1669 ∨ z = 1670 → N z = M1 z) → (∀ z, z = 2509 ∨ (2520 ≤ z ∧ z < 2645) ∨ (2895 ≤ z ∧ z < 3895) → N z = M z) →
      ∃ N1, f_X7_record N = some N1 ∧ (∀ z, z ≠ 2509 → (z < 2895 ∨ 3895 ≤ z) → (z < 2645 ∨ 2770 ≤ z) → N1 z = N z) ∧ ∀ P, (∀ z, (z = 1669 ∨ z = 1670 ∨ z = 2509 ∨ (384 ≤ z ∧ z < 1408) ∨ (2895 ≤ z ∧ z < 3895)) → P z = N1 z) → RH mm P := by
  obtain ⟨ns, nb, nf, g1, g2, g3, g4⟩ := hM
  obtain ⟨p, c, hp, hc, h1, h2, h3, h4⟩ := hH
  obtain ⟨q, u, hq1, hq2, e2, hq3⟩ := c_remember hp hc h1 h2 g1
  obtain ⟨d0, hd0⟩ : ∃ d, (d = 1 ∧ c = 8) ∨ (d = 0 ∧ c < 8) := by
    by_cases q : c = 8
    · exact ⟨1, Or.inl ⟨rfl, q⟩⟩
    · exact ⟨0, Or.inr ⟨rfl, by omega⟩⟩
  refine ⟨_, hq3 d0 hd0, fun z a b c => by rw [un c, un b, wr_out (by omega)], fun N k1 k2 => ?_⟩
  have e9 : N 2509 = nI c := by rw [k2 _ (by omega), h3]
  obtain ⟨d, hd, N1, r1, r2, r3, r4, r5⟩ := m_recordD hc e9
  have hdd : d0 = d := by omega
  subst hdd
  refine ⟨N1, r1, r5, fun P hP => ?_⟩
  refine ⟨q, c + 1 - d0, hq1, by omega, ?_, ?_, ?_, fun j hj => ?_⟩
  · rw [hP _ (by omega), r5 _ (by omega) (by omega) (by omega), k1 _ (by omega), un (by omega), us]
  · rw [hP _ (by omega), r5 _ (by omega) (by omega) (by omega), k1 _ (by omega), us]
  · rw [hP _ (by omega), r2]
  · have cls : ∀ z, (384 ≤ z ∧ z < 1408) → P z = wr (384 + 128 * p) u M z := fun z hz => by
      rw [hP _ (by omega), r5 _ (by omega) (by omega) (by omega), k1 _ (by omega), un (by omega), un (by omega)]
    by_cases hl : j = c - d0
    · have ei : (q + 8 - (c + 1 - d0) + j) % 8 = p := by omega
      rw [ei]
      refine Mk2.of g1 g2 g3 g4 (u' := win (384 + 128 * p) P) ?_ (v' := win (2895 + 125 * j) P) ?_
      · intro z hz
        have hz2 := Lv_lt g1.s.2 g1.b.2 g1.f.2.2 hz
        show win 0 M z = P (384 + 128 * p + z)
        rw [cls _ (by omega), wr_in (z := z) rfl hz2, e2 z hz]
      · intro z hz
        have hz2 := Lv_lt g1.s.2 g1.b.2 g1.f.2.2 hz
        show M (2520 + z) = P (2895 + 125 * j + z)
        rw [hP _ (by omega), hl, r4 z hz2, k2 _ (by omega)]
    · have ei : (q + 8 - (c + 1 - d0) + j) % 8 = (p + 8 - c + (j + d0)) % 8 := by omega
      have en : (p + 8 - c + (j + d0)) % 8 ≠ p := by omega
      have en8 : (p + 8 - c + (j + d0)) % 8 < 8 := by omega
      rw [ei]
      refine Mk2_cong (h4 (j + d0) (by omega)) (fun z hz => ?_) (fun z hz => ?_)
      · show P (384 + 128 * ((p + 8 - c + (j + d0)) % 8) + z) = M (384 + 128 * ((p + 8 - c + (j + d0)) % 8) + z)
        generalize (p + 8 - c + (j + d0)) % 8 = y at en en8 ⊢
        rw [cls _ (by omega), wr_out (by omega)]
      · show P (2895 + 125 * j + z) = M (2895 + 125 * (j + d0) + z)
        rw [hP _ (by omega), r3 j z hz (by omega), k2 _ (by omega)]
end
