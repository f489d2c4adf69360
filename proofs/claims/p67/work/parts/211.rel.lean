/-! what holds between the class and the model -/
def Mk2 (mm : Nat) (u v : xM) : Prop := ∃ ns nb nf, MV mm ns nb nf u ∧ EC ns nb u ∧ BT mm nb u ∧ Sim ns nb nf u v
theorem Lv_lt {ns nb nf z : Nat} (hs : ns ≤ 6) (hb : nb ≤ 6) (hf : nf ≤ 12) (h : Lv ns nb nf z) : z < 125 := by
  unfold Lv at h
  omega
theorem Mk2.of {mm ns nb nf : Nat} {u v u' : xM} (h : MV mm ns nb nf u) (hE : EC ns nb u) (hB : BT mm nb u) (hS : Sim ns nb nf u v) (hu : Sim ns nb nf u u') {v' : xM} (hv : Sim ns nb nf v v') : Mk2 mm u' v' :=
  ⟨ns, nb, nf, hu.MV h, EC_sim hu hE, BT_sim hu hB, (hu.symm.trans hS).trans hv⟩
theorem Mk2_cong {mm : Nat} {u v u' v' : xM} (h : Mk2 mm u v) (hu : ∀ z, z < 125 → u' z = u z) (hv : ∀ z, z < 125 → v' z = v z) : Mk2 mm u' v' := by
  obtain ⟨ns, nb, nf, h1, h2, h3, h4⟩ := h
  exact Mk2.of h1 h2 h3 h4 (fun z hz => (hu z (Lv_lt h1.s.2 h1.b.2 h1.f.2.2 hz)).symm) (fun z hz => (hv z (Lv_lt h1.s.2 h1.b.2 h1.f.2.2 hz)).symm)
theorem Mk2_mono {mm mm' : Nat} {u v : xM} (h : Mk2 mm u v) (hm : mm ≤ mm') : Mk2 mm' u v := by
  obtain ⟨ns, nb, nf, h1, h2, h3, h4⟩ := h
  exact ⟨ns, nb, nf, MV_mono h1 hm, h2, BT_mono hm h3, h4⟩
def RH (mm : Nat) (M : xM) : Prop := ∃ p c, p < 8 ∧ c ≤ 8 ∧ M 1669 = nI p ∧ M 1670 = nI c ∧ M 2509 = nI c ∧ ∀ j, j < c → Mk2 mm (win (384 + 128 * ((p + 8 - c + j) % 8)) M) (win (2895 + 125 * j) M)
def RS (mm : Nat) (M : xM) : Prop := ∀ i, i < 2 → (M (1675 + i) = 0 ∧ M (4145 + i) = 0) ∨ (M (1675 + i) = 1 ∧ M (4145 + i) = 1 ∧ Mk2 mm (win (1408 + 128 * i) M) (win (3895 + 125 * i) M))
def RB (M : xM) : Prop := ∃ l, l ≤ 700 ∧ M 1778 = nI l ∧ M 2501 = nI l ∧ ∀ j, j < l → ∃ x, x < 256 ∧ M (4252 + j) = nI x ∧ M (1792 + j) = (nI x).toInt8.toInt32
def RE (M : xM) : Prop := M 1779 = M 2502 ∧ M 1780 = M 2503
def RO (M : xM) : Prop := (M 1674 = 0 ∧ M 2519 = 0) ∨ (M 1674 = 100 ∧ M 2519 = 100 ∧ ∀ j, j < 100 → M (1677 + j) = M (4152 + j))
section
variable {mm mm' : Nat} {M N : xM}
theorem RH_cong (h : RH mm M) (e : ∀ z, (z = 1669 ∨ z = 1670 ∨ z = 2509 ∨ (384 ≤ z ∧ z < 1408) ∨ (2895 ≤ z ∧ z < 3895)) → N z = M z) : RH mm N := by
  obtain ⟨p, c, hp, hc, h1, h2, h3, h4⟩ := h
  refine ⟨p, c, hp, hc, by rw [e _ (by omega), h1], by rw [e _ (by omega), h2], by rw [e _ (by omega), h3], fun j hj => ?_⟩
  exact Mk2_cong (h4 j hj) (fun z hz => e _ (by omega)) (fun z hz => e _ (by omega))
theorem RS_cong (h : RS mm M) (e : ∀ z, (z = 1675 ∨ z = 1676 ∨ z = 4145 ∨ z = 4146 ∨ (1408 ≤ z ∧ z < 1664) ∨ (3895 ≤ z ∧ z < 4145)) → N z = M z) : RS mm N := by
  intro i hi
  rw [e (1675 + i) (by omega), e (4145 + i) (by omega)]
  rcases h i hi with q | ⟨a, b, c⟩
  · exact Or.inl q
  · exact Or.inr ⟨a, b, Mk2_cong c (fun z hz => e _ (by omega)) (fun z hz => e _ (by omega))⟩
theorem RB_cong (h : RB M) (e : ∀ z, (z = 1778 ∨ z = 2501 ∨ (1792 ≤ z ∧ z < 2492) ∨ (4252 ≤ z ∧ z < 4952)) → N z = M z) : RB N := by
  obtain ⟨l, hl, h1, h2, h3⟩ := h
  refine ⟨l, hl, by rw [e _ (by omega), h1], by rw [e _ (by omega), h2], fun j hj => ?_⟩
  rw [e _ (by omega), e _ (by omega)]
  exact h3 j hj
theorem RE_cong (h : RE M) (e : ∀ z, (z = 1779 ∨ z = 1780 ∨ z = 2502 ∨ z = 2503) → N z = M z) : RE N := by
  unfold RE
  rw [e 1779 (by omega), e 1780 (by omega), e 2502 (by omega), e 2503 (by omega)]
  exact h
theorem RO_cong (h : RO M) (e : ∀ z, (z = 1674 ∨ z = 2519 ∨ (1677 ≤ z ∧ z < 1777) ∨ (4152 ≤ z ∧ z < 4252)) → N z = M z) : RO N := by
  unfold RO
  rw [e 1674 (by omega), e 2519 (by omega)]
  rcases h with h | ⟨a, b, c⟩
  · exact Or.inl h
  · exact Or.inr ⟨a, b, fun j hj => by rw [e _ (by omega), e _ (by omega)]; exact c j hj⟩
/-- what the relation speaks of -/
def rz (z : Nat) : Prop := z < 125 ∨ (384 ≤ z ∧ z < 1664) ∨ z = 1669 ∨ z = 1670 ∨ (1674 ≤ z ∧ z < 1777) ∨ (1778 ≤ z ∧ z ≤ 1780) ∨ (1792 ≤ z ∧ z < 2492) ∨ z = 2501 ∨ z = 2502 ∨ z = 2503 ∨ z = 2509 ∨ (2519 ≤ z ∧ z < 2645) ∨ (2895 ≤ z ∧ z < 4147) ∨ (4152 ≤ z ∧ z < 4952)
theorem RH_mono (h : RH mm M) (hm : mm ≤ mm') : RH mm' M := by
  obtain ⟨p, c, hp, hc, h1, h2, h3, h4⟩ := h
  exact ⟨p, c, hp, hc, h1, h2, h3, fun j hj => Mk2_mono (h4 j hj) hm⟩
theorem RS_mono (h : RS mm M) (hm : mm ≤ mm') : RS mm' M := by
  intro i hi
  rcases h i hi with q | ⟨a, b, c⟩
  · exact Or.inl q
  · exact Or.inr ⟨a, b, Mk2_mono c hm⟩
/-- the class keeps its state -/
theorem c_remember {p c ns nb nf : Nat} (hp : p < 8) (hc : c ≤ 8) (h1 : M 1669 = nI p) (h2 : M 1670 = nI c) (g1 : MV mm ns nb nf (win 0 M)) : ∃ q u, q < 8 ∧ (p + 1) % 8 = q ∧ Sim ns nb nf (win 0 M) u ∧ ∀ d, ((d = 1 ∧ c = 8) ∨ (d = 0 ∧ c < 8)) → f_X6_remember M = some (upd (upd (wr (384 + 128 * p) u M) 1669 (nI q)) 1670 (nI (c + 1 - d))) := by
  obtain ⟨u, e1, e2⟩ := c_copy (a := 384 + 128 * p) (b := 0) (M0 := M) (Or.inr (by omega)) g1
  have em : ∀ d, ((d = 1 ∧ c = 8) ∨ (d = 0 ∧ c < 8)) → imin (nI c + 1) 8 = nI (c + 1 - d) := by
    intro d hd
    rw [nI_1, show (8 : Int32) = nI 8 from rfl, imn (by omega) (by omega)]
    congr 1
    split <;> omega
  have st : f_X6_remember M = if (8 : Int32) ≤ nI (p + 1) then f_X6_remember_c41 0 (wr (384 + 128 * p) u M) else f_X6_remember_c41 (nI (p + 1)) (wr (384 + 128 * p) u M) := by
    unfold f_X6_remember
    rw [h1, gd_t (inb_nI (by omega) (by omega)), cl (by omega), bd_s e1, wr_out (by omega), h1, nI_1]
  have c41 : ∀ x d, ((d = 1 ∧ c = 8) ∨ (d = 0 ∧ c < 8)) → f_X6_remember_c41 x (wr (384 + 128 * p) u M) = some (upd (upd (wr (384 + 128 * p) u M) 1669 x) 1670 (nI (c + 1 - d))) := by
    intro x d hd
    unfold f_X6_remember_c41
    rw [un (by omega), wr_out (by omega), h2, em d hd]
  by_cases q : p = 7
  · subst q
    exact ⟨0, u, by omega, rfl, e2, fun d hd => by rw [st, if_pos (by decide), c41 _ d hd]; rfl⟩
  · exact ⟨p + 1, u, by omega, by omega, e2, fun d hd => by rw [st, if_neg (show ¬ (8 : Int32) ≤ nI (p + 1) from nI_ge (a := p + 1) (b := 8) (by omega) (by decide)), c41 _ d hd]⟩
end

