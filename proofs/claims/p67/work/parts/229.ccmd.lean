/-! the class reads a whole command -/
def PVl (B : Nat → Nat) (l p : Nat) : Nat → Nat → Nat
  | 0, _ => 0
  | k + 1, v => if tW (x_vw v) B l p = true then v + 1 else PVl B l p k (v + 1)
def PVerb (B : Nat → Nat) (l p : Nat) : Nat := PVl B l p 9 0
theorem PVl_le {B : Nat → Nat} {l p : Nat} : ∀ k v, v + k ≤ 9 → PVl B l p k v ≤ 9
  | 0, _, _ => Nat.zero_le _
  | k + 1, v, h => by
    have := PVl_le (B := B) (l := l) (p := p) k (v + 1) (by omega)
    show (if tW (x_vw v) B l p = true then v + 1 else PVl B l p k (v + 1)) ≤ 9
    split <;> omega
def full (ns nb v : Nat) : Bool := decide ((v = 1 ∧ 6 ≤ ns) ∨ (v = 2 ∧ 6 ≤ nb))
theorem nfull {p : Prop} [Decidable p] (h : ¬ p) : ¬ decide p = true := fun e => h (of_decide_eq_true e)
def zf : Nat → Nat := fun _ => 0
def PRead (B : Nat → Nat) (l ns nb nf : Nat) (u : xM) (cnt p : Nat) : Nat × Nat × Nat × (Nat → Nat) :=
  if tK B l p = 4 then (9, 0, 0, zf)
  else if PVerb B l p = 0 then (1, tS B l p, 0, zf)
  else if 40 ≤ cnt then (4, tS B l p, 0, zf)
  else if full ns nb (PVerb B l p) = true then (4, tS B l p, 0, zf)
  else ((PSem B l (PArgs B l ns nb nf u (PVerb B l p) (kinds (PVerb B l p)) 0 zf (tE B l p))).1, (PSem B l (PArgs B l ns nb nf u (PVerb B l p) (kinds (PVerb B l p)) 0 zf (tE B l p))).2.1, PVerb B l p, (PSem B l (PArgs B l ns nb nf u (PVerb B l p) (kinds (PVerb B l p)) 0 zf (tE B l p))).2.2)
def rd (z : Nat) : Prop := rc z ∨ z = 1781
def KD (M M' : xM) : Prop := ∀ z, ¬ rd z → M' z = M z
theorem KD.tr {M M1 M2 : xM} (h : KD M M1) (h2 : KD M1 M2) : KD M M2 := fun z hz => (h2 z hz).trans (h z hz)
theorem KD.u {M : xM} {z : Nat} {x : Int32} (h : rd z) : KD M (upd M z x) := fun y hy => un (fun e => hy (e ▸ h))
theorem KR.d {M M' : xM} (h : KR M M') : KD M M' := fun z hz => h z (fun e => hz (Or.inl e))
def DOut (l : Nat) (R : Nat × Nat × Nat × (Nat → Nat)) (M : xM) (o : Option (Int32 × xM)) : Prop :=
  (R.1 = 0 ∧ ∃ M', o = some (1, M') ∧ KD M M' ∧ M' 1783 = nI R.2.1 ∧ R.2.1 ≤ l ∧ M' 1781 = nI R.2.2.1 ∧ (∀ j, j < (kinds R.2.2.1).length → M' (1787 + j) = nI (R.2.2.2 j)) ∧ M' 1779 = M 1779 ∧ M' 1780 = M 1780) ∨
  (R.1 = 9 ∧ ∃ M', o = some (0, M') ∧ KD M M' ∧ M' 1779 = M 1779 ∧ M' 1780 = M 1780) ∨
  (R.1 ≠ 0 ∧ R.1 ≠ 9 ∧ ∃ M', o = some (0, M') ∧ KD M M' ∧ M' 1779 = nI R.1 ∧ M' 1780 = nI R.2.1)
section
variable {l : Nat} {B : Nat → Nat} {M : xM} {ns nb nf : Nat} {u : xM}
theorem CT.kd {M' : xM} (h : CT l B M) (k : KD M M') : CT l B M' := h.keep (fun z hz => k z (by unfold rd rc; omega))
theorem win_KD {M' : xM} (k : KD M M') {z : Nat} (hz : z < 125) : win 128 M' z = win 128 M z := k _ (by unfold rd rc; omega)
theorem MV_KD {mm : Nat} {M' : xM} (k : KD M M') (h : MV mm ns nb nf (win 128 M)) : MV mm ns nb nf (win 128 M') := by
  have hS : Sim ns nb nf (win 128 M) (win 128 M') := fun z hz => (win_KD k (Lv_lt h.s.2 h.b.2 h.f.2.2 hz)).symm
  exact hS.MV h
theorem vw_lt : ∀ v : Fin 9, x_vw v.val < 40 := by decide +kernel
theorem PArg_code {verb i a0 c p : Nat} : (PArg B l ns nb nf u verb i a0 c p).1 ≤ 3 := by
  unfold PArg
  repeat' split
  all_goals exact (by omega)
theorem PArgs_code {verb : Nat} : ∀ (ks : List Nat) (i : Nat) (a : Nat → Nat) (p : Nat), (PArgs B l ns nb nf u verb ks i a p).1 ≤ 3
  | [], _, _, _ => Nat.zero_le _
  | c :: ks, i, a, p => by
    rw [PArgs_c]
    by_cases q : (PArg B l ns nb nf u verb i (a 0) c p).1 = 0
    · rw [if_pos q]; exact PArgs_code ks _ _ _
    · rw [if_neg q]; exact PArg_code
theorem PSem_code {R : Nat × Nat × (Nat → Nat)} (h : R.1 ≤ 3) : (PSem B l R).1 ≤ 3 := by
  unfold PSem
  split
  · split
    · exact Nat.zero_le _
    · exact (by decide : 1 ≤ 3)
  · exact h
theorem c_verbL {p : Nat} (h : CT l B M) (h3 : M 1783 = nI (tE B l p)) (h4 : M 1784 = nI (ckn (tK B l p))) (h5 : M 1785 = nI (tS B l p)) (hp : p ≤ l) : ∀ k v n, v + k = 9 → k < n → lp (fun _ _ => none) (fun k => fb_X3_verbRead_c2 k) n (nI v) M = some (nI (PVl B l p k v), M)
  | 0, v, n + 1, hv, hn => by
    rw [lp_s]
    unfold fb_X3_verbRead_c2
    rw [if_pos (show (9 : Int32) ≤ nI v from nI_le (a := 9) (by omega) (by omega))]
    rfl
  | k + 1, v, n + 1, hv, hn => by
    have ih := c_verbL h h3 h4 h5 hp k (v + 1) n (by omega) (by omega)
    have hw := vw_lt ⟨v, by omega⟩
    simp only at hw
    rw [lp_s]
    generalize lp (fun _ _ => none) (fun k => fb_X3_verbRead_c2 k) n = K at ih ⊢
    have ev : nI v + 1 - 1 = nI v := Int32.add_sub_cancel _ _
    unfold fb_X3_verbRead_c2
    rw [if_neg (show ¬ (9 : Int32) ≤ nI v from nI_ge (a := v) (b := 9) (by omega) (by decide)), ev, gd_t (inb_nI (by omega) (by omega)), gd_t (inb_nI (by omega) (by omega)), cl (by omega), bd2_s (c_isWord hw h h3 h4 h5 (tS_b hp).2), nI_1]
    show _ = some (nI (if tW (x_vw v) B l p = true then v + 1 else PVl B l p k (v + 1)), M)
    unfold tW
    by_cases q : isWt (x_byt (x_vw v)) B l (tS B l p) = true
    · rw [if_pos q, if_pos q, if_neg (by decide), gd_t (inb_nI (by omega) (by omega))]
    · rw [if_neg q, if_neg q, if_pos rfl]; exact ih
theorem c_verb {p : Nat} (h : CT l B M) (h3 : M 1783 = nI (tE B l p)) (h4 : M 1784 = nI (ckn (tK B l p))) (h5 : M 1785 = nI (tS B l p)) (hp : p ≤ l) : f_X3_verbRead M = some (nI (PVerb B l p), M) :=
  c_verbL h h3 h4 h5 hp 9 0 FU rfl (FU_e _ (by omega))
theorem c_room {v : Nat} (hv : v ≤ 9) (h : M 1781 = nI v) (h9 : M 137 = nI ns) (h10 : M 138 = nI nb) (hs : ns ≤ 6) (hb : nb ≤ 6) : f_X3_hasNoRoom 128 M = some (if full ns nb v = true then 1 else 0, M) := by
  have e1 : (nI v = 1) = (v = 1) := propext (nI_eq (b := 1) (by omega) (by omega))
  have e2 : (nI v = 2) = (v = 2) := propext (nI_eq (b := 2) (by omega) (by omega))
  have f1 : ((6 : Int32) ≤ nI ns) = (6 ≤ ns) := propext (nI_leI (a := 6) (by omega) (by omega))
  have f2 : (nI nb < (6 : Int32)) = (nb < 6) := propext (nI_ltI (b := 6) (by omega) (by omega))
  unfold f_X3_hasNoRoom f_X3_hasNoRoom_c19 full
  rw [h, gd_t (inb_nI (by omega) (by omega)), gd_t (inb_nI (by omega) (by omega)), show 128 + 9 = 137 from rfl, show 128 + 10 = 138 from rfl, h9, h10]
  simp only [e1, e2, f1, f2]
  by_cases q1 : v = 1
  · rw [if_pos q1, if_neg (show ¬ v = 2 by omega)]
    by_cases q : 6 ≤ ns
    · rw [if_pos q, if_pos (decide_eq_true (Or.inl ⟨q1, q⟩))]
    · rw [if_neg q, if_neg (nfull (by omega))]
  · rw [if_neg q1]
    by_cases q2 : v = 2
    · rw [if_pos q2]
      by_cases q : nb < 6
      · rw [if_pos q, if_neg (nfull (by omega))]
      · rw [if_neg q, if_pos (decide_eq_true (Or.inr ⟨q2, by omega⟩))]
    · rw [if_neg q2, if_neg (nfull (by omega))]
theorem c_cmd {mm cnt p : Nat} (h : CT l B M) (hp : M 1783 = nI p) (hpl : p ≤ l) (hc : cnt < 1000) (hMV : MV mm ns nb nf (win 128 M)) (hu : ∀ z, z < 125 → win 128 M z = u z) : DOut l (PRead B l ns nb nf u cnt p) M (f_X3_readCommand 128 (nI cnt) M) := by
  obtain ⟨M1, k0, k3, k4, k5, k6, kz⟩ := c_tokR h hp hpl
  have hKR : KR M M1 := fun z hz => kz z (fun e => hz (by unfold rc; omega)) (fun e => hz (by unfold rc; omega)) (fun e => hz (by unfold rc; omega)) (fun e => hz (by unfold rc; omega))
  have h1 := h.kr hKR
  have e0 : (nI (ckn (tK B l p)) = 0) = (tK B l p = 4) := ckn_i (q := 4) tK_le (by omega)
  have e9 : (nI (PVerb B l p) = 0) = (PVerb B l p = 0) := propext (nI_eq (b := 0) (by have := PVl_le (B := B) (l := l) (p := p) 9 0 (by omega); unfold PVerb; omega) (by omega))
  have e40 : ((40 : Int32) ≤ nI cnt) = (40 ≤ cnt) := propext (nI_leI (a := 40) (by omega) (by omega))
  have hv9 : PVerb B l p ≤ 9 := PVl_le 9 0 (by omega)
  have hs9 : M 137 = nI ns := hMV.s.1
  have hb10 : M 138 = nI nb := hMV.b.1
  unfold f_X3_readCommand PRead
  rw [bd_s k0, k4]
  simp only [e0]
  by_cases q0 : tK B l p = 4
  · rw [if_pos q0, if_pos q0]
    exact Or.inr (Or.inl ⟨rfl, M1, rfl, hKR.d, kz _ (by omega) (by omega) (by omega) (by omega), kz _ (by omega) (by omega) (by omega) (by omega)⟩)
  · rw [if_neg q0, if_neg q0, bd2_s (c_verb h1 k3 k4 k5 hpl)]
    simp only [us, e9, e40]
    have hKD : KD M (upd M1 1781 (nI (PVerb B l p))) := hKR.d.tr (KD.u (Or.inr rfl))
    have fail : ∀ k, f_X3_fail k (upd M1 1781 (nI (PVerb B l p))) = some (0, upd (upd (upd M1 1781 (nI (PVerb B l p))) 1779 k) 1780 (nI (tS B l p))) := fun k => by
      rw [c_fail, un (by omega), k5]
    have hK2 : ∀ k, KD M (upd (upd (upd M1 1781 (nI (PVerb B l p))) 1779 k) 1780 (nI (tS B l p))) := fun k => (hKD.tr (KD.u (by unfold rd rc; omega))).tr (KD.u (by unfold rd rc; omega))
    have i0 : isb 0 = true := rfl
    by_cases q1 : PVerb B l p = 0
    · rw [if_pos q1, if_pos q1]
      simp only [fail, bd2]
      rw [gd_t i0]
      refine Or.inr (Or.inr ⟨(by decide : 1 ≠ 0), (by decide : 1 ≠ 9), _, rfl, hK2 _, ?_, us⟩)
      rw [un (by omega), us]; rfl
    · rw [if_neg q1, if_neg q1]
      by_cases q2 : 40 ≤ cnt
      · rw [if_pos q2, if_pos q2]
        simp only [fail, bd2]
        rw [gd_t i0]
        refine Or.inr (Or.inr ⟨(by decide : 4 ≠ 0), (by decide : 4 ≠ 9), _, rfl, hK2 _, ?_, us⟩)
        rw [un (by omega), us]; rfl
      · rw [if_neg q2, if_neg q2]
        have hro := c_room (M := upd M1 1781 (nI (PVerb B l p))) (ns := ns) (nb := nb) hv9 us (by rw [un (by omega), kz _ (by omega) (by omega) (by omega) (by omega), hs9]) (by rw [un (by omega), kz _ (by omega) (by omega) (by omega) (by omega), hb10]) hMV.s.2 hMV.b.2
        rw [bd2_s hro]
        by_cases q3 : full ns nb (PVerb B l p) = true
        · rw [if_pos q3, if_pos q3, if_neg (by decide)]
          simp only [fail, bd2]
          rw [gd_t i0]
          refine Or.inr (Or.inr ⟨(by decide : 4 ≠ 0), (by decide : 4 ≠ 9), _, rfl, hK2 _, ?_, us⟩)
          rw [un (by omega), us]; rfl
        · rw [if_neg q3, if_neg q3, if_pos rfl]
          have hle := kinds_le ⟨PVerb B l p, by omega⟩
          simp only at hle
          have ha := c_args (l := l) (B := B) (ns := ns) (nb := nb) (nf := nf) (u := u) (mm := mm) (cnt := nI cnt) (by omega) hv9 (kinds (PVerb B l p)).length 0 FU (tE B l p) zf (upd M1 1781 (nI (PVerb B l p))) (Nat.zero_add _) (FU_e _ (by omega)) (h.kd hKD) (by rw [un (by omega), k3]) (tE_b hpl).2 us (fun j hj => absurd hj (Nat.not_lt_zero j)) (fun _ y => by omega) (MV_KD hKD hMV) (fun z hz => by rw [win_KD hKD hz]; exact hu z hz)
          have hcd := PSem_code (B := B) (l := l) (PArgs_code (B := B) (l := l) (ns := ns) (nb := nb) (nf := nf) (u := u) (verb := PVerb B l p) (kinds (PVerb B l p)) 0 zf (tE B l p))
          rw [List.drop_zero] at ha
          generalize PSem B l (PArgs B l ns nb nf u (PVerb B l p) (kinds (PVerb B l p)) 0 zf (tE B l p)) = Q at ha hcd ⊢
          have ef : f_X3_readCommand_c56 128 (nI cnt) 0 (upd M1 1781 (nI (PVerb B l p))) = lp (fun _ _ => none) (fun k => fb_X3_readCommand_c56 k 128 (nI cnt)) FU (nI 0) (upd M1 1781 (nI (PVerb B l p))) := rfl
          rw [ef]
          have g1 : upd M1 1781 (nI (PVerb B l p)) 1779 = M 1779 := by rw [un (by omega)]; exact kz _ (by omega) (by omega) (by omega) (by omega)
          have g2 : upd M1 1781 (nI (PVerb B l p)) 1780 = M 1780 := by rw [un (by omega)]; exact kz _ (by omega) (by omega) (by omega) (by omega)
          rcases ha with ⟨w, M2, t1, t2, t3, t4, t5, t6, t7⟩ | ⟨w, M2, t1, t2, t3, t4⟩
          · exact Or.inl ⟨w, M2, t1, hKD.tr t2.d, t3, t4, by rw [t2 _ (by unfold rc; omega), us], t5, t6.trans g1, t7.trans g2⟩
          · exact Or.inr (Or.inr ⟨w, by show Q.1 ≠ 9; omega, M2, t1, hKD.tr t2.d, t3, t4⟩)
end

