/-! a setup's head: joint steps -/
def JS (l : Nat) (B : Nat → Nat) (M N : xM) (p : Nat) : Prop := CT l B M ∧ MT l B N ∧ M 1783 = nI p ∧ NXt l B N p ∧ p ≤ l ∧ M 1779 = 0 ∧ N 2502 = 0 ∧ M 1780 = N 2503
def Er (M N : xM) (o1 o2 : Option (Int32 × xM)) : Prop := ∃ M' N', o1 = some (0, M') ∧ o2 = some (0, N') ∧ KR M M' ∧ KM N N' ∧ M' 1779 = N' 2502 ∧ M' 1780 = N' 2503
section
variable {l : Nat} {B : Nat → Nat} {M N : xM} {p : Nat}
theorem s_word {a a' : Nat} (ha : a < 56) (ha' : a' < 56) (e : x_byt a' = x_byt a) (h : JS l B M N p) : Er M N (f_X3_readWord a M) (f_X7_expects a' N) ∨ ∃ M' N', f_X3_readWord a M = some (1, M') ∧ f_X7_expects a' N = some (1, N') ∧ KR M M' ∧ KM N N' ∧ JS l B M' N' (tE B l p) ∧ ∀ j, j < 5 → N' (4147 + j) = N (4147 + j) := by
  obtain ⟨h1, h2, hp, hx, hpl, e0, e1, e2⟩ := h
  obtain ⟨M1, k0, k3, k4, k5, k6, kz⟩ := c_tokR h1 hp hpl
  have hKR : KR M M1 := fun z hz => kz z (fun e => hz (by unfold rc; omega)) (fun e => hz (by unfold rc; omega)) (fun e => hz (by unfold rc; omega)) (fun e => hz (by unfold rc; omega))
  have hw := c_isWord ha (h1.kr hKR) k3 k4 k5 (tS_b hpl).2
  have hm := m_isW ha' h2 hx hpl
  have et : tW a' B l p = tW a B l p := by unfold tW; rw [e]
  rw [et] at hm
  have cr : f_X3_readWord a M = if tW a B l p = true then some (1, M1) else some (0, upd (upd M1 1779 1) 1780 (nI (tS B l p))) := by
    unfold f_X3_readWord
    rw [bd_s k0, hw]
    unfold tW
    by_cases q : isWt (x_byt a) B l (tS B l p) = true
    · rw [if_pos q, if_pos q]
      simp only [bd2, i10, ↓reduceIte]
    · rw [if_neg q, if_neg q]
      simp only [bd2, ↓reduceIte, c_fail, k5]
  by_cases q : tW a B l p = true
  · obtain ⟨N', b0, b1, b2⟩ := m_next (p := tE B l p) h2 hx.1 (tE_b hpl).2
    have kn : KM N N' := fun z hz => b2 z (fun e => hz (by unfold rm; omega)) (fun e => hz (by unfold rm; omega)) (fun e => hz (by unfold rm; omega)) (fun e => hz (by unfold rm; omega))
    refine Or.inr ⟨M1, N', by rw [cr, if_pos q], ?_, hKR, kn, ⟨h1.kr hKR, h2.km kn, k3, b1, (tE_b hpl).2, ?_, ?_, ?_⟩, fun j hj => b2 _ (by omega) (by omega) (by omega) (by omega)⟩
    · unfold f_X7_expects
      rw [hm, if_pos q]
      simp only [bd2, i10, ↓reduceIte]
      rw [bd_s b0]
    · rw [kz _ (by omega) (by omega) (by omega) (by omega)]; exact e0
    · rw [b2 _ (by omega) (by omega) (by omega) (by omega)]; exact e1
    · rw [kz _ (by omega) (by omega) (by omega) (by omega), b2 _ (by omega) (by omega) (by omega) (by omega)]; exact e2
  · refine Or.inl ⟨_, upd (upd N 2502 1) 2503 (nI (tS B l p)), by rw [cr, if_neg q], ?_, (hKR.tr (KR.u (by unfold rc; omega))).tr (KR.u (by unfold rc; omega)), K2, by rw [un (by omega), us, un (by omega), us], by rw [us, us]⟩
    unfold f_X7_expects
    rw [hm, if_neg q]
    simp only [bd2, ↓reduceIte]
    rw [m_wrong, hx.2.2.1]
    simp only []
    rw [gd_t (show isb 0 = true from rfl)]
theorem s_num {i lo hi : Nat} {hi' : Int32} (hi5 : i < 5) (hlo : lo ≤ 9999) (hH : hi ≤ 10000) (hh : ∀ v, v < 1000000 → ((nI v ≤ hi') = (v < hi))) (h : JS l B M N p) : Er M N (f_X3_readNumber (nI lo) hi' M) (f_X7_into (nI i) (nI lo) hi' N) ∨ (lo ≤ tkV B l p ∧ tkV B l p < hi ∧ ∃ M' N', f_X3_readNumber (nI lo) hi' M = some (1, M') ∧ f_X7_into (nI i) (nI lo) hi' N = some (1, N') ∧ KR M M' ∧ KM N N' ∧ JS l B M' N' (tE B l p) ∧ M' 1786 = nI (tkV B l p) ∧ N' (4147 + i) = nI (tkV B l p) ∧ ∀ j, j < 5 → j ≠ i → N' (4147 + j) = N (4147 + j)) := by
  obtain ⟨h1, h2, hp, hx, hpl, e0, e1, e2⟩ := h
  obtain ⟨M1, k0, k3, k4, k5, k6, kz⟩ := c_tokR h1 hp hpl
  have hKR : KR M M1 := fun z hz => kz z (fun e => hz (by unfold rc; omega)) (fun e => hz (by unfold rc; omega)) (fun e => hz (by unfold rc; omega)) (fun e => hz (by unfold rc; omega))
  have hm := m_num hx hpl hlo (fun v hv => hh v (by omega)) hH
  have hc := c_numFrom (M := M1) (lo := lo) k4 k5 k6 hpl (by omega) hh
  unfold f_X3_readNumber f_X7_into
  rw [bd_s k0, hc, hm]
  by_cases q : tK B l p = 1
  · rw [if_pos q, if_pos q]
    by_cases q2 : lo ≤ tkV B l p ∧ tkV B l p < hi
    · have hV := tkV_tM hpl q q2.2 hH
      rw [if_pos q2, if_pos q2]
      simp only [bd2, i10, ↓reduceIte]
      rw [gd_t (show isb 1 = true from rfl), gd_t (inb_nI hi5 (by omega)), cl (by omega)]
      obtain ⟨N', b0, b1, b2, b3, b4, b5, b6⟩ := m_good (V := tkV B l p) hi5 h2 hx hpl (by rw [hx.2.2.2 q, hV])
      rw [bd_s b0]
      refine Or.inr ⟨q2.1, q2.2, M1, N', rfl, rfl, hKR, b1, ⟨h1.kr hKR, h2.km b1, k3, b2, (tE_b hpl).2, ?_, ?_, ?_⟩, k6 q, b3, b4⟩
      · rw [kz _ (by omega) (by omega) (by omega) (by omega)]; exact e0
      · rw [b5]; exact e1
      · rw [kz _ (by omega) (by omega) (by omega) (by omega), b6]; exact e2
    · rw [if_neg q2, if_neg q2]
      simp only [bd2, ↓reduceIte]
      rw [gd_t (show isb 0 = true from rfl)]
      exact Or.inl ⟨_, _, rfl, rfl, (hKR.tr (KR.u (by unfold rc; omega))).tr (KR.u (by unfold rc; omega)), K2, by rw [un (by omega), us, un (by omega), us], by rw [us, us]⟩
  · rw [if_neg q, if_neg q]
    simp only [bd2, ↓reduceIte]
    rw [gd_t (show isb 0 = true from rfl)]
    exact Or.inl ⟨_, _, rfl, rfl, (hKR.tr (KR.u (by unfold rc; omega))).tr (KR.u (by unfold rc; omega)), K2, by rw [un (by omega), us, un (by omega), us], by rw [us, us]⟩
theorem s_semi (h : JS l B M N p) : Er M N (f_X3_readSemicolon M) (f_X7_semicolon N) ∨ ∃ M' N', f_X3_readSemicolon M = some (1, M') ∧ f_X7_semicolon N = some (1, N') ∧ KR M M' ∧ KM N N' ∧ JS l B M' N' (tE B l p) ∧ ∀ j, j < 5 → N' (4147 + j) = N (4147 + j) := by
  obtain ⟨h1, h2, hp, hx, hpl, e0, e1, e2⟩ := h
  rcases c_semi h1 hp hpl with ⟨q, M', s1, s2, s3, s4, s5, s6⟩ | ⟨q, M', s1, s2, s3, s4⟩
  · rcases m_semi h2 hx hpl with ⟨-, N', t1, t2, t3⟩ | ⟨q2, -⟩
    · have kn : KM N N' := fun z hz => t3 z (fun f => hz (by unfold rm; omega))
      exact Or.inr ⟨M', N', s1, t1, s2, kn, ⟨h1.kr s2, h2.km kn, s3, t2, (tE_b hpl).2, s4.trans e0, by rw [t3 _ (by omega)]; exact e1, by rw [s5, t3 _ (by omega)]; exact e2⟩, fun j hj => t3 _ (by omega)⟩
    · exact absurd q q2
  · rcases m_semi h2 hx hpl with ⟨q2, -⟩ | ⟨-, t1⟩
    · exact absurd q2 q
    · exact Or.inl ⟨M', _, s1, t1, s2, K2, by rw [s3, un (by omega), us], by rw [s4, us]⟩
end
