/-! a setup's fog, its head -/
def HS (n a b c : Nat) (f : Nat → Nat) (u : xM) : Prop := u 9 = 0 ∧ u 10 = 0 ∧ u 8 = nI n ∧ u 0 = 0 ∧ u 7 = nI c ∧ u 5 = nI a ∧ u 6 = nI b ∧ u 1 = 0 ∧ u 2 = 1 ∧ u 3 = 0 ∧ u 4 = 0 ∧ ∀ i, i < n → f i ≤ 9 ∧ u (11 + i) = nI (f i)
def Er2 (M N : xM) (o1 o2 : Option (Int32 × xM)) : Prop := ∃ M' N', o1 = some (0, M') ∧ o2 = some (0, N') ∧ KW M M' ∧ KX N N' ∧ M' 1779 = N' 2502 ∧ M' 1780 = N' 2503
theorem Er.x {M N : xM} {o1 o2 : Option (Int32 × xM)} (h : Er M N o1 o2) : Er2 M N o1 o2 := by
  obtain ⟨M', N', a, b, c, d, e⟩ := h
  exact ⟨M', N', a, b, c.d.w, d.x, e⟩
theorem Er2.pre {M N M' N' : xM} {o1 o2 : Option (Int32 × xM)} (h : Er2 M' N' o1 o2) (k1 : KW M M') (k2 : KX N N') : Er2 M N o1 o2 := by
  obtain ⟨M2, N2, a, b, c, d, e⟩ := h
  exact ⟨M2, N2, a, b, k1.tr c, k2.tr d, e⟩
theorem HS.add {n a b c V : Nat} {f : Nat → Nat} {u w : xM} (h : HS n a b c f u) (hV : V ≤ 9) (hn : n < 12) (e : ∀ z, z < 125 → z ≠ 8 → z ≠ 11 + n → w z = u z) (e8 : w 8 = nI (n + 1)) (en : w (11 + n) = nI V) : HS (n + 1) a b c (setf f n V) w := by
  obtain ⟨h1, h2, h3, h4, h5, h6, h7, h8, h9, h10, h11, h12⟩ := h
  refine ⟨by rw [e _ (by omega) (by omega) (by omega), h1], by rw [e _ (by omega) (by omega) (by omega), h2], e8, by rw [e _ (by omega) (by omega) (by omega), h4], by rw [e _ (by omega) (by omega) (by omega), h5], by rw [e _ (by omega) (by omega) (by omega), h6], by rw [e _ (by omega) (by omega) (by omega), h7], by rw [e _ (by omega) (by omega) (by omega), h8], by rw [e _ (by omega) (by omega) (by omega), h9], by rw [e _ (by omega) (by omega) (by omega), h10], by rw [e _ (by omega) (by omega) (by omega), h11], fun i hi => ?_⟩
  unfold setf
  by_cases q : i = n
  · subst q
    rw [if_pos rfl]
    exact ⟨hV, en⟩
  · rw [if_neg q, e _ (by omega) (by omega) (by omega)]
    exact h12 i (by omega)
theorem HS_cong {n a b c : Nat} {f : Nat → Nat} {u w : xM} (h : HS n a b c f u) (hn : n ≤ 12) (e : ∀ z, z < 125 → w z = u z) : HS n a b c f w := by
  obtain ⟨h1, h2, h3, h4, h5, h6, h7, h8, h9, h10, h11, h12⟩ := h
  exact ⟨by rw [e _ (by omega), h1], by rw [e _ (by omega), h2], by rw [e _ (by omega), h3], by rw [e _ (by omega), h4], by rw [e _ (by omega), h5], by rw [e _ (by omega), h6], by rw [e _ (by omega), h7], by rw [e _ (by omega), h8], by rw [e _ (by omega), h9], by rw [e _ (by omega), h10], by rw [e _ (by omega), h11], fun i hi => by rw [e _ (by omega)]; exact h12 i hi⟩
theorem HS_MM {n a b c : Nat} {f : Nat → Nat} {u v : xM} (h : HS n a b c f u) (h' : HS n a b c f v) (hn : 1 ≤ n) (hn2 : n ≤ 12) (hb : 1 ≤ b) (hb2 : b ≤ 60) (hc : c < 100) : MM 0 0 0 n u v := by
  obtain ⟨h1, h2, h3, h4, h5, h6, h7, h8, h9, h10, h11, h12⟩ := h
  obtain ⟨k1, k2, k3, k4, k5, k6, k7, k8, k9, k10, k11, k12⟩ := h'
  refine ⟨⟨⟨h1, by omega⟩, ⟨h2, by omega⟩, ⟨h3, hn, hn2⟩, ⟨0, by omega, h4⟩, ⟨0, b, by omega, hb, hb2, h10, h7, Or.inr rfl⟩, Or.inl h8, Or.inr h9, ⟨c, hc, h5⟩, fun i hi => ⟨f i, (h12 i hi).1, (h12 i hi).2⟩, fun i hi => absurd hi (Nat.not_lt_zero i), fun i hi => absurd hi (Nat.not_lt_zero i)⟩, ⟨fun i hi => absurd hi (Nat.not_lt_zero i), fun i hi => absurd hi (Nat.not_lt_zero i), Nat.le_refl _, fun i hi => absurd hi (Nat.not_lt_zero i)⟩, ⟨fun i hi => absurd hi (Nat.not_lt_zero i), 0, by omega, h11⟩, fun z hz => ?_⟩
  have hz' : z < 11 + n := by
    unfold Lv at hz
    omega
  rcases (show z = 0 ∨ z = 1 ∨ z = 2 ∨ z = 3 ∨ z = 4 ∨ z = 5 ∨ z = 6 ∨ z = 7 ∨ z = 8 ∨ z = 9 ∨ z = 10 ∨ 11 ≤ z by omega) with rfl | rfl | rfl | rfl | rfl | rfl | rfl | rfl | rfl | rfl | rfl | q
  · rw [h4, k4]
  · rw [h8, k8]
  · rw [h9, k9]
  · rw [h10, k10]
  · rw [h11, k11]
  · rw [h6, k6]
  · rw [h7, k7]
  · rw [h5, k5]
  · rw [h3, k3]
  · rw [h1, k1]
  · rw [h2, k2]
  · have x1 := (h12 (z - 11) (by omega)).2
    have x2 := (k12 (z - 11) (by omega)).2
    rw [show 11 + (z - 11) = z by omega] at x1 x2
    rw [x1, x2]
section
variable {l : Nat} {B : Nat → Nat} {M N : xM} {p a b c : Nat}
theorem JS.up {M' N' : xM} (h : JS l B M N p) (e1 : ∀ z, 1778 ≤ z → M' z = M z) (e2 : ∀ z, (z < 2520 ∨ 2645 ≤ z) → N' z = N z) : JS l B M' N' p := by
  obtain ⟨h1, h2, hp, hx, hpl, x0, x1, x2⟩ := h
  exact ⟨h1.keep (fun z hz => e1 z (by omega)), h2.keep (fun z hz => e2 z (by omega)), by rw [e1 _ (by omega)]; exact hp, hx.k (fun z ha hb => e2 z (by omega)), hpl, by rw [e1 _ (by omega)]; exact x0, by rw [e2 _ (by omega)]; exact x1, by rw [e1 _ (by omega), e2 _ (by omega)]; exact x2⟩
def fM (M N : xM) (o1 o2 : Option (Int32 × xM)) (l : Nat) (B : Nat → Nat) (a b c : Nat) : Prop := Er2 M N o1 o2 ∨ ∃ M' N' p' nf f, 1 ≤ nf ∧ nf ≤ 12 ∧ o1 = some (1, M') ∧ o2 = bd2 (f_X7_commandsText N') (fun r31 M30 => (if r31 < 0 then (some (0, M30)) else (some (1, M30)))) ∧ KW M M' ∧ KX N N' ∧ JS l B M' N' p' ∧ HS nf a b c f (win 128 M') ∧ HS nf a b c f (win 2520 N')
theorem fM.pre {M' N' : xM} {o1 o2 : Option (Int32 × xM)} (h : fM M' N' o1 o2 l B a b c) (k1 : KW M M') (k2 : KX N N') : fM M N o1 o2 l B a b c := by
  rcases h with h | ⟨M2, N2, p', nf, f, q1, q2, q3, q4, q5, q6, q7⟩
  · exact Or.inl (h.pre k1 k2)
  · exact Or.inr ⟨M2, N2, p', nf, f, q1, q2, q3, q4, k1.tr q5, k2.tr q6, q7⟩
theorem s_fog : ∀ (k n nC nM p : Nat) (f : Nat → Nat) (M N : xM), n + k = 12 → k < nC → k < nM → JS l B M N p → HS n a b c f (win 128 M) → HS n a b c f (win 2520 N) → fM M N (lp (fun _ _ => none) (fun k => fb_X3_readFog_c2 k 128) nC (nI n) M) (lp (fun _ => none) (fun k => fb_X7_setupText_c107 k) nM N) l B a b c
  | k, n, nC + 1, nM + 1, p, f, M, N, hk, hC, hM, h, hu, hv => by
    have ih : 1 ≤ k → ∀ p f M N, JS l B M N p → HS (n + 1) a b c f (win 128 M) → HS (n + 1) a b c f (win 2520 N) → fM M N (lp (fun _ _ => none) (fun k => fb_X3_readFog_c2 k 128) nC (nI (n + 1)) M) (lp (fun _ => none) (fun k => fb_X7_setupText_c107 k) nM N) l B a b c := by
      intro hk1 p f M N x1 x2 x3
      match k, hk1, hk, hC, hM with
      | k + 1, _, hk, hC, hM => exact s_fog k (n + 1) nC nM p f M N (by omega) (by omega) (by omega) x1 x2 x3
    have hJ := h
    obtain ⟨h1, h2, hp, hx, hpl, e0, e1, e2⟩ := h
    obtain ⟨M1, k0, k3, k4, k5, k6, kz⟩ := c_tokR h1 hp hpl
    have hKR : KR M M1 := fun z hz => kz z (fun e => hz (by unfold rc; omega)) (fun e => hz (by unfold rc; omega)) (fun e => hz (by unfold rc; omega)) (fun e => hz (by unfold rc; omega))
    have t2 : (nI (ckn (tK B l p)) = 3) = (tK B l p = 2) := ckn_i (q := 2) tK_le (by omega)
    have t1 : (nI (ckn (tK B l p)) = 2) = (tK B l p = 1) := ckn_i (q := 1) tK_le (by omega)
    have s2 : (nI (tK B l p) = 2) = (tK B l p = 2) := tk_i (k := 2) (by omega)
    have e28 : N 2528 = nI n := hv.2.2.1
    have e36 : M1 136 = nI n := by rw [kz _ (by omega) (by omega) (by omega) (by omega)]; exact hu.2.2.1
    have n0 : (nI n = 0) = (n = 0) := propext (nI_eq (b := 0) (by omega) (by omega))
    have n0' : (nI n ≤ 0) = (n = 0) := propext (by
      rw [show (0 : Int32) = nI 0 from rfl, nI_leI (by omega) (by omega)]
      omega)
    have n12 : (nI n = 12) = (n = 12) := propext (nI_eq (b := 12) (by omega) (by omega))
    rw [lp_s, lp_s]
    generalize lp (fun _ _ => none) (fun k => fb_X3_readFog_c2 k 128) nC = F1 at ih ⊢
    generalize lp (fun _ => none) (fun k => fb_X7_setupText_c107 k) nM = F2 at ih ⊢
    have fl : ∀ x : Int32, bd2 (f_X3_fail x M1) (fun r M => gd (isb r) (some (r, M))) = some (0, upd (upd M1 1779 x) 1780 (nI (tS B l p))) := fun x => by
      rw [c_fail, k5]
      simp only [bd2]
      rw [gd_t (show isb 0 = true from rfl)]
    have er : ∀ x : Int32, fM M N (some (0, upd (upd M1 1779 x) 1780 (nI (tS B l p)))) (some (0, upd (upd N 2502 x) 2503 (nI (tS B l p)))) l B a b c := fun x =>
      Or.inl ⟨_, _, rfl, rfl, ((hKR.tr (KR.u (by unfold rc; omega))).tr (KR.u (by unfold rc; omega))).d.w, K2.x, by rw [un (by omega), us, un (by omega), us], by rw [us, us]⟩
    have cC : f_X3_readFog_c26 F1 128 (nI n) M1 = if tK B l p = 1 then (if tkV B l p < 10 then (if n = 12 then some (0, upd (upd M1 1779 4) 1780 (nI (tS B l p))) else F1 (nI (n + 1)) (upd (upd M1 (128 + 11 + n) (nI (tkV B l p))) 136 (nI (n + 1)))) else some (0, upd (upd M1 1779 2) 1780 (nI (tS B l p)))) else some (0, upd (upd M1 1779 1) 1780 (nI (tS B l p))) := by
      unfold f_X3_readFog_c26
      rw [k4]
      simp only [t1, fl, n12]
      by_cases q : tK B l p = 1
      · have hV := (tkV_lt hpl q).1
        rw [if_pos q, if_pos q, k6 q]
        simp only [hi_c (h := 9) (x := 9) rfl (by omega) hV]
        by_cases q2 : tkV B l p < 10
        · rw [if_pos q2, if_pos q2]
          by_cases q3 : n = 12
          · rw [if_pos q3, if_pos q3]
          · rw [if_neg q3, if_neg q3]
            unfold f_X2_addDensity
            rw [show 128 + 8 = 136 from rfl, e36, if_neg (show ¬ (12 : Int32) ≤ nI n from nI_ge (a := n) (b := 12) (by omega) (by decide)), gd_t (inb_nI (by omega) (by omega)), cl (by omega), un (by omega), e36, nI_1]
            rfl
        · rw [if_neg q2, if_neg q2]
      · rw [if_neg q, if_neg q]
    have cM : ∀ N1, f_X7_next (upd (upd N (2520 + (11 + n)) (N 2518)) 2528 (nI (n + 1))) = some N1 → n < 12 → f_X7_setupText_c125 F2 N = if tK B l p = 1 then (if tkV B l p < 10 then F2 N1 else some (0, upd (upd N 2502 2) 2503 (nI (tS B l p)))) else some (0, upd (upd N 2502 1) 2503 (nI (tS B l p))) := by
      intro N1 hN1 hn
      have hm := m_num (N := N) (lo := 0) (hi := 10) (hi' := 9) hx hpl (by omega) h9i (by omega)
      unfold f_X7_setupText_c125
      rw [show f_X7_numberIn 0 9 N = _ from hm]
      by_cases q : tK B l p = 1
      · rw [if_pos q, if_pos q]
        by_cases q2 : tkV B l p < 10
        · rw [if_pos ⟨Nat.zero_le _, q2⟩, if_pos q2]
          simp only [bd2, i10, ↓reduceIte]
          rw [if_neg (show ¬ N 2528 = 12 from by rw [e28, n12]; omega), e28, show (11 : Int32) + nI n = nI (11 + n) from nI_add 11 n, gd_t (inb_nI (by omega) (by omega)), cl (by omega), un (by omega), e28, nI_1, bd_s hN1]
        · rw [if_neg (fun e => q2 e.2), if_neg q2]
          simp only [bd2, ↓reduceIte]
      · rw [if_neg q, if_neg q]
        simp only [bd2, ↓reduceIte]
    have cM12 : n = 12 → f_X7_setupText_c125 F2 N = if tK B l p = 1 then (if tkV B l p < 10 then some (0, upd (upd N 2502 4) 2503 (nI (tS B l p))) else some (0, upd (upd N 2502 2) 2503 (nI (tS B l p)))) else some (0, upd (upd N 2502 1) 2503 (nI (tS B l p))) := by
      intro hn
      have hm := m_num (N := N) (lo := 0) (hi := 10) (hi' := 9) hx hpl (by omega) h9i (by omega)
      unfold f_X7_setupText_c125
      rw [show f_X7_numberIn 0 9 N = _ from hm]
      by_cases q : tK B l p = 1
      · rw [if_pos q, if_pos q]
        by_cases q2 : tkV B l p < 10
        · rw [if_pos ⟨Nat.zero_le _, q2⟩, if_pos q2]
          simp only [bd2, i10, ↓reduceIte]
          rw [if_pos (show N 2528 = 12 from by rw [e28, n12]; exact hn), m_wrong, hx.2.2.1]
          simp only []
          rw [gd_t (show isb 0 = true from rfl)]
        · rw [if_neg (fun e => q2 e.2), if_neg q2]
          simp only [bd2, ↓reduceIte]
      · rw [if_neg q, if_neg q]
        simp only [bd2, ↓reduceIte]
    have both : fM M N (f_X3_readFog_c26 F1 128 (nI n) M1) (f_X7_setupText_c125 F2 N) l B a b c := by
      rw [cC]
      by_cases q3 : n = 12
      · rw [cM12 q3]
        simp only [if_pos q3]
        by_cases q : tK B l p = 1
        · rw [if_pos q, if_pos q]
          by_cases q2 : tkV B l p < 10
          · rw [if_pos q2, if_pos q2]; exact er 4
          · rw [if_neg q2, if_neg q2]; exact er 2
        · rw [if_neg q, if_neg q]; exact er 1
      · have hNk : ∀ z, (z < 2520 ∨ 2645 ≤ z) → upd (upd N (2520 + (11 + n)) (N 2518)) 2528 (nI (n + 1)) z = N z := fun z hz => by rw [un (by omega), un (by omega)]
        obtain ⟨N1, b0, b1, b2⟩ := m_next (N := upd (upd N (2520 + (11 + n)) (N 2518)) 2528 (nI (n + 1))) (p := tE B l p) (h2.keep (fun z hz => hNk z (by omega))) (by rw [hNk _ (by omega)]; exact hx.1) (tE_b hpl).2
        rw [cM N1 b0 (by omega)]
        simp only [if_neg q3]
        by_cases q : tK B l p = 1
        · rw [if_pos q, if_pos q]
          by_cases q2 : tkV B l p < 10
          · rw [if_pos q2, if_pos q2]
            have hV := tkV_tM hpl q q2 (by omega)
            have hN18 := hx.2.2.2 q
            have kM : ∀ z, z < 128 ∨ 253 ≤ z → upd (upd M1 (128 + 11 + n) (nI (tkV B l p))) 136 (nI (n + 1)) z = M1 z := fun z hz => by rw [un (by omega), un (by omega)]
            have JJ : JS l B (upd (upd M1 (128 + 11 + n) (nI (tkV B l p))) 136 (nI (n + 1))) N1 (tE B l p) := by
              refine ⟨(h1.kr hKR).keep (fun z hz => kM z (by omega)), h2.keep (fun z hz => by rw [b2 _ (by omega) (by omega) (by omega) (by omega), hNk _ (by omega)]), by rw [kM _ (by omega)]; exact k3, b1, (tE_b hpl).2, ?_, ?_, ?_⟩
              · rw [kM _ (by omega), kz _ (by omega) (by omega) (by omega) (by omega)]; exact e0
              · rw [b2 _ (by omega) (by omega) (by omega) (by omega), hNk _ (by omega)]; exact e1
              · rw [kM _ (by omega), kz _ (by omega) (by omega) (by omega) (by omega), b2 _ (by omega) (by omega) (by omega) (by omega), hNk _ (by omega)]; exact e2
            have := ih (by omega) (tE B l p) (setf f n (tkV B l p)) _ N1 JJ (hu.add (V := tkV B l p) (by omega) (by omega) (fun z hz z8 zn => by
              show upd (upd M1 (128 + 11 + n) (nI (tkV B l p))) 136 (nI (n + 1)) (128 + z) = M (128 + z)
              rw [un (by omega), un (by omega), kz _ (by omega) (by omega) (by omega) (by omega)]) (by
              show upd (upd M1 (128 + 11 + n) (nI (tkV B l p))) 136 (nI (n + 1)) (128 + 8) = _
              exact us) (by
              show upd (upd M1 (128 + 11 + n) (nI (tkV B l p))) 136 (nI (n + 1)) (128 + (11 + n)) = _
              rw [un (by omega), show 128 + (11 + n) = 128 + 11 + n by omega, us])) (hv.add (V := tkV B l p) (by omega) (by omega) (fun z hz z8 zn => by
              show N1 (2520 + z) = N (2520 + z)
              rw [b2 _ (by omega) (by omega) (by omega) (by omega), un (by omega), un (by omega)]) (by
              show N1 (2520 + 8) = _
              rw [b2 _ (by omega) (by omega) (by omega) (by omega)]
              exact us) (by
              show N1 (2520 + (11 + n)) = _
              rw [b2 _ (by omega) (by omega) (by omega) (by omega), un (by omega), us, hN18, hV]))
            refine this.pre (hKR.d.w.tr (fun z hz => kM z (by omega))) (fun z hz => ?_)
            rw [b2 z (fun e => hz (by unfold rm; omega)) (fun e => hz (by unfold rm; omega)) (fun e => hz (by unfold rm; omega)) (fun e => hz (by unfold rm; omega)), hNk z (by omega)]
          · rw [if_neg q2, if_neg q2]; exact er 2
        · rw [if_neg q, if_neg q]; exact er 1
    unfold fb_X3_readFog_c2 fb_X7_setupText_c107
    rw [if_neg (show ¬ (12 : Int32) < nI n from fun g => by
      have := (nI_ltI (a := 12) (by omega) (by omega)).mp g
      omega), bd_s k0, k4, e28, hx.2.1]
    simp only [t2, s2, n0, n0']
    by_cases q0 : n = 0
    · simp only [if_pos q0, ite_self]
      exact both
    · simp only [if_neg q0]
      by_cases q : tK B l p = 2
      · rw [if_pos q, if_pos q]
        obtain ⟨N1, b0, b1, b2⟩ := m_next (p := tE B l p) h2 hx.1 (tE_b hpl).2
        have kn : KM N N1 := fun z hz => b2 z (fun e => hz (by unfold rm; omega)) (fun e => hz (by unfold rm; omega)) (fun e => hz (by unfold rm; omega)) (fun e => hz (by unfold rm; omega))
        rw [bd_s b0]
        refine Or.inr ⟨M1, N1, tE B l p, n, f, by omega, by omega, rfl, rfl, hKR.d.w, kn.x, ⟨h1.kr hKR, h2.km kn, k3, b1, (tE_b hpl).2, ?_, ?_, ?_⟩, HS_cong hu (by omega) (fun z hz => win_KR hKR hz), HS_cong hv (by omega) (fun z hz => win_KM kn hz)⟩
        · rw [kz _ (by omega) (by omega) (by omega) (by omega)]; exact e0
        · rw [b2 _ (by omega) (by omega) (by omega) (by omega)]; exact e1
        · rw [kz _ (by omega) (by omega) (by omega) (by omega), b2 _ (by omega) (by omega) (by omega) (by omega)]; exact e2
      · rw [if_neg q, if_neg q]
        exact both
end
