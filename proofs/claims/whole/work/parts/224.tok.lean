/-! a token read, on either side -/
section
variable {l : Nat} {B : Nat → Nat} {M N : xM}
theorem c_tok {p s : Nat} (h : CT l B M) (hp : M 1783 = nI p) (hpl : p ≤ l) (hs : SK B (l - p) p = s) :
    ∃ M', f_X3_readToken M = some M' ∧ M' 1783 = nI (tke B l s) ∧ M' 1784 = nI (ckn (tkk B l s)) ∧ M' 1785 = nI s ∧ (tkk B l s = 1 → M' 1786 = nI (CN B (l - s) s 0)) ∧ ∀ z, z ≠ 1783 → z ≠ 1784 → z ≠ 1785 → z ≠ 1786 → M' z = M z := by
  have hl := h.2.1
  have hsb := SK_b B (l - p) p
  rw [hs] at hsb
  have h0 : f_X3_readToken M = f_X3_readToken_c50 (upd M 1783 (nI s)) := by
    have := c_skip h (l - p) p FU (by omega) (FU_e _ (by omega))
    rw [usame hp, hs] at this
    exact this
  rw [h0]
  have hT : CT l B (upd (upd M 1783 (nI s)) 1785 (nI s)) := h.keep (fun z hz => by rw [un (by omega), un (by omega)])
  have hT3 : upd (upd M 1783 (nI s)) 1785 (nI s) 1783 = nI s := by rw [un (by omega), us]
  have hT5 : upd (upd M 1783 (nI s)) 1785 (nI s) 1785 = nI s := us
  have hTz : ∀ z, z ≠ 1783 → z ≠ 1785 → upd (upd M 1783 (nI s)) 1785 (nI s) z = M z := fun z a b => by rw [un b, un a]
  unfold f_X3_readToken_c50
  rw [us]
  generalize upd (upd M 1783 (nI s)) 1785 (nI s) = T at hT hT3 hT5 hTz ⊢
  rw [hT3, hT.1]
  by_cases q : s = l
  · rw [if_neg (nI_nlt (by omega) (by omega))]
    refine ⟨_, rfl, ?_, ?_, ?_, fun e => ?_, fun z a b c d => ?_⟩
    · rw [un (by omega), hT3]; unfold tke; rw [if_pos q, q]
    · rw [us]; unfold tkk; rw [if_pos q]; rfl
    · rw [un (by omega), hT5]
    · unfold tkk at e; rw [if_pos q] at e; omega
    · rw [un b, hTz z a c]
  · have hsl : s < l := by omega
    have hx := (h.2.2 s hsl).1
    have eL := byLt ⟨B s, hx⟩
    have eD := byDg ⟨B s, hx⟩
    obtain ⟨-, -, e59⟩ := bySp ⟨B s, hx⟩
    rw [if_pos (nI_lt hsl (by omega)), bd2_s (c_at hT hsl)]
    simp only [eL, bd2]
    by_cases qL : isL (B s) = true
    · rw [if_pos qL, if_neg (by decide)]
      have hW : CT l B (upd T 1784 1) := hT.keep (fun z hz => un (by omega))
      have hw := c_word hW (l - s) s FU (by omega) (FU_e _ (by omega))
      rw [usame (show upd T 1784 1 1783 = nI s by rw [un (by omega), hT3])] at hw
      refine ⟨_, hw, ?_, ?_, ?_, fun e => ?_, fun z a b c d => ?_⟩
      · rw [us]; unfold tke; rw [if_neg q, if_pos qL]
      · rw [un (by omega), us]; unfold tkk; rw [if_neg q, if_pos qL]; rfl
      · rw [un (by omega), un (by omega), hT5]
      · unfold tkk at e; rw [if_neg q, if_pos qL] at e; omega
      · rw [un a, un b, hTz z a c]
    · rw [if_neg qL, if_pos rfl, hT3]
      simp only [c_at hT hsl, eD]
      by_cases qD : isD (B s) = true
      · rw [if_pos qD, if_neg (by decide)]
        have hW : CT l B (upd T 1784 2) := hT.keep (fun z hz => un (by omega))
        have hw := c_digits hW (l - s) s FU 0 (by omega) (FU_e _ (by omega)) (by omega)
        rw [usame (show upd T 1784 2 1783 = nI s by rw [un (by omega), hT3])] at hw
        have hr : f_X3_readDigits (upd T 1784 2) = _ := hw
        refine ⟨_, by rw [bd_s hr], ?_, ?_, ?_, fun e => ?_, fun z a b c d => ?_⟩
        · rw [un (by omega), us]; unfold tke; rw [if_neg q, if_neg qL, if_pos qD]
        · rw [un (by omega), un (by omega), us]; unfold tkk; rw [if_neg q, if_neg qL, if_pos qD]; rfl
        · rw [un (by omega), un (by omega), un (by omega), hT5]
        · rw [us]
        · rw [un d, un a, un b, hTz z a c]
      · rw [if_neg qD, if_pos rfl, hT3]
        simp only [c_at hT hsl, e59]
        unfold f_X3_readToken_c179
        by_cases q9 : B s = 59
        · rw [if_pos q9]
          refine ⟨_, rfl, ?_, ?_, ?_, fun e => ?_, fun z a b c d => ?_⟩
          · rw [us, un (by omega), hT3, nI_1]; unfold tke; rw [if_neg q, if_neg qL, if_neg qD]
          · rw [un (by omega), us]; unfold tkk; rw [if_neg q, if_neg qL, if_neg qD, if_pos q9]; rfl
          · rw [un (by omega), un (by omega), hT5]
          · unfold tkk at e; rw [if_neg q, if_neg qL, if_neg qD, if_pos q9] at e; omega
          · rw [un a, un b, hTz z a c]
        · rw [if_neg q9]
          refine ⟨_, rfl, ?_, ?_, ?_, fun e => ?_, fun z a b c d => ?_⟩
          · rw [us, un (by omega), hT3, nI_1]; unfold tke; rw [if_neg q, if_neg qL, if_neg qD]
          · rw [un (by omega), us]; unfold tkk; rw [if_neg q, if_neg qL, if_neg qD, if_neg q9]; rfl
          · rw [un (by omega), un (by omega), hT5]
          · unfold tkk at e; rw [if_neg q, if_neg qL, if_neg qD, if_neg q9] at e; omega
          · rw [un a, un b, hTz z a c]
theorem m_skip (h : MT l B N) : ∀ (k p n : Nat), p + k = l → k < n → lp (fun _ => none) (fun k => fb_X7_next_c0 k) n (upd N 2515 (nI p)) = f_X7_next_c52 (upd N 2515 (nI (SK B k p)))
  | 0, p, n + 1, hp, hn => by
    have hl := h.2.1
    rw [lp_s]
    unfold fb_X7_next_c0
    rw [un (by omega), us, h.1, if_pos (nI_le (by omega) (by omega))]
    rfl
  | k + 1, p, n + 1, hp, hn => by
    have hl := h.2.1
    have ih := m_skip h k (p + 1) n (by omega) (by omega)
    have hx := (h.2.2 p (by omega)).1
    have hc : upd N 2515 (nI p) (4252 + p) = nI (B p) := by rw [un (by omega), (h.2.2 p (by omega)).2]
    have e1 : (nI (B p) = 32) = (B p = 32) := propext (nI_eq (b := 32) (by omega) (by omega))
    have e2 : (nI (B p) = 10) = (B p = 10) := propext (nI_eq (b := 10) (by omega) (by omega))
    rw [lp_s]
    generalize lp (fun _ => none) (fun k => fb_X7_next_c0 k) n = K at ih ⊢
    show _ = f_X7_next_c52 (upd N 2515 (nI (if isSp (B p) = true then SK B k (p + 1) else p)))
    unfold fb_X7_next_c0 f_X7_next_c39
    rw [us, un (by omega), h.1, if_neg (nI_ge (by omega) (by omega)), gd_t (inb_nI (by omega) (by omega)), cl (by omega), hc, gd_t (inb_nI (by omega) (by omega))]
    simp only [e1, e2]
    rw [utwice, nI_1]
    unfold isSp
    by_cases q : B p = 32
    · rw [if_pos q, if_pos (decide_eq_true (Or.inl q))]; exact ih
    · rw [if_neg q]
      by_cases q2 : B p = 10
      · rw [if_pos q2, if_pos (decide_eq_true (Or.inr q2))]; exact ih
      · rw [if_neg q2, if_neg (by rw [decide_eq_true_eq]; omega)]
theorem m_word (h : MT l B N) : ∀ (k p n : Nat), p + k = l → k < n → lp (fun _ => none) (fun k => fb_X7_next_c109 k) n (upd N 2515 (nI p)) = some (upd N 2515 (nI (WE B k p)))
  | 0, p, n + 1, hp, hn => by
    have hl := h.2.1
    rw [lp_s]
    unfold fb_X7_next_c109
    rw [un (by omega), us, h.1, if_pos (nI_le (by omega) (by omega))]
    rfl
  | k + 1, p, n + 1, hp, hn => by
    have hl := h.2.1
    have ih := m_word h k (p + 1) n (by omega) (by omega)
    have hx := (h.2.2 p (by omega)).1
    have hc : upd N 2515 (nI p) (4252 + p) = nI (B p) := by rw [un (by omega), (h.2.2 p (by omega)).2]
    rw [lp_s]
    generalize lp (fun _ => none) (fun k => fb_X7_next_c109 k) n = K at ih ⊢
    show _ = some (upd N 2515 (nI (if isL (B p) = true then WE B k (p + 1) else p)))
    unfold fb_X7_next_c109
    rw [us, un (by omega), h.1, if_neg (nI_ge (by omega) (by omega)), gd_t (inb_nI (by omega) (by omega)), cl (by omega), hc, bd2_s (m_isL hx _)]
    by_cases q : isL (B p) = true
    · rw [if_pos q, if_pos q, if_neg (by decide), us, utwice, nI_1]; exact ih
    · rw [if_neg q, if_neg q, if_pos rfl]
theorem m_digits (h : MT l B N) : ∀ (k p n c : Nat), p + k = l → k < n → c ≤ 99999 → lp (fun _ => none) (fun k => fb_X7_next_c168 k) n (upd (upd N 2515 (nI p)) 2518 (nI c)) = some (upd (upd N 2515 (nI (DE B k p))) 2518 (nI (MN B k p c)))
  | 0, p, n + 1, c, hp, hn, hc => by
    have hl := h.2.1
    rw [lp_s]
    unfold fb_X7_next_c168
    rw [un (by omega), un (by omega), un (by omega), us, h.1, if_pos (nI_le (by omega) (by omega))]
    rfl
  | k + 1, p, n + 1, c, hp, hn, hc => by
    have hl := h.2.1
    have hx := (h.2.2 p (by omega)).1
    have hcc : upd (upd N 2515 (nI p)) 2518 (nI c) (4252 + p) = nI (B p) := by rw [un (by omega), un (by omega), (h.2.2 p (by omega)).2]
    rw [lp_s]
    have i1 := m_digits h k (p + 1) n 99999 (by omega) (by omega) (by omega)
    have i2 := m_digits h k (p + 1) n (10 * c + B p - 48) (by omega) (by omega)
    generalize lp (fun _ => none) (fun k => fb_X7_next_c168 k) n = K at i1 i2 ⊢
    show _ = some (upd (upd N 2515 (nI (if isD (B p) = true then DE B k (p + 1) else p))) 2518 (nI (if isD (B p) = true then MN B k (p + 1) (if 9999 < c then 99999 else 10 * c + B p - 48) else c)))
    unfold fb_X7_next_c168 f_X7_next_c230
    rw [un (k := 2518) (j := 2515) (by omega), us, un (by omega), un (by omega), h.1, if_neg (nI_ge (by omega) (by omega)), gd_t (inb_nI (by omega) (by omega)), cl (by omega), hcc, bd2_s (m_isD hx _)]
    by_cases q : isD (B p) = true
    · have hd : 48 ≤ B p ∧ B p ≤ 57 := of_decide_eq_true q
      rw [if_pos q, if_pos q, if_pos q, if_neg (by decide)]
      by_cases q2 : c ≤ 9999
      · rw [if_pos (show upd (upd N 2515 (nI p)) 2518 (nI c) 2518 ≤ (9999 : Int32) from by rw [us]; exact nI_le (b := 9999) q2 (by omega)), if_neg (by omega)]
        rw [un (k := 2518) (j := 2515) (by omega), us, gd_t (inb_nI (by omega) (by omega)), cl (by omega), us, hcc]
        have en : 10 * nI c + nI (B p) - 48 = nI (10 * c + B p - 48) := by
          rw [show (10 : Int32) = nI 10 from rfl, pk_mul, nI_add, show (48 : Int32) = nI 48 from rfl, pk_sub (by omega)]
        rw [en, utwice, un (k := 2518) (j := 2515) (by omega), us, usw (upd N 2515 (nI p)) (i := 2518) (j := 2515) (by omega), utwice, nI_1]
        exact i2 (by omega)
      · rw [if_neg (show ¬ upd (upd N 2515 (nI p)) 2518 (nI c) 2518 ≤ (9999 : Int32) from by rw [us]; exact nI_ge (a := 9999) (by omega) (by omega)), if_pos (by omega)]
        rw [utwice, un (k := 2518) (j := 2515) (by omega), us, usw (upd N 2515 (nI p)) (i := 2518) (j := 2515) (by omega), utwice, nI_1]
        exact i1
    · rw [if_neg q, if_neg q, if_neg q, if_pos rfl]
theorem m_tok {p s : Nat} (h : MT l B N) (hp : N 2515 = nI p) (hpl : p ≤ l) (hs : SK B (l - p) p = s) :
    ∃ N', f_X7_next N = some N' ∧ N' 2515 = nI (tke B l s) ∧ N' 2516 = nI (tkk B l s) ∧ N' 2517 = nI s ∧ (tkk B l s = 1 → N' 2518 = nI (MN B (l - (s + 1)) (s + 1) (B s - 48))) ∧ ∀ z, z ≠ 2515 → z ≠ 2516 → z ≠ 2517 → z ≠ 2518 → N' z = N z := by
  have hl := h.2.1
  have hsb := SK_b B (l - p) p
  rw [hs] at hsb
  have h0 : f_X7_next N = f_X7_next_c52 (upd N 2515 (nI s)) := by
    have := m_skip h (l - p) p FU (by omega) (FU_e _ (by omega))
    rw [usame hp, hs] at this
    exact this
  rw [h0]
  have hT : MT l B (upd (upd N 2515 (nI s)) 2517 (nI s)) := h.keep (fun z hz => by rw [un (by omega), un (by omega)])
  have hT3 : upd (upd N 2515 (nI s)) 2517 (nI s) 2515 = nI s := by rw [un (by omega), us]
  have hT5 : upd (upd N 2515 (nI s)) 2517 (nI s) 2517 = nI s := us
  have hTz : ∀ z, z ≠ 2515 → z ≠ 2517 → upd (upd N 2515 (nI s)) 2517 (nI s) z = N z := fun z a b => by rw [un b, un a]
  unfold f_X7_next_c52
  rw [us]
  generalize upd (upd N 2515 (nI s)) 2517 (nI s) = T at hT hT3 hT5 hTz ⊢
  rw [hT3, hT.1]
  by_cases q : s = l
  · rw [if_pos (by rw [q])]
    refine ⟨_, rfl, ?_, ?_, ?_, fun e => ?_, fun z a b c d => ?_⟩
    · rw [un (by omega), hT3]; unfold tke; rw [if_pos q, q]
    · rw [us]; unfold tkk; rw [if_pos q]; rfl
    · rw [un (by omega), hT5]
    · unfold tkk at e; rw [if_pos q] at e; omega
    · rw [un b, hTz z a c]
  · have hsl : s < l := by omega
    have hx := (h.2.2 s hsl).1
    have e59 : (nI (B s) = 59) = (B s = 59) := propext (nI_eq (b := 59) (by omega) (by omega))
    obtain ⟨k, hk⟩ : ∃ k, l - s = k + 1 := ⟨l - s - 1, by omega⟩
    have hk2 : l - (s + 1) = k := by omega
    rw [if_neg (fun e => q ((nI_eq (by omega) (by omega)).mp e)), gd_t (inb_nI (by omega) (by omega)), cl (by omega), (hT.2.2 s hsl).2, bd2_s (m_isL hx _), nI_1]
    by_cases qL : isL (B s) = true
    · rw [if_pos qL, if_neg (by decide)]
      have hW : MT l B (upd (upd T 2515 (nI (s + 1))) 2516 0) := hT.keep (fun z hz => by rw [un (by omega), un (by omega)])
      have hw := m_word hW k (s + 1) FU (by omega) (FU_e _ (by omega))
      rw [usame (show upd (upd T 2515 (nI (s + 1))) 2516 0 2515 = nI (s + 1) by rw [un (by omega), us])] at hw
      refine ⟨_, hw, ?_, ?_, ?_, fun e => ?_, fun z a b c d => ?_⟩
      · rw [us]; unfold tke; rw [if_neg q, if_pos qL, hk]
        show _ = nI (if isL (B s) = true then WE B k (s + 1) else s)
        rw [if_pos qL]
      · rw [un (by omega), us]; unfold tkk; rw [if_neg q, if_pos qL]; rfl
      · rw [un (by omega), un (by omega), un (by omega), hT5]
      · unfold tkk at e; rw [if_neg q, if_pos qL] at e; omega
      · rw [un a, un b, un a, hTz z a c]
    · rw [if_neg qL, if_pos rfl, bd2_s (m_isD hx _)]
      by_cases qD : isD (B s) = true
      · have hd : 48 ≤ B s ∧ B s ≤ 57 := of_decide_eq_true qD
        rw [if_pos qD, if_neg (by decide)]
        have hW : MT l B (upd (upd T 2515 (nI (s + 1))) 2516 1) := hT.keep (fun z hz => by rw [un (by omega), un (by omega)])
        have hw := m_digits hW k (s + 1) FU (B s - 48) (by omega) (FU_e _ (by omega)) (by omega)
        rw [usame (show upd (upd T 2515 (nI (s + 1))) 2516 1 2515 = nI (s + 1) by rw [un (by omega), us])] at hw
        rw [show nI (B s) - 48 = nI (B s - 48) from pk_sub (b := 48) hd.1]
        refine ⟨_, hw, ?_, ?_, ?_, fun e => ?_, fun z a b c d => ?_⟩
        · rw [un (by omega), us]; unfold tke; rw [if_neg q, if_neg qL, if_pos qD, hk]
          show _ = nI (if isD (B s) = true then DE B k (s + 1) else s)
          rw [if_pos qD]
        · rw [un (by omega), un (by omega), us]; unfold tkk; rw [if_neg q, if_neg qL, if_pos qD]; rfl
        · rw [un (by omega), un (by omega), un (by omega), un (by omega), hT5]
        · rw [us, hk2]
        · rw [un d, un a, un b, un a, hTz z a c]
      · rw [if_neg qD, if_pos rfl]
        simp only [e59]
        by_cases q9 : B s = 59
        · rw [if_pos q9]
          refine ⟨_, rfl, ?_, ?_, ?_, fun e => ?_, fun z a b c d => ?_⟩
          · rw [un (by omega), us]; unfold tke; rw [if_neg q, if_neg qL, if_neg qD]
          · rw [us]; unfold tkk; rw [if_neg q, if_neg qL, if_neg qD, if_pos q9]; rfl
          · rw [un (by omega), un (by omega), hT5]
          · unfold tkk at e; rw [if_neg q, if_neg qL, if_neg qD, if_pos q9] at e; omega
          · rw [un b, un a, hTz z a c]
        · rw [if_neg q9]
          refine ⟨_, rfl, ?_, ?_, ?_, fun e => ?_, fun z a b c d => ?_⟩
          · rw [un (by omega), us]; unfold tke; rw [if_neg q, if_neg qL, if_neg qD]
          · rw [us]; unfold tkk; rw [if_neg q, if_neg qL, if_neg qD, if_neg q9]; rfl
          · rw [un (by omega), un (by omega), hT5]
          · unfold tkk at e; rw [if_neg q, if_neg qL, if_neg qD, if_neg q9] at e; omega
          · rw [un b, un a, hTz z a c]
theorem tok_nrel {s : Nat} (h : tkk B l s = 1) (hsl : s ≤ l) : nrel (CN B (l - s) s 0) (MN B (l - (s + 1)) (s + 1) (B s - 48)) := by
  unfold tkk at h
  split at h
  · omega
  · rename_i q
    split at h
    · omega
    · split at h
      · rename_i qD
        have hd : 48 ≤ B s ∧ B s ≤ 57 := of_decide_eq_true qD
        obtain ⟨k, hk⟩ : ∃ k, l - s = k + 1 := ⟨l - s - 1, by omega⟩
        rw [hk, show l - (s + 1) = k by omega]
        show nrel (if isD (B s) = true then CN B k (s + 1) (if 0 < 100000 then 0 * 10 + B s - 48 else 0) else 0) _
        rw [if_pos qD, if_pos (by omega)]
        exact CN_MN B k (s + 1) _ _ ⟨by omega, by omega, Or.inl (by omega)⟩
      · split at h <;> omega
end
