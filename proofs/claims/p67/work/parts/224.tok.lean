/-! a token read, on either side -/
section
variable {l : Nat} {B : Nat → Nat} {M N : xM}
theorem c_tok {p s : Nat} (h : CT l B M) (hp : M 1783 = nI p) (hpl : p ≤ l) (hs : SK B (l - p) p = s) :
    ∃ M', f_X3_readToken M = some M' ∧ M' 1783 = nI (tke B l s) ∧ M' 1784 = nI (ckn (tkk B l s)) ∧ M' 1785 = nI s ∧ (tkk B l s = 1 → M' 1786 = nI (CN B (l - s) s 0)) ∧ ∀ z, z ≠ 1783 → z ≠ 1784 → z ≠ 1785 → z ≠ 1786 → M' z = M z := by
  have hl := h.2.1
  have hsb := SK_b B (l - p) p
  rw [hs] at hsb
  have h0 : f_X3_readToken M = f_X3_readToken_c50 (upd M 1783 (nI s)) := by
    have := c_skip h (l - p) p FU (by omega) (FU_e _ (by omega))
    rw [usame hp, hs] at this
    exact this
  rw [h0]
  have hT : CT l B (upd (upd M 1783 (nI s)) 1785 (nI s)) := h.keep (fun z hz => by rw [un (by omega), un (by omega)])
  have hT3 : upd (upd M 1783 (nI s)) 1785 (nI s) 1783 = nI s := by rw [un (by omega), us]
  have hT5 : upd (upd M 1783 (nI s)) 1785 (nI s) 1785 = nI s := us
  have hTz : ∀ z, z ≠ 1783 → z ≠ 1785 → upd (upd M 1783 (nI s)) 1785 (nI s) z = M z := fun z a b => by rw [un b, un a]
  unfold f_X3_readToken_c50
  rw [us]
  generalize upd (upd M 1783 (nI s)) 1785 (nI s) = T at hT hT3 hT5 hTz ⊢
  rw [hT3, hT.1]
  by_cases q : s = l
  · rw [if_neg (nI_nlt (by omega) (by omega))]
    refine ⟨_, rfl, ?_, ?_, ?_, fun e => ?_, fun z a b c d => ?_⟩
    · rw [un (by omega), hT3]; unfold tke; rw [if_pos q, q]
    · rw [us]; unfold tkk; rw [if_pos q]; rfl
    · rw [un (by omega), hT5]
    · unfold tkk at e; rw [if_pos q] at e; omega
    · rw [un b, hTz z a c]
  · have hsl : s < l := by omega
    have hx := (h.2.2 s hsl).1
    have eL := byLt ⟨B s, hx⟩
    have eD := byDg ⟨B s, hx⟩
    obtain ⟨-, -, e59⟩ := bySp ⟨B s, hx⟩
    rw [if_pos (nI_lt hsl (by omega)), bd2_s (c_at hT hsl)]
    simp only [eL, bd2]
    by_cases qL : isL (B s) = true
    · rw [if_pos qL, if_neg (by decide)]
      have hW : CT l B (upd T 1784 1) := hT.keep (fun z hz => un (by omega))
      have hw := c_word hW (l - s) s FU (by omega) (FU_e _ (by omega))
      rw [usame (show upd T 1784 1 1783 = nI s by rw [un (by omega), hT3])] at hw
      refine ⟨_, hw, ?_, ?_, ?_, fun e => ?_, fun z a b c d => ?_⟩
      · rw [us]; unfold tke; rw [if_neg q, if_pos qL]
      · rw [un (by omega), us]; unfold tkk; rw [if_neg q, if_pos qL]; rfl
      · rw [un (by omega), un (by omega), hT5]
      · unfold tkk at e; rw [if_neg q, if_pos qL] at e; omega
      · rw [un a, un b, hTz z a c]
    · rw [if_neg qL, if_pos rfl, hT3]
      simp only [c_at hT hsl, eD]
      by_cases qD : isD (B s) = true
      · rw [if_pos qD, if_neg (by decide)]
        have hW : CT l B (upd T 1784 2) := hT.keep (fun z hz => un (by omega))
        have hw := c_digits hW (l - s) s FU 0 (by omega) (FU_e _ (by omega)) (by omega)
        rw [usame (show upd T 1784 2 1783 = nI s by rw [un (by omega), hT3])] at hw
        have hr : f_X3_readDigits (upd T 1784 2) = _ := hw
        refine ⟨_, by rw [bd_s hr], ?_, ?_, ?_, fun e => ?_, fun z a b c d => ?_⟩
        · rw [un (by omega), us]; unfold tke; rw [if_neg q, if_neg qL, if_pos qD]
        · rw [un (by omega), un (by omega), us]; unfold tkk; rw [if_neg q, if_neg qL, if_pos qD]; rfl
        · rw [un (by omega), un (by omega), un (by omega), hT5]
        · rw [us]
        · rw [un d, un a, un b, hTz z a c]
      · rw [if_neg qD, if_pos rfl, hT3]
        simp only [c_at hT hsl, e59]
        unfold f_X3_readToken_c179
        by_cases q9 : B s = 59
        · rw [if_pos q9]
          refine ⟨_, rfl, ?_, ?_, ?_, fun e => ?_, fun z a b c d => ?_⟩
          · rw [us, un (by omega), hT3, nI_1]; unfold tke; rw [if_neg q, if_neg qL, if_neg qD]
          · rw [un (by omega), us]; unfold tkk; rw [if_neg q, if_neg qL, if_neg qD, if_pos q9]; rfl
          · rw [un (by omega), un (by omega), hT5]
          · unfold tkk at e; rw [if_neg q, if_neg qL, if_neg qD, if_pos q9] at e; omega
          · rw [un a, un b, hTz z a c]
        · rw [if_neg q9]
          refine ⟨_, rfl, ?_, ?_, ?_, fun e => ?_, fun z a b c d => ?_⟩
          · rw [us, un (by omega), hT3, nI_1]; unfold tke; rw [if_neg q, if_neg qL, if_neg qD]
          · rw [un (by omega), us]; unfold tkk; rw [if_neg q, if_neg qL, if_neg qD, if_neg q9]; rfl
          · rw [un (by omega), un (by omega), hT5]
          · unfold tkk at e; rw [if_neg q, if_neg qL, if_neg qD, if_neg q9] at e; omega
          · rw [un a, un b, hTz z a c]
theorem tok_nrel {s : Nat} (h : tkk B l s = 1) (hsl : s ≤ l) : nrel (CN B (l - s) s 0) (MN B (l - (s + 1)) (s + 1) (B s - 48)) := by
  unfold tkk at h
  split at h
  · omega
  · rename_i q
    split at h
    · omega
    · split at h
      · rename_i qD
        have hd : 48 ≤ B s ∧ B s ≤ 57 := of_decide_eq_true qD
        obtain ⟨k, hk⟩ : ∃ k, l - s = k + 1 := ⟨l - s - 1, by omega⟩
        rw [hk, show l - (s + 1) = k by omega]
        show nrel (if isD (B s) = true then CN B k (s + 1) (if 0 < 100000 then 0 * 10 + B s - 48 else 0) else 0) _
        rw [if_pos qD, if_pos (by omega)]
        exact CN_MN B k (s + 1) _ _ ⟨by omega, by omega, Or.inl (by omega)⟩
      · split at h <;> omega
end

