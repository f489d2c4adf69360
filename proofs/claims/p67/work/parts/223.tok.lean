/-! tokens -/
def isSp (x : Nat) : Bool := decide (x = 32 ∨ x = 10)
def isL (x : Nat) : Bool := decide (97 ≤ x ∧ x ≤ 122)
def isD (x : Nat) : Bool := decide (48 ≤ x ∧ x ≤ 57)
def SK (B : Nat → Nat) : Nat → Nat → Nat
  | 0, p => p
  | k + 1, p => if isSp (B p) = true then SK B k (p + 1) else p
def WE (B : Nat → Nat) : Nat → Nat → Nat
  | 0, p => p
  | k + 1, p => if isL (B p) = true then WE B k (p + 1) else p
def DE (B : Nat → Nat) : Nat → Nat → Nat
  | 0, p => p
  | k + 1, p => if isD (B p) = true then DE B k (p + 1) else p
def CN (B : Nat → Nat) : Nat → Nat → Nat → Nat
  | 0, _, c => c
  | k + 1, p, c => if isD (B p) = true then CN B k (p + 1) (if c < 100000 then c * 10 + B p - 48 else c) else c
def MN (B : Nat → Nat) : Nat → Nat → Nat → Nat
  | 0, _, c => c
  | k + 1, p, c => if isD (B p) = true then MN B k (p + 1) (if 9999 < c then 99999 else 10 * c + B p - 48) else c
/-- the token at s: its kind (0 word, 1 number, 2 semicolon, 3 other, 4 end) and its end -/
def tkk (B : Nat → Nat) (l s : Nat) : Nat := if s = l then 4 else if isL (B s) = true then 0 else if isD (B s) = true then 1 else if B s = 59 then 2 else 3
def tke (B : Nat → Nat) (l s : Nat) : Nat := if s = l then l else if isL (B s) = true then WE B (l - s) s else if isD (B s) = true then DE B (l - s) s else s + 1
def ckn (k : Nat) : Nat := (k + 1) % 5
theorem SK_b (B : Nat → Nat) : ∀ k p, p ≤ SK B k p ∧ SK B k p ≤ p + k
  | 0, p => ⟨Nat.le_refl _, Nat.le_refl _⟩
  | k + 1, p => by
    have := SK_b B k (p + 1)
    show p ≤ (if isSp (B p) = true then SK B k (p + 1) else p) ∧ (if isSp (B p) = true then SK B k (p + 1) else p) ≤ p + (k + 1)
    split <;> omega
theorem WE_b (B : Nat → Nat) : ∀ k p, p ≤ WE B k p ∧ WE B k p ≤ p + k
  | 0, p => ⟨Nat.le_refl _, Nat.le_refl _⟩
  | k + 1, p => by
    have := WE_b B k (p + 1)
    show p ≤ (if isL (B p) = true then WE B k (p + 1) else p) ∧ (if isL (B p) = true then WE B k (p + 1) else p) ≤ p + (k + 1)
    split <;> omega
theorem DE_b (B : Nat → Nat) : ∀ k p, p ≤ DE B k p ∧ DE B k p ≤ p + k
  | 0, p => ⟨Nat.le_refl _, Nat.le_refl _⟩
  | k + 1, p => by
    have := DE_b B k (p + 1)
    show p ≤ (if isD (B p) = true then DE B k (p + 1) else p) ∧ (if isD (B p) = true then DE B k (p + 1) else p) ≤ p + (k + 1)
    split <;> omega
theorem tke_b {B : Nat → Nat} {l s : Nat} (h : s ≤ l) : s ≤ tke B l s ∧ tke B l s ≤ l := by
  have h1 := WE_b B (l - s) s
  have h2 := DE_b B (l - s) s
  unfold tke
  repeat' split
  all_goals omega
theorem tke_lt {B : Nat → Nat} {l s : Nat} (h : s < l) : s < tke B l s := by
  unfold tke
  rw [if_neg (by omega)]
  obtain ⟨k, hk⟩ : ∃ k, l - s = k + 1 := ⟨l - s - 1, by omega⟩
  rw [hk]
  split
  · rename_i q
    show s < (if isL (B s) = true then WE B k (s + 1) else s)
    rw [if_pos q]
    exact (WE_b B k (s + 1)).1
  · split
    · rename_i q
      show s < (if isD (B s) = true then DE B k (s + 1) else s)
      rw [if_pos q]
      exact (DE_b B k (s + 1)).1
    · omega
/-- numbers: alike where a range can be -/
def nrel (c m : Nat) : Prop := c < 1000000 ∧ m ≤ 99999 ∧ (c = m ∨ (10000 ≤ c ∧ 10000 ≤ m))
theorem CN_MN (B : Nat → Nat) : ∀ k p c m, nrel c m → nrel (CN B k p c) (MN B k p m)
  | 0, _, _, _, h => h
  | k + 1, p, c, m, h => by
    show nrel (if isD (B p) = true then CN B k (p + 1) (if c < 100000 then c * 10 + B p - 48 else c) else c) (if isD (B p) = true then MN B k (p + 1) (if 9999 < m then 99999 else 10 * m + B p - 48) else m)
    by_cases q : isD (B p) = true
    · rw [if_pos q, if_pos q]
      refine CN_MN B k (p + 1) _ _ ?_
      have hd : 48 ≤ B p ∧ B p ≤ 57 := of_decide_eq_true q
      unfold nrel at h ⊢
      split <;> split <;> omega
    · rw [if_neg q, if_neg q]; exact h
/-! bytes as the two sides see them -/
theorem bySp : ∀ x : Fin 256, (nb8 (nI x.val) = 32) = (x.val = 32) ∧ (nb8 (nI x.val) = 10) = (x.val = 10) ∧ (nb8 (nI x.val) = 59) = (x.val = 59) := by
  have : ∀ x : Fin 256, decide (nb8 (nI x.val) = 32) = decide (x.val = 32) ∧ decide (nb8 (nI x.val) = 10) = decide (x.val = 10) ∧ decide (nb8 (nI x.val) = 59) = decide (x.val = 59) := by decide +kernel
  intro x
  obtain ⟨a, b, c⟩ := this x
  exact ⟨propext (decide_eq_decide.mp a), propext (decide_eq_decide.mp b), propext (decide_eq_decide.mp c)⟩
theorem byLt : ∀ x : Fin 256, f_X3_isLetter (nb8 (nI x.val)) = (fun M => some (if isL x.val = true then 1 else 0, M)) := by
  have : ∀ x : Fin 256, (if nb8 (nI x.val) < 97 then (0 : Int32) else if 122 < nb8 (nI x.val) then 0 else 1) = (if isL x.val = true then 1 else 0) := by decide +kernel
  intro x
  funext M
  have h := this x
  unfold f_X3_isLetter
  rw [← h]
  repeat' split
  all_goals rfl
theorem byDg : ∀ x : Fin 256, f_X3_isDigit (nb8 (nI x.val)) = (fun M => some (if isD x.val = true then 1 else 0, M)) := by
  have : ∀ x : Fin 256, (if nb8 (nI x.val) < 48 then (0 : Int32) else if 57 < nb8 (nI x.val) then 0 else 1) = (if isD x.val = true then 1 else 0) := by decide +kernel
  intro x
  funext M
  have h := this x
  unfold f_X3_isDigit
  rw [← h]
  repeat' split
  all_goals rfl
theorem byDg8 : ∀ x : Fin 256, isD x.val = true → nb8 (nI x.val) = nI x.val := by decide +kernel
def CT (l : Nat) (B : Nat → Nat) (M : xM) : Prop := M 1778 = nI l ∧ l ≤ 700 ∧ ∀ j, j < l → B j < 256 ∧ M (1792 + j) = nb8 (nI (B j))
def MT (l : Nat) (B : Nat → Nat) (N : xM) : Prop := N 2501 = nI l ∧ l ≤ 700 ∧ ∀ j, j < l → B j < 256 ∧ N (4252 + j) = nI (B j)
theorem CT.keep {l : Nat} {B : Nat → Nat} {M M' : xM} (h : CT l B M) (e : ∀ z, z = 1778 ∨ (1792 ≤ z ∧ z < 2492) → M' z = M z) : CT l B M' :=
  ⟨by rw [e _ (by omega)]; exact h.1, h.2.1, fun j hj => by
    have := h.2.1
    rw [e _ (by omega)]; exact h.2.2 j hj⟩
theorem MT.keep {l : Nat} {B : Nat → Nat} {M M' : xM} (h : MT l B M) (e : ∀ z, z = 2501 ∨ (4252 ≤ z ∧ z < 4952) → M' z = M z) : MT l B M' :=
  ⟨by rw [e _ (by omega)]; exact h.1, h.2.1, fun j hj => by
    have := h.2.1
    rw [e _ (by omega)]; exact h.2.2 j hj⟩
section
variable {l : Nat} {B : Nat → Nat} {M N : xM}
theorem c_at (h : CT l B M) {j : Nat} (hj : j < l) : f_X3_byteAt (nI j) M = some (nb8 (nI (B j)), M) := by
  have hl := h.2.1
  unfold f_X3_byteAt
  rw [if_neg (nI_pos (by omega)), h.1, if_neg (nI_ge hj (by omega)), if_neg (show ¬ (700 : Int32) ≤ nI j from nI_ge (a := j) (b := 700) (by omega) (by decide)), gd_t (inb_nI (by omega) (by omega)), cl (by omega), (h.2.2 j hj).2]
theorem c_skip (h : CT l B M) : ∀ (k p n : Nat), p + k = l → k < n → lp (fun _ => none) (fun k => fb_X3_readToken_c0 k) n (upd M 1783 (nI p)) = f_X3_readToken_c50 (upd M 1783 (nI (SK B k p)))
  | 0, p, n + 1, hp, hn => by
    have hl := h.2.1
    rw [lp_s]
    unfold fb_X3_readToken_c0
    rw [un (by omega), us, h.1, if_pos (nI_le (by omega) (by omega))]
    rfl
  | k + 1, p, n + 1, hp, hn => by
    have hl := h.2.1
    have ih := c_skip h k (p + 1) n (by omega) (by omega)
    have hM : CT l B (upd M 1783 (nI p)) := h.keep (fun z hz => un (by omega))
    obtain ⟨e1, e2, -⟩ := bySp ⟨B p, (h.2.2 p (by omega)).1⟩
    rw [lp_s]
    generalize lp (fun _ => none) (fun k => fb_X3_readToken_c0 k) n = K at ih ⊢
    show _ = f_X3_readToken_c50 (upd M 1783 (nI (if isSp (B p) = true then SK B k (p + 1) else p)))
    unfold fb_X3_readToken_c0 f_X3_readToken_c37
    rw [us, un (by omega), h.1, if_neg (nI_ge (by omega) (by omega)), bd2_s (c_at hM (by omega))]
    simp only [e1]
    rw [us, bd2_s (c_at hM (by omega))]
    simp only [e2]
    rw [us, utwice, nI_1]
    unfold isSp
    by_cases q : B p = 32
    · rw [if_pos q, if_pos (decide_eq_true (Or.inl q))]; exact ih
    · rw [if_neg q]
      by_cases q2 : B p = 10
      · rw [if_pos q2, if_pos (decide_eq_true (Or.inr q2))]; exact ih
      · rw [if_neg q2, if_neg (by rw [decide_eq_true_eq]; omega)]
theorem c_word (h : CT l B M) : ∀ (k p n : Nat), p + k = l → k < n → lp (fun _ => none) (fun k => fb_X3_readToken_c96 k) n (upd M 1783 (nI p)) = some (upd M 1783 (nI (WE B k p)))
  | 0, p, n + 1, hp, hn => by
    have hl := h.2.1
    rw [lp_s]
    unfold fb_X3_readToken_c96
    rw [un (by omega), us, h.1, if_pos (nI_le (by omega) (by omega))]
    rfl
  | k + 1, p, n + 1, hp, hn => by
    have hl := h.2.1
    have ih := c_word h k (p + 1) n (by omega) (by omega)
    have hM : CT l B (upd M 1783 (nI p)) := h.keep (fun z hz => un (by omega))
    have e1 := byLt ⟨B p, (h.2.2 p (by omega)).1⟩
    rw [lp_s]
    generalize lp (fun _ => none) (fun k => fb_X3_readToken_c96 k) n = K at ih ⊢
    show _ = some (upd M 1783 (nI (if isL (B p) = true then WE B k (p + 1) else p)))
    unfold fb_X3_readToken_c96
    rw [us, un (by omega), h.1, if_neg (nI_ge (by omega) (by omega)), bd2_s (c_at hM (by omega))]
    simp only [e1, bd2]
    by_cases q : isL (B p) = true
    · rw [if_pos q, if_pos q, if_neg (by decide), us, utwice, nI_1]; exact ih
    · rw [if_neg q, if_neg q, if_pos rfl]
theorem c_digits (h : CT l B M) : ∀ (k p n c : Nat), p + k = l → k < n → c < 1000000 → lp (fun _ => none) (fun k => fb_X3_readDigits_c5 k) n (upd (upd M 1783 (nI p)) 1786 (nI c)) = some (upd (upd M 1783 (nI (DE B k p))) 1786 (nI (CN B k p c)))
  | 0, p, n + 1, c, hp, hn, hc => by
    have hl := h.2.1
    rw [lp_s]
    unfold fb_X3_readDigits_c5
    rw [un (by omega), un (by omega), un (by omega), us, h.1, if_pos (nI_le (by omega) (by omega))]
    rfl
  | k + 1, p, n + 1, c, hp, hn, hc => by
    have hl := h.2.1
    have hM : CT l B (upd (upd M 1783 (nI p)) 1786 (nI c)) := h.keep (fun z hz => by rw [un (by omega), un (by omega)])
    have e1 := byDg ⟨B p, (h.2.2 p (by omega)).1⟩
    rw [lp_s]
    have i1 := c_digits h k (p + 1) n c (by omega) (by omega) hc
    have i2 := c_digits h k (p + 1) n (c * 10 + B p - 48) (by omega) (by omega)
    generalize lp (fun _ => none) (fun k => fb_X3_readDigits_c5 k) n = K at i1 i2 ⊢
    show _ = some (upd (upd M 1783 (nI (if isD (B p) = true then DE B k (p + 1) else p))) 1786 (nI (if isD (B p) = true then CN B k (p + 1) (if c < 100000 then c * 10 + B p - 48 else c) else c)))
    unfold fb_X3_readDigits_c5 f_X3_readDigits_c62
    rw [un (k := 1786) (j := 1783) (by omega), us, un (by omega), un (by omega), h.1, if_neg (nI_ge (by omega) (by omega)), bd2_s (c_at hM (by omega))]
    simp only [e1, bd2]
    by_cases q : isD (B p) = true
    · have hd : 48 ≤ B p ∧ B p ≤ 57 := of_decide_eq_true q
      have e8 := byDg8 ⟨B p, (h.2.2 p (by omega)).1⟩ q
      rw [if_pos q, if_pos q, if_pos q, if_neg (by decide)]
      by_cases q2 : c < 100000
      · rw [if_neg (show ¬ (100000 : Int32) ≤ upd (upd M 1783 (nI p)) 1786 (nI c) 1786 from by rw [us]; exact nI_ge (a := c) (b := 100000) q2 (by decide)), if_pos q2]
        have hat := c_at hM (show p < l by omega)
        rw [un (k := 1786) (j := 1783) (by omega), us, hat]
        simp only []
        rw [e8, un (k := 1786) (j := 1783) (by omega), un (k := 1786) (j := 1783) (by omega), us]
        have en : nI c * 10 + nI (B p) - 48 = nI (c * 10 + B p - 48) := by
          rw [show (10 : Int32) = nI 10 from rfl, pk_mul, nI_add, show (48 : Int32) = nI 48 from rfl, pk_sub (by omega)]
        show K (upd (upd (upd (upd M 1783 (nI p)) 1786 (nI c)) 1786 (nI c * 10 + nI (B p) - 48)) 1783 (nI p + 1)) = _
        rw [en, utwice, usw (upd M 1783 (nI p)) (i := 1786) (j := 1783) (by omega), utwice, nI_1]
        exact i2 (by omega)
      · rw [if_pos (show (100000 : Int32) ≤ upd (upd M 1783 (nI p)) 1786 (nI c) 1786 from by rw [us]; exact nI_le (a := 100000) (by omega) (by omega)), if_neg q2]
        rw [un (k := 1786) (j := 1783) (by omega), us, usw (upd M 1783 (nI p)) (i := 1786) (j := 1783) (by omega), utwice, nI_1]
        exact i1
    · rw [if_neg q, if_neg q, if_neg q, if_pos rfl]
end

