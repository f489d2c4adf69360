/-! tokens of a text that is known byte by byte -/
section
variable {B : Nat → Nat} {l p s x : Nat}
theorem tS0 (h : isSp (B p) = false) : tS B l p = p := by
  unfold tS
  cases l - p with
  | zero => rfl
  | succ k =>
    show (if isSp (B p) = true then SK B k (p + 1) else p) = p
    rw [h]
    rfl
theorem tS1 (h : isSp (B p) = true) (h2 : isSp (B (p + 1)) = false) (hp : p < l) : tS B l p = p + 1 := by
  unfold tS
  obtain ⟨k, hk⟩ : ∃ k, l - p = k + 1 := ⟨l - p - 1, by omega⟩
  rw [hk]
  show (if isSp (B p) = true then SK B k (p + 1) else p) = p + 1
  rw [if_pos h]
  cases k with
  | zero => rfl
  | succ k =>
    show (if isSp (B (p + 1)) = true then SK B k (p + 1 + 1) else p + 1) = p + 1
    rw [h2]
    rfl
theorem SK_all : ∀ k p, (∀ j, p ≤ j → j < p + k → isSp (B j) = true) → SK B k p = p + k
  | 0, p, _ => rfl
  | k + 1, p, h => by
    show (if isSp (B p) = true then SK B k (p + 1) else p) = p + (k + 1)
    rw [if_pos (h p (Nat.le_refl _) (by omega)), SK_all k (p + 1) (fun j h1 h2 => h j (by omega) (by omega))]
    omega
theorem tK_end (hp : p ≤ l) (h : ∀ j, p ≤ j → j < l → B j = 32) : tK B l p = 4 := by
  unfold tK tS
  rw [SK_all (l - p) p (fun j h1 h2 => by rw [h j h1 (by omega)]; rfl), show p + (l - p) = l by omega]
  unfold tkk
  rw [if_pos rfl]
theorem num_at (hx : x < 100) (hB : ∀ j, j < dgN x → B (s + j) = (DL x).getD j 32) (hn : isD (B (s + dgN x)) = false) (hl : s + dgN x < l) : tkk B l s = 1 ∧ tke B l s = s + dgN x ∧ CN B (l - s) s 0 = x ∧ isSp (B s) = false := by
  by_cases h : x < 10
  · have e1 : dgN x = 1 := if_pos h
    have e0 : B s = 48 + x := by
      have := hB 0 (by omega)
      rw [Nat.add_zero] at this
      rw [this]
      unfold DL
      rw [if_pos h]
      rfl
    rw [e1] at hn hl ⊢
    have i1 : isL (B s) = false := by rw [e0]; exact decide_eq_false (by omega)
    have i2 : isD (B s) = true := by rw [e0]; exact decide_eq_true (by omega)
    obtain ⟨k, hk⟩ : ∃ k, l - s = k + 2 := ⟨l - s - 2, by omega⟩
    refine ⟨?_, ?_, ?_, by rw [e0]; exact decide_eq_false (by omega)⟩
    · unfold tkk
      rw [if_neg (by omega), i1, if_neg (by decide), if_pos i2]
    · unfold tke
      rw [if_neg (by omega), i1, if_neg (by decide), if_pos i2, hk]
      show (if isD (B s) = true then (if isD (B (s + 1)) = true then DE B k (s + 1 + 1) else s + 1) else s) = s + 1
      rw [if_pos i2, hn]
      rfl
    · rw [hk]
      show (if isD (B s) = true then (if isD (B (s + 1)) = true then CN B k (s + 1 + 1) _ else (if 0 < 100000 then 0 * 10 + B s - 48 else 0)) else 0) = x
      rw [if_pos i2, hn, if_neg (by decide), if_pos (by decide), e0]
      omega
  · have e1 : dgN x = 2 := if_neg h
    have e0 : B s = 48 + x / 10 := by
      have := hB 0 (by omega)
      rw [Nat.add_zero] at this
      rw [this]
      unfold DL
      rw [if_neg h]
      rfl
    have e2 : B (s + 1) = 48 + x % 10 := by
      rw [hB 1 (by omega)]
      unfold DL
      rw [if_neg h]
      rfl
    rw [e1] at hn hl ⊢
    have i1 : isL (B s) = false := by rw [e0]; exact decide_eq_false (by omega)
    have i2 : isD (B s) = true := by rw [e0]; exact decide_eq_true (by omega)
    have i3 : isD (B (s + 1)) = true := by rw [e2]; exact decide_eq_true (by omega)
    obtain ⟨k, hk⟩ : ∃ k, l - s = k + 3 := ⟨l - s - 3, by omega⟩
    refine ⟨?_, ?_, ?_, by rw [e0]; exact decide_eq_false (by omega)⟩
    · unfold tkk
      rw [if_neg (by omega), i1, if_neg (by decide), if_pos i2]
    · unfold tke
      rw [if_neg (by omega), i1, if_neg (by decide), if_pos i2, hk]
      show (if isD (B s) = true then (if isD (B (s + 1)) = true then (if isD (B (s + 2)) = true then DE B k (s + 2 + 1) else s + 2) else s + 1) else s) = s + 2
      rw [if_pos i2, if_pos i3, hn]
      rfl
    · rw [hk]
      show (if isD (B s) = true then (if isD (B (s + 1)) = true then (if isD (B (s + 2)) = true then CN B k (s + 2 + 1) _ else (if (if 0 < 100000 then 0 * 10 + B s - 48 else 0) < 100000 then (if 0 < 100000 then 0 * 10 + B s - 48 else 0) * 10 + B (s + 1) - 48 else (if 0 < 100000 then 0 * 10 + B s - 48 else 0))) else _) else 0) = x
      rw [if_pos i2, if_pos i3, hn, if_neg (by decide), if_pos (show (0 : Nat) < 100000 by decide), e0, e2, if_pos (by omega)]
      omega
/-- a blank and a number behind it -/
theorem num_sp (hx : x < 100) (h32 : B p = 32) (hB : ∀ j, j < dgN x → B (p + 1 + j) = (DL x).getD j 32) (hn : isD (B (p + 1 + dgN x)) = false) (hl : p + 1 + dgN x < l) : tK B l p = 1 ∧ tE B l p = p + 1 + dgN x ∧ tkV B l p = x := by
  obtain ⟨a, b, c, d⟩ := num_at hx hB hn hl
  have e : tS B l p = p + 1 := tS1 (by rw [h32]; rfl) d (by omega)
  refine ⟨?_, ?_, ?_⟩
  · unfold tK
    rw [e, a]
  · unfold tE
    rw [e, b]
  · unfold tkV
    rw [e, c]
theorem semi_at (h : B p = 59) (hl : p < l) : tK B l p = 2 ∧ tE B l p = p + 1 := by
  have e : tS B l p = p := tS0 (by rw [h]; rfl)
  refine ⟨?_, ?_⟩
  · unfold tK tkk
    rw [e, if_neg (by omega), h, if_neg (by decide), if_neg (by decide), if_pos rfl]
  · unfold tE tke
    rw [e, if_neg (by omega), h, if_neg (by decide), if_neg (by decide)]
theorem WE_all : ∀ k n p, (∀ j, j < n → isL (B (p + j)) = true) → isL (B (p + n)) = false → n ≤ k → WE B k p = p + n
  | 0, n, p, _, _, hk => by
    obtain rfl : n = 0 := by omega
    rfl
  | k + 1, 0, p, _, h2, _ => by
    show (if isL (B p) = true then WE B k (p + 1) else p) = p
    rw [show isL (B p) = false from h2]
    rfl
  | k + 1, n + 1, p, h, h2, hk => by
    show (if isL (B p) = true then WE B k (p + 1) else p) = p + (n + 1)
    rw [if_pos (show isL (B p) = true from h 0 (by omega)), WE_all k n (p + 1) (fun j hj => by rw [show p + 1 + j = p + (j + 1) by omega]; exact h (j + 1) (by omega)) (by rw [show p + 1 + n = p + (n + 1) by omega]; exact h2) (by omega)]
    omega
theorem WM_all {t : List Int32} : ∀ k j, (∀ i, i < k → nI (B (s + (j + i))) = t.getD (j + i) 0) → WM t B s k j = true
  | 0, _, _ => rfl
  | k + 1, j, h => by
    show (decide (nI (B (s + j)) = t.getD j 0) && WM t B s k (j + 1)) = true
    rw [decide_eq_true (show nI (B (s + j)) = t.getD j 0 from h 0 (by omega)), Bool.true_and]
    exact WM_all k (j + 1) (fun i hi => by rw [show j + 1 + i = j + (i + 1) by omega]; exact h (i + 1) (by omega))
/-- a word of the class, and where it ends -/
theorem wrd_at {a : Nat} (hn : 0 < (x_byt a).length) (hB : ∀ j, j < (x_byt a).length → isL (B (p + j)) = true ∧ nI (B (p + j)) = (x_byt a).getD j 0) (h2 : isL (B (p + (x_byt a).length)) = false) (hl : p + (x_byt a).length ≤ l) : tW a B l p = true ∧ tE B l p = p + (x_byt a).length := by
  have hL : isL (B p) = true := (hB 0 hn).1
  have hsp : isSp (B p) = false := by
    have := of_decide_eq_true hL
    exact decide_eq_false (by omega)
  have e : tS B l p = p := tS0 hsp
  have ee : tke B l p = p + (x_byt a).length := by
    unfold tke
    rw [if_neg (by omega), if_pos hL]
    exact WE_all _ _ _ (fun j hj => (hB j hj).1) h2 (by omega)
  refine ⟨?_, ?_⟩
  · unfold tW isWt
    rw [e, ee]
    have ek : tkk B l p = 0 := by
      unfold tkk
      rw [if_neg (by omega), if_pos hL]
    rw [ek, decide_eq_true rfl, decide_eq_true rfl, WM_all _ 0 (fun i hi => by rw [Nat.zero_add]; exact (hB i hi).2)]
    rfl
  · unfold tE
    rw [e, ee]
end
