/-! words -/
def WM (t : List Int32) (B : Nat → Nat) (s : Nat) : Nat → Nat → Bool
  | 0, _ => true
  | k + 1, j => decide (nI (B (s + j)) = t.getD j 0) && WM t B s k (j + 1)
def MC (t : List Int32) (B : Nat → Nat) (s : Nat) : Nat → Nat → Nat
  | 0, _ => 0
  | k + 1, j => (if nI (B (s + j)) = t.getD j 0 then 1 else 0) + MC t B s k (j + 1)
def isWt (t : List Int32) (B : Nat → Nat) (l s : Nat) : Bool := decide (tkk B l s = 0) && (decide (tke B l s = s + t.length) && WM t B s t.length 0)
theorem MC_le (t : List Int32) (B : Nat → Nat) (s : Nat) : ∀ k j, MC t B s k j ≤ k
  | 0, _ => Nat.le_refl _
  | k + 1, j => by
    have := MC_le t B s k (j + 1)
    show (if nI (B (s + j)) = t.getD j 0 then 1 else 0) + MC t B s k (j + 1) ≤ k + 1
    split <;> omega
theorem MC_eq (t : List Int32) (B : Nat → Nat) (s : Nat) : ∀ k j, MC t B s k j = k ↔ WM t B s k j = true
  | 0, _ => ⟨fun _ => rfl, fun _ => rfl⟩
  | k + 1, j => by
    have h1 := MC_eq t B s k (j + 1)
    have h2 := MC_le t B s k (j + 1)
    show (if nI (B (s + j)) = t.getD j 0 then 1 else 0) + MC t B s k (j + 1) = k + 1 ↔ (decide (nI (B (s + j)) = t.getD j 0) && WM t B s k (j + 1)) = true
    by_cases q : nI (B (s + j)) = t.getD j 0
    · rw [if_pos q, decide_eq_true q, Bool.true_and, ← h1]
      omega
    · rw [if_neg q, decide_eq_false q, Bool.false_and]
      exact ⟨fun e => by omega, fun e => by cases e⟩
theorem j_sh0 (x : Int32) : x >>> ((0 : Int32) &&& 31) = x := by
  apply Int32.toInt_inj.mp
  rw [pk_shr x _ 0 rfl]
  exact Int.shiftRight_zero _
theorem isn0 : isn .byte 0 = true := by decide
theorem j_len (a : Nat) (M : xM) : f_J0_length_8abf5 a M = some (nI (x_slen a), M) := by
  unfold f_J0_length_8abf5 f_J0_coder_7d493
  rw [if_neg (by decide), gd_t isn0]
  simp only [bd2, j_sh0]
theorem j_F : ∀ c : Fin 128, ((nI c.val &&& 255).toUInt32 % 65536).toInt32 = nI c.val ∧ isn .char (nI c.val) = true := by decide +kernel
theorem j_txt : ∀ a : Fin 40, ∀ x ∈ x_byt a.val, 0 ≤ x ∧ x < 128 := by decide +kernel
theorem j_sb {a j : Nat} (ha : a < 40) (hj : j < x_slen a) : ∃ c, c < 128 ∧ x_sb a j = nI c := by
  have hm : x_sb a j ∈ x_byt a := by
    unfold x_sb
    rw [List.getD_eq_getElem?_getD, List.getElem?_eq_getElem hj]
    exact List.getElem_mem hj
  obtain ⟨h1, h2⟩ := j_txt ⟨a, ha⟩ _ hm
  obtain ⟨c, hc, e⟩ := nI_of2 (M := 127) (n := 127) (by decide) (by rw [Int32.not_lt]; exact h1) (by
    have := Int32.lt_iff_toInt_lt.mp h2
    have h3 : (128 : Int32).toInt = 128 := by decide
    have h4 : (127 : Int32).toInt = 127 := by decide
    exact Int32.le_iff_toInt_le.mpr (by omega))
  exact ⟨c, by omega, e⟩
theorem j_char {a j : Nat} (ha : a < 40) (hj : j < x_slen a) (hn : x_slen a < 2147483648) (M : xM) : f_J0_charAt_5068e a (nI j) M = some (x_sb a j, M) := by
  obtain ⟨c, hc, e⟩ := j_sb ha hj
  obtain ⟨f1, f2⟩ := j_F ⟨c, hc⟩
  unfold f_J0_charAt_5068e f_J0_isLatin1_aae02 f_J1_charAt_3b067 f_J0_checkIndex_df160 f_J3_checkIndex_8e157
  rw [if_neg (show ¬ (1 : Int32) = 0 by decide), if_pos (show (0 : Int32) = 0 from rfl)]
  simp only [bd2, i10, ↓reduceIte]
  rw [if_neg (nI_pos (by omega)), if_pos (nI_lt hj (by omega))]
  simp only [bd]
  rw [gd_t (inb_nI hj (by omega)), cl (by omega), e]
  simp only [f1]
  rw [gd_t f2]
  simp only []
  rw [gd_t f2]
theorem nb8lo : ∀ x : Fin 256, x.val < 128 → nb8 (nI x.val) = nI x.val := by decide +kernel
theorem nb8hi : ∀ x : Fin 256, 128 ≤ x.val → nb8 (nI x.val) < 0 := by decide +kernel
theorem nb8_eq {x c : Nat} (hx : x < 256) (hc : c < 128) : (nb8 (nI x) = nI c) = (nI x = nI c) := by
  apply propext
  rcases Nat.lt_or_ge x 128 with q | q
  · rw [nb8lo ⟨x, hx⟩ q]
  · constructor
    · intro e
      have h := nb8hi ⟨x, hx⟩ q
      rw [show nb8 (nI x) = nI c from e] at h
      exact absurd h (nI_pos (by omega))
    · intro e
      have := (nI_eq (by omega) (by omega)).mp e
      omega
theorem x_len : ∀ a : Fin 40, x_slen a.val < 1000 := by decide +kernel
section
variable {l : Nat} {B : Nat → Nat} {M N : xM}
theorem c_wl {a s : Nat} (ha : a < 40) (h : CT l B M) (h5 : M 1785 = nI s) (hs : s + x_slen a ≤ l) : ∀ (k j n : Nat), j + k = x_slen a → k < n → lp (fun _ _ => none) (fun k => fb_X3_isWord_c28 k a) n (nI j) M = some (if WM (x_byt a) B s k j = true then 1 else 0, M)
  | 0, j, n + 1, hj, hn => by
    have hl := h.2.1
    rw [lp_s]
    unfold fb_X3_isWord_c28
    rw [bd2_s (j_len a M), if_pos (nI_le (by omega) (by omega))]
    rfl
  | k + 1, j, n + 1, hj, hn => by
    have hl := h.2.1
    have ih := c_wl ha h h5 hs k (j + 1) n (by omega) (by omega)
    have hx := (h.2.2 (s + j) (by omega)).1
    obtain ⟨c, hc, e⟩ := j_sb ha (show j < x_slen a by omega)
    rw [lp_s]
    generalize lp (fun _ _ => none) (fun k => fb_X3_isWord_c28 k a) n = K at ih ⊢
    unfold fb_X3_isWord_c28
    rw [bd2_s (j_len a M), if_neg (nI_ge (by omega) (by omega)), h5, nI_add, bd2_s (c_at h (by omega)), bd2_s (j_char ha (by omega) (by omega) M), e, nI_1]
    simp only [nb8_eq hx hc]
    show _ = some (if (decide (nI (B (s + j)) = x_sb a j) && WM (x_byt a) B s k (j + 1)) = true then 1 else 0, M)
    rw [e]
    by_cases q : nI (B (s + j)) = nI c
    · rw [if_pos q, decide_eq_true q, Bool.true_and]; exact ih
    · rw [if_neg q, decide_eq_false q, Bool.false_and]; rfl
theorem c_isWord {a s : Nat} (ha : a < 40) (h : CT l B M) (h3 : M 1783 = nI (tke B l s)) (h4 : M 1784 = nI (ckn (tkk B l s))) (h5 : M 1785 = nI s) (hs : s ≤ l) : f_X3_isWord a M = some (if isWt (x_byt a) B l s = true then 1 else 0, M) := by
  have hl := h.2.1
  have hb := tke_b (B := B) hs
  have hn := x_len ⟨a, ha⟩
  have hn' : x_slen a < 1000 := hn
  have hk : tkk B l s ≤ 4 := by
    unfold tkk
    repeat' split
    all_goals omega
  unfold f_X3_isWord isWt
  rw [h4]
  have e1 : (nI (ckn (tkk B l s)) = 1) = (tkk B l s = 0) := by
    apply propext
    rw [show (1 : Int32) = nI 1 from rfl, nI_eq (by unfold ckn; omega) (by omega)]
    unfold ckn
    omega
  simp only [e1]
  by_cases q : tkk B l s = 0
  · rw [if_pos q, decide_eq_true q, Bool.true_and, bd2_s (j_len a M), h3, h5, pk_sub hb.1]
    by_cases q2 : tke B l s = s + (x_byt a).length
    · have hsl : x_slen a = (x_byt a).length := rfl
      rw [if_pos (by rw [q2, hsl]; congr 1; omega), decide_eq_true q2, Bool.true_and]
      exact c_wl ha h h5 (by omega) (x_slen a) 0 FU (by omega) (FU_e _ (by omega))
    · have hsl : x_slen a = (x_byt a).length := rfl
      rw [if_neg (fun e => q2 (by
        have := (nI_eq (by omega) (by omega)).mp e
        omega)), decide_eq_false q2, Bool.false_and]
      rfl
  · rw [if_neg q, decide_eq_false q, Bool.false_and]
    rfl
end

