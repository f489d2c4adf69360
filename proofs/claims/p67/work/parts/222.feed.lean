/-! rows on bits, shifts and unsigned numbers, to paste: each family out of a closed proof of our own, whole with what it rests on; each by itself clean at Lean in its own claim (generation 39, form 5). Take a family whole -/
/-! ===== Int32 by its bits: bt x i ===== -/
def bt (x : Int32) (i : Nat) : Bool := x.toBitVec.getLsbD i
theorem b_ext {x y : Int32} (h : ∀ i, i < 32 → bt x i = bt y i) : x = y := Int32.toBitVec_inj.mp (BitVec.eq_of_getLsbD_eq (fun i hi => h i hi))
theorem b_or (x y : Int32) (i : Nat) : bt (x ||| y) i = (bt x i || bt y i) := by unfold bt; rw [Int32.toBitVec_or, BitVec.getLsbD_or]
theorem b_and (x y : Int32) (i : Nat) : bt (x &&& y) i = (bt x i && bt y i) := by unfold bt; rw [Int32.toBitVec_and, BitVec.getLsbD_and]
theorem b_xor (x y : Int32) (i : Nat) : bt (x ^^^ y) i = (bt x i ^^ bt y i) := by unfold bt; rw [Int32.toBitVec_xor, BitVec.getLsbD_xor]
theorem b_big {x : Int32} {i : Nat} (h : 32 ≤ i) : bt x i = false := BitVec.getLsbD_of_ge _ _ h
theorem b_255 (i : Nat) : bt 255 i = decide (i < 8) := by
  rcases Nat.lt_or_ge i 32 with h | h
  · exact (by decide +kernel : ∀ i, i < 32 → bt 255 i = decide (i < 8)) i h
  · rw [b_big h, decide_eq_false (by omega)]
theorem b_65535 (i : Nat) : bt 65535 i = decide (i < 16) := by
  rcases Nat.lt_or_ge i 32 with h | h
  · exact (by decide +kernel : ∀ i, i < 32 → bt 65535 i = decide (i < 16)) i h
  · rw [b_big h, decide_eq_false (by omega)]
theorem b_m1 : ∀ i, i < 32 → bt (-1) i = true := by decide +kernel
theorem b_0 (i : Nat) : bt 0 i = false := BitVec.getLsbD_zero
theorem s_l : ∀ n, n < 32 → ((nI n &&& 31).toBitVec.smod 32).toNat = n := by decide +kernel
theorem s_u : ∀ n, n < 32 → (((nI n).toUInt32 &&& Int32.toUInt32 31).toBitVec % 32).toNat = n := by decide +kernel
theorem b_shl (n : Nat) (hn : n < 32) (x : Int32) {i : Nat} (hi : i < 32) : bt (x <<< (nI n &&& 31)) i = (decide (n ≤ i) && bt x (i - n)) := by
  unfold bt
  rw [Int32.toBitVec_shiftLeft]
  show (x.toBitVec <<< ((nI n &&& 31).toBitVec.smod 32).toNat).getLsbD i = _
  rw [s_l n hn, BitVec.getLsbD_shiftLeft]
  rcases Nat.lt_or_ge i n with h | h
  · simp [h, Nat.not_le.mpr h]
  · simp [hi, h, Nat.not_lt.mpr h]
theorem b_ushr (n : Nat) (hn : n < 32) (x : Int32) (i : Nat) : bt ((x.toUInt32 >>> ((nI n).toUInt32 &&& Int32.toUInt32 31)).toInt32) i = bt x (n + i) := by
  show (x.toUInt32 >>> ((nI n).toUInt32 &&& Int32.toUInt32 31)).toBitVec.getLsbD i = x.toUInt32.toBitVec.getLsbD (n + i)
  rw [UInt32.toBitVec_shiftRight]
  show (x.toUInt32.toBitVec >>> (((nI n).toUInt32 &&& Int32.toUInt32 31).toBitVec % 32).toNat).getLsbD i = _
  rw [s_u n hn, BitVec.getLsbD_ushiftRight]
theorem b_sshr (n : Nat) (hn : n < 32) (x : Int32) {i : Nat} (hi : i < 32) : bt (x >>> (nI n &&& 31)) i = if n + i < 32 then bt x (n + i) else bt x 31 := by
  unfold bt
  rw [Int32.toBitVec_shiftRight]
  show (x.toBitVec.sshiftRight ((nI n &&& 31).toBitVec.smod 32).toNat).getLsbD i = _
  rw [s_l n hn, BitVec.getLsbD_sshiftRight, BitVec.msb_eq_getLsbD_last]
  simp [hi]
theorem b_shl8 (x : Int32) {i : Nat} (hi : i < 32) : bt (x <<< ((8 : Int32) &&& 31)) i = (decide (8 ≤ i) && bt x (i - 8)) := b_shl 8 (by omega) x hi
/-! feed -/
def BS (w : Int32) (k : Nat) : Int32 := (w >>> (nI (8 * k) &&& 31)) &&& 255
theorem BS_u (w : Int32) {k : Nat} (hk : k < 4) : (iush w (nI (8 * k))) &&& 255 = BS w k := by
  unfold iush BS
  refine b_ext (fun i hi => ?_)
  rw [b_and, b_and, b_255, b_ushr (8 * k) (by omega), b_sshr (8 * k) (by omega) _ hi]
  by_cases h : i < 8
  · rw [if_pos (by omega)]
  · rw [decide_eq_false h, Bool.and_false, Bool.and_false]
theorem BS_r (w : Int32) (k : Nat) : ∃ j, j < 256 ∧ BS w k = nI j := pk_andE _ (m := 255) 8 rfl
def AWl (w : Int32) : Nat → Nat → Nat
  | 0, l => l
  | k + 1, l => if BS w k = 0 then AWl w k l else AWl w k (l + 1)
def AWf (w : Int32) : Nat → Nat → xM → xM
  | 0, _, f => f
  | k + 1, l, f => if BS w k = 0 then AWf w k l f else AWf w k (l + 1) (upd f l (BS w k))
def AL (y : Nat → Int32) : Nat → Nat → Nat → Nat
  | 0, _, l => l
  | k + 1, i, l => if y i = 0 then AL y k (i + 1) l else AL y k (i + 1) (l + 1)
def AF (y : Nat → Int32) : Nat → Nat → Nat → xM → xM
  | 0, _, _, f => f
  | k + 1, i, l, f => if y i = 0 then AF y k (i + 1) l f else AF y k (i + 1) (l + 1) (upd f l (y i))
theorem AL_add (y : Nat → Int32) : ∀ k1 k2 i l, AL y (k1 + k2) i l = AL y k2 (i + k1) (AL y k1 i l)
  | 0, k2, i, l => by rw [Nat.zero_add]; rfl
  | k1 + 1, k2, i, l => by
    rw [show k1 + 1 + k2 = (k1 + k2) + 1 by omega]
    show (if y i = 0 then AL y (k1 + k2) (i + 1) l else AL y (k1 + k2) (i + 1) (l + 1)) = AL y k2 (i + (k1 + 1)) (if y i = 0 then AL y k1 (i + 1) l else AL y k1 (i + 1) (l + 1))
    rw [AL_add y k1 k2 (i + 1) l, AL_add y k1 k2 (i + 1) (l + 1), show i + 1 + k1 = i + (k1 + 1) by omega]
    split <;> rfl
theorem AF_add (y : Nat → Int32) : ∀ k1 k2 i l f, AF y (k1 + k2) i l f = AF y k2 (i + k1) (AL y k1 i l) (AF y k1 i l f)
  | 0, k2, i, l, f => by rw [Nat.zero_add]; rfl
  | k1 + 1, k2, i, l, f => by
    rw [show k1 + 1 + k2 = (k1 + k2) + 1 by omega]
    show (if y i = 0 then AF y (k1 + k2) (i + 1) l f else AF y (k1 + k2) (i + 1) (l + 1) (upd f l (y i))) = AF y k2 (i + (k1 + 1)) (if y i = 0 then AL y k1 (i + 1) l else AL y k1 (i + 1) (l + 1)) (if y i = 0 then AF y k1 (i + 1) l f else AF y k1 (i + 1) (l + 1) (upd f l (y i)))
    rw [AF_add y k1 k2 (i + 1) l, AF_add y k1 k2 (i + 1) (l + 1), show i + 1 + k1 = i + (k1 + 1) by omega]
    split <;> rfl
theorem AL_w {y : Nat → Int32} {w : Int32} {i l : Nat} (h0 : y i = BS w 3) (h1 : y (i + 1) = BS w 2) (h2 : y (i + 2) = BS w 1) (h3 : y (i + 3) = BS w 0) : AL y 4 i l = AWl w 4 l := by
  simp only [AL, AWl, h0, h1, h2, h3]
theorem AF_w {y : Nat → Int32} {w : Int32} {i l : Nat} {f : xM} (h0 : y i = BS w 3) (h1 : y (i + 1) = BS w 2) (h2 : y (i + 2) = BS w 1) (h3 : y (i + 3) = BS w 0) : AF y 4 i l f = AWf w 4 l f := by
  simp only [AF, AWf, h0, h1, h2, h3]
theorem AL_le (y : Nat → Int32) : ∀ k i l, l ≤ AL y k i l ∧ AL y k i l ≤ l + k
  | 0, _, l => ⟨Nat.le_refl _, Nat.le_refl _⟩
  | k + 1, i, l => by
    have h1 := AL_le y k (i + 1) l
    have h2 := AL_le y k (i + 1) (l + 1)
    show l ≤ (if y i = 0 then AL y k (i + 1) l else AL y k (i + 1) (l + 1)) ∧ (if y i = 0 then AL y k (i + 1) l else AL y k (i + 1) (l + 1)) ≤ l + (k + 1)
    split <;> omega
theorem AL_sh (y : Nat → Int32) : ∀ k i l, AL y k i l = l + AL y k i 0
  | 0, _, l => rfl
  | k + 1, i, l => by
    show (if y i = 0 then AL y k (i + 1) l else AL y k (i + 1) (l + 1)) = l + (if y i = 0 then AL y k (i + 1) 0 else AL y k (i + 1) (0 + 1))
    rw [AL_sh y k (i + 1) l, AL_sh y k (i + 1) (l + 1), AL_sh y k (i + 1) (0 + 1)]
    split <;> omega
theorem AWl_le (w : Int32) : ∀ k l, l ≤ AWl w k l ∧ AWl w k l ≤ l + k
  | 0, l => ⟨Nat.le_refl _, Nat.le_refl _⟩
  | k + 1, l => by
    have h1 := AWl_le w k l
    have h2 := AWl_le w k (l + 1)
    show l ≤ (if BS w k = 0 then AWl w k l else AWl w k (l + 1)) ∧ (if BS w k = 0 then AWl w k l else AWl w k (l + 1)) ≤ l + (k + 1)
    split <;> omega
theorem AWl_sh (w : Int32) : ∀ k l, AWl w k l = l + AWl w k 0
  | 0, l => rfl
  | k + 1, l => by
    show (if BS w k = 0 then AWl w k l else AWl w k (l + 1)) = l + (if BS w k = 0 then AWl w k 0 else AWl w k (0 + 1))
    rw [AWl_sh w k l, AWl_sh w k (l + 1), AWl_sh w k (0 + 1)]
    split <;> omega
/-- the buffers: l bytes f, in the class and in the model -/
def nb8 (x : Int32) : Int32 := x.toInt8.toInt32
def KC (l : Nat) (f M : xM) : xM := upd (fun z => if 1792 ≤ z ∧ z < 1792 + l then nb8 (f (z - 1792)) else M z) 1778 (nI l)
def KN (l : Nat) (f M : xM) : xM := upd (fun z => if 4252 ≤ z ∧ z < 4252 + l then f (z - 4252) else M z) 2501 (nI l)
theorem KC_l {l : Nat} {f M : xM} : KC l f M 1778 = nI l := us
theorem KN_l {l : Nat} {f M : xM} : KN l f M 2501 = nI l := us
theorem KC_c {l j : Nat} {f M : xM} (hj : j < l) : KC l f M (1792 + j) = nb8 (f j) := by
  unfold KC
  rw [un (by omega), if_pos (by omega), Nat.add_sub_cancel_left]
theorem KN_c {l j : Nat} {f M : xM} (hj : j < l) : KN l f M (4252 + j) = f j := by
  unfold KN
  rw [un (by omega), if_pos (by omega), Nat.add_sub_cancel_left]
theorem KC_o {l z : Nat} {f M : xM} (h : z < 1792 ∨ 1792 + l ≤ z) (h2 : z ≠ 1778) : KC l f M z = M z := by
  unfold KC
  rw [un h2, if_neg (by omega)]
theorem KN_o {l z : Nat} {f M : xM} (h : z < 4252 ∨ 4252 + l ≤ z) (h2 : z ≠ 2501) : KN l f M z = M z := by
  unfold KN
  rw [un h2, if_neg (by omega)]
theorem KC_s {l : Nat} {f M : xM} {x : Int32} : upd (upd (KC l f M) (1792 + l) (nb8 x)) 1778 (nI (l + 1)) = KC (l + 1) (upd f l x) M := by
  funext z
  by_cases h1 : z = 1778
  · subst h1; rw [us, KC_l]
  · rw [un h1]
    by_cases h2 : z = 1792 + l
    · subst h2; rw [us, KC_c (by omega), us]
    · rw [un h2]
      by_cases h3 : 1792 ≤ z ∧ z < 1792 + l
      · have a := KC_c (l := l) (f := f) (M := M) (show z - 1792 < l by omega)
        have b := KC_c (l := l + 1) (f := upd f l x) (M := M) (show z - 1792 < l + 1 by omega)
        rw [show 1792 + (z - 1792) = z by omega] at a b
        rw [a, b, un (by omega)]
      · rw [KC_o (by omega) h1, KC_o (by omega) h1]
theorem KN_s {l : Nat} {f M : xM} {x : Int32} : upd (upd (KN l f M) (4252 + l) x) 2501 (nI (l + 1)) = KN (l + 1) (upd f l x) M := by
  funext z
  by_cases h1 : z = 2501
  · subst h1; rw [us, KN_l]
  · rw [un h1]
    by_cases h2 : z = 4252 + l
    · subst h2; rw [us, KN_c (by omega), us]
    · rw [un h2]
      by_cases h3 : 4252 ≤ z ∧ z < 4252 + l
      · have a := KN_c (l := l) (f := f) (M := M) (show z - 4252 < l by omega)
        have b := KN_c (l := l + 1) (f := upd f l x) (M := M) (show z - 4252 < l + 1 by omega)
        rw [show 4252 + (z - 4252) = z by omega] at a b
        rw [a, b, un (by omega)]
      · rw [KN_o (by omega) h1, KN_o (by omega) h1]
theorem v8 {k : Nat} : nI (8 * (k + 1)) - 8 = nI (8 * k) := by
  rw [show 8 * (k + 1) = 8 * k + 8 by omega, ← nI_add]
  exact Int32.add_sub_cancel _ _
theorem sub_m8 (x : Int32) : x + (-8) = x - 8 := (Int32.sub_eq_add_neg x 8).symm
section
variable {mm : Nat} {M N : xM}
theorem c_bytesIn (w : Int32) : f_X6_bytesIn w M = some (nI (AWl w 4 0), M) := by
  have key : ∀ (k n c : Nat), k ≤ 4 → k < n → lp (fun _ _ _ => none) (fun k => fb_X6_bytesIn_c5 k w) n (nI c) (nI (8 * k) - 8) M = some (nI (AWl w k c), M) := by
    intro k
    induction k with
    | zero =>
      intro n c hk hn
      obtain ⟨n, rfl⟩ : ∃ m, n = m + 1 := ⟨n - 1, by omega⟩
      rw [lp_s]
      unfold fb_X6_bytesIn_c5
      rw [if_pos (show (nI (8 * 0) - 8 : Int32) < 0 by decide)]
      rfl
    | succ k ih =>
      intro n c hk hn
      obtain ⟨n, rfl⟩ : ∃ m, n = m + 1 := ⟨n - 1, by omega⟩
      have i1 := ih n c (by omega) (by omega)
      have i2 := ih n (c + 1) (by omega) (by omega)
      rw [lp_s]
      generalize lp (fun _ _ _ => none) (fun k => fb_X6_bytesIn_c5 k w) n = K at i1 i2 ⊢
      unfold fb_X6_bytesIn_c5
      rw [v8, if_neg (nI_pos (by omega)), BS_u w (by omega), sub_m8, nI_1]
      show _ = some (nI (if BS w k = 0 then AWl w k c else AWl w k (c + 1)), M)
      by_cases q : BS w k = 0
      · rw [if_pos q, if_pos q]; exact i1
      · rw [if_neg q, if_neg q]; exact i2
  have := key 4 FU 0 (Nat.le_refl _) (FU_e _ (by omega))
  exact this
theorem nb8i (x : Int32) : vp_nar .byte x.toInt8.toInt32 = nb8 x := pk_vb x
theorem c_appB {l : Nat} {f : xM} {x : Int32} (hl : l < 700) : f_X3_appendByte x (KC l f M) = some (KC (l + 1) (upd f l x) M) := by
  unfold f_X3_appendByte
  rw [KC_l, if_neg (show ¬ (700 : Int32) ≤ nI l from nI_ge (a := l) (b := 700) hl (by decide)), gd_t (inb_nI hl (by omega)), cl (by omega), nb8i, un (by omega), KC_l, nI_1, KC_s]
theorem c_appW (w : Int32) : ∀ (k n l : Nat) (f : xM), k ≤ 4 → k < n → AWl w k l ≤ 700 → lp (fun _ _ => none) (fun k => fb_X3_appendWord_c3 k w) n (nI (8 * k) - 8) (KC l f M) = some (KC (AWl w k l) (AWf w k l f) M)
  | 0, n + 1, l, f, hk, hn, hl => by
    rw [lp_s]
    unfold fb_X3_appendWord_c3
    rw [if_pos (show (nI (8 * 0) - 8 : Int32) < 0 by decide)]
    rfl
  | k + 1, n + 1, l, f, hk, hn, hl => by
    have i1 := c_appW w k n l f (by omega) (by omega)
    have i2 := c_appW w k n (l + 1) (upd f l (BS w k)) (by omega) (by omega)
    rw [lp_s]
    generalize lp (fun _ _ => none) (fun k => fb_X3_appendWord_c3 k w) n = K at i1 i2 ⊢
    unfold fb_X3_appendWord_c3
    rw [v8, if_neg (nI_pos (by omega)), BS_u w (by omega), sub_m8]
    have hl' : (if BS w k = 0 then AWl w k l else AWl w k (l + 1)) ≤ 700 := hl
    show _ = some (KC (if BS w k = 0 then AWl w k l else AWl w k (l + 1)) (if BS w k = 0 then AWf w k l f else AWf w k (l + 1) (upd f l (BS w k))) M)
    by_cases q : BS w k = 0
    · rw [if_pos q] at hl'
      rw [if_pos q, if_pos q, if_pos q]; exact i1 hl'
    · rw [if_neg q] at hl'
      have := (AWl_le w k (l + 1)).1
      rw [if_neg q, if_neg q, if_neg q, bd_s (c_appB (by omega))]; exact i2 hl'
theorem c_appWd {w : Int32} {l : Nat} {f : xM} (h : AWl w 4 l ≤ 700) : f_X3_appendWord w (KC l f M) = some (KC (AWl w 4 l) (AWf w 4 l f) M) := c_appW w 4 FU l f (Nat.le_refl _) (FU_e _ (by omega)) h
def YS (a b c d e : Int32) (i : Nat) : Int32 := if 4 ≤ i then (if 8 ≤ i then (if 12 ≤ i then (if 16 ≤ i then e else d) else c) else b) else a
def YB (a b c d e : Int32) (i : Nat) : Int32 := BS (YS a b c d e i) (3 - i % 4)
theorem AF_le (y : Nat → Int32) (hy : ∀ i, ∃ x, x < 256 ∧ y i = nI x) : ∀ k i l (f : xM), (∀ j, j < l → ∃ x, x < 256 ∧ f j = nI x) → ∀ j, j < AL y k i l → ∃ x, x < 256 ∧ AF y k i l f j = nI x
  | 0, _, _, _, hf => hf
  | k + 1, i, l, f, hf => by
    show ∀ j, j < (if y i = 0 then AL y k (i + 1) l else AL y k (i + 1) (l + 1)) → ∃ x, x < 256 ∧ (if y i = 0 then AF y k (i + 1) l f else AF y k (i + 1) (l + 1) (upd f l (y i))) j = nI x
    by_cases q : y i = 0
    · rw [if_pos q, if_pos q]
      exact AF_le y hy k (i + 1) l f hf
    · rw [if_neg q, if_neg q]
      refine AF_le y hy k (i + 1) (l + 1) _ (fun j hj => ?_)
      by_cases e : j = l
      · subst e; rw [us]; exact hy i
      · rw [un e]; exact hf j (by omega)
theorem YS_a (a b c d e : Int32) {i : Nat} (h : i < 4) : YS a b c d e i = a := by
  unfold YS
  rw [if_neg (by omega)]
theorem YS_b (a b c d e : Int32) {i : Nat} (h : 4 ≤ i) (h2 : i < 8) : YS a b c d e i = b := by
  unfold YS
  rw [if_pos h, if_neg (by omega)]
theorem YS_c (a b c d e : Int32) {i : Nat} (h : 8 ≤ i) (h2 : i < 12) : YS a b c d e i = c := by
  unfold YS
  rw [if_pos (by omega), if_pos h, if_neg (by omega)]
theorem YS_d (a b c d e : Int32) {i : Nat} (h : 12 ≤ i) (h2 : i < 16) : YS a b c d e i = d := by
  unfold YS
  rw [if_pos (by omega), if_pos (by omega), if_pos h, if_neg (by omega)]
theorem YS_e (a b c d e : Int32) {i : Nat} (h : 16 ≤ i) : YS a b c d e i = e := by
  unfold YS
  rw [if_pos (by omega), if_pos (by omega), if_pos (by omega), if_pos h]
theorem Ya0 (a b c d e : Int32) : YB a b c d e (0) = BS a 3 := by
  unfold YB
  rw [YS_a a b c d e (i := 0) (by omega)]
theorem Ya1 (a b c d e : Int32) : YB a b c d e (0 + 1) = BS a 2 := by
  unfold YB
  rw [YS_a a b c d e (i := 0 + 1) (by omega)]
theorem Ya2 (a b c d e : Int32) : YB a b c d e (0 + 2) = BS a 1 := by
  unfold YB
  rw [YS_a a b c d e (i := 0 + 2) (by omega)]
theorem Ya3 (a b c d e : Int32) : YB a b c d e (0 + 3) = BS a 0 := by
  unfold YB
  rw [YS_a a b c d e (i := 0 + 3) (by omega)]
theorem Yb0 (a b c d e : Int32) : YB a b c d e (0 + 4) = BS b 3 := by
  unfold YB
  rw [YS_b a b c d e (i := 0 + 4) (by omega) (by omega)]
theorem Yb1 (a b c d e : Int32) : YB a b c d e (0 + 4 + 1) = BS b 2 := by
  unfold YB
  rw [YS_b a b c d e (i := 0 + 4 + 1) (by omega) (by omega)]
theorem Yb2 (a b c d e : Int32) : YB a b c d e (0 + 4 + 2) = BS b 1 := by
  unfold YB
  rw [YS_b a b c d e (i := 0 + 4 + 2) (by omega) (by omega)]
theorem Yb3 (a b c d e : Int32) : YB a b c d e (0 + 4 + 3) = BS b 0 := by
  unfold YB
  rw [YS_b a b c d e (i := 0 + 4 + 3) (by omega) (by omega)]
theorem Yc0 (a b c d e : Int32) : YB a b c d e (0 + 4 + 4) = BS c 3 := by
  unfold YB
  rw [YS_c a b c d e (i := 0 + 4 + 4) (by omega) (by omega)]
theorem Yc1 (a b c d e : Int32) : YB a b c d e (0 + 4 + 4 + 1) = BS c 2 := by
  unfold YB
  rw [YS_c a b c d e (i := 0 + 4 + 4 + 1) (by omega) (by omega)]
theorem Yc2 (a b c d e : Int32) : YB a b c d e (0 + 4 + 4 + 2) = BS c 1 := by
  unfold YB
  rw [YS_c a b c d e (i := 0 + 4 + 4 + 2) (by omega) (by omega)]
theorem Yc3 (a b c d e : Int32) : YB a b c d e (0 + 4 + 4 + 3) = BS c 0 := by
  unfold YB
  rw [YS_c a b c d e (i := 0 + 4 + 4 + 3) (by omega) (by omega)]
theorem Yd0 (a b c d e : Int32) : YB a b c d e (0 + 4 + 4 + 4) = BS d 3 := by
  unfold YB
  rw [YS_d a b c d e (i := 0 + 4 + 4 + 4) (by omega) (by omega)]
theorem Yd1 (a b c d e : Int32) : YB a b c d e (0 + 4 + 4 + 4 + 1) = BS d 2 := by
  unfold YB
  rw [YS_d a b c d e (i := 0 + 4 + 4 + 4 + 1) (by omega) (by omega)]
theorem Yd2 (a b c d e : Int32) : YB a b c d e (0 + 4 + 4 + 4 + 2) = BS d 1 := by
  unfold YB
  rw [YS_d a b c d e (i := 0 + 4 + 4 + 4 + 2) (by omega) (by omega)]
theorem Yd3 (a b c d e : Int32) : YB a b c d e (0 + 4 + 4 + 4 + 3) = BS d 0 := by
  unfold YB
  rw [YS_d a b c d e (i := 0 + 4 + 4 + 4 + 3) (by omega) (by omega)]
theorem Ye0 (a b c d e : Int32) : YB a b c d e (0 + 4 + 4 + 4 + 4) = BS e 3 := by
  unfold YB
  rw [YS_e a b c d e (i := 0 + 4 + 4 + 4 + 4) (by omega)]
theorem Ye1 (a b c d e : Int32) : YB a b c d e (0 + 4 + 4 + 4 + 4 + 1) = BS e 2 := by
  unfold YB
  rw [YS_e a b c d e (i := 0 + 4 + 4 + 4 + 4 + 1) (by omega)]
theorem Ye2 (a b c d e : Int32) : YB a b c d e (0 + 4 + 4 + 4 + 4 + 2) = BS e 1 := by
  unfold YB
  rw [YS_e a b c d e (i := 0 + 4 + 4 + 4 + 4 + 2) (by omega)]
theorem Ye3 (a b c d e : Int32) : YB a b c d e (0 + 4 + 4 + 4 + 4 + 3) = BS e 0 := by
  unfold YB
  rw [YS_e a b c d e (i := 0 + 4 + 4 + 4 + 4 + 3) (by omega)]
theorem AL_five (a b c d e : Int32) (l : Nat) : AL (YB a b c d e) 20 0 l = AWl e 4 (AWl d 4 (AWl c 4 (AWl b 4 (AWl a 4 l)))) := by
  rw [show 20 = 4 + (4 + (4 + (4 + 4))) from rfl, AL_add, AL_add, AL_add, AL_add]
  rw [AL_w (y := YB a b c d e) (i := 0) (w := a) (Ya0 a b c d e) (Ya1 a b c d e) (Ya2 a b c d e) (Ya3 a b c d e), AL_w (y := YB a b c d e) (i := 0 + 4) (w := b) (Yb0 a b c d e) (Yb1 a b c d e) (Yb2 a b c d e) (Yb3 a b c d e), AL_w (y := YB a b c d e) (i := 0 + 4 + 4) (w := c) (Yc0 a b c d e) (Yc1 a b c d e) (Yc2 a b c d e) (Yc3 a b c d e), AL_w (y := YB a b c d e) (i := 0 + 4 + 4 + 4) (w := d) (Yd0 a b c d e) (Yd1 a b c d e) (Yd2 a b c d e) (Yd3 a b c d e), AL_w (y := YB a b c d e) (i := 0 + 4 + 4 + 4 + 4) (w := e) (Ye0 a b c d e) (Ye1 a b c d e) (Ye2 a b c d e) (Ye3 a b c d e)]
theorem AF_five (a b c d e : Int32) (l : Nat) (f : xM) : AF (YB a b c d e) 20 0 l f = AWf e 4 (AWl d 4 (AWl c 4 (AWl b 4 (AWl a 4 l)))) (AWf d 4 (AWl c 4 (AWl b 4 (AWl a 4 l))) (AWf c 4 (AWl b 4 (AWl a 4 l)) (AWf b 4 (AWl a 4 l) (AWf a 4 l f)))) := by
  rw [show 20 = 4 + (4 + (4 + (4 + 4))) from rfl, AF_add, AF_add, AF_add, AF_add]
  rw [AL_w (y := YB a b c d e) (i := 0) (w := a) (Ya0 a b c d e) (Ya1 a b c d e) (Ya2 a b c d e) (Ya3 a b c d e), AL_w (y := YB a b c d e) (i := 0 + 4) (w := b) (Yb0 a b c d e) (Yb1 a b c d e) (Yb2 a b c d e) (Yb3 a b c d e), AL_w (y := YB a b c d e) (i := 0 + 4 + 4) (w := c) (Yc0 a b c d e) (Yc1 a b c d e) (Yc2 a b c d e) (Yc3 a b c d e), AL_w (y := YB a b c d e) (i := 0 + 4 + 4 + 4) (w := d) (Yd0 a b c d e) (Yd1 a b c d e) (Yd2 a b c d e) (Yd3 a b c d e)]
  rw [AF_w (y := YB a b c d e) (i := 0) (w := a) (Ya0 a b c d e) (Ya1 a b c d e) (Ya2 a b c d e) (Ya3 a b c d e), AF_w (y := YB a b c d e) (i := 0 + 4) (w := b) (Yb0 a b c d e) (Yb1 a b c d e) (Yb2 a b c d e) (Yb3 a b c d e), AF_w (y := YB a b c d e) (i := 0 + 4 + 4) (w := c) (Yc0 a b c d e) (Yc1 a b c d e) (Yc2 a b c d e) (Yc3 a b c d e), AF_w (y := YB a b c d e) (i := 0 + 4 + 4 + 4) (w := d) (Yd0 a b c d e) (Yd1 a b c d e) (Yd2 a b c d e) (Yd3 a b c d e), AF_w (y := YB a b c d e) (i := 0 + 4 + 4 + 4 + 4) (w := e) (Ye0 a b c d e) (Ye1 a b c d e) (Ye2 a b c d e) (Ye3 a b c d e)]
/-- a buffer as l bytes -/
theorem RB_KC (h : RB M) : ∃ l f, l ≤ 700 ∧ KC l f M = M ∧ KN l f M = M ∧ ∀ j, j < l → ∃ x, x < 256 ∧ f j = nI x := by
  obtain ⟨l, hl, h1, h2, h3⟩ := h
  refine ⟨l, fun j => M (4252 + j), hl, ?_, ?_, fun j hj => ?_⟩
  · funext z
    by_cases q : z = 1778
    · subst q; rw [KC_l, h1]
    · by_cases q2 : 1792 ≤ z ∧ z < 1792 + l
      · have := KC_c (l := l) (f := fun j => M (4252 + j)) (M := M) (show z - 1792 < l by omega)
        obtain ⟨x, hx, e1, e2⟩ := h3 (z - 1792) (by omega)
        rw [show 1792 + (z - 1792) = z by omega] at this e2
        rw [this, e2]
        show nb8 (M (4252 + (z - 1792))) = _
        rw [e1]
        rfl
      · exact KC_o (by omega) q
  · funext z
    by_cases q : z = 2501
    · subst q; rw [KN_l, h2]
    · by_cases q2 : 4252 ≤ z ∧ z < 4252 + l
      · have := KN_c (l := l) (f := fun j => M (4252 + j)) (M := M) (show z - 4252 < l by omega)
        rw [show 4252 + (z - 4252) = z by omega] at this
        exact this
      · exact KN_o (by omega) q
  · obtain ⟨x, hx, e1, -⟩ := h3 j hj
    exact ⟨x, hx, e1⟩
theorem KN_KC {l l2 l3 : Nat} {f g : xM} {M N : xM} (hN : KN l f N = N) (hM : ∀ z, 4252 ≤ z ∨ z = 2501 → M z = N z) : KN l f M = M := by
  funext z
  have h := congrFun hN z
  by_cases q : z = 2501
  · subst q
    rw [KN_l] at h ⊢
    rw [hM _ (Or.inr rfl)]
    exact h
  · by_cases q2 : 4252 ≤ z ∧ z < 4252 + l
    · have a := KN_c (l := l) (f := f) (M := M) (show z - 4252 < l by omega)
      have b := KN_c (l := l) (f := f) (M := N) (show z - 4252 < l by omega)
      rw [show 4252 + (z - 4252) = z by omega] at a b
      rw [a, ← b, h, hM z (Or.inl q2.1)]
    · exact KN_o (by omega) q
end

