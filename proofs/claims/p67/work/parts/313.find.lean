/-! the law looks for the nearest stall from the last to the first, the class from the first to the last -/
def nrL (D : Nat → Int32) (s : Nat) : Option Nat → Bool
  | none => true
  | some j => decide (D s < D j)
def nrE (D : Nat → Int32) (s : Nat) : Option Nat → Bool
  | none => true
  | some j => decide (D s ≤ D j)
def upF (V : Nat → Bool) (D : Nat → Int32) : Nat → Nat → Option Nat → Option Nat
  | 0, _, b => b
  | k + 1, s, b => upF V D k (s + 1) (if (V s && nrL D s b) = true then some s else b)
def dnF (V : Nat → Bool) (D : Nat → Int32) : Nat → Option Nat → Option Nat
  | 0, b => b
  | k + 1, b => dnF V D k (if (V k && nrE D k b) = true then some k else b)
def mgF (D : Nat → Int32) : Option Nat → Option Nat → Option Nat
  | none, b => b
  | some s, none => some s
  | some s, some j => if D s ≤ D j then some s else some j
theorem upF_end (V : Nat → Bool) (D : Nat → Int32) : ∀ (k s : Nat) (b : Option Nat), upF V D (k + 1) s b = (if (V (s + k) && nrL D (s + k) (upF V D k s b)) = true then some (s + k) else upF V D k s b)
  | 0, s, b => rfl
  | k + 1, s, b => by
    have h := upF_end V D k (s + 1) (if (V s && nrL D s b) = true then some s else b)
    rw [show s + 1 + k = s + (k + 1) by omega] at h
    exact h
theorem dnF_mg (V : Nat → Bool) (D : Nat → Int32) : ∀ (k : Nat) (b : Option Nat), dnF V D k b = mgF D (upF V D k 0 none) b
  | 0, b => rfl
  | k + 1, b => by
    have ih := dnF_mg V D k (if (V k && nrE D k b) = true then some k else b)
    have e := upF_end V D k 0 none
    rw [Nat.zero_add] at e
    rw [e]
    show dnF V D k (if (V k && nrE D k b) = true then some k else b) = _
    rw [ih]
    generalize upF V D k 0 none = c
    have hlt : ∀ a b : Int32, ¬ a ≤ b → b < a := fun a b h => Int32.not_le.mp h
    have hle : ∀ a b : Int32, ¬ a < b → b ≤ a := fun a b h => Int32.not_lt.mp h
    rcases hV : V k with _ | _
    · simp only [Bool.false_and]
      rfl
    · simp only [Bool.true_and]
      rcases c with _ | j
      · simp only [nrL, if_true]
        rcases b with _ | t
        · rfl
        · by_cases q : D k ≤ D t
          · simp only [mgF, nrL, nrE, q, decide_true, if_true]
          · simp only [mgF, nrL, nrE, q, decide_false]
            rfl
      · rcases b with _ | t
        · by_cases q : D k < D j
          · have q2 : ¬ D j ≤ D k := Int32.not_le.mpr q
            simp only [mgF, nrL, nrE, q, q2, decide_true, if_true, if_false]
          · have q2 : D j ≤ D k := hle _ _ q
            simp only [mgF, nrL, nrE, q, q2, decide_false, if_true]
            rfl
        · by_cases q : D k < D j
          · have q2 : ¬ D j ≤ D k := Int32.not_le.mpr q
            by_cases q3 : D k ≤ D t
            · simp only [mgF, nrL, nrE, q, q2, q3, decide_true, if_true, if_false]
            · have q4 : ¬ D j ≤ D t := fun h => q3 (Int32.le_trans (Int32.le_of_lt q) h)
              simp [mgF, nrL, nrE, q, q3, q4]
          · have q2 : D j ≤ D k := hle _ _ q
            by_cases q3 : D k ≤ D t
            · have q4 : D j ≤ D t := Int32.le_trans q2 q3
              simp [mgF, nrL, nrE, q, q3, q4]
            · simp only [mgF, nrL, nrE, q, q3, decide_false]
              rfl
theorem dn_up (V : Nat → Bool) (D : Nat → Int32) (k : Nat) : dnF V D k none = upF V D k 0 none := by
  rw [dnF_mg]
  rcases upF V D k 0 none with _ | s <;> rfl
/-- what a buyer sees, how far a stall is -/
def vV (u : xM) (i : Nat) (d : Int32) (s : Nat) : Bool := !P_has (u (77 + 8 * i + 6)) s && P_seen u s (u (77 + 8 * i + 0)) d
def vD (u : xM) (i : Nat) (s : Nat) : Int32 := P_apart (u (23 + 9 * s + 0)) (u (77 + 8 * i + 0))
theorem tgt_up (u : xM) (i : Nat) (d : Int32) : ∀ (k s : Nat) (b : Option Nat), P_tgt u i d k s b = upF (vV u i d) (vD u i) k s b
  | 0, _, _ => rfl
  | k + 1, s, b => by
    show P_tgt u i d k (s + 1) (P_tst u i d s b) = _
    rw [tgt_up u i d k (s + 1)]
    show upF (vV u i d) (vD u i) k (s + 1) (P_tst u i d s b) = upF (vV u i d) (vD u i) k (s + 1) _
    rcases b with _ | j <;> rfl
theorem tgt_dn (u : xM) (i : Nat) (d : Int32) (k : Nat) : dnF (vV u i d) (vD u i) k none = P_tgt u i d k 0 none := by
  rw [dn_up, tgt_up]
/-- one pace towards t -/
def pc1 (p t : Nat) : Nat := if p < t then p + 1 else if p = t then p else p - 1
theorem wk_0 {p t : Nat} : wk p 0 t = p := by
  unfold wk
  repeat' split
  all_goals omega
theorem wk_s {p t c : Nat} : wk (pc1 p t) c t = wk p (c + 1) t := by
  unfold pc1 wk
  repeat' split
  all_goals omega
theorem pc1_lt {p t : Nat} (hp : p < 100) (ht : t < 100) : pc1 p t < 100 := by
  unfold pc1
  repeat' split
  all_goals omega
theorem pc1_i {p t : Nat} (hp : p < 100) (ht : t < 100) : nI p + (if p ≤ t then (if t = p then (0 : Int32) else 1) else -1) = nI (pc1 p t) := by
  unfold pc1
  by_cases h : p ≤ t
  · rw [if_pos h]
    by_cases e : t = p
    · rw [if_pos e, if_neg (by omega), if_pos e.symm, Int32.add_zero]
    · rw [if_neg e, if_pos (by omega), nI_1]
  · rw [if_neg h, if_neg (by omega), if_neg (by omega), sub_m1]
    exact pk_sub (b := 1) (by omega)
