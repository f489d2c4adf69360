/-! reading, as numbers: pure -/
def tS (B : Nat → Nat) (l p : Nat) : Nat := SK B (l - p) p
def tK (B : Nat → Nat) (l p : Nat) : Nat := tkk B l (tS B l p)
def tE (B : Nat → Nat) (l p : Nat) : Nat := tke B l (tS B l p)
def tkV (B : Nat → Nat) (l p : Nat) : Nat := CN B (l - tS B l p) (tS B l p) 0
def tM (B : Nat → Nat) (l p : Nat) : Nat := MN B (l - (tS B l p + 1)) (tS B l p + 1) (B (tS B l p) - 48)
def tW (a : Nat) (B : Nat → Nat) (l p : Nat) : Bool := isWt (x_byt a) B l (tS B l p)
theorem tS_b {B : Nat → Nat} {l p : Nat} (h : p ≤ l) : p ≤ tS B l p ∧ tS B l p ≤ l := by
  have := SK_b B (l - p) p
  unfold tS
  omega
theorem tE_b {B : Nat → Nat} {l p : Nat} (h : p ≤ l) : p ≤ tE B l p ∧ tE B l p ≤ l := by
  have h1 := tS_b (B := B) h
  have h2 := tke_b (B := B) h1.2
  unfold tE
  omega
theorem tK_le {B : Nat → Nat} {l p : Nat} : tK B l p ≤ 4 := by
  unfold tK tkk
  repeat' split
  all_goals omega
theorem tkV_lt {B : Nat → Nat} {l p : Nat} (h : p ≤ l) (hk : tK B l p = 1) : nrel (tkV B l p) (tM B l p) := tok_nrel hk (tS_b h).2
def loK (c : Nat) : Nat := if c = 99 ∨ c = 118 ∨ c = 110 then 1 else 0
def hiK (ns nb nf c : Nat) : Nat := if c = 98 then nb else if c = 99 then 1000 else if c = 100 then 10 else if c = 103 then 100 else if c = 105 then nf else if c = 109 then 10000 else if c = 112 then 100 else if c = 115 then ns else if c = 118 then 21 else 101
def PLan (B : Nat → Nat) (l p : Nat) : Nat := if tW 3 B l p = true then 0 else if tW 4 B l p = true then 1 else if tW 5 B l p = true then 2 else if tW 6 B l p = true then 3 else 9
def PTex (B : Nat → Nat) (l p : Nat) : Nat := if tW 7 B l p = true then 0 else if tW 8 B l p = true then 1 else if tW 9 B l p = true then 2 else 9
def PRef (u : xM) (verb idx a0 V : Nat) : Bool := (decide (verb = 4 ∧ idx = 1) && decide (99 < u (23 + 9 * a0 + 4) + nI V)) || (decide (verb = 8) && decide (u (77 + 8 * V + 4) = -1))
/-- an argument: a code (0: good), its value or the error's position, the place behind it -/
def PArg (B : Nat → Nat) (l ns nb nf : Nat) (u : xM) (verb idx a0 c p : Nat) : Nat × Nat × Nat :=
  if c = 108 then (if PLan B l p = 9 then (1, tS B l p, 0) else (0, PLan B l p, tE B l p))
  else if c = 116 then (if PTex B l p = 9 then (1, tS B l p, 0) else (0, PTex B l p, tE B l p))
  else if tK B l p = 1 then (if loK c ≤ tkV B l p ∧ tkV B l p < hiK ns nb nf c then (if PRef u verb idx a0 (tkV B l p) = true then (3, tS B l p, 0) else (0, tkV B l p, tE B l p)) else (2, tS B l p, 0)) else (1, tS B l p, 0)
def setf (a : Nat → Nat) (i x : Nat) : Nat → Nat := fun j => if j = i then x else a j
def PArgs (B : Nat → Nat) (l ns nb nf : Nat) (u : xM) (verb : Nat) : List Nat → Nat → (Nat → Nat) → Nat → Nat × Nat × (Nat → Nat)
  | [], _, a, p => (0, p, a)
  | c :: ks, i, a, p => if (PArg B l ns nb nf u verb i (a 0) c p).1 = 0 then PArgs B l ns nb nf u verb ks (i + 1) (setf a i (PArg B l ns nb nf u verb i (a 0) c p).2.1) (PArg B l ns nb nf u verb i (a 0) c p).2.2 else ((PArg B l ns nb nf u verb i (a 0) c p).1, (PArg B l ns nb nf u verb i (a 0) c p).2.1, a)
/-! the class reads -/
/-- cells that reading in the class writes -/
def rc (z : Nat) : Prop := z = 1779 ∨ z = 1780 ∨ (1783 ≤ z ∧ z ≤ 1791)
def KR (M M' : xM) : Prop := ∀ z, ¬ rc z → M' z = M z
theorem KR.tr {M M1 M2 : xM} (h : KR M M1) (h2 : KR M1 M2) : KR M M2 := fun z hz => (h2 z hz).trans (h z hz)
theorem KR.u {M : xM} {z : Nat} {x : Int32} (h : rc z) : KR M (upd M z x) := fun y hy => un (fun e => hy (e ▸ h))
theorem CT.kr {l : Nat} {B : Nat → Nat} {M M' : xM} (h : CT l B M) (k : KR M M') : CT l B M' := h.keep (fun z hz => k z (by unfold rc; omega))
section
variable {l : Nat} {B : Nat → Nat} {M : xM}
theorem c_tokR {p : Nat} (h : CT l B M) (hp : M 1783 = nI p) (hpl : p ≤ l) : ∃ M', f_X3_readToken M = some M' ∧ M' 1783 = nI (tE B l p) ∧ M' 1784 = nI (ckn (tK B l p)) ∧ M' 1785 = nI (tS B l p) ∧ (tK B l p = 1 → M' 1786 = nI (tkV B l p)) ∧ ∀ z, z ≠ 1783 → z ≠ 1784 → z ≠ 1785 → z ≠ 1786 → M' z = M z := c_tok h hp hpl rfl
theorem c_fail (k : Int32) : f_X3_fail k M = some (0, upd (upd M 1779 k) 1780 (M 1785)) := by
  unfold f_X3_fail
  rw [un (by omega)]
theorem ckn_i {k q : Nat} (hk : k ≤ 4) (hq : q ≤ 4) : (nI (ckn k) = nI (ckn q)) = (k = q) := by
  apply propext
  rw [nI_eq (by unfold ckn; omega) (by unfold ckn; omega)]
  unfold ckn
  omega
theorem c_numFrom {p lo hi : Nat} {hi' : Int32} (h4 : M 1784 = nI (ckn (tK B l p))) (h5 : M 1785 = nI (tS B l p)) (h6 : tK B l p = 1 → M 1786 = nI (tkV B l p)) (hpl : p ≤ l) (hlo : lo < 100000) (hhi : ∀ v, v < 1000000 → ((nI v ≤ hi') = (v < hi))) :
    f_X3_isNumberFrom (nI lo) hi' M = if tK B l p = 1 then (if lo ≤ tkV B l p ∧ tkV B l p < hi then some (1, M) else some (0, upd (upd M 1779 2) 1780 (nI (tS B l p)))) else some (0, upd (upd M 1779 1) 1780 (nI (tS B l p))) := by
  have e2 : (nI (ckn (tK B l p)) = 2) = (tK B l p = 1) := ckn_i (q := 1) tK_le (by omega)
  unfold f_X3_isNumberFrom f_X3_isNumberFrom_c30
  rw [h4]
  simp only [e2]
  by_cases q : tK B l p = 1
  · have hv := tkV_lt hpl q
    have hv1 : tkV B l p < 1000000 := hv.1
    rw [if_pos q, if_pos q, h6 q, c_fail, h5]
    have el : (nI (tkV B l p) < nI lo) = ¬ lo ≤ tkV B l p := by
      apply propext
      rw [nI_ltI (by omega) (by omega)]
      omega
    simp only [el, hhi _ hv1, bd2, ↓reduceIte]
    by_cases q1 : lo ≤ tkV B l p
    · by_cases q2 : tkV B l p < hi
      · rw [if_neg (fun f => f q1), if_pos q2, if_pos ⟨q1, q2⟩]
      · rw [if_neg (fun f => f q1), if_neg q2, if_neg (fun f => q2 f.2)]
    · rw [if_pos q1, if_neg (fun f => q1 f.1)]
  · rw [if_neg q, if_neg q, c_fail, h5]
    simp only [bd2]
    rw [gd_t (show isb 0 = true from rfl)]
theorem c_low {c : Nat} (hc : c < 200) (M : xM) : f_X3_lowest (nI c) M = some (nI (loK c), M) := by
  have g : ∀ q : Nat, q < 200 → (nI c = nI q) = (c = q) := fun q hq => propext (nI_eq (by omega) (by omega))
  have g1 : (nI c = 99) = (c = 99) := g 99 (by omega)
  have g2 : (nI c = 118) = (c = 118) := g 118 (by omega)
  have g3 : (nI c = 110) = (c = 110) := g 110 (by omega)
  unfold f_X3_lowest loK
  simp only [g1, g2, g3]
  by_cases q1 : c = 99
  · rw [if_pos q1, if_pos (Or.inl q1)]; rfl
  · by_cases q2 : c = 118
    · rw [if_neg q1, if_pos q2, if_pos (Or.inr (Or.inl q2))]; rfl
    · by_cases q3 : c = 110
      · rw [if_neg q1, if_neg q2, if_pos q3, if_pos (Or.inr (Or.inr q3))]; rfl
      · rw [if_neg q1, if_neg q2, if_neg q3, if_neg (by omega)]; rfl
theorem hi_c {h v : Nat} {x : Int32} (hx : x = nI h) (hh : h < 100000) (hv : v < 1000000) : (nI v ≤ x) = (v < h + 1) := by
  subst hx
  apply propext
  rw [nI_leI (by omega) (by omega)]
  omega
theorem hi_m {h v : Nat} (hh : h < 1000) (hv : v < 1000000) : (nI v ≤ nI h - 1) = (v < h) := by
  apply propext
  rw [Int32.le_iff_toInt_le]
  have h3 := pk_sub_toInt (a := h) (b := 1) (by omega) (by omega)
  have h4 : (nI h - nI 1).toInt = (nI h - 1).toInt := rfl
  rw [nI_toInt (by omega)]
  omega
def kN (c : Nat) : Prop := c = 98 ∨ c = 99 ∨ c = 100 ∨ c = 103 ∨ c = 105 ∨ c = 109 ∨ c = 110 ∨ c = 112 ∨ c = 115 ∨ c = 118
theorem c_high {c mm ns nb nf : Nat} (hc : kN c) (h : MV mm ns nb nf (win 128 M)) : ∃ x, f_X3_highest (nI c) 128 M = some (x, M) ∧ ∀ v, v < 1000000 → ((nI v ≤ x) = (v < hiK ns nb nf c)) := by
  have e9 : M 137 = nI ns := h.s.1
  have e10 : M 138 = nI nb := h.b.1
  have e8 : M 136 = nI nf := h.f.1
  have hs := h.s.2
  have hb := h.b.2
  have hf := h.f.2
  rcases hc with rfl | rfl | rfl | rfl | rfl | rfl | rfl | rfl | rfl | rfl
  · exact ⟨M 138 - 1, rfl, fun v hv => by rw [e10]; exact hi_m (by omega) hv⟩
  · exact ⟨999, rfl, fun v hv => hi_c (h := 999) rfl (by omega) hv⟩
  · exact ⟨9, rfl, fun v hv => hi_c (h := 9) rfl (by omega) hv⟩
  · exact ⟨99, rfl, fun v hv => hi_c (h := 99) rfl (by omega) hv⟩
  · exact ⟨M 136 - 1, rfl, fun v hv => by rw [e8]; exact hi_m (by omega) hv⟩
  · exact ⟨9999, rfl, fun v hv => hi_c (h := 9999) rfl (by omega) hv⟩
  · exact ⟨100, rfl, fun v hv => hi_c (h := 100) rfl (by omega) hv⟩
  · exact ⟨99, rfl, fun v hv => hi_c (h := 99) rfl (by omega) hv⟩
  · exact ⟨M 137 - 1, rfl, fun v hv => by rw [e9]; exact hi_m (by omega) hv⟩
  · exact ⟨20, rfl, fun v hv => hi_c (h := 20) rfl (by omega) hv⟩
end

