/-! the model reads and does one command -/
def PVb (b1 b2 b3 b4 b5 b6 b7 b8 b9 : Bool) : Nat := if b1 = true then 1 else if b2 = true then 2 else if b3 = true then 3 else if b4 = true then 4 else if b5 = true then 5 else if b6 = true then 6 else if b7 = true then 7 else if b8 = true then 8 else if b9 = true then 9 else 0
def sel1 (b1 b2 b3 : Bool) : Int32 := if b1 = true then 0 else if b2 = true then 1 else if b3 = true then 2 else -1
def sel2 (b4 b5 b9 : Bool) : Int32 := if b4 = true then 3 else if b5 = true then 4 else if b9 = true then 5 else -1
def sel3 (b6 b7 b8 : Bool) : Int32 := if b6 = true then 6 else if b7 = true then 7 else if b8 = true then 8 else -1
def sel (x y z : Int32) : Int32 := if x = -1 then (if y = -1 then z else y) else x
theorem sel_b : ∀ b1 b2 b3 b4 b5 b6 b7 b8 b9 : Bool, (b9 = true → b6 = false ∧ b7 = false ∧ b8 = false) → sel (sel1 b1 b2 b3) (sel2 b4 b5 b9) (sel3 b6 b7 b8) = if PVb b1 b2 b3 b4 b5 b6 b7 b8 b9 = 0 then -1 else nI (mi (PVb b1 b2 b3 b4 b5 b6 b7 b8 b9)) := by decide +kernel
section
variable {l : Nat} {B : Nat → Nat} {N : xM} {mm ns nb nf verb p : Nat} {u : xM}
theorem PVerb_e : PVerb B l p = PVb (tW 22 B l p) (tW 24 B l p) (tW 30 B l p) (tW 26 B l p) (tW 32 B l p) (tW 34 B l p) (tW 36 B l p) (tW 28 B l p) (tW 38 B l p) := rfl
theorem tW_len {a : Nat} (h : tW a B l p = true) : tE B l p = tS B l p + (x_byt a).length := by
  unfold tW isWt at h
  simp only [Bool.and_eq_true, decide_eq_true_eq] at h
  exact h.2.1
theorem tW_ne {a b : Nat} (e : (x_byt a).length ≠ (x_byt b).length) (h : tW a B l p = true) : tW b B l p = false := by
  rw [Bool.eq_false_iff]
  intro h2
  have := tW_len h
  have := tW_len h2
  omega
theorem MM.r {v v' : xM} (h : MM mm ns nb nf u v) (e : ∀ z, z < 125 → v' z = v z) : MM mm ns nb nf u v' :=
  ⟨h.1, h.2.1, h.2.2.1, h.2.2.2.trans (fun z hz => (e z (Lv_lt h.1.s.2 h.1.b.2 h.1.f.2.2 hz)).symm)⟩
theorem MM.lft {v u' : xM} (h : MM mm ns nb nf u v) (e : ∀ z, z < 125 → u' z = u z) : MM mm ns nb nf u' v := by
  have hS : Sim ns nb nf u u' := fun z hz => (e z (Lv_lt h.1.s.2 h.1.b.2 h.1.f.2.2 hz)).symm
  exact ⟨hS.MV h.1, EC_sim hS h.2.1, BT_sim hS h.2.2.1, hS.symm.trans h.2.2.2⟩
theorem win_wr {b : Nat} {w M : xM} {z : Nat} (hz : z < 125) : win b (wr b w M) z = w z := wr_in rfl hz
end

