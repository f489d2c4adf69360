/-! commands, one after another, on both sides -/
def KW (M M' : xM) : Prop := ∀ z, ¬ (rd z ∨ (128 ≤ z ∧ z < 253)) → M' z = M z
theorem KW.tr {M M1 M2 : xM} (h : KW M M1) (h2 : KW M1 M2) : KW M M2 := fun z hz => (h2 z hz).trans (h z hz)
theorem KD.w {N N' : xM} (h : KD N N') : KW N N' := fun z hz => h z (fun e => hz (Or.inl e))
theorem mi_i : ∀ v : Fin 10, 1 ≤ v.val → ((nI (mi v.val) = 0) = (v.val = 1)) ∧ ((nI (mi v.val) = 1) = (v.val = 2)) ∧ ¬ nI (mi v.val) = -1 := by
  have : ∀ v : Fin 10, 1 ≤ v.val → (decide (nI (mi v.val) = 0) = decide (v.val = 1)) ∧ (decide (nI (mi v.val) = 1) = decide (v.val = 2)) ∧ ¬ nI (mi v.val) = -1 := by decide +kernel
  intro v hv
  obtain ⟨a, b, c⟩ := this v hv
  exact ⟨propext (decide_eq_decide.mp a), propext (decide_eq_decide.mp b), c⟩
section
variable {l : Nat} {B : Nat → Nat} {M N : xM} {mm ns nb nf p : Nat}
theorem DOut.err {c q v : Nat} {a : Nat → Nat} {o : Option (Int32 × xM)} (h : DOut l (c, q, v, a) M o) (h0 : c ≠ 0) (h9 : c ≠ 9) : ∃ M', o = some (0, M') ∧ KD M M' ∧ M' 1779 = nI c ∧ M' 1780 = nI q := by
  rcases h with ⟨e, -⟩ | ⟨e, -⟩ | ⟨-, -, r⟩
  · exact absurd e h0
  · exact absurd e h9
  · exact r
theorem DOut.fin {q v : Nat} {a : Nat → Nat} {o : Option (Int32 × xM)} (h : DOut l (9, q, v, a) M o) : ∃ M', o = some (0, M') ∧ KD M M' ∧ M' 1779 = M 1779 ∧ M' 1780 = M 1780 := by
  rcases h with ⟨e, -⟩ | ⟨-, r⟩ | ⟨-, e, -⟩
  · exact absurd e (show ¬ 9 = 0 by omega)
  · exact r
  · exact absurd rfl e
theorem DOut.ok {q v : Nat} {a : Nat → Nat} {o : Option (Int32 × xM)} (h : DOut l (0, q, v, a) M o) : ∃ M', o = some (1, M') ∧ KD M M' ∧ M' 1783 = nI q ∧ q ≤ l ∧ M' 1781 = nI v ∧ (∀ j, j < (kinds v).length → M' (1787 + j) = nI (a j)) ∧ M' 1779 = M 1779 ∧ M' 1780 = M 1780 := by
  rcases h with ⟨-, r⟩ | ⟨e, -⟩ | ⟨e, -⟩
  · exact r
  · exact absurd e (show ¬ 0 = 9 by omega)
  · exact absurd rfl e
theorem CT.kw {M' : xM} (h : CT l B M) (k : KW M M') : CT l B M' := h.keep (fun z hz => k z (by unfold rd rc; omega))
end

