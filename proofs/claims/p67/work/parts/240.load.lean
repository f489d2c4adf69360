/-! loadSetup -/
def PATH (C : xM) : Option (Int32 × xM) := bd2 (f_X3_readHead 128 C) (fun r5 M4 => if r5 = 0 then some (0, M4) else bd2 (f_X6_readCommands M4) (fun r9 M8 => if r9 = -1 then some (0, M8) else some (1, M8)))
theorem repl_path {C M : xM} (h : f_X3_begin M = some C) : f_X6_replaceMarket M = bd2 (PATH C) (fun r M => if r = 0 then some (0, upd M 1778 0) else f_X6_replaceMarket_c34 1 M) := by
  unfold f_X6_replaceMarket PATH
  rw [bd_s h]
  cases e : f_X3_readHead 128 C with
  | none => rfl
  | some q =>
    obtain ⟨r5, M4⟩ := q
    simp only [bd2]
    by_cases q : r5 = 0
    · rw [if_pos q, if_pos q]; rfl
    · rw [if_neg q, if_neg q]
      cases e2 : f_X6_readCommands M4 with
      | none => rfl
      | some w =>
        obtain ⟨r9, M8⟩ := w
        simp only []
        by_cases q2 : r9 = -1
        · rw [if_pos q2, if_pos q2]; rfl
        · rw [if_neg q2, if_neg q2]; rfl
section
variable {l : Nat} {B : Nat → Nat} {M N : xM} {p mm : Nat}
theorem c_c65 {Y : xM} : f_X6_replaceMarket_c65 0 Y = some (1, upd (upd Y 1675 0) 1676 0) := by
  obtain ⟨n, hn⟩ : ∃ n, FU = n + 1 + 1 + 1 := ⟨4093, rfl⟩
  unfold f_X6_replaceMarket_c65
  rw [hn, lp_s, lp_s, lp_s]
  generalize lp (fun _ _ => none) (fun k => fb_X6_replaceMarket_c65 k) n = K
  unfold fb_X6_replaceMarket_c65
  rw [if_neg (show ¬ (2 : Int32) ≤ 0 by decide), gd_t (show inb 0 2 = true by decide), if_neg (show ¬ (2 : Int32) ≤ 0 + 1 by decide), gd_t (show inb (0 + 1) 2 = true by decide), if_pos (show (2 : Int32) ≤ 0 + 1 + 1 by decide), isb0, show (0 : Int32).toNatClampNeg = 0 by decide, show (0 + 1 : Int32).toNatClampNeg = 1 by decide]
theorem c_c34 {Y Y' : xM} (h : f_X2_copyFrom 0 128 (upd Y 1778 0) = some Y') : f_X6_replaceMarket_c34 1 Y = some (1, upd (upd (upd (upd Y' 1669 0) 1670 0) 1675 0) 1676 0) := by
  have e1 : f_X3_clear Y = some (upd Y 1778 0) := rfl
  have e2 : f_X6_forgetChanges Y' = some (upd (upd Y' 1669 0) 1670 0) := rfl
  unfold f_X6_replaceMarket_c34
  rw [bd_s e1, if_neg (show ¬ (1 : Int32) = 0 by decide), bd_s h, bd_s e2, c_c65]
end

