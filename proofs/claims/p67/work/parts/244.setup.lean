/-! the program's own setup is good -/
def LB20 : List Nat := [109, 97, 114, 107, 101, 116, 32, 52, 32, 50, 48, 32, 49, 48, 59, 32, 102, 111, 103, 32, 50, 32, 53, 32, 55, 32, 51, 32, 56, 59, 32, 115, 116, 97, 108, 108, 32, 51, 48, 32, 114, 101, 100, 32, 115, 109, 111, 111, 116, 104, 32, 49, 50, 32, 53, 59, 32, 115, 116, 97, 108, 108, 32, 49, 56, 32, 119, 104, 105, 116, 101, 32, 115, 111, 102, 116, 32, 55, 32, 51, 59, 32, 115, 116, 97, 108, 108, 32, 53, 53, 32, 98, 108, 117, 101, 32, 115, 109, 111, 111, 116, 104, 32, 57, 32, 50, 59, 32, 98, 117, 121, 101, 114, 32, 50, 53, 32, 52, 48, 32, 115, 109, 111, 111, 116, 104, 32, 54, 59, 32, 98, 117, 121, 101, 114, 32, 48, 32, 54, 32, 115, 111, 102, 116, 32, 52, 59, 32, 98, 117, 121, 101, 114, 32, 54, 48, 32, 49, 48, 48, 32, 115, 109, 111, 111, 116, 104, 32, 57, 59, 32, 109, 105, 110, 117, 116, 101, 115, 32, 55, 59]
def B20 (j : Nat) : Nat := LB20.getD j 0
theorem B20_x : x_slen 0 = 181 ∧ ∀ j : Fin 181, x_sb 0 j.val = nI (B20 j.val) ∧ B20 j.val < 128 := by decide +kernel
set_option maxRecDepth 100000 in
theorem set1 : tW 1 B20 181 0 = true ∧ tE B20 181 0 = 6 ∧ tK B20 181 6 = 1 ∧ tkV B20 181 6 = 4 ∧ tE B20 181 6 = 8 ∧ tK B20 181 8 = 1 ∧ tkV B20 181 8 = 20 ∧ tE B20 181 8 = 11 ∧ tK B20 181 11 = 1 ∧ tkV B20 181 11 = 10 ∧ tE B20 181 11 = 14 ∧ tK B20 181 14 = 2 ∧ tE B20 181 14 = 15 ∧ tW 2 B20 181 15 = true ∧ tE B20 181 15 = 19 := by decide +kernel
set_option maxRecDepth 100000 in
theorem set2 : FOGB B20 181 [21, 23, 25, 27, 29] 19 = true ∧ tE B20 181 29 = 30 := by decide +kernel
set_option maxRecDepth 100000 in
theorem set3 : CMDB B20 181 5 [56, 81, 107, 129, 147, 170, 181] 0 0 0 30 = true := by decide +kernel
theorem start_path {M : xM} (h : CS 181 B20 M 0) : ∃ M', PATH M = some (1, M') := by
  obtain ⟨a1, a2, a3, a4, a5, a6, a7, a8, a9, a10, a11, a12, a13, a14, a15⟩ := set1
  have hd := k_head a1 a2 a3 (by omega) (by omega) a5 a6 (by omega) (by omega) a8 a9 (by omega) a11 a12 a13 a14 a15 set2.1 (by decide) (by decide) h
  rw [show lastP [21, 23, 25, 27, 29] 19 = 29 from rfl, set2.2] at hd
  exact k_path hd set3 (by decide)

