/-! more changes -/
section
variable {mm : Nat} {M : xM}
theorem isb1 : vp_nar .boolean 1 = 1 := by decide
theorem isb0 : vp_nar .boolean 0 = 0 := by decide
end

