section
variable {mm ns nb nf : Nat} {u v M T : xM}
theorem EC_price {s r : Nat} (hs6 : ns ≤ 6) (h : EC ns nb u) (hs : s < ns) (hr : r ≤ 999) : EC ns nb (upd u (23 + 9 * s + 3) (nI r)) := by
  refine ⟨fun j hj => ?_, fun i hi => ?_, ?_, fun j hj => ?_⟩
  · rw [un (by omega)]; exact h.1 j hj
  · rw [un (by omega), un (by omega)]; exact h.2.1 i hi
  · rw [sm_cong (f := eN u) (g := eN (upd u (23 + 9 * s + 3) (nI r))) (fun k hk => by unfold eN; rw [un (by omega)]), sm_cong (f := cN u) (g := cN (upd u (23 + 9 * s + 3) (nI r))) (fun k hk => by unfold cN; rw [un (by omega)])]
    exact h.2.2.1
  · by_cases e : j = s
    · subst e; exact ⟨r, hr, us⟩
    · rw [un (by omega)]; exact h.2.2.2 j hj
end
section
variable {mm : Nat} {M : xM}
end

