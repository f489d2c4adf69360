/-! commands that add; the frame of a change -/
section
variable {mm mm' ns nb nf i s : Nat} {u v M N : xM}
theorem MM.stall (h : MM mm ns nb nf u v) (hn : ns < 6) {p r : Nat} {l t g : Int32} (hp : p < 100) (hr : r ≤ 999) : MM mm (ns + 1) nb nf (P_stall ns u (nI p) l t (nI r) g) (P_stall ns v (nI p) l t (nI r) g) := by
  obtain ⟨a, b, c, d⟩ := h
  have hb6 := a.b.2
  have hf := a.f.2
  have hO : ∀ z, z ≠ 9 → (z < 23 + 9 * ns ∨ 23 + 9 * ns + 9 ≤ z) → P_stall ns u (nI p) l t (nI r) g z = u z := fun z => stallO
  have hC : ∀ k, k < 9 → P_stall ns u (nI p) l t (nI r) g (23 + 9 * ns + k) = sv (nI p) l t (nI r) g k := fun k => stallC
  have h9 : P_stall ns u (nI p) l t (nI r) g 9 = nI (ns + 1) := stall9
  have hOv : ∀ z, z ≠ 9 → (z < 23 + 9 * ns ∨ 23 + 9 * ns + 9 ≤ z) → P_stall ns v (nI p) l t (nI r) g z = v z := fun z => stallO
  have hCv : ∀ k, k < 9 → P_stall ns v (nI p) l t (nI r) g (23 + 9 * ns + k) = sv (nI p) l t (nI r) g k := fun k => stallC
  have h9v : P_stall ns v (nI p) l t (nI r) g 9 = nI (ns + 1) := stall9
  generalize P_stall ns u (nI p) l t (nI r) g = w at hO hC h9 ⊢
  generalize P_stall ns v (nI p) l t (nI r) g = w' at hOv hCv h9v ⊢
  refine ⟨⟨⟨h9, by omega⟩, ?_, ?_, ?_, ?_, ?_, ?_, ?_, fun i hi => ?_, fun i hi => ?_, fun i hi => ?_⟩, ⟨fun j hj => ?_, fun j hj => ?_, ?_, fun j hj => ?_⟩, ⟨fun j hj => ?_, ?_⟩, fun z hz => ?_⟩
  · rw [hO 10 (by omega) (by omega)]; exact a.b
  · rw [hO 8 (by omega) (by omega)]; exact a.f
  · rw [hO 0 (by omega) (by omega)]; exact a.m
  · rw [hO 3 (by omega) (by omega), hO 6 (by omega) (by omega), hO 1 (by omega) (by omega)]; exact a.t
  · rw [hO 1 (by omega) (by omega)]; exact a.o
  · rw [hO 2 (by omega) (by omega)]; exact a.r
  · rw [hO 7 (by omega) (by omega)]; exact a.p
  · rw [hO _ (by omega) (by omega)]; exact a.d i hi
  · by_cases e : i = ns
    · subst e; exact ⟨p, hp, hC 0 (by omega)⟩
    · rw [hO _ (by omega) (by omega)]; exact a.st i (by omega)
  · obtain ⟨x1, x2, x3⟩ := BV_cong (w := w) (a.bu i hi) (fun k hk => hO _ (by omega) (by omega))
    refine ⟨x1, x2, ?_⟩
    rcases x3 with x3 | ⟨q, hq, e⟩
    · exact Or.inl x3
    · exact Or.inr ⟨q, by omega, e⟩
  · by_cases e : j = ns
    · subst e; exact ⟨0, by omega, hC 7 (by omega)⟩
    · rw [hO _ (by omega) (by omega)]; exact b.1 j (by omega)
  · rw [hO _ (by omega) (by omega), hO _ (by omega) (by omega)]; exact b.2.1 j hj
  · have e1 : sm (eN w) ns = sm (eN u) ns := sm_cong (fun k hk => by unfold eN; rw [hO _ (by omega) (by omega)])
    have e2 : eN w ns = 0 := by unfold eN; rw [hC 7 (by omega)]; rfl
    have e3 : sm (cN w) nb = sm (cN u) nb := sm_cong (fun k hk => by unfold cN; rw [hO _ (by omega) (by omega)])
    show sm (eN w) ns + eN w ns + sm (cN w) nb ≤ 9999 * nb
    have := b.2.2.1
    omega
  · by_cases e : j = ns
    · subst e; exact ⟨r, hr, hC 3 (by omega)⟩
    · rw [hO _ (by omega) (by omega)]; exact b.2.2.2 j (by omega)
  · rw [hO _ (by omega) (by omega)]; exact c.1 j hj
  · rw [hO _ (by omega) (by omega)]; exact c.2
  · by_cases e : z = 9
    · subst e; rw [h9, h9v]
    · by_cases e2 : 23 + 9 * ns ≤ z ∧ z < 23 + 9 * ns + 9
      · have x1 := hC (z - (23 + 9 * ns)) (by omega)
        have x2 := hCv (z - (23 + 9 * ns)) (by omega)
        rw [show 23 + 9 * ns + (z - (23 + 9 * ns)) = z by omega] at x1 x2
        rw [x1, x2]
      · rw [hO z e (by omega), hOv z e (by omega)]
        exact d z (by unfold Lv at hz ⊢; omega)
theorem MM.buyer (h : MM mm ns nb nf u v) (hn : nb < 6) {p c0 x : Nat} {t : Int32} (hp : p < 100) (hc : c0 ≤ 9999) (hx : 1 ≤ x) (hx2 : x ≤ 20) : MM mm ns (nb + 1) nf (P_buyer nb u (nI p) (nI c0) t (nI x)) (P_buyer nb v (nI p) (nI c0) t (nI x)) := by
  obtain ⟨a, b, c, d⟩ := h
  have hs6 := a.s.2
  have hf := a.f.2
  have hO : ∀ z, z ≠ 10 → (z < 77 + 8 * nb ∨ 77 + 8 * nb + 8 ≤ z) → P_buyer nb u (nI p) (nI c0) t (nI x) z = u z := fun z => buyerO
  have hC : ∀ k, k < 8 → P_buyer nb u (nI p) (nI c0) t (nI x) (77 + 8 * nb + k) = bv (nI p) (nI c0) t (nI x) k := fun k => buyerC
  have h9 : P_buyer nb u (nI p) (nI c0) t (nI x) 10 = nI (nb + 1) := buyer10
  have hOv : ∀ z, z ≠ 10 → (z < 77 + 8 * nb ∨ 77 + 8 * nb + 8 ≤ z) → P_buyer nb v (nI p) (nI c0) t (nI x) z = v z := fun z => buyerO
  have hCv : ∀ k, k < 8 → P_buyer nb v (nI p) (nI c0) t (nI x) (77 + 8 * nb + k) = bv (nI p) (nI c0) t (nI x) k := fun k => buyerC
  have h9v : P_buyer nb v (nI p) (nI c0) t (nI x) 10 = nI (nb + 1) := buyer10
  generalize P_buyer nb u (nI p) (nI c0) t (nI x) = w at hO hC h9 ⊢
  generalize P_buyer nb v (nI p) (nI c0) t (nI x) = w' at hOv hCv h9v ⊢
  refine ⟨⟨?_, ⟨h9, by omega⟩, ?_, ?_, ?_, ?_, ?_, ?_, fun i hi => ?_, fun i hi => ?_, fun i hi => ?_⟩, ⟨fun j hj => ?_, fun j hj => ?_, ?_, fun j hj => ?_⟩, ⟨fun j hj => ?_, ?_⟩, fun z hz => ?_⟩
  · rw [hO 9 (by omega) (by omega)]; exact a.s
  · rw [hO 8 (by omega) (by omega)]; exact a.f
  · rw [hO 0 (by omega) (by omega)]; exact a.m
  · rw [hO 3 (by omega) (by omega), hO 6 (by omega) (by omega), hO 1 (by omega) (by omega)]; exact a.t
  · rw [hO 1 (by omega) (by omega)]; exact a.o
  · rw [hO 2 (by omega) (by omega)]; exact a.r
  · rw [hO 7 (by omega) (by omega)]; exact a.p
  · rw [hO _ (by omega) (by omega)]; exact a.d i hi
  · rw [hO _ (by omega) (by omega)]; exact a.st i hi
  · by_cases e : i = nb
    · subst e
      exact ⟨⟨p, hp, hC 0 (by omega)⟩, ⟨x, hx, hx2, hC 3 (by omega)⟩, Or.inl ⟨hC 4 (by omega), hC 5 (by omega)⟩⟩
    · exact BV_cong (a.bu i (by omega)) (fun k hk => hO _ (by omega) (by omega))
  · rw [hO _ (by omega) (by omega)]; exact b.1 j hj
  · by_cases e : j = nb
    · subst e; exact ⟨c0, 0, by omega, by omega, hC 1 (by omega), hC 5 (by omega)⟩
    · rw [hO _ (by omega) (by omega), hO _ (by omega) (by omega)]; exact b.2.1 j (by omega)
  · have e1 : sm (eN w) ns = sm (eN u) ns := sm_cong (fun k hk => by unfold eN; rw [hO _ (by omega) (by omega)])
    have e2 : cN w nb = c0 := by
      unfold cN
      rw [hC 1 (by omega)]
      exact cl (by omega)
    have e3 : sm (cN w) nb = sm (cN u) nb := sm_cong (fun k hk => by unfold cN; rw [hO _ (by omega) (by omega)])
    show sm (eN w) ns + (sm (cN w) nb + cN w nb) ≤ 9999 * (nb + 1)
    have := b.2.2.1
    omega
  · rw [hO _ (by omega) (by omega)]; exact b.2.2.2 j hj
  · by_cases e : j = nb
    · subst e; exact ⟨0, by omega, hC 7 (by omega)⟩
    · rw [hO _ (by omega) (by omega)]; exact c.1 j (by omega)
  · rw [hO _ (by omega) (by omega)]; exact c.2
  · by_cases e : z = 10
    · subst e; rw [h9, h9v]
    · by_cases e2 : 77 + 8 * nb ≤ z ∧ z < 77 + 8 * nb + 8
      · have x1 := hC (z - (77 + 8 * nb)) (by omega)
        have x2 := hCv (z - (77 + 8 * nb)) (by omega)
        rw [show 77 + 8 * nb + (z - (77 + 8 * nb)) = z by omega] at x1 x2
        rw [x1, x2]
      · rw [hO z e (by omega), hOv z e (by omega)]
        exact d z (by unfold Lv at hz ⊢; omega)
theorem MM.pass (h : MM mm ns nb nf u v) (t : Nat) : MM (mm + t) ns nb nf (P_pass ns nb nf t u) (P_pass ns nb nf t v) :=
  ⟨MV_pass t mm _ h.1, EC_pass t mm _ h.1 h.2.1, BT_pass t mm _ h.1 h.2.2.1, S_pass t mm _ _ h.2.2.2 h.1⟩
theorem MM.mk (h : MM mm ns nb nf u v) : Mk2 mm u v := ⟨ns, nb, nf, h⟩
end

