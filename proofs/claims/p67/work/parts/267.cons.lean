/-! the tables of the class and of the model -/
def tbF : List xQ := [(4, 1664, 0), (12, 384, 8), (12, 1408, 2), (8, 1675, 2), (7, 1677, 100)]
def tbX : List xQ := tbF ++ (((tbMk 0 ++ tbMk 128 ++ tbMk 256 ++ tbR) ++ (List.range 8).flatMap (fun j => tbMk (384 + 128 * j))) ++ (List.range 2).flatMap (fun j => tbMk (1408 + 128 * j)))
def apt (q r : xQ) : Bool := decide (x_sz q = 0) || decide (x_sz r = 0) || decide (q.2.1 + x_sz q ≤ r.2.1) || decide (r.2.1 + x_sz r ≤ q.2.1)
theorem apt_e {q r : xQ} (h : apt q r = true) {z : Nat} (h1 : x_in q z) (h2 : x_in r z) : False := by
  unfold apt at h
  simp only [Bool.or_eq_true, decide_eq_true_eq] at h
  unfold x_in at h1 h2
  omega
def aptL (tb : List xQ) : Prop := tb.Pairwise (fun q r => apt q r = true)
theorem aptL_e {tb : List xQ} (h : aptL tb) : ∀ (i j : Nat) (a b : xQ) (z : Nat), tb[i]? = some a → tb[j]? = some b → x_in a z → x_in b z → i = j := by
  intro i j a b z hi hj ha hb
  have key := List.pairwise_iff_getElem.mp h
  obtain ⟨li, ei⟩ := List.getElem?_eq_some_iff.mp hi
  obtain ⟨lj, ej⟩ := List.getElem?_eq_some_iff.mp hj
  rcases Nat.lt_trichotomy i j with q | q | q
  · have := key i j li lj q
    rw [ei, ej] at this
    exact (apt_e this ha hb).elim
  · exact q
  · have := key j i lj li q
    rw [ei, ej] at this
    exact (apt_e this hb ha).elim
set_option maxRecDepth 100000 in
theorem apt_X : aptL tbX := by unfold aptL; decide +kernel
theorem T_of {A : Nat → Prop} {g : xG} {tb : List xQ} {M : xM} (hD : va_D A (x_ws g tb M)) (ha : aptL tb) : x_T g tb :=
  ⟨fun i j a b hi hj e => hD.1 i j _ _ (x_ws_at hi) (x_ws_at hj) e, aptL_e ha⟩
theorem ws_fst {g : xG} {tb : List xQ} {M : xM} : (x_ws g tb M).map Prod.fst = tb.map (x_ad g) := by
  unfold x_ws
  rw [List.map_map]
  rfl
theorem ws_app {g : xG} {t1 t2 : List xQ} {M : xM} : x_ws g (t1 ++ t2) M = x_ws g t1 M ++ x_ws g t2 M := List.map_append
theorem H_app {D : va_G} {g : xG} {t1 t2 : List xQ} {M : xM} {H : Heap} : x_H D g (t1 ++ t2) M H ↔ x_H D g t1 M H ∧ x_H D g t2 M H := by
  unfold x_H
  rw [ws_app]
  exact P_app
/-- cells outside the table say nothing -/
theorem H_cong {D : va_G} {g : xG} {tb : List xQ} {M M' : xM} {H : Heap} (e : ∀ q ∈ tb, ∀ z, x_in q z → M' z = M z) (h : x_H D g tb M H) : x_H D g tb M' H := by
  refine P_iff.mpr (fun q hq => ?_)
  obtain ⟨r, hr, rfl⟩ := List.mem_map.mp hq
  exact x_agree (e r hr) (P_iff.mp h _ (List.mem_map.mpr ⟨r, hr, rfl⟩))
theorem mk_in {tb : List xQ} {b : Nat} (h : ∀ q ∈ tbMk b, q ∈ tb) : x_mk tb b := by
  have hm : ∀ q, q ∈ tbMk b → q ∈ tb := h
  refine ⟨hm _ ?_, hm _ ?_, hm _ ?_, hm _ ?_, fun i hi => hm _ ?_, fun i hi => hm _ ?_⟩
  · exact List.mem_append_left _ (List.mem_append_left _ (List.mem_of_getElem? (i := 0) rfl))
  · exact List.mem_append_left _ (List.mem_append_left _ (List.mem_of_getElem? (i := 1) rfl))
  · exact List.mem_append_left _ (List.mem_append_left _ (List.mem_of_getElem? (i := 2) rfl))
  · exact List.mem_append_left _ (List.mem_append_left _ (List.mem_of_getElem? (i := 3) rfl))
  · exact List.mem_append_left _ (List.mem_append_right _ (List.mem_map.mpr ⟨i, List.mem_range.mpr hi, rfl⟩))
  · exact List.mem_append_right _ (List.mem_map.mpr ⟨i, List.mem_range.mpr hi, rfl⟩)
theorem fb_in {tb : List xQ} (h : ∀ q ∈ tbX, q ∈ tb) : x_fb tb := by
  have hF : ∀ q ∈ tbF, q ∈ tb := fun q hq => h q (List.mem_append_left _ hq)
  have h1 : ∀ q ∈ (tbMk 0 ++ tbMk 128 ++ tbMk 256 ++ tbR), q ∈ tb := fun q hq => h q (List.mem_append_right _ (List.mem_append_left _ (List.mem_append_left _ hq)))
  have h2 : ∀ q ∈ (List.range 8).flatMap (fun j => tbMk (384 + 128 * j)), q ∈ tb := fun q hq => h q (List.mem_append_right _ (List.mem_append_left _ (List.mem_append_right _ hq)))
  have h3 : ∀ q ∈ (List.range 2).flatMap (fun j => tbMk (1408 + 128 * j)), q ∈ tb := fun q hq => h q (List.mem_append_right _ (List.mem_append_right _ hq))
  have hR : ∀ q ∈ tbR, q ∈ tb := fun q hq => h1 q (List.mem_append_right _ hq)
  exact ⟨hF _ (List.mem_of_getElem? (i := 0) rfl), mk_in (fun q hq => h1 q (List.mem_append_left _ (List.mem_append_left _ (List.mem_append_left _ hq)))), mk_in (fun q hq => h1 q (List.mem_append_left _ (List.mem_append_left _ (List.mem_append_right _ hq)))), mk_in (fun q hq => h1 q (List.mem_append_left _ (List.mem_append_right _ hq))),
    ⟨hR _ (List.mem_of_getElem? (i := 0) rfl), hR _ (List.mem_of_getElem? (i := 1) rfl), hR _ (List.mem_of_getElem? (i := 2) rfl)⟩, hF _ (List.mem_of_getElem? (i := 1) rfl), hF _ (List.mem_of_getElem? (i := 2) rfl), hF _ (List.mem_of_getElem? (i := 3) rfl), hF _ (List.mem_of_getElem? (i := 4) rfl),
    fun i hi => mk_in (fun q hq => h2 q (List.mem_flatMap.mpr ⟨i, List.mem_range.mpr hi, hq⟩)), fun i hi => mk_in (fun q hq => h3 q (List.mem_flatMap.mpr ⟨i, List.mem_range.mpr hi, hq⟩))⟩
/-- the memory at the start -/
def Z0 : xM := fun z => if (z < 1664 ∧ (z % 128 = 81 ∨ z % 128 = 89 ∨ z % 128 = 97 ∨ z % 128 = 105 ∨ z % 128 = 113 ∨ z % 128 = 121)) ∨ z = 1780 then -1 else 0
theorem Z0_m (t : Nat) (ht : t < 13) {b : Nat} (hb : b = 128 * t) : Zm b Z0 := by
  subst hb
  refine ⟨fun i hi => ?_, fun j hj c hc => ?_, fun j hj c hc => ?_⟩
  · unfold Z0
    rw [if_neg (by omega)]
  · obtain ⟨w, hw⟩ : ∃ w, 9 * j + c = w := ⟨_, rfl⟩
    have h1 : w ≤ 53 := by omega
    rw [show 128 * t + 23 + 9 * j + c = 128 * t + 23 + w by omega]
    unfold Z0
    rw [if_neg (by omega)]
  · unfold Z0
    by_cases h : c = 4
    · subst h
      rw [if_pos rfl, if_pos (by omega)]
    · rw [if_neg h, if_neg (by omega)]
theorem Z0_r : Zr Z0 := by
  refine ⟨fun i hi h => ?_, ?_, fun i hi => ?_, fun i hi => ?_, fun i hi => ?_⟩
  · unfold Z0; rw [if_neg (by omega)]
  · rfl
  · unfold Z0; rw [if_neg (by omega)]
  · unfold Z0; rw [if_neg (by omega)]
  · unfold Z0; rw [if_neg (by omega)]
theorem Z0_0 {z : Nat} (h : 1664 ≤ z) (h1 : z ≠ 1780) : Z0 z = 0 := by
  unfold Z0
  rw [if_neg (by omega)]
/-- a market's cells under other addresses elsewhere -/
theorem mk_g {D : va_G} {a a' : Nat → Nat → Nat} {g2 : (Nat → ClassId) × (Nat → Nat)} {b : Nat} {Z : xM} (h : ∀ k z, k < 12 → k ≠ 4 → k ≠ 8 → b ≤ z → z < b + 125 → a' k z = a k z) : (tbMk b).map (x_ad (a', g2)) = (tbMk b).map (x_ad (a, g2)) ∧ ∀ H, x_H D (a, g2) (tbMk b) Z H → x_H D (a', g2) (tbMk b) Z H := by
  have key : ∀ r ∈ tbMk b, x_ad (a', g2) r = x_ad (a, g2) r := by
    intro r hr
    simp only [tbMk, List.mem_append, List.mem_cons, List.not_mem_nil, or_false, List.mem_map, List.mem_range] at hr
    rcases hr with ((rfl | rfl | rfl | rfl) | ⟨j, hj, rfl⟩) | ⟨j, hj, rfl⟩
    · exact h 2 b (by omega) (by omega) (by omega) (by omega) (by omega)
    · exact h 10 (b + 23) (by omega) (by omega) (by omega) (by omega) (by omega)
    · exact h 11 (b + 77) (by omega) (by omega) (by omega) (by omega) (by omega)
    · exact h 6 (b + 11) (by omega) (by omega) (by omega) (by omega) (by omega)
    · exact h 0 (b + 23 + 9 * j) (by omega) (by omega) (by omega) (by omega) (by omega)
    · exact h 1 (b + 77 + 8 * j) (by omega) (by omega) (by omega) (by omega) (by omega)
  refine ⟨List.map_congr_left key, fun H hP => P_iff.mpr (fun q hq => ?_)⟩
  obtain ⟨r, hr, rfl⟩ := List.mem_map.mp hq
  have hp : va_at D xCl (x_ad (a, g2) r, x_cell (a, g2) Z r) H := P_iff.mp hP _ (List.mem_map.mpr ⟨r, hr, rfl⟩)
  have ek := key r hr
  simp only [tbMk, List.mem_append, List.mem_cons, List.not_mem_nil, or_false, List.mem_map, List.mem_range] at hr
  rcases hr with ((rfl | rfl | rfl | rfl) | ⟨j, hj, rfl⟩) | ⟨j, hj, rfl⟩
  · have e : x_cell (a', g2) Z (2, b, 0) = x_cell (a, g2) Z (2, b, 0) := by
      show (Sum.inr (1, x_f2 (a', g2) b Z) : va_E) = .inr (1, x_f2 (a, g2) b Z)
      unfold x_f2
      rw [show (a', g2).1 10 (b + 23) = (a, g2).1 10 (b + 23) from h 10 (b + 23) (by omega) (by omega) (by omega) (by omega) (by omega), show (a', g2).1 11 (b + 77) = (a, g2).1 11 (b + 77) from h 11 (b + 77) (by omega) (by omega) (by omega) (by omega) (by omega), show (a', g2).1 6 (b + 11) = (a, g2).1 6 (b + 11) from h 6 (b + 11) (by omega) (by omega) (by omega) (by omega) (by omega)]
    rw [ek, e]
    exact hp
  · rw [ek]
    exact Eq.trans (show H[x_ad (a, g2) (10, b + 23, 6)]? = some (vp_cell (g2.1 4) (6, .inr (.inr (.inr (.inr (fun j => some (a 0 (b + 23 + 9 * j)))))))) from hp) (congrArg some (arr_q (fun j hj => (congrArg some (h 0 (b + 23 + 9 * j) (by omega) (by omega) (by omega) (by omega) (by omega))).symm)))
  · rw [ek]
    exact Eq.trans (show H[x_ad (a, g2) (11, b + 77, 6)]? = some (vp_cell (g2.1 5) (6, .inr (.inr (.inr (.inr (fun j => some (a 1 (b + 77 + 8 * j)))))))) from hp) (congrArg some (arr_q (fun j hj => (congrArg some (h 1 (b + 77 + 8 * j) (by omega) (by omega) (by omega) (by omega) (by omega))).symm)))
  · rw [ek]
    exact hp
  · rw [ek]
    exact hp
  · rw [ek]
    exact hp
theorem rd_g {D : va_G} {a a' : Nat → Nat → Nat} {g2 : (Nat → ClassId) × (Nat → Nat)} {Z : xM} (h3 : a' 3 1777 = a 3 1777) (h7 : a' 7 1792 = a 7 1792) (h6 : a' 6 1787 = a 6 1787) : tbR.map (x_ad (a', g2)) = tbR.map (x_ad (a, g2)) ∧ ∀ H, x_H D (a, g2) tbR Z H → x_H D (a', g2) tbR Z H := by
  have ws : x_ws (a', g2) tbR Z = x_ws (a, g2) tbR Z := by
    show [(a' 3 1777, x_cell (a', g2) Z (3, 1777, 0)), (a' 7 1792, x_cell (a', g2) Z (7, 1792, 700)), (a' 6 1787, x_cell (a', g2) Z (6, 1787, 5))] = [(a 3 1777, x_cell (a, g2) Z (3, 1777, 0)), (a 7 1792, x_cell (a, g2) Z (7, 1792, 700)), (a 6 1787, x_cell (a, g2) Z (6, 1787, 5))]
    have e : x_cell (a', g2) Z (3, 1777, 0) = x_cell (a, g2) Z (3, 1777, 0) := by
      show (Sum.inr (2, x_f3 (a', g2) 1777 Z) : va_E) = .inr (2, x_f3 (a, g2) 1777 Z)
      unfold x_f3
      rw [show (a', g2).1 7 (1777 + 15) = (a, g2).1 7 (1777 + 15) from h7, show (a', g2).1 6 (1777 + 10) = (a, g2).1 6 (1777 + 10) from h6]
    rw [h3, h7, h6, e]
    rfl
  refine ⟨?_, fun H hP => ?_⟩
  · rw [← ws_fst (M := Z), ← ws_fst (M := Z), ws]
  · unfold x_H
    rw [ws]
    exact hP
