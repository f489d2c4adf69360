/-! the class's minute: bell, target, acts, mist, pass -/
theorem i01 : ((0 : Int32) = 1) = False := eq_false (by decide)
theorem FU_e (n : Nat) (h : n < 4096) : n < FU := h
theorem sub_m1 (x : Int32) : x + (-1) = x - 1 := (Int32.sub_eq_add_neg x 1).symm
theorem c_paces (l d : Int32) (M : xM) : f_X4_paces l d M = some (P_reach l d, M) := by
  unfold f_X4_paces P_reach
  repeat' split
  all_goals rfl
theorem iabs_ap {p q : Nat} (hp : p < 100) (hq : q < 100) : iabs (nI p - nI q) = P_apart (nI p) (nI q) := by
  unfold iabs P_apart
  by_cases h : q ≤ p
  · rw [if_pos (nI_le h (by omega)), pk_sub h, if_pos (nI_pos' (by omega))]
  · have h0 : ¬ (0 : Int32) ≤ nI p - nI q := fun e => by
      have h1 := pk_sub_toInt (a := p) (b := q) (by omega) (by omega)
      have h2 := Int32.le_iff_toInt_le.mp e
      have h3 : (0 : Int32).toInt = 0 := rfl
      omega
    rw [if_neg h0, if_neg (nI_ge (by omega) (by omega)), Int32.zero_sub, Int32.neg_sub]
section
variable {mm ns nb nf b i : Nat} {u M : xM}
theorem c_ends (hb6 : nb ≤ 6) : ∀ (k i n : Nat) (u : xM) (d : Int32), i + k = nb → k < n → MV mm ns nb nf u → lp (fun _ _ => none) (fun k => fb_X2_moveBell_c57 k b d) n (nI i) (wr b u M) = some (wr b (P_ends k i u) M)
  | 0, i, n + 1, u, d, hi, _, h => by
    rw [lp_s]
    unfold fb_X2_moveBell_c57
    have hb := h.b
    simp (disch := omega) only [wr_h, hb.1, nI_ll, ↓reduceIte, P_ends]
  | k + 1, i, n + 1, u, d, hi, hn, h => by
    rw [lp_s]
    have ih := c_ends hb6 k (i + 1) n (P_end1 u i) d (by omega) (by omega) (MV_end1 h (by omega))
    generalize lp (fun _ _ => none) (fun k => fb_X2_moveBell_c57 k b d) n = K at ih ⊢
    unfold fb_X2_moveBell_c57
    have hb := h.b
    have hc := c_ret (b := b) (M := M) h (show i < nb by omega)
    simp (disch := omega) only [wr_h, hb.1, nI_lx, ↓reduceIte, inb_nI, gd, cl, hc, bd, uw_b, nI_1]
    exact ih
theorem c_close (d : Int32) (h : MV mm ns nb nf u) : f_X2_moveBell_c45 b d (wr b u M) = some (wr b (P_close nb u) M) := by
  have hb := h.b
  unfold f_X2_moveBell_c45 f_X2_moveBell_c57 P_close
  rw [uw_h (by omega), uw_h (by omega)]
  exact c_ends hb.2 nb 0 FU _ d (by omega) (FU_e _ (by omega)) (MV_cl0 h)
theorem c_c94 (d : Int32) (h : MV mm ns nb nf u) (v : Int32) (hv : v = 0 ↔ u 5 ≤ d) (h1 : u 1 = 0) : f_X2_moveBell_c94 b d v (wr b u M) = some (wr b (if u 2 = 1 then (if d < u 5 then u else P_ring u) else u) M) := by
  unfold f_X2_moveBell_c94 P_ring
  simp (disch := omega) only [wr_h, h1, ↓reduceIte, uw_h, un]
  rcases h.r with e | e
  · simp only [e, ↓reduceIte, i01]
  · simp only [e, i10, ↓reduceIte]
    by_cases q : u 5 ≤ d
    · rw [if_pos (hv.mpr q), if_neg (by rw [Int32.not_lt]; exact q)]
    · rw [if_neg (fun e => q (hv.mp e)), if_pos (by rw [← Int32.not_le]; exact q)]
theorem c_bell2 (d : Int32) (h : MV mm ns nb nf u) (v : Int32) (hv : v = 0 ↔ u 5 ≤ d) : f_X2_moveBell_c23 b d v (wr b u M) = some (wr b (P_bell2 nb d u) M) := by
  obtain ⟨a, c, h1, h2, h3, h4, h5, h6⟩ := h.t
  unfold f_X2_moveBell_c23 P_bell2
  rcases h.o with e | e
  · rw [wr_h (by omega), e, if_pos rfl, if_neg (by decide)]
    exact c_c94 d h v hv e
  · have hx : f_X2_moveBell_c94 b d v (wr b u M) = some (wr b u M) := by
      unfold f_X2_moveBell_c94
      simp (disch := omega) only [wr_h, e, i10, ↓reduceIte]
    rw [wr_h (by omega), e, if_neg (by decide), if_pos rfl, hx, c_close d h]
    by_cases q : u 5 ≤ d
    · have hd : ¬ d < u 5 := by rw [Int32.not_lt]; exact q
      rw [if_pos (hv.mpr q), if_neg hd, wr_h (k := 3) (by omega), wr_h (k := 6) (by omega), h4, h5]
      by_cases q2 : a = c
      · subst q2
        rw [if_neg (nI_nlt (by omega) (by omega)), if_pos rfl]
      · rw [if_pos (nI_lt (by omega) (by omega)), if_neg (fun e => q2 ((nI_eq (by omega) (by omega)).mp e))]
    · rw [if_neg (fun e => q (hv.mp e)), if_pos (by rw [← Int32.not_le]; exact q)]
theorem c_bell (d : Int32) (h : MV mm ns nb nf u) : f_X2_moveBell b d (wr b u M) = some (wr b (P_bell nb d u) M) := by
  unfold f_X2_moveBell f_X2_moveBell_c13 P_bell
  rw [wr_h (by omega)]
  have hr := MV_rdy (d := d) h
  unfold P_rdy at hr ⊢
  by_cases q : u 5 ≤ d
  · rw [if_pos q, if_pos rfl]
    rw [if_pos q] at hr ⊢
    exact c_bell2 d hr 0 ⟨fun _ => q, fun _ => rfl⟩
  · rw [if_neg q, if_neg (by decide), uw_h (by omega)]
    rw [if_neg q] at hr ⊢
    exact c_bell2 d hr 1 ⟨fun e => absurd e (by decide), fun e => absurd (by rw [un (by omega)] at e; exact e) q⟩
/-- the shortest way so far, as the class keeps it -/
def sh (u : xM) (i : Nat) : Option Nat → Int32
  | none => 100
  | some j => P_apart (u (23 + 9 * j + 0)) (u (77 + 8 * i + 0))
theorem c_avoids (m s : Nat) (hm : m < 6) : f_X1_avoids (b + 77 + 8 * m) (nI s) (wr b u M) = some (if P_has (u (77 + 8 * m + 6)) s = true then 1 else 0, wr b u M) := by
  unfold f_X1_avoids P_has
  rw [wr_b hm (by omega)]
  obtain ⟨j, hj, e⟩ := pk_andE (u (77 + 8 * m + 6) >>> (nI s &&& 31)) (m := 1) 1 rfl
  rw [e]
  rcases (show j = 0 ∨ j = 1 by omega) with rfl | rfl
  · rfl
  · rfl
theorem c_tstep {s : Nat} {d : Int32} {best : Option Nat} (K : Int32 → Int32 → Int32 → xM → Option (Int32 × xM)) (h : MV mm ns nb nf u) (hi : i < nb) (hs : s < ns) (hb : ∀ j, best = some j → j < ns) :
    fb_X2_findTarget_c9 K b (b + 77 + 8 * i) d (eo best) (sh u i best) (nI s) (wr b u M) = K (eo (P_tst u i d s best)) (sh u i (P_tst u i d s best)) (nI (s + 1)) (wr b u M) := by
  have h6 := h.s
  have hb6 := h.b.2
  obtain ⟨p, hp, ep⟩ := h.st s hs
  obtain ⟨q, hq, eq⟩ := (h.bu i hi).1
  have hab : iabs (u (23 + 9 * s + 0) - u (77 + 8 * i + 0)) = P_apart (u (23 + 9 * s + 0)) (u (77 + 8 * i + 0)) := by rw [ep, eq]; exact iabs_ap hp hq
  have hn : (sh u i best ≤ P_apart (u (23 + 9 * s + 0)) (u (77 + 8 * i + 0))) ↔ P_near u (u (77 + 8 * i + 0)) s best = false := by
    rcases best with _ | j
    · have : ¬ (100 : Int32) ≤ P_apart (u (23 + 9 * s + 0)) (u (77 + 8 * i + 0)) := by
        rw [ep, eq, ap hp hq]
        exact nI_ge (b := 100) (by split <;> omega) (by omega)
      exact ⟨fun e => absurd e this, fun e => by cases e⟩
    · show _ ↔ decide _ = false
      rw [decide_eq_false_iff_not, Int32.not_lt]
      exact Iff.rfl
  unfold fb_X2_findTarget_c9 P_tst P_seen
  simp (disch := omega) only [wr_h, h6.1, nI_lx, ↓reduceIte, inb_nI, gd, cl, c_paces, bd2, wr_s, wr_b, hab]
  unfold f_X2_findTarget_c62
  by_cases q1 : P_reach (u (23 + 9 * s + 1)) d < P_apart (u (23 + 9 * s + 0)) (u (77 + 8 * i + 0))
  · rw [if_pos q1, if_pos rfl, decide_eq_false (by rw [Int32.not_le]; exact q1), Bool.and_false, Bool.false_and, if_neg (by decide), nI_1]
  · rw [if_neg q1, if_neg (by decide), decide_eq_true (by rw [← Int32.not_lt]; exact q1), Bool.and_true]
    by_cases q2 : sh u i best ≤ P_apart (u (23 + 9 * s + 0)) (u (77 + 8 * i + 0))
    · rw [if_pos q2, hn.mp q2, Bool.and_false, if_neg (by decide), nI_1]
    · have q3 : P_near u (u (77 + 8 * i + 0)) s best = true := by
        rcases hx : P_near u (u (77 + 8 * i + 0)) s best with _ | _
        · exact absurd (hn.mpr hx) q2
        · rfl
      rw [if_neg q2, q3, Bool.and_true, c_avoids i s (by omega)]
      cases P_has (u (77 + 8 * i + 6)) s
      · simp only [bd2, Bool.not_false, ↓reduceIte, nI_1]
        rfl
      · simp only [bd2, Bool.not_true, ↓reduceIte, i10, nI_1]
        rfl
theorem c_tgt {d : Int32} (h : MV mm ns nb nf u) (hi : i < nb) : ∀ (k s n : Nat) (best : Option Nat), s + k = ns → k < n → (∀ j, best = some j → j < ns) →
    lp (fun _ _ _ _ => none) (fun k => fb_X2_findTarget_c9 k b (b + 77 + 8 * i) d) n (eo best) (sh u i best) (nI s) (wr b u M) = some (eo (P_tgt u i d k s best), wr b u M)
  | 0, s, n + 1, best, hs, hn, hb => by
    rw [lp_s]
    unfold fb_X2_findTarget_c9
    have h6 := h.s
    simp (disch := omega) only [wr_h, h6.1, nI_ll, ↓reduceIte, P_tgt]
  | k + 1, s, n + 1, best, hs, hn, hb => by
    rw [lp_s, c_tstep _ h hi (by omega) hb]
    exact c_tgt h hi k (s + 1) n _ (by omega) (by omega) (fun j hj => by
      unfold P_tst at hj
      split at hj
      · cases hj; omega
      · exact hb j hj)
theorem c_find {d : Int32} (h : MV mm ns nb nf u) (hi : i < nb) : f_X2_findTarget b (b + 77 + 8 * i) d (wr b u M) = some (eo (P_tgt u i d ns 0 none), wr b u M) := by
  have h6 := h.s.2
  unfold f_X2_findTarget f_X2_findTarget_c9
  exact c_tgt h hi ns 0 FU none (by omega) (FU_e _ (by omega)) (fun j hj => by cases hj)
theorem c_walk {t : Nat} (h : MV mm ns nb nf u) (hi : i < nb) (ht : t < 100) : f_X1_walkTo (b + 77 + 8 * i) (nI t) (wr b u M) = some (wr b (P_mv u i (nI t)) M) := by
  have hb6 := h.b.2
  obtain ⟨⟨p, hp, e1⟩, ⟨v, hv1, hv, e2⟩, -⟩ := h.bu i hi
  unfold f_X1_walkTo P_mv
  simp (disch := omega) only [wr_b, uw_b, e1, e2, walk_nI]
  have g : ∀ x y : Nat, x < 100 → y < 100 → (nI x - nI y ≤ nI v ↔ x ≤ y + v) := fun x y hx hy => by
    rw [Int32.le_iff_toInt_le, pk_sub_toInt (by omega) (by omega), nI_toInt (by omega)]
    omega
  unfold wk
  by_cases q1 : t ≤ p + v
  · rw [if_pos ((g t p ht hp).mpr q1)]
    by_cases q2 : p ≤ t + v
    · rw [if_pos ((g p t hp ht).mpr q2)]
      congr 3
      repeat' split
      all_goals (first | rfl | (congr 1; omega))
    · rw [if_neg (fun e => q2 ((g p t hp ht).mp e)), pk_sub (by omega)]
      congr 3
      repeat' split
      all_goals (first | rfl | (congr 1; omega) | omega)
  · rw [if_neg (fun e => q1 ((g t p ht hp).mp e)), nI_add]
    congr 3
    repeat' split
    all_goals (first | rfl | (congr 1; omega) | omega)
theorem c_feel {s : Nat} (hi : i < 6) (hs : s < 6) : f_X1_feel (b + 77 + 8 * i) (b + 23 + 9 * s) (wr b u M) = some (P_feel u i s, wr b u M) := by
  unfold f_X1_feel P_feel
  simp (disch := omega) only [wr_b, wr_s]
  repeat' split
  all_goals rfl
theorem c_take {s : Nat} (hi : i < 6) (hs : s < 6) : f_X1_take (b + 77 + 8 * i) (b + 23 + 9 * s) (nI s) (wr b u M) = some (wr b (P_take u i s) M) := by
  unfold f_X1_take P_take
  simp (disch := omega) only [wr_b, wr_s, uw_b, uw_s, un]
theorem c_avoid {s : Nat} (hi : i < 6) : f_X1_avoid (b + 77 + 8 * i) (nI s) (wr b u M) = some (wr b (P_avoid u i s) M) := by
  unfold f_X1_avoid P_avoid
  simp (disch := omega) only [wr_b, uw_b]
theorem c_pay {q : Nat} (hi : i < 6) (hq : q < 6) : f_X1_payTo (b + 77 + 8 * i) (b + 23 + 9 * q) (wr b u M) = some (wr b (P_pay u i q) M) := by
  unfold f_X1_payTo f_X1_letGo P_pay
  simp (disch := omega) only [wr_b, wr_s, uw_b, uw_s, un, bd]
  rw [usw u (i := 77 + 8 * i + 1) (j := 23 + 9 * q + 7) (by omega), usw (upd u (23 + 9 * q + 7) _) (i := 77 + 8 * i + 1) (j := 23 + 9 * q + 5) (by omega)]
theorem c_act {d : Int32} (h : MV mm ns nb nf u) (hi : i < nb) : f_X2_letAct b (b + 77 + 8 * i) d (wr b u M) = some (wr b (P_act ns d i u) M) := by
  have hb6 := h.b.2
  have hs := h.s
  unfold f_X2_letAct P_act
  rcases hold_cases (h.bu i hi) hs.2 with ⟨e1, e2, e3⟩ | ⟨q, hq, e1, e2⟩
  · simp (disch := omega) only [wr_b, e1, e2, c_isSn, bd2, ↓reduceIte, c_find h hi]
    rcases ht : P_tgt u i d ns 0 none with _ | s
    · simp only [eo, c_isSn, ↓reduceIte, P_actO]
    · have hsn : s < ns := P_tgt_lt ns 0 none (by omega) (fun j hj => by cases hj) s ht
      obtain ⟨p, hp, ep⟩ := h.st s hsn
      simp (disch := omega) only [eo, c_isS h hsn, i10, ↓reduceIte, gd, inb_nI, cl, wr_s, ep, c_walk h hi hp, bd, wr_b, P_actO, P_actT, P_got, c_feel]
      have e3 : P_mv u i (nI p) (23 + 9 * s + 0) = nI p := by unfold P_mv; rw [un (by omega), ep]
      rw [e3]
      by_cases q1 : P_mv u i (nI p) (77 + 8 * i + 0) = nI p
      · rw [if_pos q1, if_pos q1]
        by_cases q2 : P_feel (P_mv u i (nI p)) i s = 0
        · rw [if_pos q2, if_pos q2, c_take (by omega) (by omega)]
        · rw [if_neg q2, if_neg q2, c_avoid (by omega)]
      · rw [if_neg q1, if_neg q1]
  · obtain ⟨p, hp, ep⟩ := h.p
    simp (disch := omega) only [wr_b, e1, e2, c_isS h hq, bd2, ↓reduceIte, i10, wr_h, ep, c_walk h hi hp, bd, P_actH]
    have e3 : P_mv u i (nI p) 7 = nI p := by unfold P_mv; rw [un (by omega), ep]
    have e4 : P_mv u i (nI p) (77 + 8 * i + 4) = nI q := by unfold P_mv; rw [un (by omega), e2]
    rw [e3, e4]
    by_cases q1 : P_mv u i (nI p) (77 + 8 * i + 0) = nI p
    · rw [if_pos q1, if_pos q1]
      simp (disch := omega) only [gd, inb_nI, cl, c_pay]
    · rw [if_neg q1, if_neg q1]
theorem c_guard {a : Nat} {N : xM} : f_X4_guardedDensity a N = some (P_guard (N (a + 1)), N) := by
  unfold f_X4_guardedDensity P_guard
  repeat' split
  all_goals rfl
theorem c_mist {s : Nat} (d : Int32) (hs : s < 6) : f_X4_letMistIn (b + 23 + 9 * s) d (wr b u M) = some (wr b (P_mist d s u) M) := by
  unfold f_X4_letMistIn P_mist
  simp (disch := omega) only [wr_s, c_guard, bd2, uw_s, un]
  repeat' split
  all_goals rfl
end

