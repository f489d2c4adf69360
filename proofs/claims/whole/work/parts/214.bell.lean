/-! predictions: the bell -/
def HA (u v : xM) : Prop := ∀ z, z < 23 → u z = v z
def P_bm (nb nf : Nat) (u : xM) : xM := P_tick (if P_bell nb (P_dens nf u) u 1 = 1 then P_since (P_bell nb (P_dens nf u) u) else P_bell nb (P_dens nf u) u)
def PRing (ns nb nf : Nat) : Nat → Nat → xM → Int32
  | 0, _, _ => -1
  | k + 1, m, v => if v 1 = 0 ∧ P_bell nb (P_dens nf v) v 1 = 1 then nI m else PRing ns nb nf k (m + 1) (P_min ns nb nf v)
def PEnd (ns nb nf : Nat) : Nat → Nat → xM → Int32
  | 0, _, _ => -1
  | k + 1, m, v => if P_bell nb (P_dens nf v) v 1 = 0 then nI m else PEnd ns nb nf k (m + 1) (P_min ns nb nf v)
theorem wr_wr {b : Nat} {x v T : xM} : wr b x (wr b v T) = wr b x T := by
  funext z
  by_cases q : b ≤ z ∧ z < b + 125
  · rw [wr_in (z := z - b) (by omega) (by omega), wr_in (z := z - b) (by omega) (by omega)]
  · rw [wr_out (by omega), wr_out (by omega), wr_out (by omega)]
theorem win_out {a b : Nat} {v T : xM} (h : apartW a b) : ∀ z, z < 125 → win a (wr b v T) z = win a T z := by
  intro z hz
  unfold apartW at h
  exact wr_out (by omega)
theorem wr_same {b : Nat} {x y T : xM} (h : ∀ z, z < 125 → x z = y z) : wr b x T = wr b y T := by
  funext z
  by_cases q : b ≤ z ∧ z < b + 125
  · rw [wr_in (z := z - b) (by omega) (by omega), wr_in (z := z - b) (by omega) (by omega)]
    exact h _ (by omega)
  · rw [wr_out (by omega), wr_out (by omega)]
theorem m_leave' {r : Int32} {v T : xM} : f_X7_leaveTrial r (wr 2520 v T) = some (r, wr 2520 (win 2770 T) T) := by
  rw [m_leave, wr_wr, wr_same (win_out (a := 2770) (b := 2520) (Or.inr (by decide)))]
section
variable {mm ns nb nf : Nat} {u v M T : xM}
theorem P_ended_iff {d : Int32} (h1 : u 1 = 1) : (P_ended d (P_rdy d u) = 1 ∧ P_bell nb d u 1 = 0) ∨ (P_ended d (P_rdy d u) = 0 ∧ P_bell nb d u 1 = 1) := by
  have e1 : P_rdy d u 1 = 1 := by
    unfold P_rdy
    split
    · exact h1
    · rw [un (by omega)]; exact h1
  have hc : P_close nb (P_rdy d u) 1 = 0 := by
    unfold P_close
    rw [P_ends_lo (by omega), un (by omega), us]
  unfold P_ended P_bell P_bell2
  rw [e1, if_pos rfl, if_pos rfl]
  split
  · exact Or.inl ⟨rfl, hc⟩
  · split
    · exact Or.inl ⟨rfl, hc⟩
    · exact Or.inr ⟨rfl, e1⟩
theorem HA_dens (h : HA u v) (hv : MV mm ns nb nf u) : P_dens nf u = P_dens nf v := by
  have hf := hv.f.2
  unfold P_dens
  rw [h 0 (by omega), h _ (by have := Nat.mod_lt ((v 0).toNatClampNeg / 5) (show 0 < nf by omega); omega)]
theorem HA_upd (h : HA u v) {z : Nat} {x y : Int32} (e : x = y) : HA (upd u z x) (upd v z y) := by
  intro a ha
  by_cases q : a = z
  · subst q; rw [us, us, e]
  · rw [un q, un q]; exact h a ha
theorem HA_bell (h : HA u v) {d : Int32} : HA (P_bell nb d u) (P_bell nb d v) := by
  have hr : HA (P_rdy d u) (P_rdy d v) := by
    unfold P_rdy
    rw [h 5 (by omega)]
    split
    · exact h
    · exact HA_upd h rfl
  have hc : HA (P_close nb (P_rdy d u)) (P_close nb (P_rdy d v)) := by
    intro z hz
    unfold P_close
    rw [P_ends_lo hz, P_ends_lo hz]
    exact HA_upd (HA_upd hr rfl) rfl z hz
  have hg : HA (P_ring (P_rdy d u)) (P_ring (P_rdy d v)) := HA_upd (HA_upd (HA_upd (HA_upd hr rfl) rfl) rfl) (by rw [hr 4 (by omega)])
  unfold P_bell P_bell2
  rw [hr 1 (by omega), hr 2 (by omega), hr 3 (by omega), hr 5 (by omega), hr 6 (by omega)]
  repeat' split
  all_goals first | exact hc | exact hg | exact hr
theorem HA_bm (h : HA u v) (hv : MV mm ns nb nf u) : HA (P_bm nb nf u) (P_min ns nb nf v) := by
  have hb := HA_bell (nb := nb) (d := P_dens nf u) h
  unfold P_bm P_min P_min1 P_tick
  rw [← HA_dens h hv, hb 1 (by omega)]
  split
  · have g : HA (P_since (P_bell nb (P_dens nf u) u)) (P_opn ns nb (P_dens nf u) (P_bell nb (P_dens nf u) v)) := by
      intro z hz
      have k : ∀ y, y < 23 → P_mists (P_dens nf u) ns 0 (P_acts ns (P_dens nf u) nb 0 (P_bell nb (P_dens nf u) v)) y = P_bell nb (P_dens nf u) u y := fun y hy => by rw [P_mists_lo hy, P_acts_lo hy, hb y hy]
      unfold P_opn P_since
      by_cases q : z = 3
      · subst q; rw [us, us, k 3 (by omega)]
      · rw [un q, un q, k z hz]
    exact HA_upd g (by rw [g 0 (by omega)])
  · exact HA_upd hb (by rw [hb 0 (by omega)])
theorem MV_bm (h : MV mm ns nb nf u) : MV (mm + 1) ns nb nf (P_bm nb nf u) := by
  have h1 := MV_bell2 (d := P_dens nf u) (MV_rdy (d := P_dens nf u) h)
  unfold P_bm
  refine MV_tick ?_
  split
  · rename_i ho
    obtain ⟨a, c, h2, h3, h4, h5⟩ := h1.2 ho
    exact MV_since (a := a) (c := c) h1.1 ho h2 h3 h4 h5
  · exact h1.1
theorem z57 {w N : xM} : wr 256 w N 257 = w 1 := wr_in rfl (by decide)
theorem c_ringL : ∀ (k m n mm : Nat) (u v : xM), m + k = 201 → k < n → mm + k < 1073741824 → MV mm ns nb nf u → HA u v → ∃ u', lp (fun _ _ => none) (fun k => fb_X6_minutesToBell_c13 k) n (nI m) (wr 256 u M) = some (PRing ns nb nf k m v, wr 256 u' M)
  | 0, m, n + 1, mm, u, v, hm, hn, hb, hv, h => by
    refine ⟨u, ?_⟩
    rw [lp_s]
    unfold fb_X6_minutesToBell_c13
    rw [if_pos (show (200 : Int32) < nI m from nI_lt (a := 200) (by omega) (by omega))]
    rfl
  | k + 1, m, n + 1, mm, u, v, hm, hn, hb, hv, h => by
    have hbb := MV_bell (d := P_dens nf u) hv
    have hB := HA_bell (nb := nb) (d := P_dens nf u) h
    obtain ⟨u', ih⟩ := c_ringL k (m + 1) n (mm + 1) (P_bm nb nf u) (P_min ns nb nf v) (by omega) (by omega) (by omega) (MV_bm hv) (HA_bm h hv)
    rw [lp_s]
    generalize lp (fun _ _ => none) (fun k => fb_X6_minutesToBell_c13 k) n = K at ih ⊢
    have hl : ¬ (200 : Int32) < nI m := nI_nlt (b := m) (a := 200) (by omega) (by decide)
    have hgo : f_X6_minutesToBell_c58 K (nI m) (wr 256 (P_bell nb (P_dens nf u) u) M) = some (PRing ns nb nf k (m + 1) (P_min ns nb nf v), wr 256 u' M) := by
      unfold f_X6_minutesToBell_c58
      rw [bd_s (c_count hbb.o), nI_1]
      exact ih
    unfold fb_X6_minutesToBell_c13
    simp only [hl, ↓reduceIte, c_now hv (show mm < 2147483648 by omega), bd2, c_bell _ hv, bd, z57]
    show ∃ u', _ = some (if v 1 = 0 ∧ P_bell nb (P_dens nf v) v 1 = 1 then nI m else PRing ns nb nf k (m + 1) (P_min ns nb nf v), wr 256 u' M)
    rw [← HA_dens h hv, ← h 1 (by omega), ← hB 1 (by omega)]
    rcases hbb.o with e | e
    · rw [e]
      simp only [↓reduceIte, i01, and_false]
      refine ⟨u', ?_⟩
      split <;> exact hgo
    · rw [e]
      simp only [i10, ↓reduceIte, and_true]
      rcases hv.o with e2 | e2
      · rw [e2]
        simp only [↓reduceIte]
        exact ⟨_, rfl⟩
      · rw [e2]
        simp only [i10, ↓reduceIte]
        exact ⟨u', hgo⟩
theorem m_backL {a : Int32} {q : Nat} (hq : q < 1073741824) {n : Nat} {x : Int32} : lp (fun _ _ _ => none) (fun k => fb_X7_minutesTo_c8 k a) (n + 1) (nI q) x (wr 2520 v T) = some (nI q, wr 2520 (win 2770 T) T) := by
  rw [lp_s]
  unfold fb_X7_minutesTo_c8
  simp (disch := omega) only [nI_m1, ↓reduceIte, m_leave', bd2]
  split <;> rfl
theorem m_ringL : ∀ (k m n mm : Nat) (v T : xM), m + k = 201 → k + 1 < n → mm + k < 1073741824 → MV mm ns nb nf v → BT mm nb v → ∃ e, lp (fun _ _ _ => none) (fun k => fb_X7_minutesTo_c8 k 0) n (-1) (nI m) (wr 2520 v T) = some (PRing ns nb nf k m v, wr 2520 (win 2770 T) (upd T 2512 e))
  | 0, m, n + 1, mm, v, T, hm, hn, hb, hv, hB => by
    refine ⟨T 2512, ?_⟩
    rw [lp_s, usame rfl]
    unfold fb_X7_minutesTo_c8
    rw [if_pos (show (200 : Int32) < nI m from nI_lt (a := 200) (by omega) (by omega)), m_leave']
    rfl
  | k + 1, m, n + 1, mm, v, T, hm, hn, hb, hv, hB => by
    obtain ⟨r, hr, er⟩ := hB.2
    have hw : ∀ e, win 2770 (upd T 2512 e) = win 2770 T := fun e => by
      funext z
      exact un (by omega)
    obtain ⟨e, ih⟩ := m_ringL k (m + 1) n (mm + 1) (P_min ns nb nf v) (upd T 2512 (P_ended (P_dens nf v) (P_rdy (P_dens nf v) v))) (by omega) (by omega) (by omega) (MV_min hv) (BT_min hv hB)
    rw [hw, utwice] at ih
    have hl : ¬ (200 : Int32) < nI m := nI_nlt (b := m) (a := 200) (by omega) (by decide)
    rw [lp_s]
    obtain ⟨n', rfl⟩ : ∃ n', n = n' + 1 := ⟨n - 1, by omega⟩
    have hbk := m_backL (a := 0) (q := m) (by omega) (n := n') (x := nI (m + 1)) (v := P_min ns nb nf v) (T := upd T 2512 (P_ended (P_dens nf v) (P_rdy (P_dens nf v) v)))
    rw [hw] at hbk
    generalize lp (fun _ _ _ => none) (fun k => fb_X7_minutesTo_c8 k 0) (n' + 1) = K at ih hbk ⊢
    unfold fb_X7_minutesTo_c8 f_X7_minutesTo_c61 f_X7_minutesTo_c73
    simp only [hl, ↓reduceIte, m_min hv (show mm < 2147483648 by omega), bd2, mh4]
    rw [P_min_lo (by omega) (by omega) (by omega), P_bell_r hv, nI_1]
    show ∃ e, _ = some (if v 1 = 0 ∧ P_bell nb (P_dens nf v) v 1 = 1 then nI m else PRing ns nb nf k (m + 1) (P_min ns nb nf v), wr 2520 (win 2770 T) (upd T 2512 e))
    by_cases q : v 1 = 0 ∧ P_bell nb (P_dens nf v) v 1 = 1
    · rw [if_pos q, if_pos q, er, nI_1, if_neg (nI_ge (by omega) (by omega)), if_neg (by decide)]
      exact ⟨_, hbk⟩
    · rw [if_neg q, if_neg q, Int32.add_zero, if_pos (Int32.le_refl _)]
      exact ⟨e, ih⟩
/-- what a prediction leaves as it was -/
theorem RR_trial {mm : Nat} {M N : xM} {e : Int32} (h : RR mm M) (hN : ∀ z, rz z → N z = M z) : RR mm (wr 2520 (win 2770 (wr 2770 (win 2520 N) N)) (upd (wr 2770 (win 2520 N) N) 2512 e)) := by
  refine RR_cong h (fun z hz => ?_)
  have hz' := hz
  unfold rz at hz'
  by_cases q : 2520 ≤ z ∧ z < 2645
  · rw [wr_in (z := z - 2520) (by omega) (by omega)]
    show wr 2770 (win 2520 N) N (2770 + (z - 2520)) = M z
    rw [wr_in (z := z - 2520) rfl (by omega)]
    show N (2520 + (z - 2520)) = M z
    rw [show 2520 + (z - 2520) = z by omega]
    exact hN z hz
  · rw [wr_out (by omega), un (by omega), wr_out (by omega)]
    exact hN z hz
theorem rz256 {z : Nat} {w N : xM} (hz : rz z) : wr 256 w N z = N z := wr_out (by unfold rz at hz; omega)
theorem rzU {z : Nat} {N : xM} {x : Int32} (hz : rz z) : upd N 2504 x z = N z := un (by unfold rz at hz; omega)
theorem m_trial {v T : xM} : f_X7_startTrial (wr 2520 v T) = some (wr 2520 v (wr 2770 v T)) := by
  rw [m_start]
  congr 1
  funext z
  by_cases q : 2770 ≤ z ∧ z < 2895
  · rw [wr_in (z := z - 2770) (by omega) (by omega), wr_out (by omega), wr_in (z := z - 2770) (by omega) (by omega)]
    show wr 2520 v T (2520 + (z - 2770)) = _
    rw [wr_in rfl (by omega)]
  · rw [wr_out (by omega)]
    by_cases q2 : 2520 ≤ z ∧ z < 2645
    · rw [wr_in (z := z - 2520) (by omega) (by omega), wr_in (z := z - 2520) (by omega) (by omega)]
    · rw [wr_out (by omega), wr_out (by omega), wr_out (by omega)]
theorem PRing_HA : ∀ (k m mm : Nat) (u v : xM), MV mm ns nb nf u → Sim ns nb nf u v → PRing ns nb nf k m u = PRing ns nb nf k m v
  | 0, _, _, _, _, _, _ => rfl
  | k + 1, m, mm, u, v, hv, h => by
    show (if u 1 = 0 ∧ P_bell nb (P_dens nf u) u 1 = 1 then nI m else PRing ns nb nf k (m + 1) (P_min ns nb nf u)) = (if v 1 = 0 ∧ P_bell nb (P_dens nf v) v 1 = 1 then nI m else PRing ns nb nf k (m + 1) (P_min ns nb nf v))
    rw [← S_dens h hv.f.2.1, h.h (z := 1) (by omega), (S_bell h hv (d := P_dens nf u)).h (z := 1) (by omega), PRing_HA k (m + 1) (mm + 1) _ _ (MV_min hv) (S_min h hv)]
theorem PEnd_HA : ∀ (k m mm : Nat) (u v : xM), MV mm ns nb nf u → Sim ns nb nf u v → PEnd ns nb nf k m u = PEnd ns nb nf k m v
  | 0, _, _, _, _, _, _ => rfl
  | k + 1, m, mm, u, v, hv, h => by
    show (if P_bell nb (P_dens nf u) u 1 = 0 then nI m else PEnd ns nb nf k (m + 1) (P_min ns nb nf u)) = (if P_bell nb (P_dens nf v) v 1 = 0 then nI m else PEnd ns nb nf k (m + 1) (P_min ns nb nf v))
    rw [← S_dens h hv.f.2.1, (S_bell h hv (d := P_dens nf u)).h (z := 1) (by omega), PEnd_HA k (m + 1) (mm + 1) _ _ (MV_min hv) (S_min h hv)]
end
section
variable {mm : Nat} {M : xM}
theorem s_minutesToBell (h : RR mm M) (hm : mm < 536870912) : OkP mm f_X6_minutesToBell f_X7_minutesToBell M := by
  obtain ⟨ns, nb, nf, h1, -, hB, h4, h5⟩ := h.mk
  obtain ⟨u, e1, e2⟩ := c_copy (a := 256) (b := 0) (M0 := M) (Or.inr (by decide)) h1
  obtain ⟨u', c1⟩ := c_ringL (M := M) (ns := ns) (nb := nb) (nf := nf) 201 0 FU mm u u rfl (FU_e _ (by omega)) (by omega) (e2.MV h1) (fun _ _ => rfl)
  have hN : ∀ z, rz z → upd (wr 256 u' M) 2504 0 z = M z := fun z hz => by rw [rzU hz, rz256 hz]
  generalize hNd : upd (wr 256 u' M) 2504 0 = N at hN
  have h2 := RR_cong h hN
  have eS : Sim ns nb nf u (win 2520 N) := by
    refine (e2.symm.trans h4).trans (fun z hz => ?_)
    exact (hN _ (by have := Lv_lt h1.s.2 h1.b.2 h1.f.2.2 hz; unfold rz; omega)).symm
  have hv := eS.MV (e2.MV h1)
  obtain ⟨e, c2⟩ := m_ringL (ns := ns) (nb := nb) (nf := nf) 201 0 FU mm (win 2520 N) (wr 2770 (win 2520 N) N) rfl (FU_e _ (by omega)) (by omega) hv (BT_sim eS (BT_sim e2 hB))
  have et : f_X7_startTrial N = some (wr 2520 (win 2520 N) (wr 2770 (win 2520 N) N)) := by
    have := m_trial (v := win 2520 N) (T := N)
    rw [wr_win] at this
    exact this
  refine ⟨PRing ns nb nf 201 0 u, wr 256 u' M, _, ?_, ?_, RR_trial (e := e) h hN⟩
  · unfold f_X6_minutesToBell
    rw [bd_s e1]
    exact c1
  · unfold f_X7_minutesToBell f_X7_minutesTo
    rw [hNd, bd_s et]
    rw [show f_X7_minutesTo_c8 0 (-1) 0 (wr 2520 (win 2520 N) (wr 2770 (win 2520 N) N)) = _ from c2, PRing_HA 201 0 mm _ _ (e2.MV h1) eS]
    rfl
end
section
variable {mm ns nb nf : Nat} {u v M T : xM}
theorem c_endL : ∀ (k m n mm : Nat) (u v : xM), m + k = 201 → k < n → mm + k < 1073741824 → MV mm ns nb nf u → HA u v → ∃ u', lp (fun _ _ => none) (fun k => fb_X6_minutesToEnd_c25 k) n (nI m) (wr 256 u M) = some (PEnd ns nb nf k m v, wr 256 u' M)
  | 0, m, n + 1, mm, u, v, hm, hn, hb, hv, h => by
    refine ⟨u, ?_⟩
    rw [lp_s]
    unfold fb_X6_minutesToEnd_c25
    rw [if_pos (show (200 : Int32) < nI m from nI_lt (a := 200) (by omega) (by omega))]
    rfl
  | k + 1, m, n + 1, mm, u, v, hm, hn, hb, hv, h => by
    have hbb := MV_bell (d := P_dens nf u) hv
    have hB := HA_bell (nb := nb) (d := P_dens nf u) h
    obtain ⟨u', ih⟩ := c_endL k (m + 1) n (mm + 1) (P_bm nb nf u) (P_min ns nb nf v) (by omega) (by omega) (by omega) (MV_bm hv) (HA_bm h hv)
    rw [lp_s]
    generalize lp (fun _ _ => none) (fun k => fb_X6_minutesToEnd_c25 k) n = K at ih ⊢
    have hl : ¬ (200 : Int32) < nI m := nI_nlt (b := m) (a := 200) (by omega) (by decide)
    unfold fb_X6_minutesToEnd_c25
    simp only [hl, ↓reduceIte, c_now hv (show mm < 2147483648 by omega), bd2, c_bell _ hv, bd, z57, c_count hbb.o, nI_1]
    show ∃ u', _ = some (if P_bell nb (P_dens nf v) v 1 = 0 then nI m else PEnd ns nb nf k (m + 1) (P_min ns nb nf v), wr 256 u' M)
    rw [← HA_dens h hv, ← hB 1 (by omega)]
    by_cases e : P_bell nb (P_dens nf u) u 1 = 0
    · rw [if_pos e, if_pos e]
      exact ⟨_, rfl⟩
    · rw [if_neg e, if_neg e]
      exact ⟨u', ih⟩
theorem m_endL : ∀ (k m n mm : Nat) (v T : xM), m + k = 201 → k + 1 < n → mm + k < 1073741824 → MV mm ns nb nf v → v 1 = 1 → ∃ e, lp (fun _ _ _ => none) (fun k => fb_X7_minutesTo_c8 k 1) n (-1) (nI m) (wr 2520 v T) = some (PEnd ns nb nf k m v, wr 2520 (win 2770 T) (upd T 2512 e))
  | 0, m, n + 1, mm, v, T, hm, hn, hb, hv, h1 => by
    refine ⟨T 2512, ?_⟩
    rw [lp_s, usame rfl]
    unfold fb_X7_minutesTo_c8
    rw [if_pos (show (200 : Int32) < nI m from nI_lt (a := 200) (by omega) (by omega)), m_leave']
    rfl
  | k + 1, m, n + 1, mm, v, T, hm, hn, hb, hv, h1 => by
    have hw : ∀ e, win 2770 (upd T 2512 e) = win 2770 T := fun e => by
      funext z
      exact un (by omega)
    have hl : ¬ (200 : Int32) < nI m := nI_nlt (b := m) (a := 200) (by omega) (by decide)
    rw [lp_s]
    obtain ⟨n', rfl⟩ : ∃ n', n = n' + 1 := ⟨n - 1, by omega⟩
    show ∃ e, _ = some (if P_bell nb (P_dens nf v) v 1 = 0 then nI m else PEnd ns nb nf k (m + 1) (P_min ns nb nf v), wr 2520 (win 2770 T) (upd T 2512 e))
    rcases P_ended_iff (nb := nb) (d := P_dens nf v) h1 with ⟨ea, eb⟩ | ⟨ea, eb⟩
    · have hbk := m_backL (a := 1) (q := m) (by omega) (n := n') (x := nI (m + 1)) (v := P_min ns nb nf v) (T := upd T 2512 1)
      rw [hw] at hbk
      generalize lp (fun _ _ _ => none) (fun k => fb_X7_minutesTo_c8 k 1) (n' + 1) = K at hbk ⊢
      unfold fb_X7_minutesTo_c8 f_X7_minutesTo_c61 f_X7_minutesTo_c73
      simp only [hl, ↓reduceIte, m_min hv (show mm < 2147483648 by omega), bd2, i10, mo2512, us, ea, nI_1]
      rw [if_pos eb]
      exact ⟨1, hbk⟩
    · have h2 : P_min ns nb nf v 1 = 1 := by rw [P_min_lo (by omega) (by omega) (by omega), eb]
      obtain ⟨e, ih⟩ := m_endL k (m + 1) (n' + 1) (mm + 1) (P_min ns nb nf v) (upd T 2512 0) (by omega) (by omega) (by omega) (MV_min hv) h2
      rw [hw, utwice] at ih
      generalize lp (fun _ _ _ => none) (fun k => fb_X7_minutesTo_c8 k 1) (n' + 1) = K at ih ⊢
      unfold fb_X7_minutesTo_c8 f_X7_minutesTo_c61 f_X7_minutesTo_c73
      simp only [hl, ↓reduceIte, m_min hv (show mm < 2147483648 by omega), bd2, i10, mo2512, us, ea, nI_1]
      rw [if_neg (by rw [eb]; decide)]
      exact ⟨e, ih⟩
end
section
variable {mm : Nat} {M : xM}
theorem s_minutesToEnd (h : RR mm M) (hm : mm < 536870912) : OkP mm f_X6_minutesToEnd f_X7_minutesToEnd M := by
  obtain ⟨ns, nb, nf, h1, -, hB, h4, h5⟩ := h.mk
  have o := h1.o
  rw [w0] at o
  have eh := h.hd (z := 1) (by omega)
  rcases o with o | o
  · refine ⟨-1, M, upd M 2504 0, ?_, ?_, R_t0 h⟩
    · unfold f_X6_minutesToEnd
      rw [if_pos o]
    · unfold f_X7_minutesToEnd
      rw [un (by omega), ← eh, o, if_neg (by decide)]
  · obtain ⟨u, e1, e2⟩ := c_copy (a := 256) (b := 0) (M0 := M) (Or.inr (by decide)) h1
    obtain ⟨u', c1⟩ := c_endL (M := M) (ns := ns) (nb := nb) (nf := nf) 201 0 FU mm u u rfl (FU_e _ (by omega)) (by omega) (e2.MV h1) (fun _ _ => rfl)
    have hN : ∀ z, rz z → upd (wr 256 u' M) 2504 0 z = M z := fun z hz => by rw [rzU hz, rz256 hz]
    generalize hNd : upd (wr 256 u' M) 2504 0 = N at hN
    have h2 := RR_cong h hN
    have eS : Sim ns nb nf u (win 2520 N) := by
      refine (e2.symm.trans h4).trans (fun z hz => ?_)
      exact (hN _ (by have := Lv_lt h1.s.2 h1.b.2 h1.f.2.2 hz; unfold rz; omega)).symm
    have hv := eS.MV (e2.MV h1)
    have ho : win 2520 N 1 = 1 := by
      show N 2521 = 1
      rw [hN 2521 (by unfold rz; omega)]
      exact eh.symm.trans o
    obtain ⟨e, c2⟩ := m_endL (ns := ns) (nb := nb) (nf := nf) 201 0 FU mm (win 2520 N) (wr 2770 (win 2520 N) N) rfl (FU_e _ (by omega)) (by omega) hv ho
    have et : f_X7_startTrial N = some (wr 2520 (win 2520 N) (wr 2770 (win 2520 N) N)) := by
      have := m_trial (v := win 2520 N) (T := N)
      rw [wr_win] at this
      exact this
    refine ⟨PEnd ns nb nf 201 0 u, wr 256 u' M, _, ?_, ?_, RR_trial (e := e) h hN⟩
    · unfold f_X6_minutesToEnd
      rw [if_neg (by rw [o]; decide), bd_s e1]
      exact c1
    · unfold f_X7_minutesToEnd f_X7_minutesTo
      rw [hNd, if_pos (show N 2521 = 1 from ho), bd_s et]
      rw [show f_X7_minutesTo_c8 1 (-1) 0 (wr 2520 (win 2520 N) (wr 2770 (win 2520 N) N)) = _ from c2, PEnd_HA 201 0 mm _ _ (e2.MV h1) eS]
      rfl
end
