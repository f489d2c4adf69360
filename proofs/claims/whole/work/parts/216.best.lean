/-! predictions: earnings -/
def PB (E : Nat → Int32) : Nat → Nat → Int32 → Int32 → Int32
  | 0, _, best, _ => best
  | k + 1, val, best, most => if E val ≤ most then PB E k (val + 1) best most else PB E k (val + 1) (nI val) (E val)
theorem PB_first {E : Nat → Int32} {k val : Nat} {b1 b2 : Int32} (h : ¬ E val ≤ -1) : PB E (k + 1) val b1 (-1) = PB E (k + 1) val b2 (-1) := by
  show (if E val ≤ -1 then PB E k (val + 1) b1 (-1) else PB E k (val + 1) (nI val) (E val)) = (if E val ≤ -1 then PB E k (val + 1) b2 (-1) else PB E k (val + 1) (nI val) (E val))
  rw [if_neg h, if_neg h]
theorem nI_nm {e : Nat} (h : e < 2147483648) : ¬ nI e ≤ -1 := fun q => by
  have h1 := Int32.le_iff_toInt_le.mp q
  rw [nI_toInt (by omega)] at h1
  have : (-1 : Int32).toInt = -1 := by decide
  omega
def Keep (M N : xM) : Prop := ∀ z, (rz z ∨ z = 2504) → N z = M z
theorem Keep.trial {N : xM} {e : Int32} : Keep N (wr 2520 (win 2770 (wr 2770 (win 2520 N) N)) (upd (wr 2770 (win 2520 N) N) 2512 e)) := by
  intro z hz
  unfold rz at hz
  by_cases q : 2520 ≤ z ∧ z < 2645
  · rw [wr_in (z := z - 2520) (by omega) (by omega)]
    show wr 2770 (win 2520 N) N (2770 + (z - 2520)) = N z
    rw [wr_in (z := z - 2520) rfl (by omega)]
    show N (2520 + (z - 2520)) = N z
    rw [show 2520 + (z - 2520) = z by omega]
  · rw [wr_out (by omega), un (by omega), wr_out (by omega)]
theorem Keep.tr {M N P : xM} (h : Keep M N) (h2 : Keep N P) : Keep M P := fun z hz => (h2 z hz).trans (h z hz)
theorem z279 {w N : xM} {i k : Nat} (hi : i < 6) (hk : k < 9) : wr 256 w N (279 + 9 * i + k) = w (23 + 9 * i + k) := wr_in (by omega) (by omega)
theorem y279 {w N : xM} {i k : Nat} {x : Int32} (hi : i < 6) (hk : k < 9) : upd (wr 256 w N) (279 + 9 * i + k) x = wr 256 (upd w (23 + 9 * i + k) x) N := uw_in (by omega) (by omega)
theorem y263 {w N : xM} {x : Int32} : upd (wr 256 w N) 263 x = wr 256 (upd w 7 x) N := uw_in rfl (by omega)
section
variable {mm ns nb nf : Nat} {u v M T : xM}
theorem c_pass60 {b : Nat} (h : MV mm ns nb nf u) (hm : mm < 1073741824) : f_X2_pass b 60 (wr b u M) = some (wr b (P_pass ns nb nf 60 u) M) := c_pass (t := 60) h (by omega) (by omega)
theorem m_earnedIn {s t : Nat} (h : MV mm ns nb nf v) (hs : s < 6) (ht : t < 4096) (hm : mm < 1073741824) : ∃ e, f_X7_earnedIn (nI s) (nI t) (wr 2520 v T) = some (P_pass ns nb nf t v (23 + 9 * s + 7), wr 2520 (win 2770 T) (upd T 2512 e)) := by
  have hw : ∀ e, win 2770 (upd T 2512 e) = win 2770 T := fun e => by
    funext z
    exact un (by omega)
  obtain ⟨e, he⟩ := m_pass (N := T) h ht (by omega)
  refine ⟨e, ?_⟩
  unfold f_X7_earnedIn
  rw [bd2_s he, bd2_s (st7 hs), bd2_s m_leave', hw]
theorem MV_bellp {p : Nat} (h : MV mm ns nb nf u) (hp : p < 100) : MV mm ns nb nf (upd u 7 (nI p)) := by
  have hb := h.b.2
  have hs := h.s.2
  have hf := h.f.2
  refine ⟨?_, ?_, ?_, ?_, ?_, ?_, ?_, ⟨p, hp, us⟩, fun i hi => ?_, fun i hi => ?_, fun i hi => BV_cong (h.bu i hi) (fun k hk => un (by omega))⟩
  · rw [un (by omega)]; exact h.s
  · rw [un (by omega)]; exact h.b
  · rw [un (by omega)]; exact h.f
  · rw [un (by omega)]; exact h.m
  · rw [un (by omega), un (by omega), un (by omega)]; exact h.t
  · rw [un (by omega)]; exact h.o
  · rw [un (by omega)]; exact h.r
  · rw [un (by omega)]; exact h.d i hi
  · rw [un (by omega)]; exact h.st i hi
theorem EC_price {s r : Nat} (hs6 : ns ≤ 6) (h : EC ns nb u) (hs : s < ns) (hr : r ≤ 999) : EC ns nb (upd u (23 + 9 * s + 3) (nI r)) := by
  refine ⟨fun j hj => ?_, fun i hi => ?_, ?_, fun j hj => ?_⟩
  · rw [un (by omega)]; exact h.1 j hj
  · rw [un (by omega), un (by omega)]; exact h.2.1 i hi
  · rw [sm_cong (f := eN u) (g := eN (upd u (23 + 9 * s + 3) (nI r))) (fun k hk => by unfold eN; rw [un (by omega)]), sm_cong (f := cN u) (g := cN (upd u (23 + 9 * s + 3) (nI r))) (fun k hk => by unfold cN; rw [un (by omega)])]
    exact h.2.2.1
  · by_cases e : j = s
    · subst e; exact ⟨r, hr, us⟩
    · rw [un (by omega)]; exact h.2.2.2 j hj
theorem c_recopy {w : xM} (h : MV mm ns nb nf (win 0 M)) : ∃ u, f_X2_copyFrom 256 0 (wr 256 w M) = some (wr 256 u M) ∧ Sim ns nb nf (win 0 M) u := by
  have e : Sim ns nb nf (win 0 M) (win 0 (wr 256 w M)) := fun z hz => (win_out (a := 0) (b := 256) (Or.inl (by decide)) z (Lv_lt h.s.2 h.b.2 h.f.2.2 hz)).symm
  obtain ⟨u, e1, e2⟩ := c_copy (a := 256) (b := 0) (M0 := wr 256 w M) (Or.inr (by decide)) (e.MV h)
  exact ⟨u, by rw [e1, wr_wr], e.trans e2⟩
/-- what a stall earns in an hour, with one cell changed -/
def ES (ns nb nf : Nat) (u : xM) (s c : Nat) (val : Nat) : Int32 := P_pass ns nb nf 60 (upd u c (nI val)) (23 + 9 * s + 7)
def EA (ns nb nf : Nat) (u : xM) (val : Nat) : Int32 := SI (stC (P_pass ns nb nf 60 (upd u 7 (nI val))) 7) ns
theorem ES_sim {s c val : Nat} (h : Sim ns nb nf u v) (hv : MV mm ns nb nf (upd u c (nI val))) (hs : s < ns) : ES ns nb nf u s c val = ES ns nb nf v s c val :=
  (S_pass 60 mm _ _ (h.upd rfl) hv).ss hs (by omega)
theorem EA_sim {val : Nat} (h : Sim ns nb nf u v) (hv : MV mm ns nb nf (upd u 7 (nI val))) : EA ns nb nf u val = EA ns nb nf v val :=
  SI_sim (S_pass 60 mm _ _ (h.upd rfl) hv) (by omega)
theorem ES_pos {s c val : Nat} (hE : EC ns nb (upd u c (nI val))) (hv : MV mm ns nb nf (upd u c (nI val))) (hs : s < ns) : ¬ ES ns nb nf u s c val ≤ -1 := by
  obtain ⟨e, he, e1⟩ := (EC_pass 60 mm _ hv hE).1 s hs
  unfold ES
  rw [e1]
  exact nI_nm he
theorem EA_pos {val : Nat} (hE : EC ns nb (upd u 7 (nI val))) (hv : MV mm ns nb nf (upd u 7 (nI val))) : ¬ EA ns nb nf u val ≤ -1 := by
  have h := EC_pass 60 mm _ hv hE
  have hb := hv.b.2
  unfold EA
  rw [SI_nI (a := eN (P_pass ns nb nf 60 (upd u 7 (nI val)))) (fun k hk => by
    obtain ⟨e, he, e1⟩ := h.1 k hk
    unfold stC eN
    rw [e1, cl he])]
  have := h.2.2.1
  exact nI_nm (by omega)
theorem c_bestPrice {s : Nat} (hs : s < ns) (h : MV mm ns nb nf (win 0 M)) (hm : mm < 536870912) : ∀ (k val n : Nat) (best most : Int32) (w : xM), val + k = 61 → k < n → ∃ w', lp (fun _ _ _ _ => none) (fun k => fb_X6_bestPrice_c12 k (nI s)) n best most (nI val) (wr 256 w M) = some (0, PB (ES ns nb nf (win 0 M) s (23 + 9 * s + 3)) k val best most, wr 256 w' M)
  | 0, val, n + 1, best, most, w, hv, hn => by
    refine ⟨w, ?_⟩
    rw [lp_s]
    unfold fb_X6_bestPrice_c12
    rw [if_pos (show (60 : Int32) < nI val from nI_lt (a := 60) (by omega) (by omega))]
    rfl
  | k + 1, val, n + 1, best, most, w, hv, hn => by
    have h6 := h.s.2
    have hl : ¬ (60 : Int32) < nI val := nI_nlt (b := val) (a := 60) (by omega) (by decide)
    obtain ⟨u, e1, e2⟩ := c_recopy (w := w) h
    have hu : MV mm ns nb nf (upd u (23 + 9 * s + 3) (nI val)) := (e2.MV h).free (by unfold fr; omega)
    have hw0 : MV mm ns nb nf (upd (win 0 M) (23 + 9 * s + 3) (nI val)) := h.free (by unfold fr; omega)
    have eE : P_pass ns nb nf 60 (upd u (23 + 9 * s + 3) (nI val)) (23 + 9 * s + 7) = ES ns nb nf (win 0 M) s (23 + 9 * s + 3) val := (ES_sim e2 hw0 hs).symm
    rw [lp_s]
    obtain ⟨w1, i1⟩ := c_bestPrice hs h hm k (val + 1) n best most (P_pass ns nb nf 60 (upd u (23 + 9 * s + 3) (nI val))) (by omega) (by omega)
    obtain ⟨w2, i2⟩ := c_bestPrice hs h hm k (val + 1) n (nI val) (ES ns nb nf (win 0 M) s (23 + 9 * s + 3) val) (P_pass ns nb nf 60 (upd u (23 + 9 * s + 3) (nI val))) (by omega) (by omega)
    generalize lp (fun _ _ _ _ => none) (fun k => fb_X6_bestPrice_c12 k (nI s)) n = K at i1 i2 ⊢
    show ∃ w', _ = some (0, if ES ns nb nf (win 0 M) s (23 + 9 * s + 3) val ≤ most then PB (ES ns nb nf (win 0 M) s (23 + 9 * s + 3)) k (val + 1) best most else PB (ES ns nb nf (win 0 M) s (23 + 9 * s + 3)) k (val + 1) (nI val) (ES ns nb nf (win 0 M) s (23 + 9 * s + 3) val), wr 256 w' M)
    unfold fb_X6_bestPrice_c12
    simp (disch := omega) only [hl, ↓reduceIte, e1, bd, gd, inb_nI, cl, y279, c_pass60 hu, z279, eE, nI_1]
    by_cases q : ES ns nb nf (win 0 M) s (23 + 9 * s + 3) val ≤ most
    · rw [if_pos q, if_pos q]
      exact ⟨w1, i1⟩
    · rw [if_neg q, if_neg q]
      exact ⟨w2, i2⟩
theorem c_bestLantern {s : Nat} (hs : s < ns) (h : MV mm ns nb nf (win 0 M)) (hm : mm < 536870912) : ∀ (k val n : Nat) (best most : Int32) (w : xM), val + k = 4 → k < n → ∃ w', lp (fun _ _ _ _ => none) (fun k => fb_X6_bestLantern_c12 k (nI s)) n best most (nI val) (wr 256 w M) = some (0, PB (ES ns nb nf (win 0 M) s (23 + 9 * s + 1)) k val best most, wr 256 w' M)
  | 0, val, n + 1, best, most, w, hv, hn => by
    refine ⟨w, ?_⟩
    rw [lp_s]
    unfold fb_X6_bestLantern_c12
    rw [if_pos (show (3 : Int32) < nI val from nI_lt (a := 3) (by omega) (by omega))]
    rfl
  | k + 1, val, n + 1, best, most, w, hv, hn => by
    have h6 := h.s.2
    have hl : ¬ (3 : Int32) < nI val := nI_nlt (b := val) (a := 3) (by omega) (by decide)
    obtain ⟨u, e1, e2⟩ := c_recopy (w := w) h
    have hu : MV mm ns nb nf (upd u (23 + 9 * s + 1) (nI val)) := (e2.MV h).free (by unfold fr; omega)
    have hw0 : MV mm ns nb nf (upd (win 0 M) (23 + 9 * s + 1) (nI val)) := h.free (by unfold fr; omega)
    have eE : P_pass ns nb nf 60 (upd u (23 + 9 * s + 1) (nI val)) (23 + 9 * s + 7) = ES ns nb nf (win 0 M) s (23 + 9 * s + 1) val := (ES_sim e2 hw0 hs).symm
    rw [lp_s]
    obtain ⟨w1, i1⟩ := c_bestLantern hs h hm k (val + 1) n best most (P_pass ns nb nf 60 (upd u (23 + 9 * s + 1) (nI val))) (by omega) (by omega)
    obtain ⟨w2, i2⟩ := c_bestLantern hs h hm k (val + 1) n (nI val) (ES ns nb nf (win 0 M) s (23 + 9 * s + 1) val) (P_pass ns nb nf 60 (upd u (23 + 9 * s + 1) (nI val))) (by omega) (by omega)
    generalize lp (fun _ _ _ _ => none) (fun k => fb_X6_bestLantern_c12 k (nI s)) n = K at i1 i2 ⊢
    show ∃ w', _ = some (0, if ES ns nb nf (win 0 M) s (23 + 9 * s + 1) val ≤ most then PB (ES ns nb nf (win 0 M) s (23 + 9 * s + 1)) k (val + 1) best most else PB (ES ns nb nf (win 0 M) s (23 + 9 * s + 1)) k (val + 1) (nI val) (ES ns nb nf (win 0 M) s (23 + 9 * s + 1) val), wr 256 w' M)
    unfold fb_X6_bestLantern_c12
    simp (disch := omega) only [hl, ↓reduceIte, e1, bd, gd, inb_nI, cl, y279, c_pass60 hu, z279, eE, nI_1]
    by_cases q : ES ns nb nf (win 0 M) s (23 + 9 * s + 1) val ≤ most
    · rw [if_pos q, if_pos q]
      exact ⟨w1, i1⟩
    · rw [if_neg q, if_neg q]
      exact ⟨w2, i2⟩
theorem c_bestBell (h : MV mm ns nb nf (win 0 M)) (hm : mm < 536870912) : ∀ (k val n : Nat) (best most : Int32) (w : xM), val + k = 100 → k < n → ∃ w', lp (fun _ _ _ _ => none) (fun k => fb_X6_bestBellPosition_c6 k) n best most (nI val) (wr 256 w M) = some (PB (EA ns nb nf (win 0 M)) k val best most, wr 256 w' M)
  | 0, val, n + 1, best, most, w, hv, hn => by
    refine ⟨w, ?_⟩
    rw [lp_s]
    unfold fb_X6_bestBellPosition_c6
    rw [if_pos (show (99 : Int32) < nI val from nI_lt (a := 99) (by omega) (by omega))]
    rfl
  | k + 1, val, n + 1, best, most, w, hv, hn => by
    have h6 := h.s.2
    have hl : ¬ (99 : Int32) < nI val := nI_nlt (b := val) (a := 99) (by omega) (by decide)
    obtain ⟨u, e1, e2⟩ := c_recopy (w := w) h
    have hu : MV mm ns nb nf (upd u 7 (nI val)) := MV_bellp (e2.MV h) (by omega)
    have hw0 : MV mm ns nb nf (upd (win 0 M) 7 (nI val)) := MV_bellp h (by omega)
    have eE : SI (stC (P_pass ns nb nf 60 (upd u 7 (nI val))) 7) ns = EA ns nb nf (win 0 M) val := (EA_sim e2 hw0).symm
    have hp := MV_pass 60 mm _ hu
    rw [lp_s]
    obtain ⟨w1, i1⟩ := c_bestBell h hm k (val + 1) n best most (P_pass ns nb nf 60 (upd u 7 (nI val))) (by omega) (by omega)
    obtain ⟨w2, i2⟩ := c_bestBell h hm k (val + 1) n (nI val) (EA ns nb nf (win 0 M) val) (P_pass ns nb nf 60 (upd u 7 (nI val))) (by omega) (by omega)
    generalize lp (fun _ _ _ _ => none) (fun k => fb_X6_bestBellPosition_c6 k) n = K at i1 i2 ⊢
    show ∃ w', _ = some (if EA ns nb nf (win 0 M) val ≤ most then PB (EA ns nb nf (win 0 M)) k (val + 1) best most else PB (EA ns nb nf (win 0 M)) k (val + 1) (nI val) (EA ns nb nf (win 0 M) val), wr 256 w' M)
    unfold fb_X6_bestBellPosition_c6
    simp (disch := omega) only [hl, ↓reduceIte, e1, bd, y263, c_pass60 hu, c_earned hp, bd2, eE, nI_1]
    by_cases q : EA ns nb nf (win 0 M) val ≤ most
    · rw [if_pos q, if_pos q]
      exact ⟨w1, i1⟩
    · rw [if_neg q, if_neg q]
      exact ⟨w2, i2⟩
theorem m_bestL {s k0 hi : Nat} (hs : s < ns) (hk0 : k0 = 1 ∨ k0 = 3) {lo : Int32} (hhi : hi < 1000) (h : MV mm ns nb nf (win 0 M)) (hm : mm < 536870912) (h4 : Sim ns nb nf (win 0 M) (win 2520 M)) : ∀ (k val n : Nat) (best most : Int32) (N : xM), val + k = hi + 1 → k < n → Keep M N → ∃ N', lp (fun _ _ _ _ => none) (fun k => fb_X7_best_c9 k (nI s) (nI k0) lo (nI hi)) n best most (nI val) N = some (PB (ES ns nb nf (win 0 M) s (23 + 9 * s + k0)) k val best most, N') ∧ Keep M N'
  | 0, val, n + 1, best, most, N, hv, hn, hK => by
    refine ⟨N, ?_, hK⟩
    rw [lp_s]
    unfold fb_X7_best_c9
    rw [if_pos (nI_lt (by omega) (by omega))]
    rfl
  | k + 1, val, n + 1, best, most, N, hv, hn, hK => by
    have h6 := h.s.2
    have hl : ¬ nI hi < nI val := nI_nlt (by omega) (by omega)
    have eS : Sim ns nb nf (win 0 M) (win 2520 N) := h4.trans (fun z hz => (hK _ (Or.inl (by have := Lv_lt h.s.2 h.b.2 h.f.2.2 hz; unfold rz; omega))).symm)
    have hu : MV mm ns nb nf (upd (win 2520 N) (23 + 9 * s + k0) (nI val)) := (eS.MV h).free (by unfold fr; omega)
    have hw0 : MV mm ns nb nf (upd (win 0 M) (23 + 9 * s + k0) (nI val)) := h.free (by unfold fr; omega)
    have eE : P_pass ns nb nf 60 (upd (win 2520 N) (23 + 9 * s + k0) (nI val)) (23 + 9 * s + 7) = ES ns nb nf (win 0 M) s (23 + 9 * s + k0) val := (ES_sim eS hw0 hs).symm
    obtain ⟨e, he⟩ := m_earnedIn (s := s) (t := 60) (T := wr 2770 (win 2520 N) N) hu (by omega) (by omega) (by omega)
    rw [eE] at he
    rw [lp_s]
    obtain ⟨N1, i1, k1⟩ := m_bestL hs hk0 (lo := lo) hhi h hm h4 k (val + 1) n best most _ (by omega) (by omega) (hK.tr (Keep.trial (e := e)))
    obtain ⟨N2, i2, k2⟩ := m_bestL hs hk0 (lo := lo) hhi h hm h4 k (val + 1) n (nI val) (ES ns nb nf (win 0 M) s (23 + 9 * s + k0) val) _ (by omega) (by omega) (hK.tr (Keep.trial (e := e)))
    generalize lp (fun _ _ _ _ => none) (fun k => fb_X7_best_c9 k (nI s) (nI k0) lo (nI hi)) n = K at i1 i2 ⊢
    show ∃ N', _ = some (if ES ns nb nf (win 0 M) s (23 + 9 * s + k0) val ≤ most then PB (ES ns nb nf (win 0 M) s (23 + 9 * s + k0)) k (val + 1) best most else PB (ES ns nb nf (win 0 M) s (23 + 9 * s + k0)) k (val + 1) (nI val) (ES ns nb nf (win 0 M) s (23 + 9 * s + k0) val), N') ∧ Keep M N'
    unfold fb_X7_best_c9
    have he60 : f_X7_earnedIn (nI s) 60 (wr 2520 (upd (win 2520 N) (23 + 9 * s + k0) (nI val)) (wr 2770 (win 2520 N) N)) = _ := he
    rw [if_neg hl, bd_s m_trialN, ixs, gd_t (inb_nI (by omega) (by omega)), cl (by omega), uw_in rfl (by omega), bd2_s he60, nI_1]
    by_cases q : ES ns nb nf (win 0 M) s (23 + 9 * s + k0) val ≤ most
    · rw [if_pos q, if_pos q]
      exact ⟨N1, i1, k1⟩
    · rw [if_neg q, if_neg q]
      exact ⟨N2, i2, k2⟩
theorem m_bestBell (h : MV mm ns nb nf (win 0 M)) (hm : mm < 536870912) (h4 : Sim ns nb nf (win 0 M) (win 2520 M)) : ∀ (k val n : Nat) (best most : Int32) (N : xM), val + k = 100 → k < n → Keep M N → ∃ N', lp (fun _ _ _ _ => none) (fun k => fb_X7_bestBellPosition_c11 k) n best most (nI val) N = some (PB (EA ns nb nf (win 0 M)) k val best most, N') ∧ Keep M N'
  | 0, val, n + 1, best, most, N, hv, hn, hK => by
    refine ⟨N, ?_, hK⟩
    rw [lp_s]
    unfold fb_X7_bestBellPosition_c11
    rw [if_pos (show (100 : Int32) ≤ nI val from nI_le (a := 100) (by omega) (by omega))]
    rfl
  | k + 1, val, n + 1, best, most, N, hv, hn, hK => by
    have h6 := h.s.2
    have hl : ¬ (100 : Int32) ≤ nI val := nI_ge (a := val) (b := 100) (by omega) (by decide)
    have eS : Sim ns nb nf (win 0 M) (win 2520 N) := h4.trans (fun z hz => (hK _ (Or.inl (by have := Lv_lt h.s.2 h.b.2 h.f.2.2 hz; unfold rz; omega))).symm)
    have hu : MV mm ns nb nf (upd (win 2520 N) 7 (nI val)) := MV_bellp (eS.MV h) (by omega)
    have hw0 : MV mm ns nb nf (upd (win 0 M) 7 (nI val)) := MV_bellp h (by omega)
    have eE : SI (stC (P_pass ns nb nf 60 (upd (win 2520 N) 7 (nI val))) 7) ns = EA ns nb nf (win 0 M) val := (EA_sim eS hw0).symm
    obtain ⟨e, he⟩ := m_pass (N := wr 2770 (win 2520 N) N) (t := 60) hu (by omega) (by omega)
    have hp := MV_pass 60 mm _ hu
    have hsum := m_sum (N := upd (wr 2770 (win 2520 N) N) 2512 e) hp (c := 7) (by omega)
    rw [eE] at hsum
    have hw : win 2770 (upd (wr 2770 (win 2520 N) N) 2512 e) = win 2770 (wr 2770 (win 2520 N) N) := by
      funext z
      exact un (by omega)
    rw [lp_s]
    obtain ⟨N1, i1, k1⟩ := m_bestBell h hm h4 k (val + 1) n best most _ (by omega) (by omega) (hK.tr (Keep.trial (e := e)))
    obtain ⟨N2, i2, k2⟩ := m_bestBell h hm h4 k (val + 1) n (nI val) (EA ns nb nf (win 0 M) val) _ (by omega) (by omega) (hK.tr (Keep.trial (e := e)))
    generalize lp (fun _ _ _ _ => none) (fun k => fb_X7_bestBellPosition_c11 k) n = K at i1 i2 ⊢
    show ∃ N', _ = some (if EA ns nb nf (win 0 M) val ≤ most then PB (EA ns nb nf (win 0 M)) k (val + 1) best most else PB (EA ns nb nf (win 0 M)) k (val + 1) (nI val) (EA ns nb nf (win 0 M) val), N') ∧ Keep M N'
    unfold fb_X7_bestBellPosition_c11
    have he60 : f_X7_passAll 60 (wr 2520 (upd (win 2520 N) 7 (nI val)) (wr 2770 (win 2520 N) N)) = _ := he
    have hs7 : f_X7_sumOf 7 _ = _ := hsum
    rw [if_neg hl, bd_s m_trialN, mu7, bd2_s he60, bd2_s hs7, bd2_s m_leave', hw, nI_1]
    by_cases q : EA ns nb nf (win 0 M) val ≤ most
    · rw [if_pos q, if_pos q]
      exact ⟨N1, i1, k1⟩
    · rw [if_neg q, if_neg q]
      exact ⟨N2, i2, k2⟩
end
section
variable {mm : Nat} {M : xM}
theorem s_earningsAfter (h : RR mm M) (hm : mm < 536870912) (x y : Int32) : OkT mm [2, 1] (f_X6_earningsAfter x y) (f_X7_earningsAfter x y) M := by
  obtain ⟨ns, nb, nf, h1, -, hB, h4, h5⟩ := h.mk
  have h9 := h1.s
  rw [w0] at h9
  rcases ixC x (n := ns) (by omega) with q | ⟨s, hs, rfl⟩
  · refine ⟨2, 0, M, 0, upd M 2504 1, ?_, ?_, (R_t0 h), Or.inr ⟨0, rfl, by omega, us⟩⟩
    · unfold f_X6_earningsAfter
      rw [tbd_x (c_stO q h9.1)]
    · unfold f_X7_earningsAfter
      rw [m_isSO q h9.2 h5.s.1]
      rfl
  · by_cases q : (0 : Int32) ≤ y ∧ y ≤ 200
    · obtain ⟨t, ht, rfl⟩ := rng_nI (n := 200) (by omega) q
      obtain ⟨u, e1, e2⟩ := c_copy (a := 256) (b := 0) (M0 := M) (Or.inr (by decide)) h1
      have c1 := c_pass (b := 256) (M := M) (t := t) (e2.MV h1) (by omega) (by omega)
      have hN : ∀ z, rz z → upd (wr 256 (P_pass ns nb nf t u) M) 2504 0 z = M z := fun z hz => by rw [rzU hz, rz256 hz]
      have e29 : wr 256 (P_pass ns nb nf t u) M 2529 = nI ns := by rw [rz256 (by unfold rz; omega)]; exact h5.s.1
      have hz4 : upd (wr 256 (P_pass ns nb nf t u) M) 2504 0 2504 = 0 := us
      generalize hNd : upd (wr 256 (P_pass ns nb nf t u) M) 2504 0 = N at hN hz4
      have eS := sim_now h1 h4 e2 hN
      have hv := eS.MV (e2.MV h1)
      obtain ⟨e, c2⟩ := m_earnedIn (s := s) (t := t) (T := wr 2770 (win 2520 N) N) hv (by omega) (by omega) (by omega)
      refine ⟨0, P_pass ns nb nf t u (23 + 9 * s + 7), wr 256 (P_pass ns nb nf t u) M, P_pass ns nb nf t (win 2520 N) (23 + 9 * s + 7), _, ?_, ?_, RR_trial (e := e) h hN, Or.inl ⟨rfl, (S_pass t mm _ _ eS (e2.MV h1)).ss hs (by omega), ?_⟩⟩
      · unfold f_X6_earningsAfter
        rw [tbd_0 (c_chS hs h9.2 h9.1), c_chk, if_pos q, tbd_0 rfl, bd_s e1, bd_s c1, gd_t (inb_nI (by omega) (by omega)), cl (by omega), z279 (by omega) (by omega)]
      · unfold f_X7_earningsAfter
        rw [m_isSI hs h9.2 e29, hNd]
        simp only [bd2, i10, ↓reduceIte]
        rw [m_inR, if_pos q]
        simp only [m_fail1, ↓reduceIte, bd, m_trialN, c2]
      · rw [wr_out (by omega), un (by omega), wr_out (by omega), hz4]
    · refine ⟨1, 0, M, 0, upd M 2504 2, ?_, ?_, (R_t0 h), Or.inr ⟨1, rfl, by omega, us⟩⟩
      · unfold f_X6_earningsAfter
        rw [tbd_0 (c_chS hs h9.2 h9.1), c_chk, if_neg q, tbd_x rfl]
      · unfold f_X7_earningsAfter
        rw [m_isSI hs h9.2 h5.s.1]
        simp only [bd2, i10, ↓reduceIte]
        rw [m_inR, if_neg q]
        simp only [m_fail0, i10, ↓reduceIte, utwice]
theorem wr256_self {N : xM} : wr 256 (win 256 N) N = N := wr_win 256 N
theorem keepMV {ns nb nf : Nat} {N : xM} (h1 : MV mm ns nb nf (win 0 M)) (h4 : Sim ns nb nf (win 0 M) (win 2520 M)) (hN : ∀ z, rz z → N z = M z) : Sim ns nb nf (win 0 M) (win 0 N) ∧ MV mm ns nb nf (win 0 N) ∧ Sim ns nb nf (win 0 N) (win 2520 N) := by
  have e0 : Sim ns nb nf (win 0 M) (win 0 N) := fun z hz => by
    have := Lv_lt h1.s.2 h1.b.2 h1.f.2.2 hz
    rw [w0, w0]
    exact (hN z (by unfold rz; omega)).symm
  refine ⟨e0, e0.MV h1, ?_⟩
  exact (e0.symm.trans h4).trans (fun z hz => (hN _ (by have := Lv_lt h1.s.2 h1.b.2 h1.f.2.2 hz; unfold rz; omega)).symm)
theorem PB_cong {E F : Nat → Int32} : ∀ (k val : Nat) (b m : Int32), (∀ i, val ≤ i → i < val + k → E i = F i) → PB E k val b m = PB F k val b m
  | 0, _, _, _, _ => rfl
  | k + 1, val, b, m, h => by
    show (if E val ≤ m then PB E k (val + 1) b m else PB E k (val + 1) (nI val) (E val)) = (if F val ≤ m then PB F k (val + 1) b m else PB F k (val + 1) (nI val) (F val))
    rw [h val (by omega) (by omega), PB_cong k (val + 1) b m (fun i h1 h2 => h i (by omega) (by omega)), PB_cong k (val + 1) (nI val) (F val) (fun i h1 h2 => h i (by omega) (by omega))]
theorem s_bestPrice (h : RR mm M) (hm : mm < 536870912) (x : Int32) : OkT mm [2] (f_X6_bestPrice x) (f_X7_bestPrice x) M := by
  obtain ⟨ns, nb, nf, h1, hE, hB, h4, h5⟩ := h.mk
  have h9 := h1.s
  rw [w0] at h9
  rcases ixC x (n := ns) (by omega) with q | ⟨s, hs, rfl⟩
  · refine ⟨2, 0, M, 0, upd M 2504 1, ?_, ?_, (R_t0 h), Or.inr ⟨0, rfl, by omega, us⟩⟩
    · unfold f_X6_bestPrice
      rw [tbd_x (c_stO q h9.1)]
    · unfold f_X7_bestPrice
      rw [m_isSO q h9.2 h5.s.1]
      rfl
  · obtain ⟨w, c1⟩ := c_bestPrice (M := M) hs h1 hm 60 1 FU (-1) (-1) (win 256 M) rfl (FU_e _ (by omega))
    rw [wr256_self] at c1
    have hN : ∀ z, rz z → upd (wr 256 w M) 2504 0 z = M z := fun z hz => by rw [rzU hz, rz256 hz]
    have e29 : wr 256 w M 2529 = nI ns := by rw [rz256 (by unfold rz; omega)]; exact h5.s.1
    have hz4 : upd (wr 256 w M) 2504 0 2504 = 0 := us
    generalize hNd : upd (wr 256 w M) 2504 0 = N at hN hz4
    obtain ⟨g0, g1, g4⟩ := keepMV h1 h4 hN
    obtain ⟨N', c2, k2⟩ := m_bestL (M := N) (k0 := 3) (hi := 60) (lo := 1) hs (by omega) (by omega) g1 hm g4 60 1 FU 1 (-1) N rfl (FU_e _ (by omega)) (fun _ _ => rfl)
    have ep : ¬ ES ns nb nf (win 0 M) s (23 + 9 * s + 3) 1 ≤ -1 := ES_pos (EC_price h9.2 hE hs (by omega)) (h1.free (by unfold fr; omega)) hs
    have ee : PB (ES ns nb nf (win 0 M) s (23 + 9 * s + 3)) 60 1 (-1) (-1) = PB (ES ns nb nf (win 0 N) s (23 + 9 * s + 3)) 60 1 1 (-1) := by
      rw [PB_first (b2 := 1) ep]
      exact PB_cong 60 1 _ _ (fun i _ _ => ES_sim g0 (h1.free (by unfold fr; omega)) hs)
    refine ⟨0, _, wr 256 w M, _, N', ?_, ?_, RR_cong h (fun z hz => (k2 z (Or.inl hz)).trans (hN z hz)), Or.inl ⟨rfl, ee, (k2 2504 (Or.inr rfl)).trans hz4⟩⟩
    · unfold f_X6_bestPrice
      rw [tbd_0 (c_chS hs h9.2 h9.1)]
      exact c1
    · unfold f_X7_bestPrice f_X7_best
      rw [m_isSI hs h9.2 e29, hNd]
      simp only [bd2, i10, ↓reduceIte]
      rw [show f_X7_best_c9 (nI s) 3 1 60 1 (-1) 1 N = _ from c2]
theorem s_bestLantern (h : RR mm M) (hm : mm < 536870912) (x : Int32) : OkT mm [2] (f_X6_bestLantern x) (f_X7_bestLantern x) M := by
  obtain ⟨ns, nb, nf, h1, hE, hB, h4, h5⟩ := h.mk
  have h9 := h1.s
  rw [w0] at h9
  rcases ixC x (n := ns) (by omega) with q | ⟨s, hs, rfl⟩
  · refine ⟨2, 0, M, 0, upd M 2504 1, ?_, ?_, (R_t0 h), Or.inr ⟨0, rfl, by omega, us⟩⟩
    · unfold f_X6_bestLantern
      rw [tbd_x (c_stO q h9.1)]
    · unfold f_X7_bestLantern
      rw [m_isSO q h9.2 h5.s.1]
      rfl
  · obtain ⟨w, c1⟩ := c_bestLantern (M := M) hs h1 hm 4 0 FU (-1) (-1) (win 256 M) rfl (FU_e _ (by omega))
    rw [wr256_self] at c1
    have hN : ∀ z, rz z → upd (wr 256 w M) 2504 0 z = M z := fun z hz => by rw [rzU hz, rz256 hz]
    have e29 : wr 256 w M 2529 = nI ns := by rw [rz256 (by unfold rz; omega)]; exact h5.s.1
    have hz4 : upd (wr 256 w M) 2504 0 2504 = 0 := us
    generalize hNd : upd (wr 256 w M) 2504 0 = N at hN hz4
    obtain ⟨g0, g1, g4⟩ := keepMV h1 h4 hN
    obtain ⟨N', c2, k2⟩ := m_bestL (M := N) (k0 := 1) (hi := 3) (lo := 0) hs (by omega) (by omega) g1 hm g4 4 0 FU 0 (-1) N rfl (FU_e _ (by omega)) (fun _ _ => rfl)
    have ep : ¬ ES ns nb nf (win 0 M) s (23 + 9 * s + 1) 0 ≤ -1 := ES_pos (hE.free h9.2 (by unfold er; omega)) (h1.free (by unfold fr; omega)) hs
    have ee : PB (ES ns nb nf (win 0 M) s (23 + 9 * s + 1)) 4 0 (-1) (-1) = PB (ES ns nb nf (win 0 N) s (23 + 9 * s + 1)) 4 0 0 (-1) := by
      rw [PB_first (b2 := 0) ep]
      exact PB_cong 4 0 _ _ (fun i _ _ => ES_sim g0 (h1.free (by unfold fr; omega)) hs)
    refine ⟨0, _, wr 256 w M, _, N', ?_, ?_, RR_cong h (fun z hz => (k2 z (Or.inl hz)).trans (hN z hz)), Or.inl ⟨rfl, ee, (k2 2504 (Or.inr rfl)).trans hz4⟩⟩
    · unfold f_X6_bestLantern
      rw [tbd_0 (c_chS hs h9.2 h9.1)]
      exact c1
    · unfold f_X7_bestLantern f_X7_best
      rw [m_isSI hs h9.2 e29, hNd]
      simp only [bd2, i10, ↓reduceIte]
      rw [show f_X7_best_c9 (nI s) 1 0 3 0 (-1) 0 N = _ from c2]
theorem s_bestBellPosition (h : RR mm M) (hm : mm < 536870912) : OkP mm f_X6_bestBellPosition f_X7_bestBellPosition M := by
  obtain ⟨ns, nb, nf, h1, hE, hB, h4, h5⟩ := h.mk
  have h9 := h1.s.2
  obtain ⟨w, c1⟩ := c_bestBell (M := M) h1 hm 100 0 FU (-1) (-1) (win 256 M) rfl (FU_e _ (by omega))
  rw [wr256_self] at c1
  have hN : ∀ z, rz z → upd (wr 256 w M) 2504 0 z = M z := fun z hz => by rw [rzU hz, rz256 hz]
  generalize hNd : upd (wr 256 w M) 2504 0 = N at hN
  obtain ⟨g0, g1, g4⟩ := keepMV h1 h4 hN
  obtain ⟨N', c2, k2⟩ := m_bestBell (M := N) g1 hm g4 100 0 FU 0 (-1) N rfl (FU_e _ (by omega)) (fun _ _ => rfl)
  have ep : ¬ EA ns nb nf (win 0 M) 0 ≤ -1 := EA_pos (hE.free h9 (by unfold er; omega)) (MV_bellp h1 (by omega))
  have ee : PB (EA ns nb nf (win 0 M)) 100 0 (-1) (-1) = PB (EA ns nb nf (win 0 N)) 100 0 0 (-1) := by
    rw [PB_first (b2 := 0) ep]
    exact PB_cong 100 0 _ _ (fun i _ hi => EA_sim g0 (MV_bellp h1 (by omega)))
  refine ⟨_, wr 256 w M, N', c1, ?_, RR_cong h (fun z hz => (k2 z (Or.inl hz)).trans (hN z hz))⟩
  unfold f_X7_bestBellPosition
  rw [hNd, ee]
  exact c2
end
