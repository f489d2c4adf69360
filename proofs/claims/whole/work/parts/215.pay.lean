/-! predictions: who pays -/
def PPay (ns nb nf c : Nat) (b0 : Int32) : Nat → Nat → xM → Int32
  | 0, _, _ => -1
  | k + 1, m, v => if P_min ns nb nf v c = b0 then PPay ns nb nf c b0 k (m + 1) (P_min ns nb nf v) else nI m
def FPre (v w : xM) : Nat → Option Nat
  | 0 => none
  | i + 1 => match FPre v w i with
    | some j => some j
    | none => if v (77 + 8 * i + 7) ≤ w (77 + 8 * i + 7) then none else some i
def PNext (ns nb nf : Nat) (w : xM) : Nat → xM → Int32
  | 0, _ => -1
  | k + 1, v => match FPre (P_min ns nb nf v) w nb with
    | some j => nI j
    | none => PNext ns nb nf w k (P_min ns nb nf v)
theorem FPre_none {v w : xM} {i : Nat} (h : FPre v w i = none) : FPre v w (i + 1) = if v (77 + 8 * i + 7) ≤ w (77 + 8 * i + 7) then none else some i := by
  show (match FPre v w i with | some j => some j | none => if v (77 + 8 * i + 7) ≤ w (77 + 8 * i + 7) then none else some i) = _
  rw [h]
theorem FPre_some {v w : xM} {i j : Nat} (h : FPre v w i = some j) : FPre v w (i + 1) = some j := by
  show (match FPre v w i with | some j => some j | none => if v (77 + 8 * i + 7) ≤ w (77 + 8 * i + 7) then none else some i) = _
  rw [h]
theorem FPre_on {v w : xM} {i j : Nat} (h : FPre v w i = some j) : ∀ k, FPre v w (i + k) = some j
  | 0 => h
  | k + 1 => FPre_some (FPre_on h k)
theorem FPre_lt {v w : xM} {j : Nat} : ∀ {i : Nat}, FPre v w i = some j → j < i
  | 0, h => by cases h
  | i + 1, h => by
    rcases e : FPre v w i with _ | q
    · rw [FPre_none e] at h
      split at h
      · cases h
      · cases h; omega
    · rw [FPre_some e] at h
      cases h
      have := FPre_lt e
      omega
theorem FPre_sim {ns nb nf : Nat} {u v w w' : xM} (h : Sim ns nb nf u v) (h2 : Sim ns nb nf w w') : ∀ i, i ≤ nb → FPre u w i = FPre v w' i
  | 0, _ => rfl
  | i + 1, hi => by
    have ih := FPre_sim h h2 i (by omega)
    rcases e : FPre u w i with _ | q
    · rw [FPre_none e, FPre_none (by rw [← ih]; exact e), h.b (show i < nb by omega) (by omega), h2.b (show i < nb by omega) (by omega)]
    · rw [FPre_some e, FPre_some (by rw [← ih]; exact e)]
theorem z333 {w N : xM} {i : Nat} (hi : i < 6) : wr 256 w N (333 + 8 * i + 7) = w (77 + 8 * i + 7) := wr_in (by omega) (by omega)
section
variable {mm ns nb nf : Nat} {u v M T : xM}
theorem c_pass1 {b : Nat} (h : MV mm ns nb nf u) (hm : mm < 1073741824) : f_X2_pass b 1 (wr b u M) = some (wr b (P_min ns nb nf u) M) := c_pass (t := 1) h (by omega) (by omega)
theorem c_payL {i t : Nat} (hi : i < nb) (ht : t < 1073741824) : ∀ (k m n mm : Nat) (u : xM), m + k = 201 → k < n → mm + k < 1073741824 → MV mm ns nb nf u → u (77 + 8 * i + 7) = nI t → ∃ u', lp (fun _ _ _ => none) (fun k => fb_X6_minutesToPay_c22 k (nI i)) n (nI t) (nI m) (wr 256 u M) = some (0, PPay ns nb nf (77 + 8 * i + 7) (nI t) k m u, wr 256 u' M)
  | 0, m, n + 1, mm, u, hm, hn, hb, hv, h => by
    refine ⟨u, ?_⟩
    rw [lp_s]
    unfold fb_X6_minutesToPay_c22
    rw [if_pos (show (200 : Int32) < nI m from nI_lt (a := 200) (by omega) (by omega))]
    rfl
  | k + 1, m, n + 1, mm, u, hm, hn, hb, hv, h => by
    have hb6 := hv.b.2
    obtain ⟨x, hx, e⟩ := P_min_bo hv hi
    rw [h, nI_add] at e
    have hl : ¬ (200 : Int32) < nI m := nI_nlt (b := m) (a := 200) (by omega) (by decide)
    rw [lp_s]
    show ∃ u', _ = some (0, if P_min ns nb nf u (77 + 8 * i + 7) = nI t then PPay ns nb nf (77 + 8 * i + 7) (nI t) k (m + 1) (P_min ns nb nf u) else nI m, wr 256 u' M)
    rw [e]
    rcases (show x = 0 ∨ x = 1 by omega) with rfl | rfl
    · obtain ⟨u', ih⟩ := c_payL hi ht k (m + 1) n (mm + 1) (P_min ns nb nf u) (by omega) (by omega) (by omega) (MV_min hv) e
      generalize lp (fun _ _ _ => none) (fun k => fb_X6_minutesToPay_c22 k (nI i)) n = K at ih ⊢
      refine ⟨u', ?_⟩
      unfold fb_X6_minutesToPay_c22
      simp (disch := omega) only [hl, ↓reduceIte, c_pass1 hv, bd, gd, inb_nI, cl, z333, e, nI_ll, nI_1]
      rw [if_pos (by rw [Nat.add_zero])]
      exact ih
    · refine ⟨P_min ns nb nf u, ?_⟩
      unfold fb_X6_minutesToPay_c22
      simp (disch := omega) only [hl, ↓reduceIte, c_pass1 hv, bd, gd, inb_nI, cl, z333, e, nI_lx]
      rw [if_neg (fun q => absurd ((nI_eq (by omega) (by omega)).mp q) (by omega))]
theorem m_payBack {i : Nat} {b0 x : Int32} {n : Nat} (hi : i < 6) (h : ¬ v (77 + 8 * i + 7) = b0) : lp (fun _ _ _ => none) (fun k => fb_X7_minutesToPay_c24 k (nI i)) (n + 1) b0 x (wr 2520 v T) = some (x, wr 2520 (win 2770 T) T) := by
  rw [lp_s]
  unfold fb_X7_minutesToPay_c24 f_X7_minutesToPay_c54
  simp (disch := omega) only [by7, bd2, h, ↓reduceIte, m_leave']
  split <;> rfl
theorem m_payL {i t : Nat} (hi : i < nb) (ht : t < 1073741824) : ∀ (k j n mm : Nat) (v T : xM), j + k = 200 → k + 1 < n → mm + k < 1073741824 → MV mm ns nb nf v → v (77 + 8 * i + 7) = nI t → ∃ e, lp (fun _ _ _ => none) (fun k => fb_X7_minutesToPay_c24 k (nI i)) n (nI t) (nI j) (wr 2520 v T) = some (PPay ns nb nf (77 + 8 * i + 7) (nI t) k (j + 1) v, wr 2520 (win 2770 T) (upd T 2512 e))
  | 0, j, n + 1, mm, v, T, hm, hn, hb, hv, h => by
    have hb6 := hv.b.2
    refine ⟨T 2512, ?_⟩
    rw [lp_s, usame rfl]
    unfold fb_X7_minutesToPay_c24 f_X7_minutesToPay_c54
    rw [if_pos (show (200 : Int32) ≤ nI j from nI_le (a := 200) (by omega) (by omega))]
    simp (disch := omega) only [by7, bd2, h, ↓reduceIte, m_leave', PPay]
  | k + 1, j, n + 1, mm, v, T, hm, hn, hb, hv, h => by
    have hb6 := hv.b.2
    have hw : ∀ e, win 2770 (upd T 2512 e) = win 2770 T := fun e => by
      funext z
      exact un (by omega)
    have hl : ¬ (200 : Int32) ≤ nI j := nI_ge (a := j) (b := 200) (by omega) (by decide)
    rw [lp_s]
    obtain ⟨n', rfl⟩ : ∃ n', n = n' + 1 := ⟨n - 1, by omega⟩
    show ∃ e, _ = some (if P_min ns nb nf v (77 + 8 * i + 7) = nI t then PPay ns nb nf (77 + 8 * i + 7) (nI t) k (j + 1 + 1) (P_min ns nb nf v) else nI (j + 1), wr 2520 (win 2770 T) (upd T 2512 e))
    by_cases q : P_min ns nb nf v (77 + 8 * i + 7) = nI t
    · rw [if_pos q]
      obtain ⟨e, ih⟩ := m_payL hi ht k (j + 1) (n' + 1) (mm + 1) (P_min ns nb nf v) (upd T 2512 (P_ended (P_dens nf v) (P_rdy (P_dens nf v) v))) (by omega) (by omega) (by omega) (MV_min hv) q
      rw [hw, utwice] at ih
      generalize lp (fun _ _ _ => none) (fun k => fb_X7_minutesToPay_c24 k (nI i)) (n' + 1) = K at ih ⊢
      refine ⟨e, ?_⟩
      unfold fb_X7_minutesToPay_c24
      simp (disch := omega) only [hl, ↓reduceIte, by7, bd2, h, m_min hv, nI_1]
      exact ih
    · rw [if_neg q]
      have hbk := m_payBack (i := i) (b0 := nI t) (x := nI (j + 1)) (n := n') (v := P_min ns nb nf v) (T := upd T 2512 (P_ended (P_dens nf v) (P_rdy (P_dens nf v) v))) (by omega) q
      rw [hw] at hbk
      generalize lp (fun _ _ _ => none) (fun k => fb_X7_minutesToPay_c24 k (nI i)) (n' + 1) = K at hbk ⊢
      refine ⟨P_ended (P_dens nf v) (P_rdy (P_dens nf v) v), ?_⟩
      unfold fb_X7_minutesToPay_c24
      simp (disch := omega) only [hl, ↓reduceIte, by7, bd2, h, m_min hv, nI_1]
      exact hbk
theorem PPay_sim {i : Nat} (hi : i < nb) {b0 : Int32} : ∀ (k m mm : Nat) (u v : xM), MV mm ns nb nf u → Sim ns nb nf u v → PPay ns nb nf (77 + 8 * i + 7) b0 k m u = PPay ns nb nf (77 + 8 * i + 7) b0 k m v
  | 0, _, _, _, _, _, _ => rfl
  | k + 1, m, mm, u, v, hv, h => by
    have hS := S_min h hv
    show (if P_min ns nb nf u (77 + 8 * i + 7) = b0 then PPay ns nb nf (77 + 8 * i + 7) b0 k (m + 1) (P_min ns nb nf u) else nI m) = (if P_min ns nb nf v (77 + 8 * i + 7) = b0 then PPay ns nb nf (77 + 8 * i + 7) b0 k (m + 1) (P_min ns nb nf v) else nI m)
    rw [hS.b hi (k := 7) (by omega), PPay_sim hi k (m + 1) (mm + 1) _ _ (MV_min hv) hS]
/-- the class's search for the first who has paid -/
theorem c_nextIn {v1 : Int32} {k13 : Int32 → xM → Option (Int32 × xM)} (hm : M 10 = nI nb) (hb6 : nb ≤ 6) : ∀ (k i n : Nat), i + k = nb → k < n → FPre u (win 0 M) i = none → lp (fun _ _ _ => none) (fun k => fb_X6_nextPayer_c30 k13 k) n v1 (nI i) (wr 256 u M) = match FPre u (win 0 M) nb with
    | some j => some (nI j, wr 256 u M)
    | none => k13 (v1 + 1) (wr 256 u M)
  | 0, i, n + 1, hi, hn, h => by
    have e : i = nb := by omega
    subst e
    rw [lp_s, h]
    unfold fb_X6_nextPayer_c30
    rw [wr_out (by omega), hm, if_pos (Int32.le_refl _)]
  | k + 1, i, n + 1, hi, hn, h => by
    rw [lp_s]
    have ih := c_nextIn (v1 := v1) (k13 := k13) hm hb6 k (i + 1) n (by omega) (by omega)
    generalize lp (fun _ _ _ => none) (fun k => fb_X6_nextPayer_c30 k13 k) n = K at ih ⊢
    unfold fb_X6_nextPayer_c30
    rw [wr_out (a := 10) (by omega), hm, if_neg (nI_ge (by omega) (by omega)), gd_t (inb_nI (by omega) (by omega)), gd_t (inb_nI (by omega) (by omega)), cl (by omega), z333 (by omega), wr_out (by omega), nI_1]
    have e0 : M (77 + 8 * i + 7) = win 0 M (77 + 8 * i + 7) := w0.symm
    rw [e0]
    by_cases q : u (77 + 8 * i + 7) ≤ win 0 M (77 + 8 * i + 7)
    · rw [if_pos q]
      exact ih (by rw [FPre_none h, if_pos q])
    · rw [if_neg q]
      have h1 : FPre u (win 0 M) (i + 1) = some i := by rw [FPre_none h, if_neg q]
      have h2 := FPre_on h1 k
      rw [show i + 1 + k = nb by omega] at h2
      rw [h2]
theorem c_nextL : ∀ (k m n mm : Nat) (u : xM), m + k = 201 → k < n → mm + k < 1073741824 → M 10 = nI nb → MV mm ns nb nf u → ∃ u', lp (fun _ _ => none) (fun k => fb_X6_nextPayer_c13 k) n (nI m) (wr 256 u M) = some (PNext ns nb nf (win 0 M) k u, wr 256 u' M)
  | 0, m, n + 1, mm, u, hm, hn, hb, h10, hv => by
    refine ⟨u, ?_⟩
    rw [lp_s]
    unfold fb_X6_nextPayer_c13
    rw [if_pos (show (200 : Int32) < nI m from nI_lt (a := 200) (by omega) (by omega))]
    rfl
  | k + 1, m, n + 1, mm, u, hm, hn, hb, h10, hv => by
    have hb6 := hv.b.2
    obtain ⟨u', ih⟩ := c_nextL k (m + 1) n (mm + 1) (P_min ns nb nf u) (by omega) (by omega) (by omega) h10 (MV_min hv)
    have hl : ¬ (200 : Int32) < nI m := nI_nlt (b := m) (a := 200) (by omega) (by decide)
    rw [lp_s]
    generalize lp (fun _ _ => none) (fun k => fb_X6_nextPayer_c13 k) n = K at ih ⊢
    have hin := c_nextIn (u := P_min ns nb nf u) (v1 := nI m) (k13 := K) h10 hb6 nb 0 FU (by omega) (FU_e _ (by omega)) rfl
    unfold fb_X6_nextPayer_c13 f_X6_nextPayer_c30
    rw [if_neg hl, bd_s (c_pass1 hv (by omega)), show (0 : Int32) = nI 0 from rfl, hin]
    show ∃ u', _ = some (match FPre (P_min ns nb nf u) (win 0 M) nb with | some j => nI j | none => PNext ns nb nf (win 0 M) k (P_min ns nb nf u), wr 256 u' M)
    rcases FPre (P_min ns nb nf u) (win 0 M) nb with _ | j
    · exact ⟨u', by rw [nI_1]; exact ih⟩
    · exact ⟨_, rfl⟩
theorem m_nextIn {v2 : Int32} {k13 : Int32 → Int32 → xM → Option (Int32 × xM)} : ∀ (i n : Nat) (p : Int32), i ≤ 6 → i < n → lp (fun _ _ _ _ => none) (fun k => fb_X7_nextPayer_c41 k13 k) n p v2 (nI i - 1) (wr 2520 v T) = k13 (match FPre v (win 2770 T) i with | some j => nI j | none => p) (v2 + 1) (wr 2520 v T)
  | 0, n + 1, p, _, _ => by
    rw [lp_s]
    unfold fb_X7_nextPayer_c41
    rw [if_pos (show (nI 0 - 1 : Int32) < 0 by decide)]
    rfl
  | i + 1, n + 1, p, hi, hn => by
    have ih := fun q => m_nextIn (v2 := v2) (k13 := k13) i n q (by omega) (by omega)
    rw [lp_s]
    generalize lp (fun _ _ _ _ => none) (fun k => fb_X7_nextPayer_c41 k13 k) n = K at ih ⊢
    have eT : wr 2520 v T (2770 + (77 + 8 * i + 7)) = win 2770 T (77 + 8 * i + 7) := wr_out (by omega)
    have ix : (77 + (8 * nI i)) + 7 = nI (77 + 8 * i + 7) := ixb (k := 7)
    unfold fb_X7_nextPayer_c41 f_X7_nextPayer_c79
    rw [nI_pred, if_neg (nI_pos (by omega)), bd2_s (by7 (by omega)), ix, gd_t (inb_nI (by omega) (by omega)), cl (by omega), eT, sub_m1, ih, ih]
    rcases e : FPre v (win 2770 T) i with _ | j
    · rw [FPre_none e]
      by_cases q : v (77 + 8 * i + 7) ≤ win 2770 T (77 + 8 * i + 7)
      · rw [if_pos q, if_pos q]
      · rw [if_neg q, if_neg q]
    · rw [FPre_some e]
      split <;> rfl
theorem m_nextBack {p : Int32} {n : Nat} {x : Int32} (hp : ¬ p = -1) : lp (fun _ _ _ => none) (fun k => fb_X7_nextPayer_c13 k) (n + 1) p x (wr 2520 v T) = some (p, wr 2520 (win 2770 T) T) := by
  rw [lp_s]
  unfold fb_X7_nextPayer_c13
  simp only [hp, ↓reduceIte, m_leave', bd2]
  split <;> rfl
theorem m_nextL : ∀ (k j n mm : Nat) (v T : xM), j + k = 200 → k + 1 < n → mm + k < 1073741824 → MV mm ns nb nf v → ∃ e, lp (fun _ _ _ => none) (fun k => fb_X7_nextPayer_c13 k) n (-1) (nI j) (wr 2520 v T) = some (PNext ns nb nf (win 2770 T) k v, wr 2520 (win 2770 T) (upd T 2512 e))
  | 0, j, n + 1, mm, v, T, hm, hn, hb, hv => by
    refine ⟨T 2512, ?_⟩
    rw [lp_s, usame rfl]
    unfold fb_X7_nextPayer_c13
    rw [if_pos (show (200 : Int32) ≤ nI j from nI_le (a := 200) (by omega) (by omega)), m_leave']
    rfl
  | k + 1, j, n + 1, mm, v, T, hm, hn, hb, hv => by
    have hb6 := hv.b
    have hw : ∀ e, win 2770 (upd T 2512 e) = win 2770 T := fun e => by
      funext z
      exact un (by omega)
    have hl : ¬ (200 : Int32) ≤ nI j := nI_ge (a := j) (b := 200) (by omega) (by decide)
    rw [lp_s]
    obtain ⟨n', rfl⟩ : ∃ n', n = n' + 1 := ⟨n - 1, by omega⟩
    have h10 : P_min ns nb nf v 10 = nI nb := (MV_min hv).b.1
    obtain ⟨e, ih⟩ := m_nextL k (j + 1) (n' + 1) (mm + 1) (P_min ns nb nf v) (upd T 2512 (P_ended (P_dens nf v) (P_rdy (P_dens nf v) v))) (by omega) (by omega) (by omega) (MV_min hv)
    rw [hw, utwice] at ih
    have hbk := fun (q : Nat) (hq : q < 1073741824) => m_nextBack (p := nI q) (n := n') (x := nI (j + 1)) (v := P_min ns nb nf v) (T := upd T 2512 (P_ended (P_dens nf v) (P_rdy (P_dens nf v) v))) (by rw [nI_m1 (by omega)]; exact fun h => h)
    rw [hw] at hbk
    generalize lp (fun _ _ _ => none) (fun k => fb_X7_nextPayer_c13 k) (n' + 1) = K at ih hbk ⊢
    have hin := m_nextIn (v := P_min ns nb nf v) (T := upd T 2512 (P_ended (P_dens nf v) (P_rdy (P_dens nf v) v))) (v2 := nI j) (k13 := K) nb FU (-1) (by omega) (FU_e _ (by omega))
    rw [hw] at hin
    unfold fb_X7_nextPayer_c13 f_X7_nextPayer_c41
    rw [if_neg hl, if_pos rfl, bd2_s (m_min hv (by omega)), mh10, h10, hin, nI_1]
    show ∃ e, _ = some (match FPre (P_min ns nb nf v) (win 2770 T) nb with | some j => nI j | none => PNext ns nb nf (win 2770 T) k (P_min ns nb nf v), wr 2520 (win 2770 T) (upd T 2512 e))
    rcases ef : FPre (P_min ns nb nf v) (win 2770 T) nb with _ | q
    · exact ⟨e, ih⟩
    · exact ⟨_, hbk q (by have := FPre_lt ef; omega)⟩
theorem PNext_sim {w w' : xM} (hw : Sim ns nb nf w w') : ∀ (k mm : Nat) (u v : xM), MV mm ns nb nf u → Sim ns nb nf u v → PNext ns nb nf w k u = PNext ns nb nf w' k v
  | 0, _, _, _, _, _ => rfl
  | k + 1, mm, u, v, hv, h => by
    have hS := S_min h hv
    show (match FPre (P_min ns nb nf u) w nb with | some j => nI j | none => PNext ns nb nf w k (P_min ns nb nf u)) = (match FPre (P_min ns nb nf v) w' nb with | some j => nI j | none => PNext ns nb nf w' k (P_min ns nb nf v))
    rw [FPre_sim hS hw nb (Nat.le_refl _), PNext_sim hw k (mm + 1) _ _ (MV_min hv) hS]
end
section
variable {mm : Nat} {M : xM}
/-- a prediction's start on the model's side -/
theorem m_trialN {N : xM} : f_X7_startTrial N = some (wr 2520 (win 2520 N) (wr 2770 (win 2520 N) N)) := by
  have := m_trial (v := win 2520 N) (T := N)
  rw [wr_win] at this
  exact this
theorem trial_w {N : xM} {v : xM} : ∀ z, z < 125 → win 2770 (wr 2770 v N) z = v z := fun z hz => wr_in rfl hz
theorem sim_now {ns nb nf : Nat} {u N : xM} (h1 : MV mm ns nb nf (win 0 M)) (h4 : Sim ns nb nf (win 0 M) (win 2520 M)) (e2 : Sim ns nb nf (win 0 M) u) (hN : ∀ z, rz z → N z = M z) : Sim ns nb nf u (win 2520 N) := by
  refine (e2.symm.trans h4).trans (fun z hz => ?_)
  exact (hN _ (by have := Lv_lt h1.s.2 h1.b.2 h1.f.2.2 hz; unfold rz; omega)).symm
theorem s_nextPayer (h : RR mm M) (hm : mm < 536870912) : OkP mm f_X6_nextPayer f_X7_nextPayer M := by
  obtain ⟨ns, nb, nf, h1, -, hB, h4, h5⟩ := h.mk
  have h10 := h1.b
  rw [w0] at h10
  obtain ⟨u, e1, e2⟩ := c_copy (a := 256) (b := 0) (M0 := M) (Or.inr (by decide)) h1
  obtain ⟨u', c1⟩ := c_nextL (M := M) (ns := ns) (nb := nb) (nf := nf) 200 1 FU mm u rfl (FU_e _ (by omega)) (by omega) h10.1 (e2.MV h1)
  have hN : ∀ z, rz z → upd (wr 256 u' M) 2504 0 z = M z := fun z hz => by rw [rzU hz, rz256 hz]
  generalize hNd : upd (wr 256 u' M) 2504 0 = N at hN
  have eS := sim_now h1 h4 e2 hN
  have hv := eS.MV (e2.MV h1)
  obtain ⟨e, c2⟩ := m_nextL (ns := ns) (nb := nb) (nf := nf) 200 0 FU mm (win 2520 N) (wr 2770 (win 2520 N) N) rfl (FU_e _ (by omega)) (by omega) hv
  refine ⟨PNext ns nb nf (win 0 M) 200 u, wr 256 u' M, _, ?_, ?_, RR_trial (e := e) h hN⟩
  · unfold f_X6_nextPayer
    rw [bd_s e1]
    exact c1
  · unfold f_X7_nextPayer
    rw [hNd, bd_s m_trialN]
    have hw : Sim ns nb nf (win 0 M) (win 2770 (wr 2770 (win 2520 N) N)) := (e2.trans eS).trans (fun z hz => (trial_w z (Lv_lt h1.s.2 h1.b.2 h1.f.2.2 hz)).symm)
    rw [PNext_sim hw 200 mm _ _ (e2.MV h1) eS]
    exact c2
theorem s_minutesToPay (h : RR mm M) (hm : mm < 536870912) (x : Int32) : OkT mm [2] (f_X6_minutesToPay x) (f_X7_minutesToPay x) M := by
  obtain ⟨ns, nb, nf, h1, -, hB, h4, h5⟩ := h.mk
  have h10 := h1.b
  rw [w0] at h10
  rcases ixC x (n := nb) (by omega) with q | ⟨i, hi, rfl⟩
  · refine ⟨2, 0, M, 0, upd M 2504 1, ?_, ?_, (R_t0 h), Or.inr ⟨0, rfl, by omega, us⟩⟩
    · unfold f_X6_minutesToPay
      rw [tbd_x (c_byO2 q h10.1)]
    · unfold f_X7_minutesToPay
      rw [m_isBO q h10.2 h5.b.1]
      rfl
  · obtain ⟨t, ht, et⟩ := hB.1 i hi
    obtain ⟨u, e1, e2⟩ := c_copy (a := 256) (b := 0) (M0 := M) (Or.inr (by decide)) h1
    have eu : u (77 + 8 * i + 7) = nI t := by rw [← e2.b hi (by omega), et]
    obtain ⟨u', c1⟩ := c_payL (M := M) (ns := ns) (nb := nb) (nf := nf) (t := t) hi (by omega) 200 1 FU mm u rfl (FU_e _ (by omega)) (by omega) (e2.MV h1) eu
    have hN : ∀ z, rz z → upd (wr 256 u' M) 2504 0 z = M z := fun z hz => by rw [rzU hz, rz256 hz]
    have e29 : wr 256 u' M 2530 = nI nb := by rw [rz256 (by unfold rz; omega)]; exact h5.b.1
    have hz4 : upd (wr 256 u' M) 2504 0 2504 = 0 := us
    generalize hNd : upd (wr 256 u' M) 2504 0 = N at hN hz4
    have eS := sim_now h1 h4 e2 hN
    have hv := eS.MV (e2.MV h1)
    have ev : win 2520 N (77 + 8 * i + 7) = nI t := by rw [← eS.b hi (by omega), eu]
    obtain ⟨e, c2⟩ := m_payL (ns := ns) (nb := nb) (nf := nf) (t := t) hi (by omega) 200 0 FU mm (win 2520 N) (wr 2770 (win 2520 N) N) rfl (FU_e _ (by omega)) (by omega) hv ev
    have em : M (77 + 8 * i + 7) = nI t := w0.symm.trans et
    refine ⟨0, PPay ns nb nf (77 + 8 * i + 7) (nI t) 200 1 u, wr 256 u' M, PPay ns nb nf (77 + 8 * i + 7) (nI t) 200 1 (win 2520 N), _, ?_, ?_, RR_trial (e := e) h hN, Or.inl ⟨rfl, PPay_sim hi 200 1 mm _ _ (e2.MV h1) eS, ?_⟩⟩
    · unfold f_X6_minutesToPay
      rw [tbd_0 (c_byI hi h10.2 h10.1), bd_s e1, em]
      exact c1
    · unfold f_X7_minutesToPay
      rw [m_isBI hi h10.2 e29, hNd]
      simp (disch := omega) only [bd2, i10, ↓reduceIte, bd, m_trialN, by7, ev]
      exact c2
    · rw [wr_out (by omega), un (by omega), wr_out (by omega), hz4]
end
