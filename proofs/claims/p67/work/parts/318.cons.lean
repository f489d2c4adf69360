/-! the accounts: what came is what is there, held, sold, lost -/
def CQ (ns nb : Nat) (u : xM) : Prop := ∀ s, s < ns → u (23 + 9 * s + 8) = u (23 + 9 * s + 4) + HC u (nI s) nb + u (23 + 9 * s + 5) + u (23 + 9 * s + 6)
theorem HC_cong {u v : xM} {x : Int32} : ∀ n, (∀ i, i < n → v (77 + 8 * i + 4) = u (77 + 8 * i + 4)) → HC v x n = HC u x n
  | 0, _ => rfl
  | n + 1, h => by
    rw [HC_s, HC_s, HC_cong n (fun i hi => h i (by omega)), h n (by omega)]
theorem HC_upd {u v : xM} {x : Int32} {j : Nat} : ∀ n, j < n → (∀ i, i < n → i ≠ j → v (77 + 8 * i + 4) = u (77 + 8 * i + 4)) → HC v x n + (if u (77 + 8 * j + 4) = x then 1 else 0) = HC u x n + (if v (77 + 8 * j + 4) = x then 1 else 0)
  | 0, hj, _ => absurd hj (Nat.not_lt_zero j)
  | n + 1, hj, h => by
    rw [HC_s, HC_s]
    by_cases e : j = n
    · subst e
      rw [HC_cong j (fun i hi => h i (by omega) (by omega))]
      generalize HC u x j = a
      generalize (if v (77 + 8 * j + 4) = x then (1 : Int32) else 0) = b
      generalize (if u (77 + 8 * j + 4) = x then (1 : Int32) else 0) = c
      grind
    · have ih := HC_upd (x := x) n (by omega) (fun i hi hij => h i (by omega) hij)
      rw [h n (by omega) (by omega)]
      generalize HC u x n = a at ih ⊢
      generalize HC v x n = a' at ih ⊢
      generalize (if v (77 + 8 * j + 4) = x then (1 : Int32) else 0) = b at ih ⊢
      generalize (if u (77 + 8 * j + 4) = x then (1 : Int32) else 0) = c at ih ⊢
      generalize (if u (77 + 8 * n + 4) = x then (1 : Int32) else 0) = d
      grind
section
variable {mm ns nb nf i : Nat} {u v w : xM} {d : Int32}
theorem CQ_cong (h : CQ ns nb u) (hs : ∀ s, s < ns → ∀ c, (c = 4 ∨ c = 5 ∨ c = 6 ∨ c = 8) → v (23 + 9 * s + c) = u (23 + 9 * s + c)) (hb : ∀ i, i < nb → v (77 + 8 * i + 4) = u (77 + 8 * i + 4)) : CQ ns nb v := fun s q => by
  rw [hs s q 8 (by omega), hs s q 4 (by omega), hs s q 5 (by omega), hs s q 6 (by omega), HC_cong nb hb]
  exact h s q
theorem eq_nI {a b : Nat} (ha : a < 2147483648) (hb : b < 2147483648) (h : a ≠ b) : ¬ nI a = nI b := fun e => h ((nI_eq (by omega) (by omega)).mp e)
theorem m1_nI {s : Nat} (hs : s < 2147483648) : ¬ (-1 : Int32) = nI s := fun e => by
  have := nI_m1 hs
  rw [← e] at this
  exact this.mp rfl
theorem CQ_mv (h : CQ ns nb w) (hs : ns ≤ 6) {to : Int32} : CQ ns nb (P_mv w i to) := by
  unfold P_mv
  exact CQ_cong h (fun s q c hc => un (by omega)) (fun j hj => un (by omega))
theorem CQ_pay (h : CQ ns nb w) (hs : ns ≤ 6) (hb : nb ≤ 6) (hi : i < nb) {q : Nat} (hq : q < ns) (e : w (77 + 8 * i + 4) = nI q) : CQ ns nb (P_pay w i q) := fun s hsn => by
  have hu := HC_upd (u := w) (v := P_pay w i q) (x := nI s) (j := i) nb hi (fun j hj hn => by
    unfold P_pay
    rw [un (by omega), un (by omega), un (by omega), un (by omega), un (by omega), un (by omega)])
  have e2 : P_pay w i q (77 + 8 * i + 4) = -1 := by unfold P_pay; rw [un (by omega), us]
  rw [e, e2, if_neg (m1_nI (show s < 2147483648 by omega))] at hu
  have hc := h s hsn
  have z8 : P_pay w i q (23 + 9 * s + 8) = w (23 + 9 * s + 8) := by unfold P_pay; rw [un (by omega), un (by omega), un (by omega), un (by omega), un (by omega), un (by omega)]
  have z4 : P_pay w i q (23 + 9 * s + 4) = w (23 + 9 * s + 4) := by unfold P_pay; rw [un (by omega), un (by omega), un (by omega), un (by omega), un (by omega), un (by omega)]
  have z6 : P_pay w i q (23 + 9 * s + 6) = w (23 + 9 * s + 6) := by unfold P_pay; rw [un (by omega), un (by omega), un (by omega), un (by omega), un (by omega), un (by omega)]
  rw [z8, z4, z6]
  by_cases eq : s = q
  · subst eq
    have z5 : P_pay w i s (23 + 9 * s + 5) = w (23 + 9 * s + 5) + 1 := by unfold P_pay; rw [un (by omega), un (by omega), un (by omega), un (by omega), us]
    rw [z5]
    rw [if_pos rfl] at hu
    generalize HC (P_pay w i s) (nI s) nb = a at hu ⊢
    generalize HC w (nI s) nb = b at hu hc
    grind
  · have z5 : P_pay w i q (23 + 9 * s + 5) = w (23 + 9 * s + 5) := by unfold P_pay; rw [un (by omega), un (by omega), un (by omega), un (by omega), un (by omega), un (by omega)]
    rw [z5]
    rw [if_neg (eq_nI (show q < 2147483648 by omega) (show s < 2147483648 by omega) (fun f => eq f.symm))] at hu
    generalize HC (P_pay w i q) (nI s) nb = a at hu ⊢
    generalize HC w (nI s) nb = b at hu hc
    grind
theorem CQ_take (h : CQ ns nb w) (hs : ns ≤ 6) (hb : nb ≤ 6) (hi : i < nb) {q : Nat} (hq : q < ns) (e : w (77 + 8 * i + 4) = -1) : CQ ns nb (P_take w i q) := fun s hsn => by
  have hu := HC_upd (u := w) (v := P_take w i q) (x := nI s) (j := i) nb hi (fun j hj hn => by
    unfold P_take
    rw [un (by omega), un (by omega), un (by omega)])
  have e2 : P_take w i q (77 + 8 * i + 4) = nI q := by unfold P_take; rw [un (by omega), us]
  rw [e, e2, if_neg (m1_nI (show s < 2147483648 by omega))] at hu
  have hc := h s hsn
  have z8 : P_take w i q (23 + 9 * s + 8) = w (23 + 9 * s + 8) := by unfold P_take; rw [un (by omega), un (by omega), un (by omega)]
  have z5 : P_take w i q (23 + 9 * s + 5) = w (23 + 9 * s + 5) := by unfold P_take; rw [un (by omega), un (by omega), un (by omega)]
  have z6 : P_take w i q (23 + 9 * s + 6) = w (23 + 9 * s + 6) := by unfold P_take; rw [un (by omega), un (by omega), un (by omega)]
  rw [z8, z5, z6]
  by_cases eq : s = q
  · subst eq
    have z4 : P_take w i s (23 + 9 * s + 4) = w (23 + 9 * s + 4) - 1 := by unfold P_take; rw [un (by omega), un (by omega), us]
    rw [z4]
    rw [if_pos rfl] at hu
    generalize HC (P_take w i s) (nI s) nb = a at hu ⊢
    generalize HC w (nI s) nb = b at hu hc
    grind
  · have z4 : P_take w i q (23 + 9 * s + 4) = w (23 + 9 * s + 4) := by unfold P_take; rw [un (by omega), un (by omega), un (by omega)]
    rw [z4]
    rw [if_neg (eq_nI (show q < 2147483648 by omega) (show s < 2147483648 by omega) (fun f => eq f.symm))] at hu
    generalize HC (P_take w i q) (nI s) nb = a at hu ⊢
    generalize HC w (nI s) nb = b at hu hc
    grind
theorem CQ_act (h : CQ ns nb w) (hv : MV mm ns nb nf w) (hi : i < nb) : CQ ns nb (P_act ns d i w) := by
  have hs := hv.s.2
  have hb := hv.b.2
  unfold P_act
  rcases hold_cases (hv.bu i hi) hs with ⟨e1, e2, -⟩ | ⟨q, hq, e1, e2⟩
  · rw [e1]
    show CQ ns nb (P_actO w i (P_tgt w i d ns 0 none))
    rcases ht : P_tgt w i d ns 0 none with _ | s
    · exact h
    · have hsn : s < ns := P_tgt_lt ns 0 none (by omega) (fun j hj => by cases hj) s ht
      show CQ ns nb (P_actT w i s)
      have h1 := CQ_mv (i := i) (to := w (23 + 9 * s + 0)) h hs
      unfold P_actT
      split
      · unfold P_got
        split
        · exact CQ_take h1 hs hb hi hsn (by unfold P_mv; rw [un (by omega)]; exact e2)
        · unfold P_avoid
          exact CQ_cong h1 (fun s q c hc => un (by omega)) (fun j hj => un (by omega))
      · exact h1
  · rw [e1]
    show CQ ns nb (P_actH w i q)
    have h1 := CQ_mv (i := i) (to := w 7) h hs
    unfold P_actH
    split
    · exact CQ_pay h1 hs hb hi hq (by unfold P_mv; rw [un (by omega)]; exact e2)
    · exact h1
theorem CQ_acts : ∀ (k i : Nat) (w : xM), i + k ≤ nb → MV mm ns nb nf w → CQ ns nb w → CQ ns nb (P_acts ns d k i w)
  | 0, _, _, _, _, h => h
  | k + 1, i, w, hk, hv, h => CQ_acts k (i + 1) _ (by omega) (MV_act hv (by omega)) (CQ_act h hv (by omega))
theorem CQ_mist (h : CQ ns nb w) (hs : ns ≤ 6) {q : Nat} (hq : q < ns) : CQ ns nb (P_mist d q w) := by
  unfold P_mist
  split
  · exact h
  · split
    · exact h
    · intro s hsn
      have hc := h s hsn
      rw [HC_cong (u := w) nb (fun j hj => by rw [un (by omega), un (by omega)])]
      by_cases eq : s = q
      · subst eq
        rw [un (show 23 + 9 * s + 8 ≠ 23 + 9 * s + 6 by omega), un (show 23 + 9 * s + 8 ≠ 23 + 9 * s + 4 by omega), un (show 23 + 9 * s + 4 ≠ 23 + 9 * s + 6 by omega), us, un (show 23 + 9 * s + 5 ≠ 23 + 9 * s + 6 by omega), un (show 23 + 9 * s + 5 ≠ 23 + 9 * s + 4 by omega), us]
        generalize HC w (nI s) nb = b at hc ⊢
        grind
      · rw [un (by omega), un (by omega), un (by omega), un (by omega), un (by omega), un (by omega), un (by omega), un (by omega)]
        exact hc
theorem CQ_mists (hs : ns ≤ 6) : ∀ (k s : Nat) (w : xM), s + k ≤ ns → CQ ns nb w → CQ ns nb (P_mists d k s w)
  | 0, _, _, _, h => h
  | k + 1, s, w, hk, h => CQ_mists hs k (s + 1) _ (by omega) (CQ_mist h hs (by omega))
theorem CQ_ret (h : CQ ns nb w) (hv : MV mm ns nb nf w) (hi : i < nb) : CQ ns nb (P_ret w i) := by
  have hs := hv.s.2
  have hb := hv.b.2
  unfold P_ret P_ret1
  rcases hold_cases (hv.bu i hi) hs with ⟨e1, e2, -⟩ | ⟨q, hq, e1, e2⟩
  · rw [e1]
    refine CQ_cong h (fun s q c hc => by rw [un (by omega), un (by omega)]) (fun j hj => ?_)
    rw [un (by omega)]
    by_cases e : j = i
    · subst e; rw [us, e2]
    · rw [un (by omega)]
  · rw [e1]
    intro s hsn
    show upd (upd (upd w (23 + 9 * q + 4) (w (23 + 9 * q + 4) + 1)) (77 + 8 * i + 4) (-1)) (77 + 8 * i + 5) 0 (23 + 9 * s + 8) = upd (upd (upd w (23 + 9 * q + 4) (w (23 + 9 * q + 4) + 1)) (77 + 8 * i + 4) (-1)) (77 + 8 * i + 5) 0 (23 + 9 * s + 4) + HC (upd (upd (upd w (23 + 9 * q + 4) (w (23 + 9 * q + 4) + 1)) (77 + 8 * i + 4) (-1)) (77 + 8 * i + 5) 0) (nI s) nb + upd (upd (upd w (23 + 9 * q + 4) (w (23 + 9 * q + 4) + 1)) (77 + 8 * i + 4) (-1)) (77 + 8 * i + 5) 0 (23 + 9 * s + 5) + upd (upd (upd w (23 + 9 * q + 4) (w (23 + 9 * q + 4) + 1)) (77 + 8 * i + 4) (-1)) (77 + 8 * i + 5) 0 (23 + 9 * s + 6)
    have hu := HC_upd (u := w) (v := upd (upd (upd w (23 + 9 * q + 4) (w (23 + 9 * q + 4) + 1)) (77 + 8 * i + 4) (-1)) (77 + 8 * i + 5) 0) (x := nI s) (j := i) nb hi (fun j hj hn => by
      rw [un (by omega), un (by omega), un (by omega)])
    have e3 : upd (upd (upd w (23 + 9 * q + 4) (w (23 + 9 * q + 4) + 1)) (77 + 8 * i + 4) (-1)) (77 + 8 * i + 5) 0 (77 + 8 * i + 4) = -1 := by rw [un (by omega), us]
    rw [e2, e3, if_neg (m1_nI (show s < 2147483648 by omega))] at hu
    have hc := h s hsn
    generalize HC (upd (upd (upd w (23 + 9 * q + 4) (w (23 + 9 * q + 4) + 1)) (77 + 8 * i + 4) (-1)) (77 + 8 * i + 5) 0) (nI s) nb = a at hu ⊢
    generalize HC w (nI s) nb = b at hu hc
    by_cases eq : s = q
    · subst eq
      rw [if_pos rfl] at hu
      rw [un (by omega), un (by omega), un (by omega), un (show 23 + 9 * s + 4 ≠ 77 + 8 * i + 5 by omega), un (show 23 + 9 * s + 4 ≠ 77 + 8 * i + 4 by omega), us, un (show 23 + 9 * s + 5 ≠ 77 + 8 * i + 5 by omega), un (show 23 + 9 * s + 5 ≠ 77 + 8 * i + 4 by omega), un (show 23 + 9 * s + 5 ≠ 23 + 9 * s + 4 by omega), un (show 23 + 9 * s + 6 ≠ 77 + 8 * i + 5 by omega), un (show 23 + 9 * s + 6 ≠ 77 + 8 * i + 4 by omega), un (show 23 + 9 * s + 6 ≠ 23 + 9 * s + 4 by omega)]
      grind
    · rw [if_neg (eq_nI (show q < 2147483648 by omega) (show s < 2147483648 by omega) (fun f => eq f.symm))] at hu
      rw [un (by omega), un (by omega), un (by omega), un (by omega), un (by omega), un (by omega), un (by omega), un (by omega), un (by omega), un (by omega), un (by omega), un (by omega)]
      grind
theorem CQ_ends : ∀ (k i : Nat) (w : xM), i + k ≤ nb → MV mm ns nb nf w → CQ ns nb w → CQ ns nb (P_ends k i w)
  | 0, _, _, _, _, h => h
  | k + 1, i, w, hk, hv, h => by
    have hb := hv.b.2
    have hs := hv.s.2
    refine CQ_ends k (i + 1) _ (by omega) (MV_end1 hv (by omega)) ?_
    unfold P_end1
    exact CQ_cong (CQ_ret h hv (by omega)) (fun s q c hc => un (by omega)) (fun j hj => un (by omega))
theorem CQ_lo (h : CQ ns nb w) {z : Nat} {x : Int32} (hz : z < 23) : CQ ns nb (upd w z x) := CQ_cong h (fun s q c hc => un (by omega)) (fun j hj => un (by omega))
theorem CQ_bell (h : CQ ns nb u) (hv : MV mm ns nb nf u) : CQ ns nb (P_bell nb d u) := by
  have hr := MV_rdy (d := d) hv
  have h1 : CQ ns nb (P_rdy d u) := by
    unfold P_rdy
    split
    · exact h
    · exact CQ_lo h (by omega)
  have hc : CQ ns nb (P_close nb (P_rdy d u)) := by
    unfold P_close
    exact CQ_ends nb 0 _ (by omega) (MV_cl0 hr) (CQ_lo (CQ_lo h1 (by omega)) (by omega))
  have hg : CQ ns nb (P_ring (P_rdy d u)) := by
    unfold P_ring
    exact CQ_lo (CQ_lo (CQ_lo (CQ_lo h1 (by omega)) (by omega)) (by omega)) (by omega)
  unfold P_bell P_bell2
  repeat' split
  all_goals first | exact hc | exact hg | exact h1
theorem CQ_min (h : CQ ns nb u) (hv : MV mm ns nb nf u) : CQ ns nb (P_min ns nb nf u) := by
  have hb := MV_bell (d := P_dens nf u) hv
  unfold P_min P_min1 P_tick
  refine CQ_lo ?_ (by omega)
  split
  · unfold P_opn P_since
    exact CQ_lo (CQ_mists hv.s.2 ns 0 _ (by omega) (CQ_acts nb 0 _ (by omega) hb (CQ_bell h hv))) (by omega)
  · exact CQ_bell h hv
theorem CQ_pass : ∀ (k mm : Nat) (u : xM), MV mm ns nb nf u → CQ ns nb u → CQ ns nb (P_pass ns nb nf k u)
  | 0, _, _, _, h => h
  | k + 1, mm, u, hv, h => CQ_pass k (mm + 1) _ (MV_min hv) (CQ_min h hv)
theorem CQ_sim (hS : Sim ns nb nf u v) (h : CQ ns nb u) : CQ ns nb v := CQ_cong h (fun s q c hc => (hS.ss q (by omega)).symm) (fun j hj => (hS.b hj (by omega)).symm)
end
