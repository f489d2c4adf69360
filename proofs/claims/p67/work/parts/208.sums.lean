/-! sums over stalls and buyers -/
def soC (u : xM) (s : Nat) : Int32 := u (23 + 9 * s + 5)
section
variable {mm ns nb nf i : Nat} {u N : xM}
theorem P_act_so (hv : MV mm ns nb nf u) (hi : i < nb) {d : Int32} : SI (soC (P_act ns d i u)) ns = SI (soC u) ns + P_sold i u := by
  have hs := hv.s.2
  have hb := hv.b.2
  have hm : ∀ to z, z < 77 → P_mv u i to z = u z := fun to z hz => un (by omega)
  unfold P_act P_sold
  rcases hold_cases (hv.bu i hi) hs with ⟨e1, -, -⟩ | ⟨q, hq, e1, -⟩
  · rw [e1]
    show SI (soC (P_actO u i (P_tgt u i d ns 0 none))) ns = SI (soC u) ns + 0
    rw [Int32.add_zero]
    rcases ht : P_tgt u i d ns 0 none with _ | s
    · rfl
    · have hq : s < ns := P_tgt_lt ns 0 none (by omega) (fun j hj => by cases hj) s ht
      refine SI_cong (fun k hk => ?_)
      show P_actT u i s (23 + 9 * k + 5) = u (23 + 9 * k + 5)
      unfold P_actT P_got P_take P_avoid
      split
      · split
        · rw [un (by omega), un (by omega), un (by omega), hm _ _ (by omega)]
        · rw [un (by omega), hm _ _ (by omega)]
      · rw [hm _ _ (by omega)]
  · rw [e1]
    show SI (soC (P_actH u i q)) ns = SI (soC u) ns + (if P_mv u i (u 7) (77 + 8 * i + 0) = u 7 then (1 : Int32) else 0)
    unfold P_actH
    by_cases q1 : P_mv u i (u 7) (77 + 8 * i + 0) = u 7
    · rw [if_pos q1, if_pos q1]
      refine SI_set (i := q) ?_ hq (fun k hk hn => ?_)
      · unfold soC P_pay
        rw [un (by omega), un (by omega), un (by omega), un (by omega), us, hm _ _ (by omega)]
      · unfold soC P_pay
        rw [un (by omega), un (by omega), un (by omega), un (by omega), un (by omega), un (by omega), hm _ _ (by omega)]
    · rw [if_neg q1, if_neg q1, Int32.add_zero]
      exact SI_cong (fun k hk => hm _ _ (by omega))
theorem P_acts_so {d : Int32} : ∀ (k i : Nat) (u : xM) (a : Int32), i + k ≤ nb → MV mm ns nb nf u → P_solds ns d k i u a + SI (soC u) ns = a + SI (soC (P_acts ns d k i u)) ns
  | 0, _, _, _, _, _ => rfl
  | k + 1, i, u, a, hk, hv => by
    have h := P_acts_so (d := d) k (i + 1) (P_act ns d i u) (a + P_sold i u) (by omega) (MV_act hv (by omega))
    rw [P_act_so hv (by omega)] at h
    show P_solds ns d k (i + 1) (P_act ns d i u) (a + P_sold i u) + SI (soC u) ns = a + SI (soC (P_acts ns d k (i + 1) (P_act ns d i u))) ns
    generalize P_solds ns d k (i + 1) (P_act ns d i u) (a + P_sold i u) = X at h ⊢
    generalize SI (soC (P_acts ns d k (i + 1) (P_act ns d i u))) ns = Y at h ⊢
    generalize P_sold i u = Z at h
    generalize SI (soC u) ns = V at h ⊢
    grind
theorem P_mists_so {d : Int32} (hs : ns ≤ 6) : ∀ (k s : Nat) (u : xM), s + k ≤ ns → SI (soC (P_mists d k s u)) ns = SI (soC u) ns
  | 0, _, _, _ => rfl
  | k + 1, s, u, hk => by
    show SI (soC (P_mists d k (s + 1) (P_mist d s u))) ns = _
    rw [P_mists_so hs k (s + 1) _ (by omega)]
    refine SI_cong (fun j hj => ?_)
    unfold soC P_mist
    split
    · rfl
    · split
      · rfl
      · rw [un (by omega), un (by omega)]
theorem P_ends_so : ∀ (k i : Nat) (u : xM), i + k ≤ nb → MV mm ns nb nf u → SI (soC (P_ends k i u)) ns = SI (soC u) ns
  | 0, _, _, _, _ => rfl
  | k + 1, i, u, hk, hv => by
    show SI (soC (P_ends k (i + 1) (P_end1 u i))) ns = _
    rw [P_ends_so k (i + 1) _ (by omega) (MV_end1 hv (by omega))]
    have hs := hv.s.2
    refine SI_cong (fun j hj => ?_)
    unfold soC P_end1 P_ret P_ret1
    rw [un (by omega), un (by omega), un (by omega)]
    rcases hold_cases (hv.bu i (by omega)) hs with ⟨e1, -, -⟩ | ⟨q, hq, e1, -⟩
    · rw [e1]
    · rw [e1]; exact un (by omega)
theorem P_bell_so (hv : MV mm ns nb nf u) {d : Int32} : SI (soC (P_bell nb d u)) ns = SI (soC u) ns := by
  have hr := MV_rdy (d := d) hv
  have lo : ∀ (w : xM) (z : Nat) (x : Int32), z < 23 → SI (soC (upd w z x)) ns = SI (soC w) ns := fun w z x hz => SI_cong (fun j hj => by unfold soC; rw [un (by omega)])
  have h1 : SI (soC (P_rdy d u)) ns = SI (soC u) ns := by
    unfold P_rdy
    split
    · rfl
    · exact lo _ _ _ (by omega)
  have hc : SI (soC (P_close nb (P_rdy d u))) ns = SI (soC u) ns := by
    unfold P_close
    rw [P_ends_so nb 0 _ (by omega) (MV_cl0 hr), lo _ _ _ (by omega), lo _ _ _ (by omega), h1]
  have hg : SI (soC (P_ring (P_rdy d u))) ns = SI (soC u) ns := by
    unfold P_ring
    rw [lo _ _ _ (by omega), lo _ _ _ (by omega), lo _ _ _ (by omega), lo _ _ _ (by omega), h1]
  unfold P_bell P_bell2
  repeat' split
  all_goals first | exact hc | exact hg | exact h1
theorem P_min_so (hv : MV mm ns nb nf u) : SI (soC (P_min ns nb nf u)) ns = SI (soC u) ns + P_minS ns nb nf u := by
  have hb := MV_bell (d := P_dens nf u) hv
  have lo : ∀ (w : xM) (z : Nat) (x : Int32), z < 23 → SI (soC (upd w z x)) ns = SI (soC w) ns := fun w z x hz => SI_cong (fun j hj => by unfold soC; rw [un (by omega)])
  unfold P_min P_min1 P_minS P_tick
  rw [lo _ _ _ (by omega)]
  split
  · unfold P_opn P_since
    rw [lo _ _ _ (by omega), P_mists_so hv.s.2 ns 0 _ (by omega)]
    have h := P_acts_so (d := P_dens nf u) nb 0 _ 0 (by omega) hb
    rw [P_bell_so hv, Int32.zero_add] at h
    rw [← h, Int32.add_comm]
  · rw [P_bell_so hv, Int32.add_zero]
theorem P_pass_so : ∀ (k mm : Nat) (u : xM) (a : Int32), MV mm ns nb nf u → P_passS ns nb nf k u a + SI (soC u) ns = a + SI (soC (P_pass ns nb nf k u)) ns
  | 0, _, _, _, _ => rfl
  | k + 1, mm, u, a, hv => by
    have h := P_pass_so k (mm + 1) (P_min ns nb nf u) (a + P_minS ns nb nf u) (MV_min hv)
    rw [P_min_so hv] at h
    show P_passS ns nb nf k (P_min ns nb nf u) (a + P_minS ns nb nf u) + SI (soC u) ns = a + SI (soC (P_pass ns nb nf k (P_min ns nb nf u))) ns
    generalize P_passS ns nb nf k (P_min ns nb nf u) (a + P_minS ns nb nf u) = X at h ⊢
    generalize SI (soC (P_pass ns nb nf k (P_min ns nb nf u))) ns = Y at h ⊢
    generalize P_minS ns nb nf u = Z at h
    generalize SI (soC u) ns = V at h ⊢
    grind
/-- the loops that sum -/
def stC (u : xM) (k s : Nat) : Int32 := u (23 + 9 * s + k)
def HC (u : xM) (x : Int32) : Nat → Int32
  | 0 => 0
  | n + 1 => HC u x n + (if u (77 + 8 * n + 4) = x then 1 else 0)
theorem HC_s (u : xM) (x : Int32) (n : Nat) : HC u x (n + 1) = HC u x n + (if u (77 + 8 * n + 4) = x then 1 else 0) := rfl
variable {b : Nat} {M : xM}
theorem c_soldA (h : MV mm ns nb nf u) : f_X2_soldInAll b (wr b u M) = some (SI (stC u 5) ns, wr b u M) := by
  have h6 := h.s
  have key : ∀ (k s n : Nat), s + k = ns → k < n → lp (fun _ _ _ => none) (fun k => fb_X2_soldInAll_c4 k b) n (SI (stC u 5) s) (nI s) (wr b u M) = some (SI (stC u 5) ns, wr b u M) := by
    intro k
    induction k with
    | zero =>
      intro s n hs hn
      obtain ⟨n, rfl⟩ : ∃ m, n = m + 1 := ⟨n - 1, by omega⟩
      have e : s = ns := by omega
      subst e
      rw [lp_s]
      unfold fb_X2_soldInAll_c4
      simp (disch := omega) only [wr_h, h6.1, nI_ll, ↓reduceIte]
    | succ k ih =>
      intro s n hs hn
      obtain ⟨n, rfl⟩ : ∃ m, n = m + 1 := ⟨n - 1, by omega⟩
      have := ih (s + 1) n (by omega) (by omega)
      rw [lp_s]
      generalize lp (fun _ _ _ => none) (fun k => fb_X2_soldInAll_c4 k b) n = K at this ⊢
      unfold fb_X2_soldInAll_c4
      simp (disch := omega) only [wr_h, h6.1, nI_lx, ↓reduceIte, inb_nI, gd, cl, wr_s, nI_1]
      exact this
  exact key ns 0 FU (by omega) (FU_e _ (by omega))
theorem c_held (h : MV mm ns nb nf u) (x : Int32) : f_X2_countHeld b x (wr b u M) = some (HC u x nb, wr b u M) := by
  have h6 := h.b
  have key : ∀ (k s n : Nat), s + k = nb → k < n → lp (fun _ _ _ => none) (fun k => fb_X2_countHeld_c4 k b x) n (HC u x s) (nI s) (wr b u M) = some (HC u x nb, wr b u M) := by
    intro k
    induction k with
    | zero =>
      intro s n hs hn
      obtain ⟨n, rfl⟩ : ∃ m, n = m + 1 := ⟨n - 1, by omega⟩
      have e : s = nb := by omega
      subst e
      rw [lp_s]
      unfold fb_X2_countHeld_c4
      simp (disch := omega) only [wr_h, h6.1, nI_ll, ↓reduceIte]
    | succ k ih =>
      intro s n hs hn
      obtain ⟨n, rfl⟩ : ∃ m, n = m + 1 := ⟨n - 1, by omega⟩
      have := ih (s + 1) n (by omega) (by omega)
      rw [lp_s]
      generalize lp (fun _ _ _ => none) (fun k => fb_X2_countHeld_c4 k b x) n = K at this ⊢
      unfold fb_X2_countHeld_c4
      simp (disch := omega) only [wr_h, h6.1, nI_lx, ↓reduceIte, inb_nI, gd, cl, wr_b, nI_1]
      rw [HC_s u x s] at this
      split
      · rename_i q; rw [if_pos q] at this; exact this
      · rename_i q; rw [if_neg q, Int32.add_zero] at this; exact this
  exact key nb 0 FU (by omega) (FU_e _ (by omega))
theorem HC_sim {v : xM} (h : Sim ns nb nf u v) (x : Int32) : ∀ n, n ≤ nb → HC u x n = HC v x n
  | 0, _ => rfl
  | n + 1, hn => by
    show HC u x n + _ = HC v x n + _
    rw [HC_sim h x n (by omega), h.b (show n < nb by omega) (by omega)]
theorem SI_sim {v : xM} (h : Sim ns nb nf u v) {c : Nat} (hc : c < 9) : SI (stC u c) ns = SI (stC v c) ns :=
  SI_cong (fun k hk => by unfold stC; rw [h.ss hk hc])
end

