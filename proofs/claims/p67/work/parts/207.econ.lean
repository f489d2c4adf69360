/-! coins, purchases, ringings -/
def sm (f : Nat → Nat) : Nat → Nat
  | 0 => 0
  | n + 1 => sm f n + f n
theorem sm_set {f g : Nat → Nat} {i : Nat} : ∀ {n : Nat}, i < n → (∀ k, k < n → k ≠ i → g k = f k) → sm g n + f i = sm f n + g i
  | 0, h, _ => absurd h (Nat.not_lt_zero i)
  | n + 1, h, e => by
    show sm g n + g n + f i = sm f n + f n + g i
    rcases Nat.lt_or_ge i n with q | q
    · have h1 := sm_set q (fun k hk hn => e k (by omega) hn)
      have h2 := e n (by omega) (by omega)
      omega
    · have hi : i = n := by omega
      subst hi
      have : ∀ m, m ≤ i → sm g m = sm f m := by
        intro m
        induction m with
        | zero => intro _; rfl
        | succ m ih =>
          intro hm
          show sm g m + g m = sm f m + f m
          rw [ih (by omega), e m (by omega) (by omega)]
      have := this i (Nat.le_refl _)
      omega
theorem sm_cong {f g : Nat → Nat} : ∀ {n : Nat}, (∀ k, k < n → g k = f k) → sm g n = sm f n
  | 0, _ => rfl
  | n + 1, h => by
    show sm g n + g n = sm f n + f n
    rw [sm_cong (fun k hk => h k (by omega)), h n (by omega)]
theorem sm_part {f : Nat → Nat} {i : Nat} : ∀ {n : Nat}, i < n → f i ≤ sm f n
  | 0, h => absurd h (Nat.not_lt_zero i)
  | n + 1, h => by
    show f i ≤ sm f n + f n
    rcases Nat.lt_or_ge i n with q | q
    · have := sm_part (f := f) q; omega
    · have : i = n := by omega
      subst this; omega
def SI (f : Nat → Int32) : Nat → Int32
  | 0 => 0
  | n + 1 => SI f n + f n
theorem SI_cong {f g : Nat → Int32} : ∀ {n : Nat}, (∀ k, k < n → g k = f k) → SI g n = SI f n
  | 0, _ => rfl
  | n + 1, h => by
    show SI g n + g n = SI f n + f n
    rw [SI_cong (fun k hk => h k (by omega)), h n (by omega)]
theorem SI_set {f g : Nat → Int32} {i : Nat} {x : Int32} (hx : g i = f i + x) : ∀ {n : Nat}, i < n → (∀ k, k < n → k ≠ i → g k = f k) → SI g n = SI f n + x
  | 0, h, _ => absurd h (Nat.not_lt_zero i)
  | n + 1, h, e => by
    show SI g n + g n = SI f n + f n + x
    rcases Nat.lt_or_ge i n with q | q
    · rw [SI_set hx q (fun k hk hn => e k (by omega) hn), e n (by omega) (by omega), Int32.add_assoc, Int32.add_comm x, Int32.add_assoc]
    · have hi : i = n := by omega
      subst hi
      rw [SI_cong (fun k hk => e k (by omega) (by omega)), hx, Int32.add_assoc]
theorem SI_nI {f : Nat → Int32} {a : Nat → Nat} : ∀ {n : Nat}, (∀ k, k < n → f k = nI (a k)) → SI f n = nI (sm a n)
  | 0, _ => rfl
  | n + 1, h => by
    show SI f n + f n = nI (sm a n + a n)
    rw [SI_nI (fun k hk => h k (by omega)), h n (by omega), nI_add]
def eN (u : xM) (s : Nat) : Nat := (u (23 + 9 * s + 7)).toNatClampNeg
def cN (u : xM) (i : Nat) : Nat := (u (77 + 8 * i + 1)).toNatClampNeg
/-- coins: no debt beyond the coins, all coins once brought by buyers; prices -/
def EC (ns nb : Nat) (u : xM) : Prop :=
  (∀ s, s < ns → ∃ e, e < 2147483648 ∧ u (23 + 9 * s + 7) = nI e) ∧ (∀ i, i < nb → ∃ c q, q ≤ c ∧ c < 2147483648 ∧ u (77 + 8 * i + 1) = nI c ∧ u (77 + 8 * i + 5) = nI q) ∧ sm (eN u) ns + sm (cN u) nb ≤ 9999 * nb ∧ ∀ s, s < ns → ∃ r, r ≤ 999 ∧ u (23 + 9 * s + 3) = nI r
def er (z : Nat) : Prop := (23 ≤ z ∧ z < 77 ∧ ((z - 23) % 9 = 3 ∨ (z - 23) % 9 = 7)) ∨ (77 ≤ z ∧ ((z - 77) % 8 = 1 ∨ (z - 77) % 8 = 5))
section
variable {mm ns nb nf i : Nat} {u w : xM}
theorem EC_cong (hs : ns ≤ 6) (h : EC ns nb u) (e : ∀ z, er z → w z = u z) : EC ns nb w := by
  have e7 : ∀ s, s < ns → w (23 + 9 * s + 7) = u (23 + 9 * s + 7) := fun s hs' => e _ (by unfold er; omega)
  have e1 : ∀ i, w (77 + 8 * i + 1) = u (77 + 8 * i + 1) := fun i => e _ (by unfold er; omega)
  refine ⟨fun s hs' => ?_, fun i hi => ?_, ?_, fun s hs' => ?_⟩
  · rw [e7 s hs']; exact h.1 s hs'
  · rw [e1 i, e _ (show er (77 + 8 * i + 5) by unfold er; omega)]; exact h.2.1 i hi
  · rw [sm_cong (f := eN u) (g := eN w) (fun k hk => by unfold eN; rw [e7 k hk]), sm_cong (f := cN u) (g := cN w) (fun k hk => by unfold cN; rw [e1 k])]
    exact h.2.2.1
  · rw [e _ (by unfold er; omega)]; exact h.2.2.2 s hs'
theorem EC.free {z : Nat} {x : Int32} (hs : ns ≤ 6) (h : EC ns nb u) (hz : ¬ er z) : EC ns nb (upd u z x) :=
  EC_cong hs h (fun y hy => un (fun e => hz (e ▸ hy)))
/-- another debt -/
theorem EC_debt (hs : ns ≤ 6) (h : EC ns nb u) {q c : Nat} (hi : i < nb) (hq : q ≤ c) (hc : u (77 + 8 * i + 1) = nI c) (hc2 : c < 2147483648) : EC ns nb (upd u (77 + 8 * i + 5) (nI q)) := by
  refine ⟨fun s hs' => ?_, fun j hj => ?_, ?_, fun s hs' => ?_⟩
  · rw [un (by omega)]; exact h.1 s hs'
  · rw [un (by omega)]
    by_cases e : j = i
    · subst e; rw [us]; exact ⟨c, q, hq, hc2, hc, rfl⟩
    · rw [un (by omega)]; exact h.2.1 j hj
  · rw [sm_cong (f := eN u) (g := eN (upd u (77 + 8 * i + 5) (nI q))) (fun k hk => by unfold eN; rw [un (by omega)]), sm_cong (f := cN u) (g := cN (upd u (77 + 8 * i + 5) (nI q))) (fun k hk => by unfold cN; rw [un (by omega)])]
    exact h.2.2.1
  · rw [un (by omega)]; exact h.2.2.2 s hs'
theorem EC_debt0 (hs : ns ≤ 6) (h : EC ns nb u) (hi : i < nb) : EC ns nb (upd u (77 + 8 * i + 5) 0) := by
  obtain ⟨c, q, h1, h2, h3, h4⟩ := h.2.1 i hi
  exact EC_debt (q := 0) hs h hi (Nat.zero_le _) h3 h2
theorem EC_pay {q : Nat} (hb : nb ≤ 6) (hs : ns ≤ 6) (h : EC ns nb u) (hi : i < nb) (hq : q < ns) : EC ns nb (P_pay u i q) := by
  obtain ⟨c, d, h1, h2, h3, h4⟩ := h.2.1 i hi
  obtain ⟨e, he, h5⟩ := h.1 q hq
  have hE : eN u q = e := by unfold eN; rw [h5, cl he]
  have hC : cN u i = c := by unfold cN; rw [h3, cl h2]
  have g1 := sm_part (f := eN u) hq
  have g2 := sm_part (f := cN u) hi
  have g3 := h.2.2.1
  have k1 : ∀ z, er z → z ≠ 23 + 9 * q + 7 → z ≠ 77 + 8 * i + 1 → z ≠ 77 + 8 * i + 5 → P_pay u i q z = u z := fun z a b c d => by
    unfold er at a
    unfold P_pay
    rw [un d, un (by omega), un (by omega), un c, un (by omega), un b]
  have k2 : P_pay u i q (23 + 9 * q + 7) = nI (e + d) := by
    unfold P_pay
    rw [un (by omega), un (by omega), un (by omega), un (by omega), un (by omega), us, h5, h4, nI_add]
  have k3 : P_pay u i q (77 + 8 * i + 1) = nI (c - d) := by
    unfold P_pay
    rw [un (by omega), un (by omega), un (by omega), us, h3, h4, pk_sub h1]
  have k4 : P_pay u i q (77 + 8 * i + 5) = nI 0 := us
  generalize P_pay u i q = w at k1 k2 k3 k4 ⊢
  have s1 := sm_set (f := eN u) (g := eN w) hq (fun k hk hn => by unfold eN; rw [k1 _ (by unfold er; omega) (by omega) (by omega) (by omega)])
  have s2 := sm_set (f := cN u) (g := cN w) hi (fun k hk hn => by unfold cN; rw [k1 _ (by unfold er; omega) (by omega) (by omega) (by omega)])
  have hE2 : eN w q = e + d := by unfold eN; rw [k2, cl (by omega)]
  have hC2 : cN w i = c - d := by unfold cN; rw [k3, cl (by omega)]
  refine ⟨fun s hs' => ?_, fun j hj => ?_, by omega, fun s hs' => ?_⟩
  · by_cases e' : s = q
    · subst e'; exact ⟨e + d, by omega, k2⟩
    · rw [k1 _ (by unfold er; omega) (by omega) (by omega) (by omega)]; exact h.1 s hs'
  · by_cases e' : j = i
    · subst e'; exact ⟨c - d, 0, Nat.zero_le _, by omega, k3, k4⟩
    · rw [k1 _ (by unfold er; omega) (by omega) (by omega) (by omega), k1 _ (by unfold er; omega) (by omega) (by omega) (by omega)]; exact h.2.1 j hj
  · rw [k1 _ (by unfold er; omega) (by omega) (by omega) (by omega)]; exact h.2.2.2 s hs'
theorem EC_take {s : Nat} (hs : ns ≤ 6) (hb : nb ≤ 6) (h : EC ns nb u) (hi : i < nb) (hq : s < ns) (hf : P_feel u i s = 0) : EC ns nb (P_take u i s) := by
  obtain ⟨c, d, h1, h2, h3, h4⟩ := h.2.1 i hi
  obtain ⟨r, hr, h5⟩ := h.2.2.2 s hq
  have hle : r ≤ c := by
    unfold P_feel at hf
    split at hf
    · split at hf
      · cases hf
      · split at hf
        · rename_i q
          rw [h5, h3] at q
          exact (nI_leI (by omega) (by omega)).mp q
        · cases hf
    · cases hf
  unfold P_take
  rw [h5]
  refine EC_debt hs (EC.free hs (EC.free hs h (by unfold er; omega)) (by unfold er; omega)) hi hle ?_ h2
  rw [un (by omega), un (by omega), h3]
theorem EC_mv (hs : ns ≤ 6) (h : EC ns nb u) {to : Int32} : EC ns nb (P_mv u i to) := EC.free hs h (by unfold er; omega)
theorem EC_act (hv : MV mm ns nb nf u) (h : EC ns nb u) (hi : i < nb) {d : Int32} : EC ns nb (P_act ns d i u) := by
  have hs := hv.s.2
  have hb := hv.b.2
  unfold P_act
  rcases hold_cases (hv.bu i hi) hs with ⟨e1, -, -⟩ | ⟨q, hq, e1, -⟩
  · rw [e1]
    show EC ns nb (P_actO u i (P_tgt u i d ns 0 none))
    rcases ht : P_tgt u i d ns 0 none with _ | s
    · exact h
    · have hq : s < ns := P_tgt_lt ns 0 none (by omega) (fun j hj => by cases hj) s ht
      show EC ns nb (P_actT u i s)
      unfold P_actT P_got
      split
      · split
        · rename_i hf
          exact EC_take hs hb (EC_mv hs h) hi hq hf
        · exact EC.free hs (EC_mv hs h) (by unfold er; omega)
      · exact EC_mv hs h
  · rw [e1]
    show EC ns nb (P_actH u i q)
    unfold P_actH
    split
    · exact EC_pay hb hs (EC_mv hs h) hi hq
    · exact EC_mv hs h
theorem EC_acts {d : Int32} : ∀ (k i : Nat) (u : xM), i + k ≤ nb → MV mm ns nb nf u → EC ns nb u → EC ns nb (P_acts ns d k i u)
  | 0, _, _, _, _, h => h
  | k + 1, i, u, hk, hv, h => EC_acts k (i + 1) _ (by omega) (MV_act hv (by omega)) (EC_act hv h (by omega))
theorem EC_mist (hs : ns ≤ 6) (h : EC ns nb u) {d : Int32} {s : Nat} (hq : s < ns) : EC ns nb (P_mist d s u) := by
  unfold P_mist
  split
  · exact h
  · split
    · exact h
    · exact EC.free hs (EC.free hs h (by unfold er; omega)) (by unfold er; omega)
theorem EC_mists (hs : ns ≤ 6) {d : Int32} : ∀ (k s : Nat) (u : xM), s + k ≤ ns → EC ns nb u → EC ns nb (P_mists d k s u)
  | 0, _, _, _, h => h
  | k + 1, s, u, hk, h => EC_mists hs k (s + 1) _ (by omega) (EC_mist hs h (by omega))
theorem EC_ret (hv : MV mm ns nb nf u) (h : EC ns nb u) (hi : i < nb) : EC ns nb (P_ret u i) := by
  have hs := hv.s.2
  unfold P_ret P_ret1
  refine EC_debt0 hs (EC.free hs ?_ (by unfold er; omega)) hi
  rcases hold_cases (hv.bu i hi) hs with ⟨e1, -, -⟩ | ⟨q, hq, e1, -⟩
  · rw [e1]; exact h
  · rw [e1]; exact EC.free hs h (by unfold er; omega)
theorem EC_ends : ∀ (k i : Nat) (u : xM), i + k ≤ nb → MV mm ns nb nf u → EC ns nb u → EC ns nb (P_ends k i u)
  | 0, _, _, _, _, h => h
  | k + 1, i, u, hk, hv, h => EC_ends k (i + 1) _ (by omega) (MV_end1 hv (by omega)) (EC.free hv.s.2 (EC_ret hv h (by omega)) (by unfold er; omega))
theorem EC_lo (hs : ns ≤ 6) (h : EC ns nb u) {z : Nat} {x : Int32} (hz : z < 23) : EC ns nb (upd u z x) := EC.free hs h (by unfold er; omega)
theorem EC_bell (hv : MV mm ns nb nf u) (h : EC ns nb u) {d : Int32} : EC ns nb (P_bell nb d u) := by
  have hs := hv.s.2
  have hr := MV_rdy (d := d) hv
  have h1 : EC ns nb (P_rdy d u) := by
    unfold P_rdy
    split
    · exact h
    · exact EC_lo hs h (by omega)
  have hc : EC ns nb (P_close nb (P_rdy d u)) := EC_ends nb 0 _ (by omega) (MV_cl0 hr) (EC_lo hs (EC_lo hs h1 (by omega)) (by omega))
  have hg : EC ns nb (P_ring (P_rdy d u)) := EC_lo hs (EC_lo hs (EC_lo hs (EC_lo hs h1 (by omega)) (by omega)) (by omega)) (by omega)
  unfold P_bell P_bell2
  repeat' split
  all_goals first | exact hc | exact hg | exact h1
theorem EC_min (hv : MV mm ns nb nf u) (h : EC ns nb u) : EC ns nb (P_min ns nb nf u) := by
  have hs := hv.s.2
  have hb := MV_bell (d := P_dens nf u) hv
  unfold P_min P_min1
  refine EC_lo hs ?_ (by omega)
  split
  · exact EC_lo hs (EC_mists hs ns 0 _ (by omega) (EC_acts nb 0 _ (by omega) hb (EC_bell hv h))) (by omega)
  · exact EC_bell hv h
theorem EC_pass : ∀ (k mm : Nat) (u : xM), MV mm ns nb nf u → EC ns nb u → EC ns nb (P_pass ns nb nf k u)
  | 0, _, _, _, h => h
  | k + 1, mm, u, hv, h => EC_pass k (mm + 1) _ (MV_min hv) (EC_min hv h)
theorem EC_sim {v : xM} (hS : Sim ns nb nf u v) (h : EC ns nb u) : EC ns nb v := by
  refine ⟨fun s hs' => ?_, fun i hi => ?_, ?_, fun s hs' => ?_⟩
  · rw [← hS.ss hs' (by omega)]; exact h.1 s hs'
  · rw [← hS.b hi (by omega), ← hS.b hi (by omega)]; exact h.2.1 i hi
  · rw [sm_cong (f := eN u) (g := eN v) (fun k hk => by unfold eN; rw [hS.ss hk (by omega)]), sm_cong (f := cN u) (g := cN v) (fun k hk => by unfold cN; rw [hS.b hk (by omega)])]
    exact h.2.2.1
  · rw [← hS.ss hs' (by omega)]; exact h.2.2.2 s hs'
/-! purchases and ringings -/
theorem P_sold_01 : P_sold i u = 0 ∨ P_sold i u = 1 := by
  unfold P_sold
  rcases P_hold u i with _ | h
  · exact Or.inl rfl
  · show (if P_mv u i (u 7) (77 + 8 * i + 0) = u 7 then (1 : Int32) else 0) = 0 ∨ (if P_mv u i (u 7) (77 + 8 * i + 0) = u 7 then (1 : Int32) else 0) = 1
    split
    · exact Or.inr rfl
    · exact Or.inl rfl
theorem P_act_bo (hv : MV mm ns nb nf u) (hi : i < nb) {d : Int32} {j : Nat} (hj : j < nb) : P_act ns d i u (77 + 8 * j + 7) = if j = i then u (77 + 8 * j + 7) + P_sold i u else u (77 + 8 * j + 7) := by
  have hs := hv.s.2
  have hb := hv.b.2
  have hm : ∀ to, P_mv u i to (77 + 8 * j + 7) = u (77 + 8 * j + 7) := fun to => un (by omega)
  have hz : (if j = i then u (77 + 8 * j + 7) + (0 : Int32) else u (77 + 8 * j + 7)) = u (77 + 8 * j + 7) := by
    split
    · exact Int32.add_zero _
    · rfl
  unfold P_act P_sold
  rcases hold_cases (hv.bu i hi) hs with ⟨e1, -, -⟩ | ⟨q, hq, e1, -⟩
  · rw [e1]
    show P_actO u i (P_tgt u i d ns 0 none) (77 + 8 * j + 7) = if j = i then u (77 + 8 * j + 7) + (0 : Int32) else u (77 + 8 * j + 7)
    rw [hz]
    rcases ht : P_tgt u i d ns 0 none with _ | s
    · rfl
    · have hq : s < ns := P_tgt_lt ns 0 none (by omega) (fun j hj => by cases hj) s ht
      show P_actT u i s (77 + 8 * j + 7) = _
      unfold P_actT P_got P_take P_avoid
      split
      · split
        · rw [un (by omega), un (by omega), un (by omega), hm]
        · rw [un (by omega), hm]
      · rw [hm]
  · rw [e1]
    show P_actH u i q (77 + 8 * j + 7) = if j = i then u (77 + 8 * j + 7) + (if P_mv u i (u 7) (77 + 8 * i + 0) = u 7 then (1 : Int32) else 0) else u (77 + 8 * j + 7)
    unfold P_actH
    by_cases q1 : P_mv u i (u 7) (77 + 8 * i + 0) = u 7
    · rw [if_pos q1, if_pos q1]
      unfold P_pay
      by_cases e : j = i
      · subst e
        rw [if_pos rfl, un (by omega), un (by omega), us, hm]
      · rw [if_neg e, un (by omega), un (by omega), un (by omega), un (by omega), un (by omega), un (by omega), hm]
    · rw [if_neg q1, if_neg q1, hz, hm]
theorem P_acts_bo0 {d : Int32} {j : Nat} (hj : j < nb) : ∀ (k i : Nat) (u : xM), i + k ≤ nb → j < i → MV mm ns nb nf u → P_acts ns d k i u (77 + 8 * j + 7) = u (77 + 8 * j + 7)
  | 0, _, _, _, _, _ => rfl
  | k + 1, i, u, hk, hi, hv => by
    show P_acts ns d k (i + 1) (P_act ns d i u) (77 + 8 * j + 7) = _
    rw [P_acts_bo0 hj k (i + 1) _ (by omega) (by omega) (MV_act hv (by omega)), P_act_bo hv (by omega) hj, if_neg (by omega)]
theorem P_acts_bo {d : Int32} {j : Nat} (hj : j < nb) : ∀ (k i : Nat) (u : xM), i + k ≤ nb → MV mm ns nb nf u → ∃ x : Nat, x ≤ 1 ∧ P_acts ns d k i u (77 + 8 * j + 7) = u (77 + 8 * j + 7) + nI x
  | 0, _, u, _, _ => ⟨0, by omega, (Int32.add_zero _).symm⟩
  | k + 1, i, u, hk, hv => by
    show ∃ x : Nat, x ≤ 1 ∧ P_acts ns d k (i + 1) (P_act ns d i u) (77 + 8 * j + 7) = _
    by_cases e : j = i
    · subst e
      rw [P_acts_bo0 hj k (j + 1) _ (by omega) (by omega) (MV_act hv (by omega)), P_act_bo hv (by omega) hj, if_pos rfl]
      rcases P_sold_01 (i := j) (u := u) with e | e
      · exact ⟨0, by omega, by rw [e]; rfl⟩
      · exact ⟨1, by omega, by rw [e]; rfl⟩
    · obtain ⟨x, hx, h⟩ := P_acts_bo hj k (i + 1) (P_act ns d i u) (by omega) (MV_act hv (by omega))
      exact ⟨x, hx, by rw [h, P_act_bo hv (by omega) hj, if_neg e]⟩
theorem P_ret_k {z : Nat} (hz : 77 ≤ z) (h4 : z ≠ 77 + 8 * i + 4) (h5 : z ≠ 77 + 8 * i + 5) (hv : MV mm ns nb nf u) (hi : i < nb) : P_ret u i z = u z := by
  have hs := hv.s.2
  unfold P_ret P_ret1
  rw [un h5, un h4]
  rcases hold_cases (hv.bu i hi) hs with ⟨e1, -, -⟩ | ⟨q, hq, e1, -⟩
  · rw [e1]
  · rw [e1]; exact un (by omega)
theorem P_ends_bo {j : Nat} : ∀ (k i : Nat) (u : xM), i + k ≤ nb → MV mm ns nb nf u → P_ends k i u (77 + 8 * j + 7) = u (77 + 8 * j + 7)
  | 0, _, _, _, _ => rfl
  | k + 1, i, u, hk, hv => by
    show P_ends k (i + 1) (P_end1 u i) (77 + 8 * j + 7) = _
    rw [P_ends_bo k (i + 1) _ (by omega) (MV_end1 hv (by omega))]
    unfold P_end1
    rw [un (by omega), P_ret_k (by omega) (by omega) (by omega) hv (by omega)]
theorem P_bell_bo (hv : MV mm ns nb nf u) {d : Int32} {j : Nat} : P_bell nb d u (77 + 8 * j + 7) = u (77 + 8 * j + 7) := by
  have hr := MV_rdy (d := d) hv
  have h1 : P_rdy d u (77 + 8 * j + 7) = u (77 + 8 * j + 7) := by
    unfold P_rdy
    split
    · rfl
    · exact un (by omega)
  have hc : P_close nb (P_rdy d u) (77 + 8 * j + 7) = u (77 + 8 * j + 7) := by
    unfold P_close
    rw [P_ends_bo nb 0 _ (by omega) (MV_cl0 hr), un (by omega), un (by omega), h1]
  have hg : P_ring (P_rdy d u) (77 + 8 * j + 7) = u (77 + 8 * j + 7) := by
    unfold P_ring
    rw [un (by omega), un (by omega), un (by omega), un (by omega), h1]
  unfold P_bell P_bell2
  repeat' split
  all_goals first | exact hc | exact hg | exact h1
theorem P_mists_hi {d : Int32} {z : Nat} (hz : 77 ≤ z) (hs : ns ≤ 6) : ∀ (k s : Nat) (u : xM), s + k ≤ ns → P_mists d k s u z = u z
  | 0, _, _, _ => rfl
  | k + 1, s, u, hk => by
    show P_mists d k (s + 1) (P_mist d s u) z = u z
    rw [P_mists_hi hz hs k (s + 1) _ (by omega)]
    unfold P_mist
    split
    · rfl
    · split
      · rfl
      · rw [un (by omega), un (by omega)]
theorem P_min_bo (hv : MV mm ns nb nf u) {j : Nat} (hj : j < nb) : ∃ x : Nat, x ≤ 1 ∧ P_min ns nb nf u (77 + 8 * j + 7) = u (77 + 8 * j + 7) + nI x := by
  have hb := MV_bell (d := P_dens nf u) hv
  unfold P_min P_min1 P_tick
  rw [un (by omega)]
  split
  · obtain ⟨x, hx, h⟩ := P_acts_bo (d := P_dens nf u) hj nb 0 _ (by omega) hb
    refine ⟨x, hx, ?_⟩
    unfold P_opn P_since
    rw [un (by omega), P_mists_hi (by omega) hv.s.2 ns 0 _ (by omega), h, P_bell_bo hv]
  · exact ⟨0, by omega, by rw [P_bell_bo hv]; exact (Int32.add_zero _).symm⟩
theorem P_bell_r (hv : MV mm ns nb nf u) {d : Int32} : P_bell nb d u 4 = u 4 + (if u 1 = 0 ∧ P_bell nb d u 1 = 1 then 1 else 0) := by
  have h4 : P_rdy d u 4 = u 4 := by
    unfold P_rdy
    split
    · rfl
    · exact un (by omega)
  have h1 : P_rdy d u 1 = u 1 := by
    unfold P_rdy
    split
    · rfl
    · exact un (by omega)
  have c4 : P_close nb (P_rdy d u) 4 = u 4 := by
    unfold P_close
    rw [P_ends_lo (by omega), un (by omega), un (by omega), h4]
  have h01 : ¬ (1 : Int32) = 0 := by decide
  have hz : ∀ x : Int32, x = x + 0 := fun x => (Int32.add_zero x).symm
  unfold P_bell P_bell2
  rw [h1]
  rcases hv.o with e | e
  · rw [e, if_neg (by decide)]
    split
    · split
      · rw [h4, if_neg (by rw [h1, e]; decide)]; exact hz _
      · have : P_ring (P_rdy d u) 1 = 1 := by unfold P_ring; rw [un (by omega), un (by omega), un (by omega), us]
        rw [this, if_pos ⟨rfl, rfl⟩]
        unfold P_ring
        rw [us, h4]
    · rw [h4, if_neg (by rw [h1, e]; decide)]; exact hz _
  · rw [e, if_pos rfl]
    simp only [i10, false_and, ↓reduceIte, Int32.add_zero]
    split
    · exact c4
    · split
      · exact c4
      · exact h4
theorem P_min_lo {z : Nat} (hz : z < 23) (h0 : z ≠ 0) (h3 : z ≠ 3) : P_min ns nb nf u z = P_bell nb (P_dens nf u) u z := by
  unfold P_min P_min1 P_tick
  rw [un h0]
  split
  · unfold P_opn P_since
    rw [un h3, P_mists_lo hz, P_acts_lo hz]
  · rfl
/-- counts that minutes bound -/
def BT (mm nb : Nat) (u : xM) : Prop := (∀ i, i < nb → ∃ t, t ≤ mm ∧ u (77 + 8 * i + 7) = nI t) ∧ ∃ r, r ≤ mm ∧ u 4 = nI r
theorem BT_min (hv : MV mm ns nb nf u) (h : BT mm nb u) : BT (mm + 1) nb (P_min ns nb nf u) := by
  refine ⟨fun i hi => ?_, ?_⟩
  · obtain ⟨t, ht, e⟩ := h.1 i hi
    obtain ⟨x, hx, e2⟩ := P_min_bo hv hi
    exact ⟨t + x, by omega, by rw [e2, e, nI_add]⟩
  · obtain ⟨r, hr, e⟩ := h.2
    rw [P_min_lo (by omega) (by omega) (by omega), P_bell_r hv, e]
    split
    · exact ⟨r + 1, by omega, nI_1 r⟩
    · exact ⟨r, by omega, Int32.add_zero _⟩
theorem BT_pass : ∀ (k mm : Nat) (u : xM), MV mm ns nb nf u → BT mm nb u → BT (mm + k) nb (P_pass ns nb nf k u)
  | 0, _, _, _, h => h
  | k + 1, mm, u, hv, h => by
    have := BT_pass k (mm + 1) _ (MV_min hv) (BT_min hv h)
    rw [show mm + (k + 1) = mm + 1 + k by omega]
    exact this
theorem BT_sim {v : xM} (hS : Sim ns nb nf u v) (h : BT mm nb u) : BT mm nb v := by
  refine ⟨fun i hi => ?_, ?_⟩
  · rw [← hS.b hi (by omega)]; exact h.1 i hi
  · rw [← hS.h (z := 4) (by omega)]; exact h.2
theorem BT_mono {mm' : Nat} (hm : mm ≤ mm') (h : BT mm nb u) : BT mm' nb u :=
  ⟨fun i hi => by obtain ⟨t, a, b⟩ := h.1 i hi; exact ⟨t, by omega, b⟩, by obtain ⟨t, a, b⟩ := h.2; exact ⟨t, by omega, b⟩⟩
end

