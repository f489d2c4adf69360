/-! the minute keeps the bounds -/
theorem usw (f : xM) {i j : Nat} (h : i ≠ j) (x y : Int32) : upd (upd f i x) j y = upd (upd f j y) i x := by
  funext z
  by_cases h1 : z = j
  · subst h1
    rw [us, un (fun e => h e.symm), us]
  · rw [un h1]
    by_cases h2 : z = i
    · subst h2
      rw [us, us]
    · rw [un h2, un h2, un h1]
theorem usame {f : xM} {i : Nat} {x : Int32} (h : f i = x) : upd f i x = f := by
  funext z
  by_cases h1 : z = i
  · subst h1
    rw [us, h]
  · rw [un h1]
theorem ap {p q : Nat} (hp : p < 100) (hq : q < 100) : P_apart (nI p) (nI q) = nI (if q ≤ p then p - q else q - p) := by
  unfold P_apart
  by_cases h : q ≤ p
  · rw [if_pos h, if_pos (nI_le h (by omega)), pk_sub h]
  · rw [if_neg h, if_neg (nI_ge (by omega) (by omega)), pk_sub (by omega)]
theorem imn {a c : Nat} (ha : a < 2147483648) (hc : c < 2147483648) : imin (nI a) (nI c) = nI (if c < a then c else a) := by
  unfold imin
  by_cases h : c < a
  · rw [if_pos h, if_pos (nI_lt h (by omega))]
  · rw [if_neg h, if_neg (nI_nlt (by omega) (by omega))]
def wk (p v t : Nat) : Nat := if p ≤ t then (if t - p < v then t else p + v) else (if p - t < v then t else p - v)
theorem walk_nI {p v t : Nat} (hp : p < 100) (ht : t < 100) (hv : v ≤ 20) : P_walk (nI p) (nI v) (nI t) = nI (wk p v t) := by
  unfold P_walk wk
  rw [ap hp ht, imn (by omega) (by split <;> omega)]
  by_cases h : p ≤ t
  · rw [if_pos h, if_pos (nI_le h (by omega)), nI_add]
    congr 1
    repeat' split
    all_goals omega
  · rw [if_neg h, if_neg (nI_ge (by omega) (by omega)), pk_sub (by split <;> split <;> omega)]
    congr 1
    repeat' split
    all_goals omega
theorem wk_lt {p v t : Nat} (hp : p < 100) (ht : t < 100) (hv : v ≤ 20) : wk p v t < 100 := by
  unfold wk
  split <;> split <;> omega
section
variable {mm ns nb nf i : Nat} {u : xM}
theorem MV_ret1 (h : MV mm ns nb nf u) (hi : i < nb) : MV mm ns nb nf (P_ret1 u i) := by
  have hs := h.s.2
  unfold P_ret1
  rcases hold_cases (h.bu i hi) hs with ⟨e1, -, -⟩ | ⟨q, hq, e1, -⟩
  · rw [e1]; exact h
  · rw [e1]; exact h.free (by unfold fr; omega)
theorem MV_ret (h : MV mm ns nb nf u) (hi : i < nb) : MV mm ns nb nf (P_ret u i) := by
  have h1 := MV_ret1 h hi
  have hb := h1.bu i hi
  unfold P_ret
  refine MV_b1 (i := i) h1 (fun z hz => ?_) ⟨?_, ?_, Or.inl ⟨?_, ?_⟩⟩
  · rw [un (by omega), un (by omega)]
  · rw [un (by omega), un (by omega)]; exact hb.1
  · rw [un (by omega), un (by omega)]; exact hb.2.1
  · rw [un (by omega), us]
  · rw [us]
theorem MV_end1 (h : MV mm ns nb nf u) (hi : i < nb) : MV mm ns nb nf (P_end1 u i) := (MV_ret h hi).free (by unfold fr; omega)
theorem MV_ends : ∀ (k i : Nat) (u : xM), i + k ≤ nb → MV mm ns nb nf u → MV mm ns nb nf (P_ends k i u)
  | 0, _, _, _, h => h
  | k + 1, i, u, hk, h => MV_ends k (i + 1) _ (by omega) (MV_end1 h (by omega))
theorem P_end1_lo {z : Nat} (hz : z < 23) : P_end1 u i z = u z := by
  unfold P_end1 P_ret P_ret1
  rw [un (by omega), un (by omega), un (by omega)]
  rcases P_hold u i with _ | h
  · rfl
  · exact un (by omega)
theorem P_ends_lo {z : Nat} (hz : z < 23) : ∀ (k i : Nat) (u : xM), P_ends k i u z = u z
  | 0, _, _ => rfl
  | k + 1, i, u => by
    show P_ends k (i + 1) (P_end1 u i) z = u z
    rw [P_ends_lo hz k (i + 1), P_end1_lo hz]
theorem MV_cl0 (h : MV mm ns nb nf u) : MV mm ns nb nf (upd (upd u 1 0) 3 0) := by
  obtain ⟨a, c, h1, h2, h3, h4, h5, h6⟩ := h.t
  refine MV_h h (fun z hz => by rw [un (by omega), un (by omega)]) ?_ ⟨0, c, Nat.zero_le _, h2, h3, ?_, ?_, Or.inr rfl⟩ ?_ ?_
  · rw [un (by omega), un (by omega)]; exact h.m
  · rw [us]; rfl
  · rw [un (by omega), un (by omega)]; exact h5
  · rw [un (by omega), us]; exact Or.inl rfl
  · rw [un (by omega), un (by omega)]; exact h.r
theorem MV_close (h : MV mm ns nb nf u) : MV mm ns nb nf (P_close nb u) := MV_ends nb 0 _ (by omega) (MV_cl0 h)
theorem MV_ring (h : MV mm ns nb nf u) : MV mm ns nb nf (P_ring u) := by
  obtain ⟨a, c, h1, h2, h3, h4, h5, h6⟩ := h.t
  unfold P_ring
  refine MV.free ?_ (by unfold fr; omega)
  refine MV_h h (fun z hz => by rw [un (by omega), un (by omega), un (by omega)]) ?_ ⟨0, c, Nat.zero_le _, h2, h3, ?_, ?_, Or.inr rfl⟩ ?_ ?_
  · rw [un (by omega), un (by omega), un (by omega)]; exact h.m
  · rw [un (by omega), us]; rfl
  · rw [un (by omega), un (by omega), un (by omega)]; exact h5
  · rw [un (by omega), un (by omega), us]; exact Or.inr rfl
  · rw [us]; exact Or.inl rfl
theorem MV_rdy {d : Int32} (h : MV mm ns nb nf u) : MV mm ns nb nf (P_rdy d u) := by
  unfold P_rdy
  split
  · exact h
  · refine MV_h h (fun z hz => by rw [un (by omega)]) ?_ ?_ ?_ ?_
    · rw [un (by omega)]; exact h.m
    · rw [un (by omega), un (by omega), un (by omega)]; exact h.t
    · rw [un (by omega)]; exact h.o
    · rw [us]; exact Or.inr rfl
theorem MV_bell2 {d : Int32} (h : MV mm ns nb nf u) : MV mm ns nb nf (P_bell2 nb d u) ∧ (P_bell2 nb d u 1 = 1 → ∃ a c, a < c ∧ c ≤ 60 ∧ P_bell2 nb d u 3 = nI a ∧ P_bell2 nb d u 6 = nI c) := by
  obtain ⟨a, c, h1, h2, h3, h4, h5, h6⟩ := h.t
  have hc : P_close nb u 1 = 0 := by
    unfold P_close
    rw [P_ends_lo (by omega), un (by omega), us]
  have h01 : ¬ (0 : Int32) = 1 := by decide
  unfold P_bell2
  by_cases q1 : u 1 = 1
  · rw [if_pos q1]
    by_cases q2 : d < u 5
    · rw [if_pos q2]
      exact ⟨MV_close h, fun e => absurd (hc.symm.trans e) h01⟩
    · rw [if_neg q2]
      by_cases q3 : u 3 = u 6
      · rw [if_pos q3]
        exact ⟨MV_close h, fun e => absurd (hc.symm.trans e) h01⟩
      · rw [if_neg q3]
        refine ⟨h, fun _ => ⟨a, c, ?_, h3, h4, h5⟩⟩
        rcases Nat.lt_or_ge a c with q | q
        · exact q
        · exact absurd (by rw [h4, h5, show a = c by omega]) q3
  · rw [if_neg q1]
    by_cases q2 : u 2 = 1
    · rw [if_pos q2]
      by_cases q3 : d < u 5
      · rw [if_pos q3]; exact ⟨h, fun e => absurd e q1⟩
      · rw [if_neg q3]
        refine ⟨MV_ring h, fun _ => ⟨0, c, h2, h3, ?_, ?_⟩⟩
        · unfold P_ring; rw [un (by omega), un (by omega), us]; rfl
        · unfold P_ring; rw [un (by omega), un (by omega), un (by omega), un (by omega)]; exact h5
    · rw [if_neg q2]; exact ⟨h, fun e => absurd e q1⟩
theorem MV_bell {d : Int32} (h : MV mm ns nb nf u) : MV mm ns nb nf (P_bell nb d u) := (MV_bell2 (MV_rdy h)).1
theorem MV_mv {t : Nat} (h : MV mm ns nb nf u) (hi : i < nb) (ht : t < 100) : MV mm ns nb nf (P_mv u i (nI t)) := by
  obtain ⟨⟨p, hp, e1⟩, ⟨v, hv1, hv, e2⟩, e3⟩ := h.bu i hi
  unfold P_mv
  refine MV_b1 (i := i) h (fun z hz => by rw [un (by omega)]) ⟨⟨wk p v t, wk_lt hp ht hv, ?_⟩, ⟨v, hv1, hv, ?_⟩, ?_⟩
  · rw [us, e1, e2, walk_nI hp ht hv]
  · rw [un (by omega), e2]
  · rw [un (by omega), un (by omega)]; exact e3
theorem MV_take {s : Nat} (h : MV mm ns nb nf u) (hi : i < nb) (hq : s < ns) : MV mm ns nb nf (P_take u i s) := by
  have hs := h.s.2
  have h1 : MV mm ns nb nf (upd u (23 + 9 * s + 4) (u (23 + 9 * s + 4) - 1)) := h.free (by unfold fr; omega)
  have hb := h1.bu i hi
  unfold P_take
  refine MV_b1 (i := i) h1 (fun z hz => by rw [un (by omega), un (by omega)]) ⟨?_, ?_, Or.inr ⟨s, hq, ?_⟩⟩
  · rw [un (by omega), un (by omega)]; exact hb.1
  · rw [un (by omega), un (by omega)]; exact hb.2.1
  · rw [un (by omega), us]
theorem MV_avoid {s : Nat} (h : MV mm ns nb nf u) (hi : i < nb) : MV mm ns nb nf (P_avoid u i s) := by
  have hb := h.b.2
  exact h.free (by unfold fr; omega)
theorem MV_pay {q : Nat} (h : MV mm ns nb nf u) (hi : i < nb) (hq : q < ns) : MV mm ns nb nf (P_pay u i q) := by
  have hs := h.s.2
  have hb6 := h.b.2
  unfold P_pay
  have h1 : MV mm ns nb nf (upd (upd (upd (upd u (23 + 9 * q + 7) (u (23 + 9 * q + 7) + u (77 + 8 * i + 5))) (23 + 9 * q + 5) (u (23 + 9 * q + 5) + 1)) (77 + 8 * i + 1) (u (77 + 8 * i + 1) - u (77 + 8 * i + 5))) (77 + 8 * i + 7) (u (77 + 8 * i + 7) + 1)) :=
    (((h.free (by unfold fr; omega)).free (by unfold fr; omega)).free (by unfold fr; omega)).free (by unfold fr; omega)
  have hb := h1.bu i hi
  refine MV_b1 (i := i) h1 (fun z hz => by rw [un (by omega), un (by omega)]) ⟨?_, ?_, Or.inl ⟨?_, ?_⟩⟩
  · rw [un (by omega), un (by omega)]; exact hb.1
  · rw [un (by omega), un (by omega)]; exact hb.2.1
  · rw [un (by omega), us]
  · rw [us]
theorem P_tgt_lt {d : Int32} : ∀ (k s : Nat) (best : Option Nat), s + k ≤ ns → (∀ j, best = some j → j < ns) → ∀ j, P_tgt u i d k s best = some j → j < ns
  | 0, _, _, _, hb => hb
  | k + 1, s, best, hs, hb => P_tgt_lt k (s + 1) _ (by omega) (fun j hj => by
      unfold P_tst at hj
      split at hj
      · cases hj; omega
      · exact hb j hj)
theorem MV_actH {q : Nat} (h : MV mm ns nb nf u) (hi : i < nb) (hq : q < ns) : MV mm ns nb nf (P_actH u i q) := by
  obtain ⟨p, hp, e⟩ := h.p
  unfold P_actH
  rw [e]
  split
  · exact MV_pay (MV_mv h hi hp) hi hq
  · exact MV_mv h hi hp
theorem MV_actT {s : Nat} (h : MV mm ns nb nf u) (hi : i < nb) (hq : s < ns) : MV mm ns nb nf (P_actT u i s) := by
  obtain ⟨p, hp, e⟩ := h.st s hq
  unfold P_actT
  rw [e]
  split
  · unfold P_got
    split
    · exact MV_take (MV_mv h hi hp) hi hq
    · exact MV_avoid (MV_mv h hi hp) hi
  · exact MV_mv h hi hp
theorem MV_act {d : Int32} (h : MV mm ns nb nf u) (hi : i < nb) : MV mm ns nb nf (P_act ns d i u) := by
  unfold P_act
  rcases hold_cases (h.bu i hi) h.s.2 with ⟨e1, -, -⟩ | ⟨q, hq, e1, -⟩
  · rw [e1]
    show MV mm ns nb nf (P_actO u i (P_tgt u i d ns 0 none))
    rcases ht : P_tgt u i d ns 0 none with _ | s
    · exact h
    · exact MV_actT h hi (P_tgt_lt ns 0 none (by omega) (fun j hj => by cases hj) s ht)
  · rw [e1]; exact MV_actH h hi hq
theorem MV_acts {d : Int32} : ∀ (k i : Nat) (u : xM), i + k ≤ nb → MV mm ns nb nf u → MV mm ns nb nf (P_acts ns d k i u)
  | 0, _, _, _, h => h
  | k + 1, i, u, hk, h => MV_acts k (i + 1) _ (by omega) (MV_act h (by omega))
theorem MV_mist {d : Int32} {s : Nat} (h : MV mm ns nb nf u) (hq : s < ns) : MV mm ns nb nf (P_mist d s u) := by
  have hs := h.s.2
  unfold P_mist
  split
  · exact h
  · split
    · exact h
    · exact (h.free (by unfold fr; omega)).free (by unfold fr; omega)
theorem MV_mists {d : Int32} : ∀ (k s : Nat) (u : xM), s + k ≤ ns → MV mm ns nb nf u → MV mm ns nb nf (P_mists d k s u)
  | 0, _, _, _, h => h
  | k + 1, s, u, hk, h => MV_mists k (s + 1) _ (by omega) (MV_mist h (by omega))
theorem P_act_lo {d : Int32} {z : Nat} (hz : z < 23) : P_act ns d i u z = u z := by
  have hm : ∀ to, P_mv u i to z = u z := fun to => un (by omega)
  unfold P_act
  rcases P_hold u i with _ | h
  · show P_actO u i (P_tgt u i d ns 0 none) z = u z
    rcases P_tgt u i d ns 0 none with _ | s
    · rfl
    · show P_actT u i s z = u z
      unfold P_actT P_got P_take P_avoid
      split
      · split
        · rw [un (by omega), un (by omega), un (by omega), hm]
        · rw [un (by omega), hm]
      · rw [hm]
  · show P_actH u i h z = u z
    unfold P_actH
    split
    · unfold P_pay
      rw [un (by omega), un (by omega), un (by omega), un (by omega), un (by omega), un (by omega), hm]
    · rw [hm]
theorem P_acts_lo {d : Int32} {z : Nat} (hz : z < 23) : ∀ (k i : Nat) (u : xM), P_acts ns d k i u z = u z
  | 0, _, _ => rfl
  | k + 1, i, u => by
    show P_acts ns d k (i + 1) (P_act ns d i u) z = u z
    rw [P_acts_lo hz k (i + 1), P_act_lo hz]
theorem P_mist_lo {d : Int32} {s z : Nat} (hz : z < 23) : P_mist d s u z = u z := by
  unfold P_mist
  split
  · rfl
  · split
    · rfl
    · rw [un (by omega), un (by omega)]
theorem P_mists_lo {d : Int32} {z : Nat} (hz : z < 23) : ∀ (k s : Nat) (u : xM), P_mists d k s u z = u z
  | 0, _, _ => rfl
  | k + 1, s, u => by
    show P_mists d k (s + 1) (P_mist d s u) z = u z
    rw [P_mists_lo hz k (s + 1), P_mist_lo hz]
theorem MV_since {a c : Nat} (h : MV mm ns nb nf u) (ho : u 1 = 1) (hac : a < c) (hc : c ≤ 60) (e1 : u 3 = nI a) (e2 : u 6 = nI c) : MV mm ns nb nf (P_since u) := by
  unfold P_since
  refine MV_h h (fun z hz => by rw [un (by omega)]) ?_ ⟨a + 1, c, hac, by omega, hc, ?_, ?_, Or.inl ?_⟩ ?_ ?_
  · rw [un (by omega)]; exact h.m
  · rw [us, e1, nI_1]
  · rw [un (by omega), e2]
  · rw [un (by omega), ho]
  · rw [un (by omega)]; exact h.o
  · rw [un (by omega)]; exact h.r
theorem MV_tick (h : MV mm ns nb nf u) : MV (mm + 1) ns nb nf (P_tick u) := by
  obtain ⟨m, h1, h2⟩ := h.m
  unfold P_tick
  refine MV_h h (fun z hz => by rw [un (by omega)]) ⟨m + 1, by omega, by rw [us, h2, nI_1]⟩ ?_ ?_ ?_
  · rw [un (by omega), un (by omega), un (by omega)]; exact h.t
  · rw [un (by omega)]; exact h.o
  · rw [un (by omega)]; exact h.r
theorem MV_min (h : MV mm ns nb nf u) : MV (mm + 1) ns nb nf (P_min ns nb nf u) := by
  have h1 := MV_bell2 (d := P_dens nf u) (MV_rdy (d := P_dens nf u) h)
  unfold P_min P_min1
  refine MV_tick ?_
  split
  · rename_i ho
    obtain ⟨a, c, h2, h3, h4, h5⟩ := h1.2 ho
    unfold P_opn
    have hw := MV_mists (d := P_dens nf u) ns 0 _ (by omega) (MV_acts (d := P_dens nf u) nb 0 _ (by omega) h1.1)
    refine MV_since (a := a) (c := c) hw ?_ h2 h3 ?_ ?_
    · rw [P_mists_lo (by omega), P_acts_lo (by omega)]; exact ho
    · rw [P_mists_lo (by omega), P_acts_lo (by omega)]; exact h4
    · rw [P_mists_lo (by omega), P_acts_lo (by omega)]; exact h5
  · exact h1.1
theorem MV_mono {mm' : Nat} (h : MV mm ns nb nf u) (hm : mm ≤ mm') : MV mm' ns nb nf u := by
  obtain ⟨m, h1, h2⟩ := h.m
  exact ⟨h.s, h.b, h.f, ⟨m, by omega, h2⟩, h.t, h.o, h.r, h.p, h.d, h.st, h.bu⟩
theorem MV_pass : ∀ (k : Nat) (mm : Nat) (u : xM), MV mm ns nb nf u → MV (mm + k) ns nb nf (P_pass ns nb nf k u)
  | 0, _, _, h => h
  | k + 1, mm, u, h => by
    have := MV_pass k (mm + 1) _ (MV_min h)
    rw [show mm + (k + 1) = mm + 1 + k by omega]
    exact this
end

