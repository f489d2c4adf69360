/-! what lies in use; markets alike there -/
def Lv (ns nb nf z : Nat) : Prop := z < 11 + nf ∨ (23 ≤ z ∧ z < 23 + 9 * ns) ∨ (77 ≤ z ∧ z < 77 + 8 * nb)
def Sim (ns nb nf : Nat) (u v : xM) : Prop := ∀ z, Lv ns nb nf z → u z = v z
section
variable {mm ns nb nf i s : Nat} {u v : xM}
theorem Sim.upd (h : Sim ns nb nf u v) {z : Nat} {x y : Int32} (e : x = y) : Sim ns nb nf (upd u z x) (upd v z y) := by
  intro a ha
  by_cases q : a = z
  · subst q; rw [us, us, e]
  · rw [un q, un q]; exact h a ha
theorem Sim.h (h : Sim ns nb nf u v) {z : Nat} (hz : z < 11) : u z = v z := h z (Or.inl (by omega))
theorem Sim.ss (h : Sim ns nb nf u v) (hs : s < ns) {k : Nat} (hk : k < 9) : u (23 + 9 * s + k) = v (23 + 9 * s + k) := h _ (Or.inr (Or.inl (by omega)))
theorem Sim.b (h : Sim ns nb nf u v) (hi : i < nb) {k : Nat} (hk : k < 8) : u (77 + 8 * i + k) = v (77 + 8 * i + k) := h _ (Or.inr (Or.inr (by omega)))
theorem Sim.f (h : Sim ns nb nf u v) {k : Nat} (hk : k < nf) : u (11 + k) = v (11 + k) := h _ (Or.inl (by omega))
theorem Sim.rfl' : Sim ns nb nf u u := fun _ _ => rfl
theorem Sim.symm (h : Sim ns nb nf u v) : Sim ns nb nf v u := fun z hz => (h z hz).symm
theorem Sim.trans {w : xM} (h : Sim ns nb nf u v) (h2 : Sim ns nb nf v w) : Sim ns nb nf u w := fun z hz => (h z hz).trans (h2 z hz)
theorem Sim.MV (h : Sim ns nb nf u v) (hv : MV mm ns nb nf u) : MV mm ns nb nf v := by
  have e : ∀ z, z < 11 → v z = u z := fun z hz => (h.h hz).symm
  refine ⟨e 9 (by decide) ▸ hv.s, e 10 (by decide) ▸ hv.b, e 8 (by decide) ▸ hv.f, e 0 (by decide) ▸ hv.m, ?_, e 1 (by decide) ▸ hv.o, e 2 (by decide) ▸ hv.r, e 7 (by decide) ▸ hv.p, fun i hi => ?_, fun i hi => ?_, fun i hi => ?_⟩
  · rw [e 3 (by decide), e 6 (by decide), e 1 (by decide)]; exact hv.t
  · rw [← h.f hi]; exact hv.d i hi
  · rw [← h.ss hi (by omega)]; exact hv.st i hi
  · exact BV_cong (hv.bu i hi) (fun k hk => (h.b hi (by omega)).symm)
theorem S_hold (h : Sim ns nb nf u v) (hi : i < nb) : P_hold u i = P_hold v i := by
  unfold P_hold
  rw [h.b hi (by omega)]
theorem S_mv (h : Sim ns nb nf u v) (hi : i < nb) {to : Int32} : Sim ns nb nf (P_mv u i to) (P_mv v i to) := by
  unfold P_mv
  exact h.upd (by rw [h.b hi (by omega), h.b hi (by omega)])
theorem S_tst (h : Sim ns nb nf u v) (hi : i < nb) {d : Int32} {best : Option Nat} (hs : s < ns) (hb : ∀ j, best = some j → j < ns) : P_tst u i d s best = P_tst v i d s best := by
  have hn : P_near u (u (77 + 8 * i + 0)) s best = P_near v (v (77 + 8 * i + 0)) s best := by
    rcases best with _ | j
    · rfl
    · have hj := hb j rfl
      show decide (P_apart (u (23 + 9 * s + 0)) (u (77 + 8 * i + 0)) < P_apart (u (23 + 9 * j + 0)) (u (77 + 8 * i + 0))) = decide (P_apart (v (23 + 9 * s + 0)) (v (77 + 8 * i + 0)) < P_apart (v (23 + 9 * j + 0)) (v (77 + 8 * i + 0)))
      rw [h.ss hs (by omega), h.ss hj (by omega), h.b hi (by omega)]
  have hse : P_seen u s (u (77 + 8 * i + 0)) d = P_seen v s (v (77 + 8 * i + 0)) d := by
    unfold P_seen
    rw [h.ss hs (by omega), h.ss hs (by omega), h.b hi (by omega)]
  unfold P_tst
  rw [hn, hse, h.b hi (by omega)]
theorem P_tst_lt {d : Int32} {best : Option Nat} (hs : s < ns) (hb : ∀ j, best = some j → j < ns) : ∀ j, P_tst u i d s best = some j → j < ns := by
  intro j hj
  unfold P_tst at hj
  split at hj
  · cases hj; exact hs
  · exact hb j hj
theorem S_tgt (h : Sim ns nb nf u v) (hi : i < nb) {d : Int32} : ∀ (k s : Nat) (best : Option Nat), s + k ≤ ns → (∀ j, best = some j → j < ns) → P_tgt u i d k s best = P_tgt v i d k s best
  | 0, _, _, _, _ => rfl
  | k + 1, s, best, hs, hb => by
    show P_tgt u i d k (s + 1) (P_tst u i d s best) = P_tgt v i d k (s + 1) (P_tst v i d s best)
    rw [← S_tst h hi (show s < ns by omega) hb]
    exact S_tgt h hi k (s + 1) _ (by omega) (P_tst_lt (by omega) hb)
theorem S_feel (h : Sim ns nb nf u v) (hi : i < nb) (hs : s < ns) : P_feel u i s = P_feel v i s := by
  unfold P_feel
  rw [h.ss hs (by omega), h.ss hs (by omega), h.ss hs (by omega), h.b hi (by omega), h.b hi (by omega)]
theorem S_got (h : Sim ns nb nf u v) (hi : i < nb) (hs : s < ns) : Sim ns nb nf (P_got u i s) (P_got v i s) := by
  unfold P_got
  rw [S_feel h hi hs]
  split
  · unfold P_take
    exact ((h.upd (by rw [h.ss hs (by omega)])).upd rfl).upd (h.ss hs (by omega))
  · unfold P_avoid
    exact h.upd (by rw [h.b hi (by omega)])
theorem S_pay {q : Nat} (h : Sim ns nb nf u v) (hi : i < nb) (hq : q < ns) : Sim ns nb nf (P_pay u i q) (P_pay v i q) := by
  unfold P_pay
  rw [h.ss hq (by omega), h.ss hq (by omega), h.b hi (by omega), h.b hi (by omega), h.b hi (by omega)]
  exact (((((h.upd rfl).upd rfl).upd rfl).upd rfl).upd rfl).upd rfl
theorem S_act (h : Sim ns nb nf u v) (hv : MV mm ns nb nf u) (hi : i < nb) {d : Int32} : Sim ns nb nf (P_act ns d i u) (P_act ns d i v) := by
  unfold P_act
  rw [← S_hold h hi]
  rcases hold_cases (hv.bu i hi) hv.s.2 with ⟨e1, -, -⟩ | ⟨q, hq, e1, -⟩
  · rw [e1]
    show Sim ns nb nf (P_actO u i (P_tgt u i d ns 0 none)) (P_actO v i (P_tgt v i d ns 0 none))
    rw [← S_tgt h hi ns 0 none (by omega) (fun j hj => by cases hj)]
    rcases ht : P_tgt u i d ns 0 none with _ | s
    · exact h
    · have hs : s < ns := P_tgt_lt ns 0 none (by omega) (fun j hj => by cases hj) s ht
      show Sim ns nb nf (P_actT u i s) (P_actT v i s)
      have hm := S_mv h hi (to := u (23 + 9 * s + 0))
      unfold P_actT
      rw [← h.ss hs (k := 0) (by omega), hm.b hi (k := 0) (by omega)]
      split
      · exact S_got hm hi hs
      · exact hm
  · rw [e1]
    show Sim ns nb nf (P_actH u i q) (P_actH v i q)
    have hm := S_mv h hi (to := u 7)
    unfold P_actH
    rw [← h.h (z := 7) (by omega), hm.b hi (k := 0) (by omega)]
    split
    · exact S_pay hm hi hq
    · exact hm
theorem S_sold (h : Sim ns nb nf u v) (hi : i < nb) : P_sold i u = P_sold i v := by
  have hm := S_mv h hi (to := u 7)
  unfold P_sold
  rw [← S_hold h hi, ← h.h (z := 7) (by omega), hm.b hi (k := 0) (by omega)]
theorem S_acts {d : Int32} : ∀ (k i : Nat) (u v : xM), i + k ≤ nb → Sim ns nb nf u v → MV mm ns nb nf u → Sim ns nb nf (P_acts ns d k i u) (P_acts ns d k i v)
  | 0, _, _, _, _, h, _ => h
  | k + 1, i, u, v, hk, h, hv => S_acts k (i + 1) _ _ (by omega) (S_act h hv (by omega)) (MV_act hv (by omega))
theorem S_solds {d : Int32} : ∀ (k i : Nat) (u v : xM) (a : Int32), i + k ≤ nb → Sim ns nb nf u v → MV mm ns nb nf u → P_solds ns d k i u a = P_solds ns d k i v a
  | 0, _, _, _, _, _, _, _ => rfl
  | k + 1, i, u, v, a, hk, h, hv => by
    show P_solds ns d k (i + 1) (P_act ns d i u) (a + P_sold i u) = P_solds ns d k (i + 1) (P_act ns d i v) (a + P_sold i v)
    rw [S_sold h (show i < nb by omega)]
    exact S_solds k (i + 1) _ _ _ (by omega) (S_act h hv (by omega)) (MV_act hv (by omega))
theorem S_mist (h : Sim ns nb nf u v) (hs : s < ns) {d : Int32} : Sim ns nb nf (P_mist d s u) (P_mist d s v) := by
  unfold P_mist
  rw [h.ss hs (by omega), h.ss hs (by omega), h.ss hs (by omega)]
  split
  · exact h
  · split
    · exact h
    · exact (h.upd rfl).upd rfl
theorem S_mists {d : Int32} : ∀ (k s : Nat) (u v : xM), s + k ≤ ns → Sim ns nb nf u v → Sim ns nb nf (P_mists d k s u) (P_mists d k s v)
  | 0, _, _, _, _, h => h
  | k + 1, s, u, v, hk, h => S_mists k (s + 1) _ _ (by omega) (S_mist h (by omega))
theorem S_ret (h : Sim ns nb nf u v) (hv : MV mm ns nb nf u) (hi : i < nb) : Sim ns nb nf (P_ret u i) (P_ret v i) := by
  unfold P_ret P_ret1
  rw [← S_hold h hi]
  rcases hold_cases (hv.bu i hi) hv.s.2 with ⟨e1, -, -⟩ | ⟨q, hq, e1, -⟩
  · rw [e1]
    exact (h.upd rfl).upd rfl
  · rw [e1]
    exact ((h.upd (by rw [h.ss hq (by omega)])).upd rfl).upd rfl
theorem S_end1 (h : Sim ns nb nf u v) (hv : MV mm ns nb nf u) (hi : i < nb) : Sim ns nb nf (P_end1 u i) (P_end1 v i) := (S_ret h hv hi).upd rfl
theorem S_ends : ∀ (k i : Nat) (u v : xM), i + k ≤ nb → Sim ns nb nf u v → MV mm ns nb nf u → Sim ns nb nf (P_ends k i u) (P_ends k i v)
  | 0, _, _, _, _, h, _ => h
  | k + 1, i, u, v, hk, h, hv => S_ends k (i + 1) _ _ (by omega) (S_end1 h hv (by omega)) (MV_end1 hv (by omega))
theorem S_rdy (h : Sim ns nb nf u v) {d : Int32} : Sim ns nb nf (P_rdy d u) (P_rdy d v) := by
  unfold P_rdy
  rw [h.h (z := 5) (by omega)]
  split
  · exact h
  · exact h.upd rfl
theorem S_bell2 (h : Sim ns nb nf u v) (hv : MV mm ns nb nf u) {d : Int32} : Sim ns nb nf (P_bell2 nb d u) (P_bell2 nb d v) := by
  have hc : Sim ns nb nf (P_close nb u) (P_close nb v) := S_ends nb 0 _ _ (by omega) ((h.upd rfl).upd rfl) (MV_cl0 hv)
  have hr : Sim ns nb nf (P_ring u) (P_ring v) := (((h.upd rfl).upd rfl).upd rfl).upd (by rw [h.h (z := 4) (by omega)])
  unfold P_bell2
  rw [h.h (z := 1) (by omega), h.h (z := 2) (by omega), h.h (z := 3) (by omega), h.h (z := 5) (by omega), h.h (z := 6) (by omega)]
  repeat' split
  all_goals first | exact hc | exact hr | exact h
theorem S_bell (h : Sim ns nb nf u v) (hv : MV mm ns nb nf u) {d : Int32} : Sim ns nb nf (P_bell nb d u) (P_bell nb d v) := S_bell2 (S_rdy h) (MV_rdy hv)
theorem S_ended (h : Sim ns nb nf u v) {d : Int32} : P_ended d u = P_ended d v := by
  unfold P_ended
  rw [h.h (z := 1) (by omega), h.h (z := 3) (by omega), h.h (z := 5) (by omega), h.h (z := 6) (by omega)]
theorem S_dens (h : Sim ns nb nf u v) (hf : 1 ≤ nf) : P_dens nf u = P_dens nf v := by
  unfold P_dens
  rw [h.h (z := 0) (by omega), h.f (Nat.mod_lt _ (by omega))]
theorem S_tick (h : Sim ns nb nf u v) : Sim ns nb nf (P_tick u) (P_tick v) := h.upd (by rw [h.h (z := 0) (by omega)])
theorem S_since (h : Sim ns nb nf u v) : Sim ns nb nf (P_since u) (P_since v) := h.upd (by rw [h.h (z := 3) (by omega)])
theorem S_min (h : Sim ns nb nf u v) (hv : MV mm ns nb nf u) : Sim ns nb nf (P_min ns nb nf u) (P_min ns nb nf v) := by
  have hf := hv.f.2.1
  have hb := S_bell h hv (d := P_dens nf u)
  unfold P_min P_min1
  rw [← S_dens h hf, hb.h (z := 1) (by omega)]
  refine S_tick ?_
  split
  · exact S_since (S_mists ns 0 _ _ (by omega) (S_acts nb 0 _ _ (by omega) hb (MV_bell hv)))
  · exact hb
theorem S_minS (h : Sim ns nb nf u v) (hv : MV mm ns nb nf u) : P_minS ns nb nf u = P_minS ns nb nf v := by
  have hf := hv.f.2.1
  have hb := S_bell h hv (d := P_dens nf u)
  unfold P_minS
  rw [← S_dens h hf, hb.h (z := 1) (by omega), S_solds nb 0 _ _ 0 (by omega) hb (MV_bell hv)]
theorem S_pass : ∀ (k : Nat) (mm : Nat) (u v : xM), Sim ns nb nf u v → MV mm ns nb nf u → Sim ns nb nf (P_pass ns nb nf k u) (P_pass ns nb nf k v)
  | 0, _, _, _, h, _ => h
  | k + 1, mm, u, v, h, hv => S_pass k (mm + 1) _ _ (S_min h hv) (MV_min hv)
theorem S_passS : ∀ (k : Nat) (mm : Nat) (u v : xM) (a : Int32), Sim ns nb nf u v → MV mm ns nb nf u → P_passS ns nb nf k u a = P_passS ns nb nf k v a
  | 0, _, _, _, _, _, _ => rfl
  | k + 1, mm, u, v, a, h, hv => by
    show P_passS ns nb nf k (P_min ns nb nf u) (a + P_minS ns nb nf u) = P_passS ns nb nf k (P_min ns nb nf v) (a + P_minS ns nb nf v)
    rw [S_minS h hv]
    exact S_passS k (mm + 1) _ _ _ (S_min h hv) (MV_min hv)
end

