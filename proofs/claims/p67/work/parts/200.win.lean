/-! THE PURE SIDE. A market is a window of 125 cells; wr puts one into a memory. -/
def win (b : Nat) (M : xM) : xM := fun z => M (b + z)
def wr (b : Nat) (u M : xM) : xM := fun z => if b ≤ z ∧ z < b + 125 then u (z - b) else M z
theorem wr_win (b : Nat) (M : xM) : wr b (win b M) M = M := by
  funext z
  unfold wr win
  by_cases h : b ≤ z ∧ z < b + 125
  · rw [if_pos h, show b + (z - b) = z by omega]
  · rw [if_neg h]
theorem wr_in {b a z : Nat} {u M : xM} (h : a = b + z) (hz : z < 125) : wr b u M a = u z := by
  subst h
  unfold wr
  rw [if_pos ⟨Nat.le_add_right _ _, by omega⟩, Nat.add_sub_cancel_left]
theorem wr_out {b a : Nat} {u M : xM} (h : a < b ∨ b + 125 ≤ a) : wr b u M a = M a := by
  unfold wr
  rw [if_neg (by omega)]
theorem us {f : xM} {k : Nat} {x : Int32} : upd f k x k = x := if_pos rfl
theorem un {f : xM} {k j : Nat} {x : Int32} (h : j ≠ k) : upd f k x j = f j := if_neg h
theorem uw_in {b a z : Nat} {u M : xM} {x : Int32} (h : a = b + z) (hz : z < 125) : upd (wr b u M) a x = wr b (upd u z x) M := by
  subst h
  funext y
  by_cases hy : y = b + z
  · subst hy
    rw [us, wr_in rfl hz, us]
  · rw [un hy]
    by_cases h2 : b ≤ y ∧ y < b + 125
    · rw [wr_in (z := y - b) (by omega) (by omega), wr_in (z := y - b) (by omega) (by omega), un (by omega)]
    · rw [wr_out (by omega), wr_out (by omega)]
theorem uw_out {b a : Nat} {u M : xM} {x : Int32} (h : a < b ∨ b + 125 ≤ a) : upd (wr b u M) a x = wr b u (upd M a x) := by
  funext y
  by_cases hy : y = a
  · subst hy
    rw [us, wr_out h, us]
  · rw [un hy]
    by_cases h2 : b ≤ y ∧ y < b + 125
    · rw [wr_in (z := y - b) (by omega) (by omega), wr_in (z := y - b) (by omega) (by omega)]
    · rw [wr_out (by omega), wr_out (by omega), un hy]
theorem wr_s {b i k : Nat} {u M : xM} (hi : i < 6) (hk : k < 9) : wr b u M (b + 23 + 9 * i + k) = u (23 + 9 * i + k) := wr_in (by omega) (by omega)
theorem wr_b {b i k : Nat} {u M : xM} (hi : i < 6) (hk : k < 8) : wr b u M (b + 77 + 8 * i + k) = u (77 + 8 * i + k) := wr_in (by omega) (by omega)
theorem wr_h {b k : Nat} {u M : xM} (hk : k < 125) : wr b u M (b + k) = u k := wr_in rfl hk
theorem uw_s {b i k : Nat} {u M : xM} {x : Int32} (hi : i < 6) (hk : k < 9) : upd (wr b u M) (b + 23 + 9 * i + k) x = wr b (upd u (23 + 9 * i + k) x) M := uw_in (by omega) (by omega)
theorem uw_b {b i k : Nat} {u M : xM} {x : Int32} (hi : i < 6) (hk : k < 8) : upd (wr b u M) (b + 77 + 8 * i + k) x = wr b (upd u (77 + 8 * i + k) x) M := uw_in (by omega) (by omega)
theorem uw_h {b k : Nat} {u M : xM} {x : Int32} (hk : k < 125) : upd (wr b u M) (b + k) x = wr b (upd u k x) M := uw_in rfl hk
theorem inb_nI {i n : Nat} (h : i < n) (hn : n < 2147483648) : inb (nI i) n = true := by
  unfold inb
  rw [nI_toInt (by omega)]
  simp only [Bool.and_eq_true, decide_eq_true_eq]
  omega
theorem lp_s {α : Type} {z : α} {F : α → α} (n : Nat) : lp z F (n + 1) = F (lp z F n) := rfl
theorem cl {n : Nat} (h : n < 2147483648) : (nI n).toNatClampNeg = n := nI_clamp (by omega)
/-- a buyer that can be -/
def BV (ns : Nat) (u : xM) (i : Nat) : Prop := (∃ p, p < 100 ∧ u (77 + 8 * i + 0) = nI p) ∧ (∃ v, 1 ≤ v ∧ v ≤ 20 ∧ u (77 + 8 * i + 3) = nI v) ∧ ((u (77 + 8 * i + 4) = -1 ∧ u (77 + 8 * i + 5) = 0) ∨ ∃ h, h < ns ∧ u (77 + 8 * i + 4) = nI h)
/-- a market that can be: mm its greatest minute; ns, nb, nf its numbers of stalls, buyers, densities -/
def MV (mm ns nb nf : Nat) (u : xM) : Prop :=
  (u 9 = nI ns ∧ ns ≤ 6) ∧ (u 10 = nI nb ∧ nb ≤ 6) ∧ (u 8 = nI nf ∧ 1 ≤ nf ∧ nf ≤ 12) ∧ (∃ m, m ≤ mm ∧ u 0 = nI m) ∧ (∃ a c, a ≤ c ∧ 1 ≤ c ∧ c ≤ 60 ∧ u 3 = nI a ∧ u 6 = nI c ∧ (u 1 = 1 ∨ a = 0)) ∧ (u 1 = 0 ∨ u 1 = 1) ∧ (u 2 = 0 ∨ u 2 = 1) ∧ (∃ p, p < 100 ∧ u 7 = nI p) ∧ (∀ i, i < nf → ∃ d, d ≤ 9 ∧ u (11 + i) = nI d) ∧ (∀ i, i < ns → ∃ p, p < 100 ∧ u (23 + 9 * i + 0) = nI p) ∧ ∀ i, i < nb → BV ns u i
section
variable {mm ns nb nf : Nat} {u : xM}
theorem MV.s (h : MV mm ns nb nf u) : u 9 = nI ns ∧ ns ≤ 6 := h.1
theorem MV.b (h : MV mm ns nb nf u) : u 10 = nI nb ∧ nb ≤ 6 := h.2.1
theorem MV.f (h : MV mm ns nb nf u) : u 8 = nI nf ∧ 1 ≤ nf ∧ nf ≤ 12 := h.2.2.1
theorem MV.m (h : MV mm ns nb nf u) : ∃ m, m ≤ mm ∧ u 0 = nI m := h.2.2.2.1
theorem MV.t (h : MV mm ns nb nf u) : ∃ a c, a ≤ c ∧ 1 ≤ c ∧ c ≤ 60 ∧ u 3 = nI a ∧ u 6 = nI c ∧ (u 1 = 1 ∨ a = 0) := h.2.2.2.2.1
theorem MV.o (h : MV mm ns nb nf u) : u 1 = 0 ∨ u 1 = 1 := h.2.2.2.2.2.1
theorem MV.r (h : MV mm ns nb nf u) : u 2 = 0 ∨ u 2 = 1 := h.2.2.2.2.2.2.1
theorem MV.p (h : MV mm ns nb nf u) : ∃ p, p < 100 ∧ u 7 = nI p := h.2.2.2.2.2.2.2.1
theorem MV.d (h : MV mm ns nb nf u) : ∀ i, i < nf → ∃ d, d ≤ 9 ∧ u (11 + i) = nI d := h.2.2.2.2.2.2.2.2.1
theorem MV.st (h : MV mm ns nb nf u) : ∀ i, i < ns → ∃ p, p < 100 ∧ u (23 + 9 * i + 0) = nI p := h.2.2.2.2.2.2.2.2.2.1
theorem MV.bu (h : MV mm ns nb nf u) : ∀ i, i < nb → BV ns u i := h.2.2.2.2.2.2.2.2.2.2
end
theorem BV_cong {ns i : Nat} {u w : xM} (h : BV ns u i) (e : ∀ k, k = 0 ∨ k = 3 ∨ k = 4 ∨ k = 5 → w (77 + 8 * i + k) = u (77 + 8 * i + k)) : BV ns w i := by
  unfold BV at h ⊢
  rw [e 0 (by omega), e 3 (by omega), e 4 (by omega), e 5 (by omega)]
  exact h
/-- cells that no bound speaks of -/
def fr (z : Nat) : Prop := z = 4 ∨ z = 5 ∨ (23 ≤ z ∧ z < 77 ∧ (z - 23) % 9 ≠ 0) ∨ (77 ≤ z ∧ ((z - 77) % 8 = 1 ∨ (z - 77) % 8 = 2 ∨ (z - 77) % 8 = 6 ∨ (z - 77) % 8 = 7))
theorem MV_cong {mm ns nb nf : Nat} {u w : xM} (h : MV mm ns nb nf u) (e : ∀ z, ¬ fr z → w z = u z) : MV mm ns nb nf w := by
  have hb := h.b.2
  have hs := h.s.2
  have hf := h.f.2
  have e9 : w 9 = u 9 := e 9 (by unfold fr; omega)
  have e10 : w 10 = u 10 := e 10 (by unfold fr; omega)
  have e8 : w 8 = u 8 := e 8 (by unfold fr; omega)
  have e0 : w 0 = u 0 := e 0 (by unfold fr; omega)
  have e3 : w 3 = u 3 := e 3 (by unfold fr; omega)
  have e6 : w 6 = u 6 := e 6 (by unfold fr; omega)
  have e1 : w 1 = u 1 := e 1 (by unfold fr; omega)
  have e2 : w 2 = u 2 := e 2 (by unfold fr; omega)
  have e7 : w 7 = u 7 := e 7 (by unfold fr; omega)
  refine ⟨e9 ▸ h.s, e10 ▸ h.b, e8 ▸ h.f, e0 ▸ h.m, ?_, e1 ▸ h.o, e2 ▸ h.r, e7 ▸ h.p, fun i hi => ?_, fun i hi => ?_, fun i hi => ?_⟩
  · rw [e3, e6, e1]; exact h.t
  · rw [e _ (by unfold fr; omega)]; exact h.d i hi
  · rw [e _ (by unfold fr; omega)]; exact h.st i hi
  · exact BV_cong (h.bu i hi) (fun k hk => e _ (by unfold fr; omega))
theorem MV.free {mm ns nb nf : Nat} {u : xM} {z : Nat} {x : Int32} (h : MV mm ns nb nf u) (hz : fr z) : MV mm ns nb nf (upd u z x) :=
  MV_cong h (fun y hy => un (fun e => hy (e ▸ hz)))
/-- only buyers' cells change -/
theorem MV_b {mm ns nb nf : Nat} {u w : xM} (h : MV mm ns nb nf u) (e : ∀ z, z < 77 → w z = u z) (hb : ∀ i, i < nb → BV ns w i) : MV mm ns nb nf w := by
  have hs := h.s.2
  have hf := h.f.2
  refine ⟨e 9 (by decide) ▸ h.s, e 10 (by decide) ▸ h.b, e 8 (by decide) ▸ h.f, e 0 (by decide) ▸ h.m, ?_, e 1 (by decide) ▸ h.o, e 2 (by decide) ▸ h.r, e 7 (by decide) ▸ h.p, fun i hi => ?_, fun i hi => ?_, hb⟩
  · rw [e 3 (by decide), e 6 (by decide), e 1 (by decide)]; exact h.t
  · rw [e _ (by omega)]; exact h.d i hi
  · rw [e _ (by omega)]; exact h.st i hi
/-- one buyer's cells change -/
theorem MV_b1 {mm ns nb nf i : Nat} {u w : xM} (h : MV mm ns nb nf u) (e : ∀ z, (z < 77 + 8 * i ∨ 77 + 8 * i + 8 ≤ z) → w z = u z) (hb : BV ns w i) : MV mm ns nb nf w := by
  refine MV_b h (fun z hz => e z (by omega)) (fun j hj => ?_)
  by_cases q : j = i
  · subst q; exact hb
  · exact BV_cong (h.bu j hj) (fun k hk => e _ (by omega))
/-- the head changes -/
theorem MV_h {mm mm' ns nb nf : Nat} {u w : xM} (h : MV mm ns nb nf u) (e : ∀ z, 5 ≤ z → w z = u z) (h0 : ∃ m, m ≤ mm' ∧ w 0 = nI m) (h3 : ∃ a c, a ≤ c ∧ 1 ≤ c ∧ c ≤ 60 ∧ w 3 = nI a ∧ w 6 = nI c ∧ (w 1 = 1 ∨ a = 0)) (h1 : w 1 = 0 ∨ w 1 = 1) (h2 : w 2 = 0 ∨ w 2 = 1) : MV mm' ns nb nf w := by
  refine ⟨e 9 (by decide) ▸ h.s, e 10 (by decide) ▸ h.b, e 8 (by decide) ▸ h.f, h0, h3, h1, h2, e 7 (by decide) ▸ h.p, fun i hi => ?_, fun i hi => ?_, fun i hi => ?_⟩
  · rw [e _ (by omega)]; exact h.d i hi
  · rw [e _ (by omega)]; exact h.st i hi
  · exact BV_cong (h.bu i hi) (fun k hk => e _ (by omega))
/-! the minute, as numbers -/
def P_apart (x y : Int32) : Int32 := if y ≤ x then x - y else y - x
def P_reach (l d : Int32) : Int32 := if l = 0 then 30 - 2 * d else if l = 1 then 24 - d else if l = 2 then 45 - 5 * d else 12
def P_guard (l : Int32) : Int32 := if l = 0 then 7 else if l = 1 then 5 else if l = 2 then 6 else 9
def P_walk (p v to : Int32) : Int32 := if p ≤ to then p + imin v (P_apart p to) else p - imin v (P_apart p to)
def P_feel (u : xM) (i s : Nat) : Int32 := if u (23 + 9 * s + 2) = u (77 + 8 * i + 2) then (if u (23 + 9 * s + 4) = 0 then 2 else (if u (23 + 9 * s + 3) ≤ u (77 + 8 * i + 1) then 0 else 3)) else 1
def P_has (m : Int32) (s : Nat) : Bool := decide (((m >>> (nI s &&& 31)) &&& 1) = 1)
def P_seen (u : xM) (s : Nat) (place d : Int32) : Bool := decide (P_apart (u (23 + 9 * s + 0)) place ≤ P_reach (u (23 + 9 * s + 1)) d)
def P_near (u : xM) (place : Int32) (s : Nat) : Option Nat → Bool
  | none => true
  | some j => decide (P_apart (u (23 + 9 * s + 0)) place < P_apart (u (23 + 9 * j + 0)) place)
def P_tst (u : xM) (i : Nat) (d : Int32) (s : Nat) (best : Option Nat) : Option Nat := if (!P_has (u (77 + 8 * i + 6)) s && P_seen u s (u (77 + 8 * i + 0)) d && P_near u (u (77 + 8 * i + 0)) s best) = true then some s else best
def P_tgt (u : xM) (i : Nat) (d : Int32) : Nat → Nat → Option Nat → Option Nat
  | 0, _, best => best
  | k + 1, s, best => P_tgt u i d k (s + 1) (P_tst u i d s best)
def eo : Option Nat → Int32
  | none => -1
  | some j => nI j
def P_take (u : xM) (i s : Nat) : xM := upd (upd (upd u (23 + 9 * s + 4) (u (23 + 9 * s + 4) - 1)) (77 + 8 * i + 4) (nI s)) (77 + 8 * i + 5) (u (23 + 9 * s + 3))
def P_avoid (u : xM) (i s : Nat) : xM := upd u (77 + 8 * i + 6) (u (77 + 8 * i + 6) ||| (1 <<< (nI s &&& 31)))
def P_pay (u : xM) (i h : Nat) : xM := upd (upd (upd (upd (upd (upd u (23 + 9 * h + 7) (u (23 + 9 * h + 7) + u (77 + 8 * i + 5))) (23 + 9 * h + 5) (u (23 + 9 * h + 5) + 1)) (77 + 8 * i + 1) (u (77 + 8 * i + 1) - u (77 + 8 * i + 5))) (77 + 8 * i + 7) (u (77 + 8 * i + 7) + 1)) (77 + 8 * i + 4) (-1)) (77 + 8 * i + 5) 0
def P_mv (u : xM) (i : Nat) (to : Int32) : xM := upd u (77 + 8 * i + 0) (P_walk (u (77 + 8 * i + 0)) (u (77 + 8 * i + 3)) to)
def P_hold (u : xM) (i : Nat) : Option Nat := if u (77 + 8 * i + 4) = -1 then none else some (u (77 + 8 * i + 4)).toNatClampNeg
def P_actH (u : xM) (i h : Nat) : xM := if P_mv u i (u 7) (77 + 8 * i + 0) = u 7 then P_pay (P_mv u i (u 7)) i h else P_mv u i (u 7)
def P_got (u : xM) (i s : Nat) : xM := if P_feel u i s = 0 then P_take u i s else P_avoid u i s
def P_actT (u : xM) (i s : Nat) : xM := if P_mv u i (u (23 + 9 * s + 0)) (77 + 8 * i + 0) = u (23 + 9 * s + 0) then P_got (P_mv u i (u (23 + 9 * s + 0))) i s else P_mv u i (u (23 + 9 * s + 0))
def P_actO (u : xM) (i : Nat) : Option Nat → xM
  | none => u
  | some s => P_actT u i s
def P_act (ns : Nat) (d : Int32) (i : Nat) (u : xM) : xM := match P_hold u i with
  | some h => P_actH u i h
  | none => P_actO u i (P_tgt u i d ns 0 none)
def P_sold (i : Nat) (u : xM) : Int32 := match P_hold u i with
  | some _ => if P_mv u i (u 7) (77 + 8 * i + 0) = u 7 then 1 else 0
  | none => 0
def P_acts (ns : Nat) (d : Int32) : Nat → Nat → xM → xM
  | 0, _, u => u
  | k + 1, i, u => P_acts ns d k (i + 1) (P_act ns d i u)
def P_solds (ns : Nat) (d : Int32) : Nat → Nat → xM → Int32 → Int32
  | 0, _, _, a => a
  | k + 1, i, u, a => P_solds ns d k (i + 1) (P_act ns d i u) (a + P_sold i u)
def P_mist (d : Int32) (s : Nat) (u : xM) : xM := if u (23 + 9 * s + 4) ≤ 0 then u else if d ≤ P_guard (u (23 + 9 * s + 1)) then u else upd (upd u (23 + 9 * s + 4) (u (23 + 9 * s + 4) - 1)) (23 + 9 * s + 6) (u (23 + 9 * s + 6) + 1)
def P_mists (d : Int32) : Nat → Nat → xM → xM
  | 0, _, u => u
  | k + 1, s, u => P_mists d k (s + 1) (P_mist d s u)
def P_ret1 (u : xM) (i : Nat) : xM := match P_hold u i with
  | none => u
  | some h => upd u (23 + 9 * h + 4) (u (23 + 9 * h + 4) + 1)
def P_ret (u : xM) (i : Nat) : xM := upd (upd (P_ret1 u i) (77 + 8 * i + 4) (-1)) (77 + 8 * i + 5) 0
def P_end1 (u : xM) (i : Nat) : xM := upd (P_ret u i) (77 + 8 * i + 6) 0
def P_ends : Nat → Nat → xM → xM
  | 0, _, u => u
  | k + 1, i, u => P_ends k (i + 1) (P_end1 u i)
def P_close (nb : Nat) (u : xM) : xM := P_ends nb 0 (upd (upd u 1 0) 3 0)
def P_ring (u : xM) : xM := upd (upd (upd (upd u 1 1) 3 0) 2 0) 4 (u 4 + 1)
def P_rdy (d : Int32) (u : xM) : xM := if u 5 ≤ d then u else upd u 2 1
def P_bell2 (nb : Nat) (d : Int32) (u : xM) : xM := if u 1 = 1 then (if d < u 5 then P_close nb u else if u 3 = u 6 then P_close nb u else u) else if u 2 = 1 then (if d < u 5 then u else P_ring u) else u
def P_bell (nb : Nat) (d : Int32) (u : xM) : xM := P_bell2 nb d (P_rdy d u)
def P_ended (d : Int32) (u : xM) : Int32 := if u 1 = 1 then (if d < u 5 then 1 else if u 3 = u 6 then 1 else 0) else 0
def P_dens (nf : Nat) (u : xM) : Int32 := u (11 + (u 0).toNatClampNeg / 5 % nf)
def P_tick (u : xM) : xM := upd u 0 (u 0 + 1)
def P_since (u : xM) : xM := upd u 3 (u 3 + 1)
def P_opn (ns nb : Nat) (d : Int32) (u : xM) : xM := P_since (P_mists d ns 0 (P_acts ns d nb 0 u))
def P_min1 (ns nb : Nat) (d : Int32) (u : xM) : xM := P_tick (if u 1 = 1 then P_opn ns nb d u else u)
def P_min (ns nb nf : Nat) (u : xM) : xM := P_min1 ns nb (P_dens nf u) (P_bell nb (P_dens nf u) u)
def P_minS (ns nb nf : Nat) (u : xM) : Int32 := if P_bell nb (P_dens nf u) u 1 = 1 then P_solds ns (P_dens nf u) nb 0 (P_bell nb (P_dens nf u) u) 0 else 0
def P_pass (ns nb nf : Nat) : Nat → xM → xM
  | 0, u => u
  | k + 1, u => P_pass ns nb nf k (P_min ns nb nf u)
def P_passS (ns nb nf : Nat) : Nat → xM → Int32 → Int32
  | 0, _, a => a
  | k + 1, u, a => P_passS ns nb nf k (P_min ns nb nf u) (a + P_minS ns nb nf u)

