/-! the commands, over windows -/
def MM (mm ns nb nf : Nat) (u v : xM) : Prop := MV mm ns nb nf u ∧ EC ns nb u ∧ BT mm nb u ∧ Sim ns nb nf u v
def P_stock (u : xM) (s : Nat) (x : Int32) : xM := upd (upd u (23 + 9 * s + 4) (u (23 + 9 * s + 4) + x)) (23 + 9 * s + 8) (u (23 + 9 * s + 8) + x)
def P_back (u : xM) (i q : Nat) : xM := P_avoid (P_ret u i) i q
def sv (p l t r g : Int32) : Nat → Int32
  | 0 => p
  | 1 => l
  | 2 => t
  | 3 => r
  | 4 => g
  | 8 => g
  | _ => 0
def bv (p c t v : Int32) : Nat → Int32
  | 0 => p
  | 1 => c
  | 2 => t
  | 3 => v
  | 4 => -1
  | _ => 0
def P_stall (ns : Nat) (u : xM) (p l t r g : Int32) : xM := fun z => if z = 9 then nI (ns + 1) else if 23 + 9 * ns ≤ z ∧ z < 23 + 9 * ns + 9 then sv p l t r g (z - (23 + 9 * ns)) else u z
def P_buyer (nb : Nat) (u : xM) (p c t v : Int32) : xM := fun z => if z = 10 then nI (nb + 1) else if 77 + 8 * nb ≤ z ∧ z < 77 + 8 * nb + 8 then bv p c t v (z - (77 + 8 * nb)) else u z
theorem stall9 {ns : Nat} {u : xM} {p l t r g : Int32} : P_stall ns u p l t r g 9 = nI (ns + 1) := if_pos rfl
theorem stallC {ns k : Nat} {u : xM} {p l t r g : Int32} (hk : k < 9) : P_stall ns u p l t r g (23 + 9 * ns + k) = sv p l t r g k := by
  unfold P_stall
  rw [if_neg (by omega), if_pos (by omega), show 23 + 9 * ns + k - (23 + 9 * ns) = k by omega]
theorem stallO {ns z : Nat} {u : xM} {p l t r g : Int32} (h9 : z ≠ 9) (h : z < 23 + 9 * ns ∨ 23 + 9 * ns + 9 ≤ z) : P_stall ns u p l t r g z = u z := by
  unfold P_stall
  rw [if_neg h9, if_neg (by omega)]
theorem buyer10 {nb : Nat} {u : xM} {p c t v : Int32} : P_buyer nb u p c t v 10 = nI (nb + 1) := if_pos rfl
theorem buyerC {nb k : Nat} {u : xM} {p c t v : Int32} (hk : k < 8) : P_buyer nb u p c t v (77 + 8 * nb + k) = bv p c t v k := by
  unfold P_buyer
  rw [if_neg (by omega), if_pos (by omega), show 77 + 8 * nb + k - (77 + 8 * nb) = k by omega]
theorem buyerO {nb z : Nat} {u : xM} {p c t v : Int32} (h9 : z ≠ 10) (h : z < 77 + 8 * nb ∨ 77 + 8 * nb + 8 ≤ z) : P_buyer nb u p c t v z = u z := by
  unfold P_buyer
  rw [if_neg h9, if_neg (by omega)]
theorem funStall {ns : Nat} {u w : xM} {p l t r g : Int32} (h9 : w 9 = nI (ns + 1)) (hC : ∀ k, k < 9 → w (23 + 9 * ns + k) = sv p l t r g k) (hO : ∀ z, z ≠ 9 → (z < 23 + 9 * ns ∨ 23 + 9 * ns + 9 ≤ z) → w z = u z) : w = P_stall ns u p l t r g := by
  funext z
  by_cases q : z = 9
  · subst q; rw [h9, stall9]
  · by_cases q2 : 23 + 9 * ns ≤ z ∧ z < 23 + 9 * ns + 9
    · have := hC (z - (23 + 9 * ns)) (by omega)
      have h2 := stallC (ns := ns) (u := u) (p := p) (l := l) (t := t) (r := r) (g := g) (show z - (23 + 9 * ns) < 9 by omega)
      rw [show 23 + 9 * ns + (z - (23 + 9 * ns)) = z by omega] at this h2
      rw [this, h2]
    · rw [hO z q (by omega), stallO q (by omega)]
theorem funBuyer {nb : Nat} {u w : xM} {p c t v : Int32} (h9 : w 10 = nI (nb + 1)) (hC : ∀ k, k < 8 → w (77 + 8 * nb + k) = bv p c t v k) (hO : ∀ z, z ≠ 10 → (z < 77 + 8 * nb ∨ 77 + 8 * nb + 8 ≤ z) → w z = u z) : w = P_buyer nb u p c t v := by
  funext z
  by_cases q : z = 10
  · subst q; rw [h9, buyer10]
  · by_cases q2 : 77 + 8 * nb ≤ z ∧ z < 77 + 8 * nb + 8
    · have := hC (z - (77 + 8 * nb)) (by omega)
      have h2 := buyerC (nb := nb) (u := u) (p := p) (c := c) (t := t) (v := v) (show z - (77 + 8 * nb) < 8 by omega)
      rw [show 77 + 8 * nb + (z - (77 + 8 * nb)) = z by omega] at this h2
      rw [this, h2]
    · rw [hO z q (by omega), buyerO q (by omega)]
section
variable {mm ns nb nf b i s : Nat} {u v M N : xM}
theorem c_receive {x : Int32} (hs : s < 6) : f_X4_receive (b + 23 + 9 * s) x (wr b u M) = some (wr b (P_stock u s x) M) := by
  unfold f_X4_receive P_stock
  simp (disch := omega) only [wr_s, uw_s, un]
theorem c_back {q : Nat} (h : MV mm ns nb nf u) (hi : i < nb) (e : u (77 + 8 * i + 4) = nI q) : f_X2_returnAndAvoid b (b + 77 + 8 * i) (wr b u M) = some (wr b (P_back u i q) M) := by
  have hb := h.b.2
  unfold f_X2_returnAndAvoid P_back
  rw [bd_s (c_ret h hi), wr_b (by omega) (by omega), e, bd_s (c_avoid (by omega))]
theorem c_place {p l t r g : Int32} (h : MV mm ns nb nf u) (hn : ns < 6) : f_X2_placeStall b p l t r g (wr b u M) = some (nI ns, wr b (P_stall ns u p l t r g) M) := by
  have e9 := h.s.1
  have e6 : (nI ns < 6) = True := eq_true (nI_lt (b := 6) hn (by decide))
  unfold f_X2_placeStall f_X4_reset
  simp (disch := omega) only [wr_h, e9, e6, ↓reduceIte, inb_nI, gd, cl, bd, uw_s, c_receive, uw_h]
  congr 3
  refine funStall ?_ (fun k hk => ?_) (fun z h9 hz => ?_)
  · rw [us]
    unfold P_stock
    simp (disch := omega) only [un, e9, nI_1]
  · unfold P_stock
    rcases (show k = 0 ∨ k = 1 ∨ k = 2 ∨ k = 3 ∨ k = 4 ∨ k = 5 ∨ k = 6 ∨ k = 7 ∨ k = 8 by omega) with rfl | rfl | rfl | rfl | rfl | rfl | rfl | rfl | rfl
    all_goals simp (disch := omega) only [us, un, Int32.zero_add, sv]
  · unfold P_stock
    simp (disch := omega) only [un]
theorem c_placeB {p c t v' : Int32} (h : MV mm ns nb nf u) (hn : nb < 6) : f_X2_placeBuyer b p c t v' (wr b u M) = some (nI nb, wr b (P_buyer nb u p c t v') M) := by
  have e9 := h.b.1
  have e6 : (nI nb < 6) = True := eq_true (nI_lt (b := 6) hn (by decide))
  unfold f_X2_placeBuyer f_X1_reset
  simp (disch := omega) only [wr_h, e9, e6, ↓reduceIte, inb_nI, gd, cl, bd, uw_b, uw_h]
  congr 3
  refine funBuyer ?_ (fun k hk => ?_) (fun z h9 hz => ?_)
  · rw [us]
    simp (disch := omega) only [un, e9, nI_1]
  · rcases (show k = 0 ∨ k = 1 ∨ k = 2 ∨ k = 3 ∨ k = 4 ∨ k = 5 ∨ k = 6 ∨ k = 7 by omega) with rfl | rfl | rfl | rfl | rfl | rfl | rfl | rfl
    all_goals simp (disch := omega) only [us, un, bv]
  · simp (disch := omega) only [un]
def zl (a i : Nat) (u : xM) : xM := fun z => if a ≤ z ∧ z < a + i then 0 else u z
theorem zl_in {a i z : Nat} (h : a ≤ z) (h2 : z < a + i) : zl a i u z = 0 := if_pos ⟨h, h2⟩
theorem zl_out {a i z : Nat} (h : z < a ∨ a + i ≤ z) : zl a i u z = u z := if_neg (by omega)
theorem zl_s {a i : Nat} : upd (zl a i u) (a + i) 0 = zl a (i + 1) u := by
  funext z
  by_cases q : z = a + i
  · subst q; rw [us, zl_in (by omega) (by omega)]
  · rw [un q]
    by_cases q2 : a ≤ z ∧ z < a + i
    · rw [zl_in q2.1 q2.2, zl_in q2.1 (by omega)]
    · rw [zl_out (by omega), zl_out (by omega)]
theorem zl_0 {a : Nat} : zl a 0 u = u := by
  funext z
  exact zl_out (by omega)
/-! what they keep -/
theorem P_end1_lo_ret {z : Nat} (hz : z < 23) : P_ret u i z = u z := by
  unfold P_ret P_ret1
  rw [un (by omega), un (by omega)]
  rcases P_hold u i with _ | h
  · rfl
  · exact un (by omega)
theorem MM.free (h : MM mm ns nb nf u v) {z : Nat} {x : Int32} (h1 : fr z) (h2 : ¬ er z) (h3 : ∀ i, z ≠ 77 + 8 * i + 7) (h4 : z ≠ 4) : MM mm ns nb nf (upd u z x) (upd v z x) := by
  obtain ⟨a, b, c, d⟩ := h
  refine ⟨a.free h1, b.free a.s.2 h2, ⟨fun i hi => ?_, ?_⟩, d.upd rfl⟩
  · rw [un (fun e => h3 i e.symm)]; exact c.1 i hi
  · rw [un (fun e => h4 e.symm)]; exact c.2
theorem MM.price (h : MM mm ns nb nf u v) (hs : s < ns) {r : Nat} (hr : r ≤ 999) : MM mm ns nb nf (upd u (23 + 9 * s + 3) (nI r)) (upd v (23 + 9 * s + 3) (nI r)) := by
  obtain ⟨a, b, c, d⟩ := h
  have hs6 := a.s.2
  refine ⟨a.free (by unfold fr; omega), EC_price a.s.2 b hs hr, ⟨fun i hi => ?_, ?_⟩, d.upd rfl⟩
  · rw [un (by omega)]; exact c.1 i hi
  · rw [un (by omega)]; exact c.2
theorem MM.lan (h : MM mm ns nb nf u v) (hs : s < ns) {x : Int32} : MM mm ns nb nf (upd u (23 + 9 * s + 1) x) (upd v (23 + 9 * s + 1) x) := by
  have hs6 := h.1.s.2
  exact h.free (by unfold fr; omega) (by unfold er; omega) (fun i => by omega) (by omega)
theorem MM.move (h : MM mm ns nb nf u v) (hs : s < ns) {p : Nat} (hp : p < 100) : MM mm ns nb nf (upd u (23 + 9 * s + 0) (nI p)) (upd v (23 + 9 * s + 0) (nI p)) := by
  obtain ⟨a, b, c, d⟩ := h
  have hs6 := a.s.2
  have hf := a.f.2
  refine ⟨⟨?_, ?_, ?_, ?_, ?_, ?_, ?_, ?_, fun i hi => ?_, fun i hi => ?_, fun i hi => BV_cong (a.bu i hi) (fun k hk => un (by omega))⟩, b.free hs6 (by unfold er; omega), ⟨fun i hi => ?_, ?_⟩, d.upd rfl⟩
  · rw [un (by omega)]; exact a.s
  · rw [un (by omega)]; exact a.b
  · rw [un (by omega)]; exact a.f
  · rw [un (by omega)]; exact a.m
  · rw [un (by omega), un (by omega), un (by omega)]; exact a.t
  · rw [un (by omega)]; exact a.o
  · rw [un (by omega)]; exact a.r
  · rw [un (by omega)]; exact a.p
  · rw [un (by omega)]; exact a.d i hi
  · by_cases e : i = s
    · subst e; exact ⟨p, hp, us⟩
    · rw [un (by omega)]; exact a.st i hi
  · rw [un (by omega)]; exact c.1 i hi
  · rw [un (by omega)]; exact c.2
theorem MM.fog (h : MM mm ns nb nf u v) (hi : i < nf) {d : Nat} (hd : d ≤ 9) : MM mm ns nb nf (upd u (11 + i) (nI d)) (upd v (11 + i) (nI d)) := by
  obtain ⟨a, b, c, d'⟩ := h
  have hs6 := a.s.2
  have hf := a.f.2
  refine ⟨⟨?_, ?_, ?_, ?_, ?_, ?_, ?_, ?_, fun j hj => ?_, fun j hj => ?_, fun j hj => BV_cong (a.bu j hj) (fun k hk => un (by omega))⟩, b.free hs6 (by unfold er; omega), ⟨fun j hj => ?_, ?_⟩, d'.upd rfl⟩
  · rw [un (by omega)]; exact a.s
  · rw [un (by omega)]; exact a.b
  · rw [un (by omega)]; exact a.f
  · rw [un (by omega)]; exact a.m
  · rw [un (by omega), un (by omega), un (by omega)]; exact a.t
  · rw [un (by omega)]; exact a.o
  · rw [un (by omega)]; exact a.r
  · rw [un (by omega)]; exact a.p
  · by_cases e : j = i
    · subst e; exact ⟨d, hd, us⟩
    · rw [un (by omega)]; exact a.d j hj
  · rw [un (by omega)]; exact a.st j hj
  · rw [un (by omega)]; exact c.1 j hj
  · rw [un (by omega)]; exact c.2
theorem MM.stock (h : MM mm ns nb nf u v) (hs : s < ns) {x : Int32} : MM mm ns nb nf (P_stock u s x) (P_stock v s x) := by
  have hs6 := h.1.s.2
  unfold P_stock
  rw [← h.2.2.2.ss hs (k := 4) (by omega), ← h.2.2.2.ss hs (k := 8) (by omega)]
  exact (h.free (by unfold fr; omega) (by unfold er; omega) (fun i => by omega) (by omega)).free (by unfold fr; omega) (by unfold er; omega) (fun i => by omega) (by omega)
theorem MM.back (h : MM mm ns nb nf u v) (hi : i < nb) {q : Nat} : MM mm ns nb nf (P_back u i q) (P_back v i q) := by
  obtain ⟨a, b, c, d⟩ := h
  have hs6 := a.s.2
  have hb6 := a.b.2
  have hk : ∀ z, 77 ≤ z → z ≠ 77 + 8 * i + 4 → z ≠ 77 + 8 * i + 5 → z ≠ 77 + 8 * i + 6 → P_back u i q z = u z := fun z h1 h2 h3 h4 => by
    unfold P_back P_avoid
    rw [un h4, P_ret_k h1 h2 h3 a hi]
  refine ⟨MV_avoid (MV_ret a hi) hi, EC.free hs6 (EC_ret a b hi) (by unfold er; omega), ⟨fun j hj => ?_, ?_⟩, ?_⟩
  · rw [hk _ (by omega) (by omega) (by omega) (by omega)]; exact c.1 j hj
  · have : P_back u i q 4 = u 4 := by
      unfold P_back P_avoid
      rw [un (by omega)]
      exact P_end1_lo_ret (by omega)
    rw [this]; exact c.2
  · have hS := S_ret d a hi
    unfold P_back P_avoid
    exact hS.upd (by rw [hS.b hi (by omega)])
end

