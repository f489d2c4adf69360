/-! the law's loop: ten arrays are made beside the class at each step -/
def inW (q : xQ) : Bool := match q.1 with
  | 0 => true
  | 1 => true
  | 2 => decide (q.2.1 + 77 < 2500)
  | 3 => decide (q.2.1 + 15 < 2500)
  | 4 => decide (q.2.1 + 13 < 2500)
  | 6 => true
  | 7 => true
  | 8 => true
  | 10 => decide (q.2.1 + 9 * q.2.2 ≤ 2500)
  | 11 => decide (q.2.1 + 8 * q.2.2 ≤ 2500)
  | 12 => decide (q.2.1 + 128 * q.2.2 ≤ 2500)
  | _ => false
set_option maxRecDepth 100000 in
theorem inW_X : ∀ q ∈ tbX, inW q = true ∧ q.2.1 < 2500 ∧ q.1 < 20 ∧ q.2.1 + x_sz q ≤ 2500 := by decide +kernel
theorem at_g {D : va_G} {a a' : Nat → Nat → Nat} {g2 : (Nat → ClassId) × (Nat → Nat)} {M : xM} (h : ∀ k z, k < 20 → z < 2500 → a' k z = a k z) {q : xQ} (hq : inW q = true) {ad : Nat} {H : Heap} (hv : va_at D xCl (ad, x_cell (a, g2) M q) H) : va_at D xCl (ad, x_cell (a', g2) M q) H := by
  obtain ⟨k, b, n⟩ := q
  unfold inW at hq
  match k, hq with
  | 0, _ => exact hv
  | 1, _ => exact hv
  | 2, hq =>
    have hq := of_decide_eq_true hq
    have hq : b + 77 < 2500 := hq
    have e : x_cell (a', g2) M (2, b, n) = x_cell (a, g2) M (2, b, n) := by
      show (Sum.inr (1, x_f2 (a', g2) b M) : va_E) = .inr (1, x_f2 (a, g2) b M)
      unfold x_f2
      rw [show (a', g2).1 10 (b + 23) = (a, g2).1 10 (b + 23) from h 10 (b + 23) (by omega) (by omega), show (a', g2).1 11 (b + 77) = (a, g2).1 11 (b + 77) from h 11 (b + 77) (by omega) (by omega), show (a', g2).1 6 (b + 11) = (a, g2).1 6 (b + 11) from h 6 (b + 11) (by omega) (by omega)]
    rw [e]
    exact hv
  | 3, hq =>
    have hq := of_decide_eq_true hq
    have hq : b + 15 < 2500 := hq
    have e : x_cell (a', g2) M (3, b, n) = x_cell (a, g2) M (3, b, n) := by
      show (Sum.inr (2, x_f3 (a', g2) b M) : va_E) = .inr (2, x_f3 (a, g2) b M)
      unfold x_f3
      rw [show (a', g2).1 7 (b + 15) = (a, g2).1 7 (b + 15) from h 7 (b + 15) (by omega) (by omega), show (a', g2).1 6 (b + 10) = (a, g2).1 6 (b + 10) from h 6 (b + 10) (by omega) (by omega)]
    rw [e]
    exact hv
  | 4, hq =>
    have hq := of_decide_eq_true hq
    have hq : b + 13 < 2500 := hq
    have e : x_cell (a', g2) M (4, b, n) = x_cell (a, g2) M (4, b, n) := by
      show (Sum.inr (4, x_f4 (a', g2) b M) : va_E) = .inr (4, x_f4 (a, g2) b M)
      unfold x_f4
      rw [show (a', g2).1 2 0 = (a, g2).1 2 0 from h 2 0 (by omega) (by omega), show (a', g2).1 2 128 = (a, g2).1 2 128 from h 2 128 (by omega) (by omega), show (a', g2).1 2 256 = (a, g2).1 2 256 from h 2 256 (by omega) (by omega), show (a', g2).1 3 1777 = (a, g2).1 3 1777 from h 3 1777 (by omega) (by omega), show (a', g2).1 12 384 = (a, g2).1 12 384 from h 12 384 (by omega) (by omega), show (a', g2).1 12 1408 = (a, g2).1 12 1408 from h 12 1408 (by omega) (by omega), show (a', g2).1 8 (b + 11) = (a, g2).1 8 (b + 11) from h 8 (b + 11) (by omega) (by omega), show (a', g2).1 7 (b + 13) = (a, g2).1 7 (b + 13) from h 7 (b + 13) (by omega) (by omega)]
    rw [e]
    exact hv
  | 6, _ => exact hv
  | 7, _ => exact hv
  | 8, _ => exact hv
  | 10, hq =>
    have hq := of_decide_eq_true hq
    have hq : b + 9 * n ≤ 2500 := hq
    exact Eq.trans (show H[ad]? = some (vp_cell (g2.1 4) (n, .inr (.inr (.inr (.inr (fun j => some (a 0 (b + 9 * j)))))))) from hv) (congrArg some (arr_q (fun j hj => (congrArg some (h 0 (b + 9 * j) (by omega) (by omega))).symm)))
  | 11, hq =>
    have hq := of_decide_eq_true hq
    have hq : b + 8 * n ≤ 2500 := hq
    exact Eq.trans (show H[ad]? = some (vp_cell (g2.1 5) (n, .inr (.inr (.inr (.inr (fun j => some (a 1 (b + 8 * j)))))))) from hv) (congrArg some (arr_q (fun j hj => (congrArg some (h 1 (b + 8 * j) (by omega) (by omega))).symm)))
  | 12, hq =>
    have hq := of_decide_eq_true hq
    have hq : b + 128 * n ≤ 2500 := hq
    exact Eq.trans (show H[ad]? = some (vp_cell (g2.1 6) (n, .inr (.inr (.inr (.inr (fun j => some (a 2 (b + 128 * j)))))))) from hv) (congrArg some (arr_q (fun j hj => (congrArg some (h 2 (b + 128 * j) (by omega) (by omega))).symm)))

def aS (qs : Nat → Nat) (a1 : Nat → Nat → Nat) : Nat → Nat → Nat := fun k z => if k = 6 ∧ 3000 ≤ z then qs ((z - 3000) / 16) else a1 k z
theorem aS_1 {qs : Nat → Nat} {a1 : Nat → Nat → Nat} {k z : Nat} (h : z < 2500) : aS qs a1 k z = a1 k z := if_neg (by omega)
theorem aS_2 {qs : Nat → Nat} {a1 : Nat → Nat → Nat} (k z : Nat) (h : 20 ≤ k) : aS qs a1 k z = a1 k z := if_neg (by omega)
def tbS (n m : Nat) : List xQ := [(6, 3000, n), (6, 3016, n), (6, 3032, n), (6, 3048, n), (6, 3064, m), (6, 3080, m), (6, 3096, m), (6, 3112, m), (6, 3128, m), (6, 3144, m)]
def zS_ (M : xM) : xM := fun z => if 3000 ≤ z ∧ z < 3160 then 0 else M z
theorem zS_lo {M : xM} {z : Nat} (h : z < 3000) : zS_ M z = M z := if_neg (by omega)
theorem apt_S : ∀ n, n < 7 → ∀ m, m < 7 → aptL (tbS n m) := by unfold aptL; decide +kernel
theorem tbS_lo {n m : Nat} : ∀ q ∈ tbS n m, 3000 ≤ q.2.1 := by
  intro q hq
  simp only [tbS, List.mem_cons, List.not_mem_nil, or_false] at hq
  rcases hq with rfl | rfl | rfl | rfl | rfl | rfl | rfl | rfl | rfl | rfl
  all_goals exact Nat.le_of_ble_eq_true rfl
theorem apt_XS {n m : Nat} (hn : n ≤ 6) (hm : m ≤ 6) : aptL (tbX ++ tbS n m) :=
  List.pairwise_append.mpr ⟨apt_X, apt_S n (by omega) m (by omega), fun q hq r hr => by
    have h1 := (inW_X q hq).2.2.2
    have h2 := tbS_lo r hr
    unfold apt
    rw [show decide (q.2.1 + x_sz q ≤ r.2.1) = true from decide_eq_true (by omega)]
    simp⟩
theorem x_KS2_a {g : xG} {a : Nat → Nat → Nat} {A : Nat → Prop} {U : State} (h : ∀ k z, 20 ≤ k → a k z = g.1 k z) (k : x_KS2 g A U) : x_KS2 (a, g.2) A U := by
  have e20 : a 20 = g.1 20 := funext (fun z => h 20 z (by decide))
  have e21 : a 21 = g.1 21 := funext (fun z => h 21 z (by decide))
  have e22 : a 22 = g.1 22 := funext (fun z => h 22 z (by decide))
  have e23 : a 23 = g.1 23 := funext (fun z => h 23 z (by decide))
  have e24 : a 24 = g.1 24 := funext (fun z => h 24 z (by decide))
  have e25 : a 25 = g.1 25 := funext (fun z => h 25 z (by decide))
  have e26 : a 26 = g.1 26 := funext (fun z => h 26 z (by decide))
  have e27 : a 27 = g.1 27 := funext (fun z => h 27 z (by decide))
  have e28 : a 28 = g.1 28 := funext (fun z => h 28 z (by decide))
  unfold x_KS2 x_KA x_scr at k ⊢
  show _ ∧ _ ∧ (∀ (i : Nat) (q : String × Nat × String), x_sl[i]? = some q → vk_R q.1 q.2.1 q.2.2 (a 20 i) U) ∧ _
  simp only [e20, e21, e22, e23, e24, e25, e26, e27, e28]
  exact k
/-- the law's walk over a class that stands: what does not change -/
def LB (p : Program) (s : State) (m : MethodId) (c : Code) (D : va_G) (g : xG) (args : Array Value) : Prop := NC p s m args c cL_law 26 RL D g (fun q : Nat => s.heap.size ≤ q) ∧ x_T g tbX ∧ (∀ q ∈ tbX, s.heap.size ≤ x_ad g q) ∧ g.1 27 0 < 1073741824
theorem LB.cc {p : Program} {s : State} {m : MethodId} {c : Code} {D : va_G} {g : xG} {args : Array Value} {a : Nat → Nat → Nat} {tb : List xQ} (h : LB p s m c D g args) (ha : ∀ k z, 20 ≤ k → a k z = g.1 k z) (hT : x_T (a, g.2) tb) (hge : ∀ q ∈ tb, s.heap.size ≤ x_ad (a, g.2) q) : CC p s m args c cL_law 26 RL D (a, g.2) tb := by
  obtain ⟨⟨n1, n2, n3, n4, n5, n6, n7, n8, n9⟩, -⟩ := h
  obtain ⟨u1, u2, u3, u4, u5⟩ := x_KS2_a ha n9
  refine ⟨n1, n2, n3, n4, n5, n6, hT, u1, u2, u3, u4, x_KA.to (Vm.Alike.refl s.vm) (fun _ _ _ => rfl) (fun q hq => ?_) u5⟩
  rcases hq with ⟨r, hr, e⟩ | hq
  · rw [e]
    exact hge r hr
  · exact hq
theorem LB.c0 {p : Program} {s : State} {m : MethodId} {c : Code} {D : va_G} {g : xG} {args : Array Value} (h : LB p s m c D g args) : CC p s m args c cL_law 26 RL D g tbX := LB.cc (a := g.1) h (fun _ _ _ => rfl) h.2.1 h.2.2.1
section XNW
variable {p : Program} {l : Launch} {e : Env} {R : Room} {s : State} {m : MethodId} {args : Array Value} {below : List Frame} {meth : Method} {c : Code} {cells slots : Nat} {Q : State → Prop}
variable {cc : ByteArray} {nL : Nat} {own : String} {D : va_G} {g : xG} {A : Nat → Prop} {pc : Nat} {lv : List (Nat × Value)} {st : List Value} {ws : va_W}
theorem n_astorew (C0 : NC p s m args c cc nL own D g A) {i x : Nat} {lv2 : List (Nat × Value)} (hn : i < nL) (hl : (i, Value.ref x) :: lv.filter (fun q => !(q.1 == i) && !(q.1 + 1 == i && q.2.category == 2)) = lv2) (hd : decode cc pc = .ok (.astore i, 2)) (k : WN p l e R s m args below meth c cells slots Q nL D A (pc + 2) lv2 st ws) : WN p l e R s m args below meth c cells slots Q nL D A pc lv (.ref x :: st) ws :=
  fun H locs ls h1 h2 h3 h4 => lv_astore C0.1 C0.2.1 hd h4 hn hl (fun ls2 h5 => k H locs ls2 h1 h2 h3 h5)
theorem n_iloadw (C0 : NC p s m args c cc nL own D g A) {i : Nat} {x : Int32} (j : Nat) (hj : lv[j]? = some (i, .int x)) (hd : decode cc pc = .ok (.iload i, 2)) (k : WN p l e R s m args below meth c cells slots Q nL D A (pc + 2) lv (.int x :: st) ws) : WN p l e R s m args below meth c cells slots Q nL D A pc lv st ws :=
  fun H locs ls h1 h2 h3 h4 => lv_iload C0.1 C0.2.1 hd (lv_at h4 j hj) (k H locs ls h1 h2 h3 h4)
end XNW
theorem S_ad {g : xG} {qs : Nat → Nat} {a1 : Nat → Nat → Nat} (i n : Nat) : x_ad (aS qs a1, g.2) (6, 3000 + 16 * i, n) = qs i := by
  show aS qs a1 6 (3000 + 16 * i) = qs i
  unfold aS
  rw [if_pos (by omega), show (3000 + 16 * i - 3000) / 16 = i by omega]
theorem S_one {D : va_G} {g : xG} {qs : Nat → Nat} {a1 : Nat → Nat → Nat} {M : xM} {H : Heap} {i n : Nat} (hi : i < 10) (hn : n ≤ 6) (h : va_at D xCl (qs i, .inl (g.2.1 0, n, .inl (fun _ => 0))) H) : va_at D xCl (x_ad (aS qs a1, g.2) (6, 3000 + 16 * i, n), x_cell (aS qs a1, g.2) (zS_ M) (6, 3000 + 16 * i, n)) H := by
  have e1 : x_ad (aS qs a1, g.2) (6, 3000 + 16 * i, n) = qs i := S_ad i n
  rw [e1]
  exact Eq.trans (show H[qs i]? = some (arrV (g.2.1 0) n (fun _ => .int 0)) from h) (congrArg some (x_arr (cA := g.2.1 0) (n := n) (f := fun _ => .int 0) (f' := fun j => .int (zS_ M (3000 + 16 * i + j))) (fun j hj => by
    show Value.int 0 = Value.int (zS_ M (3000 + 16 * i + j))
    unfold zS_
    rw [if_pos (by omega)])))
theorem S_P {D : va_G} {g : xG} {M : xM} {n m : Nat} (hn : n ≤ 6) (hm : m ≤ 6) {q0 q1 q2 q3 q4 q5 q6 q7 q8 q9 : Nat} {qs : Nat → Nat} (e0 : qs 0 = q0) (e1 : qs 1 = q1) (e2 : qs 2 = q2) (e3 : qs 3 = q3) (e4 : qs 4 = q4) (e5 : qs 5 = q5) (e6 : qs 6 = q6) (e7 : qs 7 = q7) (e8 : qs 8 = q8) (e9 : qs 9 = q9) :
    (tbX ++ tbS n m).map (x_ad (aS qs g.1, g.2)) = (((((((((((x_ws g tbX M ++ [(q0, .inl (g.2.1 0, n, .inl (fun _ => 0)))]) ++ [(q1, .inl (g.2.1 0, n, .inl (fun _ => 0)))]) ++ [(q2, .inl (g.2.1 0, n, .inl (fun _ => 0)))]) ++ [(q3, .inl (g.2.1 0, n, .inl (fun _ => 0)))]) ++ [(q4, .inl (g.2.1 0, m, .inl (fun _ => 0)))]) ++ [(q5, .inl (g.2.1 0, m, .inl (fun _ => 0)))]) ++ [(q6, .inl (g.2.1 0, m, .inl (fun _ => 0)))]) ++ [(q7, .inl (g.2.1 0, m, .inl (fun _ => 0)))]) ++ [(q8, .inl (g.2.1 0, m, .inl (fun _ => 0)))]) ++ [(q9, .inl (g.2.1 0, m, .inl (fun _ => 0)))]) : va_W).map Prod.fst ∧
    ∀ H, va_P D xCl (((((((((((x_ws g tbX M ++ [(q0, .inl (g.2.1 0, n, .inl (fun _ => 0)))]) ++ [(q1, .inl (g.2.1 0, n, .inl (fun _ => 0)))]) ++ [(q2, .inl (g.2.1 0, n, .inl (fun _ => 0)))]) ++ [(q3, .inl (g.2.1 0, n, .inl (fun _ => 0)))]) ++ [(q4, .inl (g.2.1 0, m, .inl (fun _ => 0)))]) ++ [(q5, .inl (g.2.1 0, m, .inl (fun _ => 0)))]) ++ [(q6, .inl (g.2.1 0, m, .inl (fun _ => 0)))]) ++ [(q7, .inl (g.2.1 0, m, .inl (fun _ => 0)))]) ++ [(q8, .inl (g.2.1 0, m, .inl (fun _ => 0)))]) ++ [(q9, .inl (g.2.1 0, m, .inl (fun _ => 0)))]) : va_W) H → x_H D (aS qs g.1, g.2) (tbX ++ tbS n m) (zS_ M) H := by
  have eX : tbX.map (x_ad (aS qs g.1, g.2)) = tbX.map (x_ad g) := List.map_congr_left (fun q hq => aS_1 (inW_X q hq).2.1)
  refine ⟨?_, fun H hP => ?_⟩
  · simp only [List.map_append, ws_fst]
    rw [eX]
    simp only [List.append_assoc]
    congr 1
    simp only [tbS, List.map_cons, List.map_nil, List.cons_append, List.nil_append]
    subst e0 e1 e2 e3 e4 e5 e6 e7 e8 e9
    rw [show x_ad (aS qs g.1, g.2) (6, 3000, n) = qs 0 from S_ad 0 _, show x_ad (aS qs g.1, g.2) (6, 3016, n) = qs 1 from S_ad 1 _, show x_ad (aS qs g.1, g.2) (6, 3032, n) = qs 2 from S_ad 2 _, show x_ad (aS qs g.1, g.2) (6, 3048, n) = qs 3 from S_ad 3 _, show x_ad (aS qs g.1, g.2) (6, 3064, m) = qs 4 from S_ad 4 _, show x_ad (aS qs g.1, g.2) (6, 3080, m) = qs 5 from S_ad 5 _, show x_ad (aS qs g.1, g.2) (6, 3096, m) = qs 6 from S_ad 6 _, show x_ad (aS qs g.1, g.2) (6, 3112, m) = qs 7 from S_ad 7 _, show x_ad (aS qs g.1, g.2) (6, 3128, m) = qs 8 from S_ad 8 _, show x_ad (aS qs g.1, g.2) (6, 3144, m) = qs 9 from S_ad 9 _]
  obtain ⟨hP, p9⟩ := P_app.mp hP
  obtain ⟨hP, p8⟩ := P_app.mp hP
  obtain ⟨hP, p7⟩ := P_app.mp hP
  obtain ⟨hP, p6⟩ := P_app.mp hP
  obtain ⟨hP, p5⟩ := P_app.mp hP
  obtain ⟨hP, p4⟩ := P_app.mp hP
  obtain ⟨hP, p3⟩ := P_app.mp hP
  obtain ⟨hP, p2⟩ := P_app.mp hP
  obtain ⟨hP, p1⟩ := P_app.mp hP
  obtain ⟨hP, p0⟩ := P_app.mp hP
  refine H_app.mpr ⟨P_iff.mpr (fun z hz => ?_), P_iff.mpr (fun z hz => ?_)⟩
  · obtain ⟨q, hq, rfl⟩ := List.mem_map.mp hz
    obtain ⟨h0, h1, h2, h4⟩ := inW_X q hq
    have hp : va_at D xCl (x_ad g q, x_cell g M q) H := P_iff.mp hP _ (List.mem_map.mpr ⟨q, hq, rfl⟩)
    rw [show x_ad (aS qs g.1, g.2) q = x_ad g q from aS_1 h1]
    refine x_agree (M := M) (fun z hz => zS_lo (by have := hz.2; omega)) (at_g (a := g.1) (g2 := g.2) (fun k z _ hz => aS_1 hz) h0 hp)
  · obtain ⟨q, hq, rfl⟩ := List.mem_map.mp hz
    subst e0 e1 e2 e3 e4 e5 e6 e7 e8 e9
    simp only [tbS, List.mem_cons, List.not_mem_nil, or_false] at hq
    rcases hq with rfl | rfl | rfl | rfl | rfl | rfl | rfl | rfl | rfl | rfl
    · exact S_one (i := 0) (by decide) hn (P_iff.mp p0 _ List.mem_cons_self)
    · exact S_one (i := 1) (by decide) hn (P_iff.mp p1 _ List.mem_cons_self)
    · exact S_one (i := 2) (by decide) hn (P_iff.mp p2 _ List.mem_cons_self)
    · exact S_one (i := 3) (by decide) hn (P_iff.mp p3 _ List.mem_cons_self)
    · exact S_one (i := 4) (by decide) hm (P_iff.mp p4 _ List.mem_cons_self)
    · exact S_one (i := 5) (by decide) hm (P_iff.mp p5 _ List.mem_cons_self)
    · exact S_one (i := 6) (by decide) hm (P_iff.mp p6 _ List.mem_cons_self)
    · exact S_one (i := 7) (by decide) hm (P_iff.mp p7 _ List.mem_cons_self)
    · exact S_one (i := 8) (by decide) hm (P_iff.mp p8 _ List.mem_cons_self)
    · exact S_one (i := 9) (by decide) hm (P_iff.mp p9 _ List.mem_cons_self)
/-- back to the class alone -/
theorem S_back {D : va_G} {g : xG} {qs : Nat → Nat} {M : xM} {n m : Nat} {H : Heap} (h : x_H D (aS qs g.1, g.2) (tbX ++ tbS n m) M H) : x_H D g tbX M H := by
  refine P_iff.mpr (fun z hz => ?_)
  obtain ⟨q, hq, rfl⟩ := List.mem_map.mp hz
  obtain ⟨h0, h1, h2, h4⟩ := inW_X q hq
  have hp : va_at D xCl (x_ad (aS qs g.1, g.2) q, x_cell (aS qs g.1, g.2) M q) H := P_iff.mp (H_app.mp h).1 _ (List.mem_map.mpr ⟨q, hq, rfl⟩)
  rw [show x_ad (aS qs g.1, g.2) q = x_ad g q from aS_1 h1] at hp
  exact at_g (a := aS qs g.1) (g2 := g.2) (a' := g.1) (fun k z _ hz => (aS_1 hz).symm) h0 hp
