/-! both systems side by side under one table -/
def inW (q : xQ) : Bool := match q.1 with
  | 0 => true
  | 1 => true
  | 2 => decide (q.2.1 + 77 < 2500)
  | 3 => decide (q.2.1 + 15 < 2500)
  | 4 => decide (q.2.1 + 13 < 2500)
  | 6 => true
  | 7 => true
  | 8 => true
  | 10 => decide (q.2.1 + 9 * q.2.2 ≤ 2500)
  | 11 => decide (q.2.1 + 8 * q.2.2 ≤ 2500)
  | 12 => decide (q.2.1 + 128 * q.2.2 ≤ 2500)
  | _ => false
set_option maxRecDepth 100000 in
theorem inW_X : ∀ q ∈ tbX, inW q = true ∧ q.2.1 < 2500 ∧ q.1 < 20 ∧ q.1 ≠ 9 ∧ q.2.1 + x_sz q ≤ 2500 := by decide +kernel
theorem at_g {D : va_G} {a a' : Nat → Nat → Nat} {g2 : (Nat → ClassId) × (Nat → Nat)} {M : xM} (h : ∀ k z, k < 20 → k ≠ 9 → z < 2500 → a' k z = a k z) {q : xQ} (hq : inW q = true) {ad : Nat} {H : Heap} (hv : va_at D xCl (ad, x_cell (a, g2) M q) H) : va_at D xCl (ad, x_cell (a', g2) M q) H := by
  obtain ⟨k, b, n⟩ := q
  unfold inW at hq
  match k, hq with
  | 0, _ => exact hv
  | 1, _ => exact hv
  | 2, hq =>
    have hq := of_decide_eq_true hq
    have hq : b + 77 < 2500 := hq
    have e : x_cell (a', g2) M (2, b, n) = x_cell (a, g2) M (2, b, n) := by
      show (Sum.inr (1, x_f2 (a', g2) b M) : va_E) = .inr (1, x_f2 (a, g2) b M)
      unfold x_f2
      rw [show (a', g2).1 10 (b + 23) = (a, g2).1 10 (b + 23) from h 10 (b + 23) (by omega) (by omega) (by omega), show (a', g2).1 11 (b + 77) = (a, g2).1 11 (b + 77) from h 11 (b + 77) (by omega) (by omega) (by omega), show (a', g2).1 6 (b + 11) = (a, g2).1 6 (b + 11) from h 6 (b + 11) (by omega) (by omega) (by omega)]
    rw [e]
    exact hv
  | 3, hq =>
    have hq := of_decide_eq_true hq
    have hq : b + 15 < 2500 := hq
    have e : x_cell (a', g2) M (3, b, n) = x_cell (a, g2) M (3, b, n) := by
      show (Sum.inr (2, x_f3 (a', g2) b M) : va_E) = .inr (2, x_f3 (a, g2) b M)
      unfold x_f3
      rw [show (a', g2).1 7 (b + 15) = (a, g2).1 7 (b + 15) from h 7 (b + 15) (by omega) (by omega) (by omega), show (a', g2).1 6 (b + 10) = (a, g2).1 6 (b + 10) from h 6 (b + 10) (by omega) (by omega) (by omega)]
    rw [e]
    exact hv
  | 4, hq =>
    have hq := of_decide_eq_true hq
    have hq : b + 13 < 2500 := hq
    have e : x_cell (a', g2) M (4, b, n) = x_cell (a, g2) M (4, b, n) := by
      show (Sum.inr (4, x_f4 (a', g2) b M) : va_E) = .inr (4, x_f4 (a, g2) b M)
      unfold x_f4
      rw [show (a', g2).1 2 0 = (a, g2).1 2 0 from h 2 0 (by omega) (by omega) (by omega), show (a', g2).1 2 128 = (a, g2).1 2 128 from h 2 128 (by omega) (by omega) (by omega), show (a', g2).1 2 256 = (a, g2).1 2 256 from h 2 256 (by omega) (by omega) (by omega), show (a', g2).1 3 1777 = (a, g2).1 3 1777 from h 3 1777 (by omega) (by omega) (by omega), show (a', g2).1 12 384 = (a, g2).1 12 384 from h 12 384 (by omega) (by omega) (by omega), show (a', g2).1 12 1408 = (a, g2).1 12 1408 from h 12 1408 (by omega) (by omega) (by omega), show (a', g2).1 8 (b + 11) = (a, g2).1 8 (b + 11) from h 8 (b + 11) (by omega) (by omega) (by omega), show (a', g2).1 7 (b + 13) = (a, g2).1 7 (b + 13) from h 7 (b + 13) (by omega) (by omega) (by omega)]
    rw [e]
    exact hv
  | 6, _ => exact hv
  | 7, _ => exact hv
  | 8, _ => exact hv
  | 10, hq =>
    have hq := of_decide_eq_true hq
    have hq : b + 9 * n ≤ 2500 := hq
    exact Eq.trans (show H[ad]? = some (vp_cell (g2.1 4) (n, .inr (.inr (.inr (.inr (fun j => some (a 0 (b + 9 * j)))))))) from hv) (congrArg some (arr_q (fun j hj => (congrArg some (h 0 (b + 9 * j) (by omega) (by omega) (by omega))).symm)))
  | 11, hq =>
    have hq := of_decide_eq_true hq
    have hq : b + 8 * n ≤ 2500 := hq
    exact Eq.trans (show H[ad]? = some (vp_cell (g2.1 5) (n, .inr (.inr (.inr (.inr (fun j => some (a 1 (b + 8 * j)))))))) from hv) (congrArg some (arr_q (fun j hj => (congrArg some (h 1 (b + 8 * j) (by omega) (by omega) (by omega))).symm)))
  | 12, hq =>
    have hq := of_decide_eq_true hq
    have hq : b + 128 * n ≤ 2500 := hq
    exact Eq.trans (show H[ad]? = some (vp_cell (g2.1 6) (n, .inr (.inr (.inr (.inr (fun j => some (a 2 (b + 128 * j)))))))) from hv) (congrArg some (arr_q (fun j hj => (congrArg some (h 2 (b + 128 * j) (by omega) (by omega) (by omega))).symm)))
def aA (gs : Nat → Nat → Nat) (q3 : Nat) (a1 a2 : Nat → Nat → Nat) : Nat → Nat → Nat := fun k z => if 20 ≤ k then gs k z else if k = 9 then q3 else if z < 2500 then a1 k z else a2 k z
theorem aA_1 {gs : Nat → Nat → Nat} {q3 : Nat} {a1 a2 : Nat → Nat → Nat} (k z : Nat) (h : k < 20) (h9 : k ≠ 9) (hz : z < 2500) : aA gs q3 a1 a2 k z = a1 k z := by
  unfold aA
  rw [if_neg (by omega), if_neg h9, if_pos hz]
/-- the world behind the law's makings -/
theorem all_P {D : va_G} {g : xG} {q3 : Nat} {a1 a2 : Nat → Nat → Nat} {M1 M2 : xM} (kM : ∀ z, z < 2500 → M2 z = M1 z) : tbA.map (x_ad (aA g.1 q3 a1 a2, g.2)) = (((([] : va_W) ++ x_ws (a1, g.2) tbX M1) ++ x_ws (a2, g.2) tbM M2) ++ ([(q3, .inl (g.2.1 3, 1, .inr (.inl (fun _ => 0))))] : va_W)).map Prod.fst ∧
    ∀ H, va_P D xCl (((([] : va_W) ++ x_ws (a1, g.2) tbX M1) ++ x_ws (a2, g.2) tbM M2) ++ [(q3, .inl (g.2.1 3, 1, .inr (.inl (fun _ => 0))))]) H → x_H D (aA g.1 q3 a1 a2, g.2) tbA (upd M2 5000 0) H := by
  have eM : x_ws (aA g.1 q3 a1 a2, g.2) tbM M2 = x_ws (a2, g.2) tbM M2 := rfl
  have eX : tbX.map (x_ad (aA g.1 q3 a1 a2, g.2)) = tbX.map (x_ad (a1, g.2)) := List.map_congr_left (fun q hq => by
    obtain ⟨-, h1, h2, h3, -⟩ := inW_X q hq
    exact aA_1 q.1 q.2.1 h2 h3 h1)
  refine ⟨?_, fun H hP => ?_⟩
  · unfold tbA
    simp only [List.map_append, ws_fst, List.nil_append]
    rw [eX, ← ws_fst (g := (aA g.1 q3 a1 a2, g.2)) (tb := tbM) (M := M2), eM, ws_fst]
    rfl
  · obtain ⟨hP, p3⟩ := P_app.mp hP
    obtain ⟨hP, p2⟩ := P_app.mp hP
    obtain ⟨-, p1⟩ := P_app.mp hP
    refine H_app.mpr ⟨H_app.mpr ⟨?_, ?_⟩, ?_⟩
    · refine P_iff.mpr (fun z hz => ?_)
      obtain ⟨q, hq, rfl⟩ := List.mem_map.mp hz
      obtain ⟨h0, h1, h2, h3, h4⟩ := inW_X q hq
      have hp : va_at D xCl (x_ad (a1, g.2) q, x_cell (a1, g.2) M1 q) H := P_iff.mp p1 _ (List.mem_map.mpr ⟨q, hq, rfl⟩)
      rw [show x_ad (aA g.1 q3 a1 a2, g.2) q = x_ad (a1, g.2) q from aA_1 q.1 q.2.1 h2 h3 h1]
      refine x_agree (M := M1) (fun z hz => ?_) (at_g (a := a1) (fun k z => aA_1 k z) h0 hp)
      have := hz.2
      rw [un (by omega)]
      exact kM z (by omega)
    · refine H_cong (M := M2) (fun q hq z hz => un (by have := lt_XM q (List.mem_append_right _ hq); have := hz.2; omega)) ?_
      unfold x_H
      rw [eM]
      exact p2
    · refine P_iff.mpr (fun z hz => ?_)
      have ez : z = (q3, x_cell (aA g.1 q3 a1 a2, g.2) (upd M2 5000 0) (9, 5000, 1)) := List.mem_singleton.mp hz
      subst ez
      have hp := P_iff.mp p3 _ List.mem_cons_self
      exact Eq.trans (show H[q3]? = some (arrV (g.2.1 3) 1 (fun _ => .long 0)) from hp) (congrArg some (x_arr (cA := g.2.1 3) (n := 1) (f := fun _ => .long 0) (f' := fun j => .long (upd M2 5000 0 (5000 + j)).toInt64) (fun j hj => by
        have : j = 0 := by omega
        subst this
        show Value.long 0 = Value.long (upd M2 5000 0 (5000 + 0)).toInt64
        rw [us]
        rfl)))
section XNL
variable {p : Program} {l : Launch} {e : Env} {R : Room} {s : State} {m : MethodId} {args : Array Value} {below : List Frame} {meth : Method} {c : Code} {cells slots : Nat} {Q : State → Prop}
variable {cc : ByteArray} {nL : Nat} {own : String} {D : va_G} {g : xG} {A : Nat → Prop} {pc : Nat} {lv : List (Nat × Value)} {st : List Value} {ws : va_W}
theorem n_istore (C0 : NC p s m args c cc nL own D g A) {i : Nat} {x : Int32} {lv2 : List (Nat × Value)} (hn : i < nL) (hl : (i, Value.int x) :: lv.filter (fun q => !(q.1 == i) && !(q.1 + 1 == i && q.2.category == 2)) = lv2) (hd : decode cc pc = .ok (.istore i, 2)) (k : WN p l e R s m args below meth c cells slots Q nL D A (pc + 2) lv2 st ws) : WN p l e R s m args below meth c cells slots Q nL D A pc lv (.int x :: st) ws :=
  fun H locs ls h1 h2 h3 h4 => lv_istore C0.1 C0.2.1 hd h4 hn hl (fun ls2 h5 => k H locs ls2 h1 h2 h3 h5)
theorem n_newl (C0 : NC p s m args c cc nL own D g A) (hw : Cond.arrayClass .long ∈ xA) {n : Int32} {N : Nat} (hn : ¬ n < 0) (hN : n.toNatClampNeg = N) (hbytes : N * componentBytes .long ≤ 536870912) (hc : cells + 1 ≤ R.cells) (hs : slots + N ≤ R.slots) (hd : decode cc pc = .ok (.newarray .long, 2))
    (k : ∀ q, WN p l e R s m args below meth c (cells + 1) (slots + N) Q nL D A (pc + 2) lv (.ref q :: st) (ws ++ [(q, .inl (g.2.1 3, N, .inr (.inl (fun _ => 0))))])) : WN p l e R s m args below meth c cells slots Q nL D A pc lv (.int n :: st) ws := fun H locs ls h1 h2 h3 h4 => by
  refine va_newa (atype := .long) (a0 := (N, .inr (.inl (fun _ => 0)))) (ty := .long) C0.1 C0.2.1 (C0.2.2.2.2.1 _ hw) rfl C0.2.2.2.2.2.1 h1 h2 h3 C0.2.2.2.2.2.2.2.1 (fun cA => rfl) hn hN hbytes hc hs hd (fun q cA H1 hK hP hD hS => ?_)
  have e1 : s.vm.findClass ("[" ++ FieldType.long.toString) = some cA := (hK.2 (x_tys g).length (cA, .long) (by simp)).2
  have e2 : s.vm.findClass ("[" ++ FieldType.long.toString) = some (g.2.1 3) := (C0.2.2.2.2.2.1.2 3 (g.2.1 3, .long) rfl).2
  have e : cA = g.2.1 3 := Option.some.inj (e1.symm.trans e2)
  subst e
  exact k q H1 locs ls hP hD hS h4
end XNL
set_option maxRecDepth 100000 in
theorem zx_in : ∀ w ∈ [Cond.arrayOver (.object RX4), .arrayOver (.object RX1), .arrayOver (.object RX2), .methodLinkNest RX2 27 yX4_init "FogBellMarket", .methodLinkNest RX2 28 yX1_init "FogBellMarket", .methodLinkNest RX6 24 yX3_init "FogBellMarket"], w ∈ lw_tbl := by decide +kernel
set_option maxRecDepth 100000 in
set_option maxHeartbeats 4000000 in
theorem law_start (l : Launch) (hlst : l.stackTraces = false) {p : Program} {e : Env} {s : State} {m : MethodId} {below : List Frame} {meth : Method} {c : Code} {Q : State → Prop} {b L : Nat} {xs : Nat → Int32} (hL : L ≤ 3072) (hx : p.tables.exec = Jvm.exec) (hb : c.code = cL_law) (hml : c.maxLocals = 9) (hown : s.vm.findClass RL = some m.cls) (hts : ∀ w ∈ lw_tbl, w.before #[Value.ref b] s = true) (hX : va_X b L xs s s.heap) (hbl : b < s.heap.size) (hgv : (Jvm.Cond.and given_1 narrow_1).before #[Value.ref b] s = true)
    (hE : ∀ (H : Heap) (locs : List Loc) (ls : Array Slot) (cells slots : Nat), (∀ q ∈ locs, s.heap.size ≤ q.base) → cells ≤ 601024 → slots ≤ 7293034 → W p l e room_1 s m #[.ref b] below meth c H locs cells slots Q (F0 m 3083 ls [.int 1])) :
    W p l e room_1 s m #[Value.ref b] below meth c s.heap [] 0 0 Q (entryFrame m ([Value.ref b] : List Value).toArray 9) := by
  obtain ⟨D, g, hK, hKS⟩ := z_all (A := fun q : Nat => s.heap.size ≤ q) (flat_of_before _ hgv) hts (fun a ha => Nat.not_le.mpr ha)
  have hzx := fun w hw => hts w (zx_in w hw)
  have hNX : NX s := ⟨⟨va_AO.of (hzx _ (List.mem_of_getElem? (i := 0) rfl)), va_AO.of (hzx _ (List.mem_of_getElem? (i := 1) rfl)), va_AO.of (hzx _ (List.mem_of_getElem? (i := 2) rfl))⟩, va_Nw.of rfl (hzx _ (List.mem_of_getElem? (i := 3) rfl)), va_Nw.of rfl (hzx _ (List.mem_of_getElem? (i := 4) rfl)), va_Nw.of rfl (hzx _ (List.mem_of_getElem? (i := 5) rfl))⟩
  have C0 : NC p s m #[.ref b] c cL_law 9 RL D g (fun q : Nat => s.heap.size ≤ q) := ⟨hx, hb, hml, hown, fun w hw => hts w (xA_in hw), hK, hNX, fun q h => h, hKS⟩
  have K : WN p l e room_1 s m #[.ref b] below meth c 0 0 Q 9 D (fun q : Nat => s.heap.size ≤ q) 0 [(0, .ref b)] [] [] := by
    refine n_make C0 (c_X6_init l D g) x_lays4 tyX6 tyX6_ok rfl (fun j hj => by rcases (show j = 0 ∨ j = 1 ∨ j = 2 ∨ j = 3 ∨ j = 4 ∨ j = 5 ∨ j = 6 ∨ j = 7 ∨ j = 8 ∨ j = 9 ∨ j = 10 by omega) with rfl | rfl | rfl | rfl | rfl | rfl | rfl | rfl | rfl | rfl | rfl <;> rfl) w1_22 w1_23 w1_1 w1_24 w1_25 w1_1 w1_26 rfl ⟨by decide +kernel, by decide +kernel, by decide +kernel⟩ ⟨rfl, rfl⟩ ⟨Nat.le_of_ble_eq_true rfl, Nat.le_of_ble_eq_true rfl⟩ (Nat.le_of_ble_eq_true rfl) (Nat.le_of_ble_eq_true rfl) (Nat.le_of_ble_eq_true rfl) dL_law_0 dL_law_3 dL_law_4 (fun q1 w1 hw1 => ?_)
    obtain ⟨a1, M1, rfl, hg1, rfl, oX1⟩ := hw1
    refine n_astore_n C0 (kk := 1) (lv2 := [(1, .ref (a1 4 1664)), (0, .ref b)]) (by decide) rfl dL_law_7 ?_
    refine n_make C0 (c_X7_init l D g oX1) x_lays5 tyX7 tyX7_ok rfl (fun j hj => by rcases (show j = 0 ∨ j = 1 ∨ j = 2 ∨ j = 3 ∨ j = 4 ∨ j = 5 ∨ j = 6 ∨ j = 7 ∨ j = 8 ∨ j = 9 ∨ j = 10 ∨ j = 11 ∨ j = 12 ∨ j = 13 ∨ j = 14 ∨ j = 15 ∨ j = 16 ∨ j = 17 ∨ j = 18 ∨ j = 19 by omega) with rfl | rfl | rfl | rfl | rfl | rfl | rfl | rfl | rfl | rfl | rfl | rfl | rfl | rfl | rfl | rfl | rfl | rfl | rfl | rfl <;> rfl) w5_224 w5_225 w1_14 w5_226 w5_227 w1_14 w5_228 rfl ⟨by decide +kernel, by decide +kernel, by decide +kernel⟩ ⟨rfl, rfl⟩ ⟨Nat.le_of_ble_eq_true rfl, Nat.le_of_ble_eq_true rfl⟩ (Nat.le_of_ble_eq_true rfl) (Nat.le_of_ble_eq_true rfl) (Nat.le_of_ble_eq_true rfl) dL_law_8 dL_law_11 dL_law_12 (fun q2 w2 hw2 => ?_)
    obtain ⟨a2, M2, rfl, hg2, rfl, kM, hRR⟩ := hw2
    refine n_astore_n C0 (kk := 2) (lv2 := [(2, .ref (a2 5 2500)), (1, .ref (a1 4 1664)), (0, .ref b)]) (by decide) rfl dL_law_15 ?_
    refine n_iconst C0 (v := 1) rfl dL_law_16 ?_
    refine n_newl C0 w8_114 (N := 1) (by decide) (by decide) (by decide) (Nat.le_of_ble_eq_true rfl) (Nat.le_of_ble_eq_true rfl) dL_law_17 (fun q3 => ?_)
    refine n_astore_n C0 (kk := 3) (lv2 := [(3, .ref q3), (2, .ref (a2 5 2500)), (1, .ref (a1 4 1664)), (0, .ref b)]) (by decide) rfl dL_law_19 ?_
    refine n_iconst C0 (v := 0) rfl dL_law_20 ?_
    refine n_istore C0 (lv2 := [(4, .int 0), (3, .ref q3), (2, .ref (a2 5 2500)), (1, .ref (a1 4 1664)), (0, .ref b)]) (by decide) rfl dL_law_21 ?_
    intro H locs ls h1 h2 h3 h4
    obtain ⟨eA, eP⟩ := all_P (D := D) (g := g) (q3 := q3) (a1 := a1) (a2 := a2) kM
    have hP := eP H h1
    have hD : va_D (fun q : Nat => s.heap.size ≤ q) (x_ws (aA g.1 q3 a1 a2, g.2) tbA (upd M2 5000 0)) := D_addr (by rw [ws_fst]; exact eA) h2
    have hT : x_T (aA g.1 q3 a1 a2, g.2) tbA := T_of hD apt_A
    have hAX : ∀ q, x_A (aA g.1 q3 a1 a2, g.2) tbA s.heap.size q → s.heap.size ≤ q := by
      intro q hq
      rcases hq with ⟨r, hr, e⟩ | hq
      · rw [e]
        exact (D_iff.mp hD).2 (x_ad _ r, x_cell _ (upd M2 5000 0) r) (List.mem_map.mpr ⟨r, hr, rfl⟩)
      · exact hq
    have hKX : x_KS (aA g.1 q3 a1 a2, g.2) tbA s := by
      obtain ⟨u1, u2, u3, u4, u5⟩ := hKS
      exact ⟨u1, u2, u3, u4, x_KA.to (Vm.Alike.refl s.vm) (fun _ _ _ => rfl) hAX u5⟩
    have h : LC p s m c b L xs D (aA g.1 q3 a1 a2, g.2) := ⟨⟨hx, hb, hml, hown, fun w hw => hts w (xA_in hw), hK, hT, hKX⟩, hX, hbl, fun q => absurd (hAX b q) (Nat.not_le.mpr hbl), hL⟩
    have LL := law_loop l hlst (Q := Q) (below := below) (meth := meth) (e := e) h (c0 := 300) (s0 := 6000) (by decide) (by decide) (fun i cells slots M hc hs => by
      refine r_iconst h.1 (v := 1) dL_law_3082 rfl ?_
      intro H locs ls h1 h2 h3
      exact hE H locs ls cells slots (fun q hq => hAX _ (h2.2.2 q hq)) hc hs) (L + 1) 0 (upd M2 5000 0) (by omega) (by decide) (RR_o hRR)
    have L2 : ∀ cells slots, cells ≤ 300 → slots ≤ 6000 → WW p l e room_1 s m #[.ref b] below meth c cells slots Q 9 D (aA g.1 q3 a1 a2, g.2) tbA 23 [(4, .int 0), (3, .ref q3), (2, .ref (a2 5 2500)), (1, .ref (a1 4 1664)), (0, .ref b)] [] (upd M2 5000 0) := fun cells slots hc hs => WW.sub [4, 3, 2, 1, 0] rfl (WW.widen (k := 300 + 6 * 0) (n := 6000 + 36 * 0) hc hs LL)
    exact L2 _ _ (by exact Nat.le_of_ble_eq_true rfl) (by exact Nat.le_of_ble_eq_true rfl) H locs ls hP (S_up (fun q hq => Or.inr hq) h3) h4
  have hl := lv_entry ([.ref b] : List Value) (n := 9) (Nat.le_of_ble_eq_true rfl)
  rw [lg_entry_eq]
  exact K s.heap [] _ (fun k q h => by simp at h) ⟨fun i j p q h => by simp at h, fun k q h => by simp at h⟩ va_S.rf hl
