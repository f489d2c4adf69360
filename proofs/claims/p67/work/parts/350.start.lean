/-! the law from its entry, the mirrors' part (MKP) given -/
set_option maxRecDepth 100000 in
theorem zx_in : ∀ w ∈ [Cond.arrayOver (.object RX4), .arrayOver (.object RX1), .arrayOver (.object RX2), .methodLinkNest RX2 27 yX4_init "FogBellMarket", .methodLinkNest RX2 28 yX1_init "FogBellMarket", .methodLinkNest RX6 24 yX3_init "FogBellMarket"], w ∈ lw_tbl := by decide +kernel
set_option maxRecDepth 100000 in
set_option maxHeartbeats 4000000 in
theorem law_start (l : Launch) {Pq : Nat → Nat → xM → Prop} (hM : MKP Pq) (hCI : ∀ ns nb (M : xM), 1 ≤ ns → ns ≤ 6 → 1 ≤ nb → nb ≤ 6 → Pq ns nb M → ∃ nf, CI ns nb nf 1000 M) {p : Program} {e : Env} {s : State} {m : MethodId} {below : List Frame} {meth : Method} {c : Code} {Q : State → Prop} {b L : Nat} {xs : Nat → Int32} (hL : L ≤ 260) (hx : p.tables.exec = Jvm.exec) (hb : c.code = cL_law) (hml : c.maxLocals = 26) (hown : s.vm.findClass RL = some m.cls) (hts : ∀ w ∈ lw_tbl, w.before #[Value.ref b] s = true) (hX : va_X b L xs s s.heap) (hbl : b < s.heap.size) (hgv : (Jvm.Cond.and given_1 narrow_1).before #[Value.ref b] s = true)
    (hE : ∀ (H : Heap) (locs : List Loc) (ls : Array Slot), (∀ q ∈ locs, s.heap.size ≤ q.base) → W p l e room_1 s m #[.ref b] below meth c H locs 2800 64800 Q (F0 m 1108 ls [.int 1])) :
    W p l e room_1 s m #[Value.ref b] below meth c s.heap [] 0 0 Q (entryFrame m ([Value.ref b] : List Value).toArray 26) := by
  obtain ⟨D, g, hK, hKS, e26, e27⟩ := z_all (A := fun q : Nat => s.heap.size ≤ q) hX (Nat.not_le.mpr hbl) (flat_of_before _ hgv) hts (fun a ha => Nat.not_le.mpr ha)
  subst e26
  have hL27 : g.1 27 0 < 1073741824 := by omega
  have hzx := fun w hw => hts w (zx_in w hw)
  have hNX : NX s := ⟨⟨va_AO.of (hzx _ (List.mem_of_getElem? (i := 0) rfl)), va_AO.of (hzx _ (List.mem_of_getElem? (i := 1) rfl)), va_AO.of (hzx _ (List.mem_of_getElem? (i := 2) rfl))⟩, va_Nw.of rfl (hzx _ (List.mem_of_getElem? (i := 3) rfl)), va_Nw.of rfl (hzx _ (List.mem_of_getElem? (i := 4) rfl)), va_Nw.of rfl (hzx _ (List.mem_of_getElem? (i := 5) rfl))⟩
  have C0 : NC p s m #[.ref (g.1 26 0)] c cL_law 26 RL D g (fun q : Nat => s.heap.size ≤ q) := ⟨hx, hb, hml, hown, xA_hts hts, hK, hNX, fun q h => h, hKS⟩
  have K : WN p l e room_1 s m #[.ref (g.1 26 0)] below meth c 0 0 Q 26 D (fun q : Nat => s.heap.size ≤ q) 0 [(0, .ref (g.1 26 0))] [] [] := by
    refine q_aload_n C0 (kk := 0) 0 rfl dL_law_0 ?_
    refine m_callSr C0 (w0 := []) (wr := []) (As := [.ref (g.1 26 0)]) (rest := []) (mL_market l D g hL27 hM) (List.Perm.refl _) oG_none w2_124 w2_125 w2_126 w1_0 hdL_market rfl ⟨rfl, rfl⟩ ⟨Nat.le_of_ble_eq_true rfl, Nat.le_of_ble_eq_true rfl⟩ (Nat.le_of_ble_eq_true rfl) (Nat.le_of_ble_eq_true rfl) rfl (Nat.le_of_ble_eq_true rfl) dL_law_1 ?_
    rintro a w1 ⟨a1, M, ns, nb, rfl, rfl, hg1, hTX, p1, p2, p3, p4, hP⟩
    refine WN.eqw (List.append_nil _) ?_
    refine q_astore_n C0 (kk := 1) (lv2 := [(1, .ref (a1 4 1664)), (0, .ref (g.1 26 0))]) (by decide) rfl dL_law_4 ?_
    refine q_aload_n C0 (kk := 1) 0 rfl dL_law_5 ?_
    refine q_nnull C0 (tgt := 11) (by decide) dL_law_6 ?_
    refine q_iconst C0 (v := 0) dL_law_11 rfl ?_
    refine q_istore_n C0 (kk := 2) (lv2 := [(2, .int 0), (1, .ref (a1 4 1664)), (0, .ref (g.1 26 0))]) (by decide) rfl dL_law_12 ?_
    refine WN.sub (lv2 := [(0, .ref (g.1 26 0)), (1, .ref (a1 4 1664)), (2, .int (nI 0))]) [2, 1, 0] rfl ?_
    intro H locs ls h1 h2 h3 h4
    have hge : ∀ q ∈ tbX, s.heap.size ≤ x_ad (a1, g.2) q := fun q hq => (D_iff.mp h2).2 (x_ad (a1, g.2) q, x_cell (a1, g.2) M q) (List.mem_map.mpr ⟨q, hq, rfl⟩)
    have hAX : ∀ q, x_A (a1, g.2) tbX s.heap.size q → s.heap.size ≤ q := by
      intro q hq
      rcases hq with ⟨r, hr, e⟩ | hq
      · rw [e]
        exact hge r hr
      · exact hq
    have h27 : (a1, g.2).1 27 0 < 1073741824 := by
      show a1 27 0 < _
      rw [hg1 27 0 (by decide)]
      exact hL27
    have h : LB p s m c D (a1, g.2) #[.ref (g.1 26 0)] := ⟨C0.a hg1, hTX, hge, h27⟩
    obtain ⟨nf, hI⟩ := hCI ns nb M p1 p2 p3 p4 hP
    have LL := law_loop (l := l) (Q := Q) (below := below) (meth := meth) (e := e) h (c0 := 2000) (s0 := 60000) (Nat.le_of_ble_eq_true rfl) (Nat.le_of_ble_eq_true rfl) (fb_in (fun q hq => hq)) (ns := ns) (nb := nb) (nf := nf) (fun {M2} H locs ls k1 k2 k3 => hE H locs ls (fun q hq => hAX _ (k2.2.2 q hq))) 80 0 M rfl hI
    rw [show (a1, g.2).1 26 0 = g.1 26 0 from hg1 26 0 (by decide)] at LL
    exact W.widen (k := 2000 + 10 * 0) (n := 60000 + 60 * 0) (Nat.le_of_ble_eq_true rfl) (Nat.le_of_ble_eq_true rfl) (LL H locs ls h1 (S_up (fun q hq => Or.inr hq) h3) h4)
  have hl := lv_entry ([.ref (g.1 26 0)] : List Value) (n := 26) (Nat.le_of_ble_eq_true rfl)
  rw [lg_entry_eq]
  exact K s.heap [] _ (fun k q h => by simp at h) ⟨fun i j p q h => by simp at h, fun k q h => by simp at h⟩ va_S.rf hl
