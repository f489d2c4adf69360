/-! restore: its contract -/
section XU13
variable {p : Program} {l : Launch} {e : Env} {R : Room} {s : State} {m : MethodId} {args : Array Value} {below : List Frame} {meth : Method} {c : Code} {cells slots : Nat} {Q : State → Prop}
variable {cc : ByteArray} {nL : Nat} {own : String} {D : va_G} {g : xG} {tb : List xQ} {pc : Nat} {lv : List (Nat × Value)} {st : List Value} {M : xM}
theorem r_throw13 (C0 : CC p s m args c cc nL own D g tb) (hlst : l.stackTraces = false) (hlk : meth.locks = false) (htab : ∀ x ∈ c.exceptionTable.toList, False) {Qc : Array Value → State → Outcome → State → Prop} {mc ms is si : Nat} {tx : String} (hown6 : own = RX6) (hsi : x_sl[si]? = some (own, is, tx))
    (d0 : decode cc pc = .ok (.new 326, 3)) (d3 : decode cc (pc + 3) = .ok (.dup, 1)) (d4 : decode cc (pc + 4) = .ok (.ldc_w is, 3)) (d6 : decode cc (pc + 7) = .ok (.invokespecial 330, 3)) (d9 : decode cc (pc + 10) = .ok (.athrow, 1))
    (hf1 : 5 < R.frames) (hl1 : (st.map fun v => v.category).sum + 82 ≤ R.locals) (hc1 : cells + 1 ≤ R.cells) (hs1 : slots + 6 ≤ R.slots) (hc : cells + 1 ≤ mc) (hs : slots + 6 ≤ ms) :
    WW p l e R s m args below meth c cells slots (vx_MQ below Qc (tX D g tb 4 M s.heap.size) args s mc ms (x_A g tb s.heap.size)) nL D g tb pc lv st M := by
  intro H locs ls h1 h2 h3
  subst hown6
  obtain ⟨hx, hb, hml, hown, hts, hK, hT, k1, k2, k3, k4, kU, kN, -⟩ := C0
  refine x_throw13W (is := is) (A := x_A g tb s.heap.size) hx hb hlst hown (hts _ w5_208) (hts _ w1_21) (k3 si _ hsi) ?_ kU kN h2 (h3.1.trans hml.symm) d0 d3 d4 d6 d9 (fun x hx => (htab x hx).elim) hf1 hl1 hc1 hs1 hlk ?_ h2.2.2 hc hs
  · exact vx_hat (fun w hw => hts w (List.mem_filter.mpr ⟨at13_1 w hw, (List.mem_filter.mp hw).2⟩)) at13_2 (fun w hw => (k1 w hw).use (by
      simp only [x_dw, List.mem_cons, List.not_mem_nil, or_false] at hw
      rcases hw with rfl | rfl | rfl | rfl | rfl | rfl | rfl | rfl | rfl | rfl | rfl
      all_goals rfl))
  · intro t ha hz hq
    refine ⟨(), (by decide), ⟨rfl, va_P.kept h1 (fun k q hk => hq q.1 (h1 k q hk).lt)⟩, ?_⟩
    exact ⟨Nat.le_trans h2.1 hz, fun q a b => (hq q (Nat.lt_of_lt_of_le a h2.1)).trans (h2.2.1 q a b)⟩
end XU13
theorem x_tstartI4 {l : Launch} {D : va_G} {g : xG} {tb : List xQ} {M M' : xM} {y : MethodName} {cc : ByteArray} {nL mc : Nat} {rm : Room} {as : List Value} {own : String} {lv : List (Nat × Value)} {k : Nat} {r : Int32}
    (hy : plainName y.cls = true) (hown' : y.cls = own) (hlv : lv_args 0 as = lv) (hln : (lg_sl as).length ≤ nL) (hT : x_T g tb)
    (body : ∀ (p : Program) (e : Env) (s : State) (m : MethodId) (args : Array Value) (below : List Frame) (meth : Method) (c : Code) (Q : State → Prop), CC p s m args c cc nL own D g tb →
      (∀ {pc : Nat} {lv : List (Nat × Value)} {cells slots : Nat} {v : Int32} {M0 : xM}, cells ≤ mc → slots ≤ 6 * mc → (some (0, v, M0) : Option (Nat × Int32 × xM)) = some (k, r, M') → decode cc pc = .ok (.ireturn, 1) → WW p l e rm s m args below meth c cells slots Q nL D g tb pc lv [.int v] M0) →
      (∀ {pc : Nat} {H : Heap} {locs : List Loc} {ls : Array Slot} {rest : List Value} {E : String} {ce : Cell} {q : Addr} {k0 cells slots : Nat} {M0 : xM}, cells ≤ mc → slots ≤ 6 * mc → ¬ k0 = 0 → E = x_ex k0 → x_H D g tb M0 H → va_S (x_A g tb s.heap.size) s.heap H locs → H[q]? = some ce → ce.vm = .none → s.vm.findClass E = some ce.cls → (some (k0, (0 : Int32), M0) : Option (Nat × Int32 × xM)) = some (k, r, M') → vx_W p l e rm s m args below meth c H locs cells slots Q (F0 m pc ls rest) q) →
      (∀ {pc is si cells slots : Nat} {lv : List (Nat × Value)} {st : List Value} {tx : String} {M0 : xM}, l.stackTraces = false → own = RX6 → x_sl[si]? = some (own, is, tx) → decode cc pc = .ok (.new 326, 3) → decode cc (pc + 3) = .ok (.dup, 1) → decode cc (pc + 4) = .ok (.ldc_w is, 3) → decode cc (pc + 7) = .ok (.invokespecial 330, 3) → decode cc (pc + 10) = .ok (.athrow, 1) →
        5 < rm.frames → (st.map fun v => v.category).sum + 82 ≤ rm.locals → cells + 1 ≤ rm.cells → slots + 6 ≤ rm.slots → cells + 1 ≤ mc → slots + 6 ≤ 6 * mc → (some (4, (0 : Int32), M0) : Option (Nat × Int32 × xM)) = some (k, r, M') → WW p l e rm s m args below meth c cells slots Q nL D g tb pc lv st M0) →
      WW p l e rm s m args below meth c 0 0 Q nL D g tb 0 lv [] M) : tI l D g tb y cc nL .int rm mc as M k r M' := by
  intro sz
  refine x_tstart hy hown' hlv hln hT ?_
  rintro p e s m below meth c rfl C0 hr hlk htab
  refine body p e s m _ below meth c _ C0 ?_ ?_ ?_
  · intro pc lv cells slots v M0 a1 a2 hf hd
    cases hf
    exact fun H locs ls h1 h2 h3 => W.widen a1 a2 (vx_ret (W.iret C0.1 C0.2.1 hr (fun t ht hW => ⟨⟨_, (), rfl, ⟨rfl, rfl⟩, x_Bend C0 h1 h2 ht hW⟩, h2.F ht⟩) h2.2.2 hd hlk))
  · intro pc H locs ls rest E ce q k0 cells slots M0 a1 a2 a3 a4 a5 a6 a7 a8 a9 hf
    cases hf
    exact r_out hlk htab a3 a4 a5 a6 a7 a8 a9 a1 a2
  · intro pc is si cells slots lv st tx M0 b1 b2 b5 d0 d3 d4 d6 d9 c1 c2 c3 c4 c5 c6 hf
    cases hf
    exact r_throw13 C0 b1 hlk htab b2 b5 d0 d3 d4 d6 d9 c1 c2 c3 c4 c5 c6
theorem dX6_restore_0 : decode cX6_restore 0 = .ok (.iload_n 1, 1) := by decide +kernel
theorem dX6_restore_1 : decode cX6_restore 1 = .ok (.iconst 0, 1) := by decide +kernel
theorem dX6_restore_2 : decode cX6_restore 2 = .ok (.iconst 1, 1) := by decide +kernel
theorem dX6_restore_3 : decode cX6_restore 3 = .ok (.invokestatic 123, 3) := by decide +kernel
theorem dX6_restore_6 : decode cX6_restore 6 = .ok (.aload_n 0, 1) := by decide +kernel
theorem dX6_restore_7 : decode cX6_restore 7 = .ok (.getfield 36, 3) := by decide +kernel
theorem dX6_restore_10 : decode cX6_restore 10 = .ok (.iload_n 1, 1) := by decide +kernel
theorem dX6_restore_11 : decode cX6_restore 11 = .ok (.baload, 1) := by decide +kernel
theorem dX6_restore_12 : decode cX6_restore 12 = .ok (.ifCond .ne 14, 3) := by decide +kernel
theorem dX6_restore_15 : decode cX6_restore 15 = .ok (.new 326, 3) := by decide +kernel
theorem dX6_restore_18 : decode cX6_restore 18 = .ok (.dup, 1) := by decide +kernel
theorem dX6_restore_19 : decode cX6_restore 19 = .ok (.ldc_w 328, 3) := by decide +kernel
theorem dX6_restore_22 : decode cX6_restore 22 = .ok (.invokespecial 330, 3) := by decide +kernel
theorem dX6_restore_25 : decode cX6_restore 25 = .ok (.athrow, 1) := by decide +kernel
theorem dX6_restore_26 : decode cX6_restore 26 = .ok (.aload_n 0, 1) := by decide +kernel
theorem dX6_restore_27 : decode cX6_restore 27 = .ok (.getfield 10, 3) := by decide +kernel
theorem dX6_restore_30 : decode cX6_restore 30 = .ok (.aload_n 0, 1) := by decide +kernel
theorem dX6_restore_31 : decode cX6_restore 31 = .ok (.getfield 33, 3) := by decide +kernel
theorem dX6_restore_34 : decode cX6_restore 34 = .ok (.iload_n 1, 1) := by decide +kernel
theorem dX6_restore_35 : decode cX6_restore 35 = .ok (.aaload, 1) := by decide +kernel
theorem dX6_restore_36 : decode cX6_restore 36 = .ok (.invokevirtual 69, 3) := by decide +kernel
theorem dX6_restore_39 : decode cX6_restore 39 = .ok (.aload_n 0, 1) := by decide +kernel
theorem dX6_restore_40 : decode cX6_restore 40 = .ok (.invokevirtual 96, 3) := by decide +kernel
theorem dX6_restore_43 : decode cX6_restore 43 = .ok (.aload_n 0, 1) := by decide +kernel
theorem dX6_restore_44 : decode cX6_restore 44 = .ok (.getfield 10, 3) := by decide +kernel
theorem dX6_restore_47 : decode cX6_restore 47 = .ok (.getfield 107, 3) := by decide +kernel
theorem dX6_restore_50 : decode cX6_restore 50 = .ok (.ireturn, 1) := by decide +kernel
theorem hd_X6_restore : yX6_restore.cls = RX6 ∧ yX6_restore.cls ≠ "java/lang/invoke/MethodHandle" ∧ yX6_restore.cls ≠ "java/lang/invoke/VarHandle" ∧ (parseMethodDescriptor yX6_restore.desc).map (fun d => d.parameters.length) = some 1 := by decide +kernel
set_option maxRecDepth 100000 in
set_option maxHeartbeats 4000000 in
theorem c_X6_restore (l : Launch) (D : va_G) (g : xG) (tb : List xQ) (hT : x_T g tb) (hlst : l.stackTraces = false) {a1 : Int32} (h0 : x_fb tb) {M : xM} {k : Nat} {r : Int32} {M' : xM} (hf : f_X6_restore a1 M = some (k, r, M')) :
    tI l D g tb yX6_restore cX6_restore 2 .int ({ frames := 7, cells := 2, slots := 12, locals := 104 } : Room) 2 [.ref (g.1 4 1664), .int a1] M k r M' := by
  refine x_tstartI4 (own := RX6) (r := r) (by decide +kernel) rfl rfl (Nat.le_of_ble_eq_true rfl) hT ?_
  intro p e s m args below meth c Q C0 hend hpr hthr
  unfold f_X6_restore at hf
  refine r_iload_n C0 (kk := 1) 1 rfl dX6_restore_0 ?_
  refine r_iconst C0 (v := 0) dX6_restore_1 rfl ?_
  refine r_iconst C0 (v := 1) dX6_restore_2 rfl ?_
  obtain ⟨k2, r4, M3, hc1, hx5, hf⟩ := tbd_e hf
  refine r_tcallSv C0 (As := [.int a1, .int 0, .int 1]) (rest := []) (c_X6_checkRange l D g tb hT hlst  hc1) w4_45 w4_46 w1_1 w4_47 hd_X6_checkRange rfl ⟨rfl, rfl⟩ ⟨Nat.le_of_ble_eq_true rfl, Nat.le_of_ble_eq_true rfl⟩ (by decide) (by decide) rfl (Nat.le_of_ble_eq_true rfl) dX6_restore_3 (fun H1 locs1 ls E ce q hk hE hH hS hl h1 h2 h3 => hpr (by decide) (by decide) hk hE hH hS h1 h2 h3 (hx5 hk)) (fun hk => ?_)
  have hf := hf hk
  refine r_aload_n C0 (kk := 0) 0 rfl dX6_restore_6 ?_
  refine r_get4 C0 h0.1 8 (by decide) (v := .ref (g.1 8 1675)) rfl rfl w3_110 dX6_restore_7 ?_
  refine r_iload_n C0 (kk := 1) 1 rfl dX6_restore_10 ?_
  obtain ⟨q7, hf⟩ := gd_e hf
  refine r_zaldc C0 h0.2.2.2.2.2.2.2.1 q7 rfl dX6_restore_11 ?_
  refine r_if_ne C0 (tgt := 26) (by decide) dX6_restore_12 (fun q8 => ?_) (fun q8 => ?_)
  · have hf := ie_f hf q8
    refine r_aload_n C0 (kk := 0) 0 rfl dX6_restore_26 ?_
    refine r_get4 C0 h0.1 0 (by decide) (v := .ref (g.1 2 0)) rfl rfl w3_102 dX6_restore_27 ?_
    refine r_aload_n C0 (kk := 0) 0 rfl dX6_restore_30 ?_
    refine r_get4 C0 h0.1 7 (by decide) (v := .ref (g.1 12 1408)) rfl rfl w3_109 dX6_restore_31 ?_
    refine r_iload_n C0 (kk := 1) 1 rfl dX6_restore_34 ?_
    obtain ⟨q9, hf⟩ := gd_e hf
    have hm10 : x_mk tb (1408 + 128 * a1.toNatClampNeg) := h0.2.2.2.2.2.2.2.2.2.2 _ (inb_lt q9)
    refine r_aald12 C0 h0.2.2.2.2.2.2.1 (inb_in q9) dX6_restore_35 ?_
    obtain ⟨M12, hc11, hf⟩ := bd_e hf
    refine r_callVv C0 (As := [.ref (g.1 2 (1408 + 128 * a1.toNatClampNeg))]) (rest := []) (c_X2_copyFrom l D g tb hT h0.2.1 hm10 hc11) w3_86 w3_87 w3_88 w1_2 w3_89 (x_rec2 C0 h0.2.1.1) hd_X2_copyFrom rfl ⟨rfl, rfl⟩ ⟨Nat.le_of_ble_eq_true rfl, Nat.le_of_ble_eq_true rfl⟩ (by decide) (by decide) rfl (Nat.le_of_ble_eq_true rfl) dX6_restore_36 ?_
    refine r_aload_n C0 (kk := 0) 0 rfl dX6_restore_39 ?_
    obtain ⟨M14, hc13, hf⟩ := bd_e hf
    refine r_callVv C0 (As := []) (rest := []) (c_X6_forgetChanges l D g tb hT h0 hc13) w3_98 w3_100 wp2_6 w1_1 w3_101 (x_rec4 C0 h0.1) hd_X6_forgetChanges rfl ⟨rfl, rfl⟩ ⟨Nat.le_of_ble_eq_true rfl, Nat.le_of_ble_eq_true rfl⟩ (by decide) (by decide) rfl (Nat.le_of_ble_eq_true rfl) dX6_restore_40 ?_
    refine r_aload_n C0 (kk := 0) 0 rfl dX6_restore_43 ?_
    refine r_get4 C0 h0.1 0 (by decide) (v := .ref (g.1 2 0)) rfl rfl w3_102 dX6_restore_44 ?_
    refine r_get2 C0 h0.2.1.1 6 (by decide) (v := .int (M14 0)) rfl rfl w1_153 dX6_restore_47 ?_
    exact hend (by decide) (by decide) hf dX6_restore_50
  · have hf := ie_t hf q8
    exact hthr hlst rfl (si := 19) rfl dX6_restore_15 dX6_restore_18 dX6_restore_19 dX6_restore_22 dX6_restore_25 (by decide) (Nat.le_of_ble_eq_true rfl) (by decide) (by decide) (by decide) (by decide) hf
