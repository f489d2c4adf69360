theorem dX7_earningsAfter_0 : decode cX7_earningsAfter 0 = .ok (.aload_n 0, 1) := by decide +kernel
theorem dX7_earningsAfter_1 : decode cX7_earningsAfter 1 = .ok (.iload_n 1, 1) := by decide +kernel
theorem dX7_earningsAfter_2 : decode cX7_earningsAfter 2 = .ok (.invokevirtual 311, 3) := by decide +kernel
theorem dX7_earningsAfter_5 : decode cX7_earningsAfter 5 = .ok (.ifCond .eq 19, 3) := by decide +kernel
theorem dX7_earningsAfter_8 : decode cX7_earningsAfter 8 = .ok (.aload_n 0, 1) := by decide +kernel
theorem dX7_earningsAfter_9 : decode cX7_earningsAfter 9 = .ok (.iload_n 2, 1) := by decide +kernel
theorem dX7_earningsAfter_10 : decode cX7_earningsAfter 10 = .ok (.iconst 0, 1) := by decide +kernel
theorem dX7_earningsAfter_11 : decode cX7_earningsAfter 11 = .ok (.sipush 200, 3) := by decide +kernel
theorem dX7_earningsAfter_14 : decode cX7_earningsAfter 14 = .ok (.invokestatic 147, 3) := by decide +kernel
theorem dX7_earningsAfter_17 : decode cX7_earningsAfter 17 = .ok (.iconst 2, 1) := by decide +kernel
theorem dX7_earningsAfter_18 : decode cX7_earningsAfter 18 = .ok (.invokevirtual 304, 3) := by decide +kernel
theorem dX7_earningsAfter_21 : decode cX7_earningsAfter 21 = .ok (.ifCond .eq 5, 3) := by decide +kernel
theorem dX7_earningsAfter_24 : decode cX7_earningsAfter 24 = .ok (.iconst 0, 1) := by decide +kernel
theorem dX7_earningsAfter_25 : decode cX7_earningsAfter 25 = .ok (.ireturn, 1) := by decide +kernel
theorem dX7_earningsAfter_26 : decode cX7_earningsAfter 26 = .ok (.aload_n 0, 1) := by decide +kernel
theorem dX7_earningsAfter_27 : decode cX7_earningsAfter 27 = .ok (.invokevirtual 283, 3) := by decide +kernel
theorem dX7_earningsAfter_30 : decode cX7_earningsAfter 30 = .ok (.aload_n 0, 1) := by decide +kernel
theorem dX7_earningsAfter_31 : decode cX7_earningsAfter 31 = .ok (.iload_n 1, 1) := by decide +kernel
theorem dX7_earningsAfter_32 : decode cX7_earningsAfter 32 = .ok (.iload_n 2, 1) := by decide +kernel
theorem dX7_earningsAfter_33 : decode cX7_earningsAfter 33 = .ok (.invokevirtual 332, 3) := by decide +kernel
theorem dX7_earningsAfter_36 : decode cX7_earningsAfter 36 = .ok (.ireturn, 1) := by decide +kernel
theorem hd_X7_earningsAfter : yX7_earningsAfter.cls = RX7 ∧ yX7_earningsAfter.cls ≠ "java/lang/invoke/MethodHandle" ∧ yX7_earningsAfter.cls ≠ "java/lang/invoke/VarHandle" ∧ (parseMethodDescriptor yX7_earningsAfter.desc).map (fun d => d.parameters.length) = some 2 := by decide +kernel
set_option maxRecDepth 100000 in
set_option maxHeartbeats 4000000 in
theorem c_X7_earningsAfter (l : Launch) (D : va_G) (g : xG) (tb : List xQ) (hT : x_T g tb) {a1 : Int32} {a2 : Int32} (h0 : x_md tb) {M : xM} {r : Int32} {M' : xM} (hf : f_X7_earningsAfter a1 a2 M = some (r, M')) :
    cI l D g tb yX7_earningsAfter cX7_earningsAfter 3 .int ({ frames := 7, cells := 0, slots := 0, locals := 164 } : Room) [.ref (g.1 5 2500), .int a1, .int a2] M r M' := by
  refine x_startI (own := RX7) (by decide +kernel) rfl rfl (Nat.le_of_ble_eq_true rfl) hT ?_
  intro p e s m args below meth c Q C0 hend
  unfold f_X7_earningsAfter at hf
  refine r_aload_n C0 (kk := 0) 0 rfl dX7_earningsAfter_0 ?_
  refine r_iload_n C0 (kk := 1) 1 rfl dX7_earningsAfter_1 ?_
  obtain ⟨r3, M2, hc1, hf⟩ := bd2_e hf
  refine r_callVi C0 (As := [.int a1]) (rest := []) (c_X7_isStall l D g tb hT h0 hc1) w7_137 w7_139 wp5_15 w1_14 w7_140 (x_rec5 C0 h0.1) hd_X7_isStall rfl ⟨rfl, rfl⟩ ⟨Nat.le_of_ble_eq_true rfl, Nat.le_of_ble_eq_true rfl⟩ (by decide) (by decide) rfl (Nat.le_of_ble_eq_true rfl) dX7_earningsAfter_2 ?_
  refine r_if_eq C0 (tgt := 24) (by decide) dX7_earningsAfter_5 (fun q4 => ?_) (fun q4 => ?_)
  · have hf := ie_t hf q4
    refine r_iconst C0 (v := 0) dX7_earningsAfter_24 rfl ?_
    exact hend hf dX7_earningsAfter_25
  · have hf := ie_f hf q4
    refine r_aload_n C0 (kk := 0) 0 rfl dX7_earningsAfter_8 ?_
    refine r_iload_n C0 (kk := 2) 2 rfl dX7_earningsAfter_9 ?_
    refine r_iconst C0 (v := 0) dX7_earningsAfter_10 rfl ?_
    refine r_sipush C0 (v := 200) dX7_earningsAfter_11 rfl ?_
    obtain ⟨r7, M6, hc5, hf⟩ := bd2_e hf
    refine r_callSi C0 (As := [.int a2, .int 0, .int 200]) (rest := [.ref (g.1 5 2500)]) (c_X7_inRange l D g tb hT  hc5) w6_12 w6_13 w1_14 w6_14 hd_X7_inRange rfl ⟨rfl, rfl⟩ ⟨Nat.le_of_ble_eq_true rfl, Nat.le_of_ble_eq_true rfl⟩ (by decide) (by decide) rfl (Nat.le_of_ble_eq_true rfl) dX7_earningsAfter_14 ?_
    refine r_iconst C0 (v := 2) dX7_earningsAfter_17 rfl ?_
    obtain ⟨r10, M9, hc8, hf⟩ := bd2_e hf
    refine r_callVi C0 (As := [.int r7, .int 2]) (rest := []) (c_X7_fails l D g tb hT h0 hc8) w7_93 w7_95 wp5_12 w1_14 w7_96 (x_rec5 C0 h0.1) hd_X7_fails rfl ⟨rfl, rfl⟩ ⟨Nat.le_of_ble_eq_true rfl, Nat.le_of_ble_eq_true rfl⟩ (by decide) (by decide) rfl (Nat.le_of_ble_eq_true rfl) dX7_earningsAfter_18 ?_
    refine r_if_eq C0 (tgt := 26) (by decide) dX7_earningsAfter_21 (fun q11 => ?_) (fun q11 => ?_)
    · have hf := ie_t hf q11
      refine r_aload_n C0 (kk := 0) 0 rfl dX7_earningsAfter_26 ?_
      obtain ⟨M13, hc12, hf⟩ := bd_e hf
      refine r_callVv C0 (As := []) (rest := []) (c_X7_startTrial l D g tb hT h0 hc12) w5_237 w5_239 wp2_14 w1_14 w6_0 (x_rec5 C0 h0.1) hd_X7_startTrial rfl ⟨rfl, rfl⟩ ⟨Nat.le_of_ble_eq_true rfl, Nat.le_of_ble_eq_true rfl⟩ (by decide) (by decide) rfl (Nat.le_of_ble_eq_true rfl) dX7_earningsAfter_27 ?_
      refine r_aload_n C0 (kk := 0) 0 rfl dX7_earningsAfter_30 ?_
      refine r_iload_n C0 (kk := 1) 1 rfl dX7_earningsAfter_31 ?_
      refine r_iload_n C0 (kk := 2) 2 rfl dX7_earningsAfter_32 ?_
      obtain ⟨r16, M15, hc14, hf⟩ := bd2_e hf
      refine r_callVi C0 (As := [.int a1, .int a2]) (rest := []) (c_X7_earnedIn l D g tb hT h0 hc14) w8_34 w8_36 wp6_4 w1_14 w8_37 (x_rec5 C0 h0.1) hd_X7_earnedIn rfl ⟨rfl, rfl⟩ ⟨Nat.le_of_ble_eq_true rfl, Nat.le_of_ble_eq_true rfl⟩ (by decide) (by decide) rfl (Nat.le_of_ble_eq_true rfl) dX7_earningsAfter_33 ?_
      exact hend hf dX7_earningsAfter_36
    · have hf := ie_f hf q11
      refine r_iconst C0 (v := 0) dX7_earningsAfter_24 rfl ?_
      exact hend hf dX7_earningsAfter_25
theorem dX7_bestPrice_0 : decode cX7_bestPrice 0 = .ok (.aload_n 0, 1) := by decide +kernel
theorem dX7_bestPrice_1 : decode cX7_bestPrice 1 = .ok (.iload_n 1, 1) := by decide +kernel
theorem dX7_bestPrice_2 : decode cX7_bestPrice 2 = .ok (.invokevirtual 311, 3) := by decide +kernel
theorem dX7_bestPrice_5 : decode cX7_bestPrice 5 = .ok (.ifCond .eq 15, 3) := by decide +kernel
theorem dX7_bestPrice_8 : decode cX7_bestPrice 8 = .ok (.aload_n 0, 1) := by decide +kernel
theorem dX7_bestPrice_9 : decode cX7_bestPrice 9 = .ok (.iload_n 1, 1) := by decide +kernel
theorem dX7_bestPrice_10 : decode cX7_bestPrice 10 = .ok (.iconst 3, 1) := by decide +kernel
theorem dX7_bestPrice_11 : decode cX7_bestPrice 11 = .ok (.iconst 1, 1) := by decide +kernel
theorem dX7_bestPrice_12 : decode cX7_bestPrice 12 = .ok (.bipush 60, 2) := by decide +kernel
theorem dX7_bestPrice_14 : decode cX7_bestPrice 14 = .ok (.invokevirtual 335, 3) := by decide +kernel
theorem dX7_bestPrice_17 : decode cX7_bestPrice 17 = .ok (.goto 4, 3) := by decide +kernel
theorem dX7_bestPrice_20 : decode cX7_bestPrice 20 = .ok (.iconst 0, 1) := by decide +kernel
theorem dX7_bestPrice_21 : decode cX7_bestPrice 21 = .ok (.ireturn, 1) := by decide +kernel
theorem hd_X7_bestPrice : yX7_bestPrice.cls = RX7 ∧ yX7_bestPrice.cls ≠ "java/lang/invoke/MethodHandle" ∧ yX7_bestPrice.cls ≠ "java/lang/invoke/VarHandle" ∧ (parseMethodDescriptor yX7_bestPrice.desc).map (fun d => d.parameters.length) = some 1 := by decide +kernel
set_option maxRecDepth 100000 in
set_option maxHeartbeats 4000000 in
theorem c_X7_bestPrice (l : Launch) (D : va_G) (g : xG) (tb : List xQ) (hT : x_T g tb) {a1 : Int32} (h0 : x_md tb) {M : xM} {r : Int32} {M' : xM} (hf : f_X7_bestPrice a1 M = some (r, M')) :
    cI l D g tb yX7_bestPrice cX7_bestPrice 2 .int ({ frames := 8, cells := 0, slots := 0, locals := 192 } : Room) [.ref (g.1 5 2500), .int a1] M r M' := by
  refine x_startI (own := RX7) (by decide +kernel) rfl rfl (Nat.le_of_ble_eq_true rfl) hT ?_
  intro p e s m args below meth c Q C0 hend
  unfold f_X7_bestPrice at hf
  refine r_aload_n C0 (kk := 0) 0 rfl dX7_bestPrice_0 ?_
  refine r_iload_n C0 (kk := 1) 1 rfl dX7_bestPrice_1 ?_
  obtain ⟨r3, M2, hc1, hf⟩ := bd2_e hf
  refine r_callVi C0 (As := [.int a1]) (rest := []) (c_X7_isStall l D g tb hT h0 hc1) w7_137 w7_139 wp5_15 w1_14 w7_140 (x_rec5 C0 h0.1) hd_X7_isStall rfl ⟨rfl, rfl⟩ ⟨Nat.le_of_ble_eq_true rfl, Nat.le_of_ble_eq_true rfl⟩ (by decide) (by decide) rfl (Nat.le_of_ble_eq_true rfl) dX7_bestPrice_2 ?_
  refine r_if_eq C0 (tgt := 20) (by decide) dX7_bestPrice_5 (fun q4 => ?_) (fun q4 => ?_)
  · have hf := ie_t hf q4
    refine r_iconst C0 (v := 0) dX7_bestPrice_20 rfl ?_
    exact hend hf dX7_bestPrice_21
  · have hf := ie_f hf q4
    refine r_aload_n C0 (kk := 0) 0 rfl dX7_bestPrice_8 ?_
    refine r_iload_n C0 (kk := 1) 1 rfl dX7_bestPrice_9 ?_
    refine r_iconst C0 (v := 3) dX7_bestPrice_10 rfl ?_
    refine r_iconst C0 (v := 1) dX7_bestPrice_11 rfl ?_
    refine r_bipush C0 (v := 60) dX7_bestPrice_12 rfl ?_
    obtain ⟨r7, M6, hc5, hf⟩ := bd2_e hf
    refine r_callVi C0 (As := [.int a1, .int 3, .int 1, .int 60]) (rest := []) (c_X7_best l D g tb hT h0 hc5) w8_42 w8_44 wp6_5 w1_14 w8_45 (x_rec5 C0 h0.1) hd_X7_best rfl ⟨rfl, rfl⟩ ⟨Nat.le_of_ble_eq_true rfl, Nat.le_of_ble_eq_true rfl⟩ (by decide) (by decide) rfl (Nat.le_of_ble_eq_true rfl) dX7_bestPrice_14 ?_
    refine r_goto C0 (tgt := 21) (by decide) dX7_bestPrice_17 ?_
    exact hend hf dX7_bestPrice_21
