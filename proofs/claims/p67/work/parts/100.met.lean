theorem dX6_minute_0 : decode cX6_minute 0 = .ok (.aload_n 0, 1) := by decide +kernel
theorem dX6_minute_1 : decode cX6_minute 1 = .ok (.getfield 10, 3) := by decide +kernel
theorem dX6_minute_4 : decode cX6_minute 4 = .ok (.getfield 107, 3) := by decide +kernel
theorem dX6_minute_7 : decode cX6_minute 7 = .ok (.ireturn, 1) := by decide +kernel
theorem hd_X6_minute : yX6_minute.cls = RX6 ∧ yX6_minute.cls ≠ "java/lang/invoke/MethodHandle" ∧ yX6_minute.cls ≠ "java/lang/invoke/VarHandle" ∧ (parseMethodDescriptor yX6_minute.desc).map (fun d => d.parameters.length) = some 0 := by decide +kernel
set_option maxRecDepth 100000 in
set_option maxHeartbeats 4000000 in
theorem c_X6_minute (l : Launch) (D : va_G) (g : xG) (tb : List xQ) (hT : x_T g tb)  (h0 : x_fb tb) {M : xM} {r : Int32} {M' : xM} (hf : f_X6_minute  M = some (r, M')) :
    cI l D g tb yX6_minute cX6_minute 1 .int ({ frames := 0, cells := 0, slots := 0, locals := 0 } : Room) [.ref (g.1 4 1664)] M r M' := by
  refine x_startI (own := RX6) (by decide +kernel) rfl rfl (Nat.le_of_ble_eq_true rfl) hT ?_
  intro p e s m args below meth c Q C0 hend
  unfold f_X6_minute at hf
  refine r_aload_n C0 (kk := 0) 0 rfl dX6_minute_0 ?_
  refine r_get4 C0 h0.1 0 (by decide) (v := .ref (g.1 2 0)) rfl rfl w5_87 dX6_minute_1 ?_
  refine r_get2 C0 h0.2.1.1 6 (by decide) (v := .int (M 0)) rfl rfl w4_13 dX6_minute_4 ?_
  exact hend hf dX6_minute_7
theorem dX6_bellPosition_0 : decode cX6_bellPosition 0 = .ok (.aload_n 0, 1) := by decide +kernel
theorem dX6_bellPosition_1 : decode cX6_bellPosition 1 = .ok (.getfield 10, 3) := by decide +kernel
theorem dX6_bellPosition_4 : decode cX6_bellPosition 4 = .ok (.getfield 110, 3) := by decide +kernel
theorem dX6_bellPosition_7 : decode cX6_bellPosition 7 = .ok (.ireturn, 1) := by decide +kernel
theorem hd_X6_bellPosition : yX6_bellPosition.cls = RX6 ∧ yX6_bellPosition.cls ≠ "java/lang/invoke/MethodHandle" ∧ yX6_bellPosition.cls ≠ "java/lang/invoke/VarHandle" ∧ (parseMethodDescriptor yX6_bellPosition.desc).map (fun d => d.parameters.length) = some 0 := by decide +kernel
set_option maxRecDepth 100000 in
set_option maxHeartbeats 4000000 in
theorem c_X6_bellPosition (l : Launch) (D : va_G) (g : xG) (tb : List xQ) (hT : x_T g tb)  (h0 : x_fb tb) {M : xM} {r : Int32} {M' : xM} (hf : f_X6_bellPosition  M = some (r, M')) :
    cI l D g tb yX6_bellPosition cX6_bellPosition 1 .int ({ frames := 0, cells := 0, slots := 0, locals := 0 } : Room) [.ref (g.1 4 1664)] M r M' := by
  refine x_startI (own := RX6) (by decide +kernel) rfl rfl (Nat.le_of_ble_eq_true rfl) hT ?_
  intro p e s m args below meth c Q C0 hend
  unfold f_X6_bellPosition at hf
  refine r_aload_n C0 (kk := 0) 0 rfl dX6_bellPosition_0 ?_
  refine r_get4 C0 h0.1 0 (by decide) (v := .ref (g.1 2 0)) rfl rfl w5_87 dX6_bellPosition_1 ?_
  refine r_get2 C0 h0.2.1.1 7 (by decide) (v := .int (M 7)) rfl rfl w4_15 dX6_bellPosition_4 ?_
  exact hend hf dX6_bellPosition_7
theorem dX6_threshold_0 : decode cX6_threshold 0 = .ok (.aload_n 0, 1) := by decide +kernel
theorem dX6_threshold_1 : decode cX6_threshold 1 = .ok (.getfield 10, 3) := by decide +kernel
theorem dX6_threshold_4 : decode cX6_threshold 4 = .ok (.getfield 113, 3) := by decide +kernel
theorem dX6_threshold_7 : decode cX6_threshold 7 = .ok (.ireturn, 1) := by decide +kernel
theorem hd_X6_threshold : yX6_threshold.cls = RX6 ∧ yX6_threshold.cls ≠ "java/lang/invoke/MethodHandle" ∧ yX6_threshold.cls ≠ "java/lang/invoke/VarHandle" ∧ (parseMethodDescriptor yX6_threshold.desc).map (fun d => d.parameters.length) = some 0 := by decide +kernel
set_option maxRecDepth 100000 in
set_option maxHeartbeats 4000000 in
theorem c_X6_threshold (l : Launch) (D : va_G) (g : xG) (tb : List xQ) (hT : x_T g tb)  (h0 : x_fb tb) {M : xM} {r : Int32} {M' : xM} (hf : f_X6_threshold  M = some (r, M')) :
    cI l D g tb yX6_threshold cX6_threshold 1 .int ({ frames := 0, cells := 0, slots := 0, locals := 0 } : Room) [.ref (g.1 4 1664)] M r M' := by
  refine x_startI (own := RX6) (by decide +kernel) rfl rfl (Nat.le_of_ble_eq_true rfl) hT ?_
  intro p e s m args below meth c Q C0 hend
  unfold f_X6_threshold at hf
  refine r_aload_n C0 (kk := 0) 0 rfl dX6_threshold_0 ?_
  refine r_get4 C0 h0.1 0 (by decide) (v := .ref (g.1 2 0)) rfl rfl w5_87 dX6_threshold_1 ?_
  refine r_get2 C0 h0.2.1.1 8 (by decide) (v := .int (M 5)) rfl rfl w4_17 dX6_threshold_4 ?_
  exact hend hf dX6_threshold_7
theorem dX6_duration_0 : decode cX6_duration 0 = .ok (.aload_n 0, 1) := by decide +kernel
theorem dX6_duration_1 : decode cX6_duration 1 = .ok (.getfield 10, 3) := by decide +kernel
theorem dX6_duration_4 : decode cX6_duration 4 = .ok (.getfield 116, 3) := by decide +kernel
theorem dX6_duration_7 : decode cX6_duration 7 = .ok (.ireturn, 1) := by decide +kernel
theorem hd_X6_duration : yX6_duration.cls = RX6 ∧ yX6_duration.cls ≠ "java/lang/invoke/MethodHandle" ∧ yX6_duration.cls ≠ "java/lang/invoke/VarHandle" ∧ (parseMethodDescriptor yX6_duration.desc).map (fun d => d.parameters.length) = some 0 := by decide +kernel
set_option maxRecDepth 100000 in
set_option maxHeartbeats 4000000 in
theorem c_X6_duration (l : Launch) (D : va_G) (g : xG) (tb : List xQ) (hT : x_T g tb)  (h0 : x_fb tb) {M : xM} {r : Int32} {M' : xM} (hf : f_X6_duration  M = some (r, M')) :
    cI l D g tb yX6_duration cX6_duration 1 .int ({ frames := 0, cells := 0, slots := 0, locals := 0 } : Room) [.ref (g.1 4 1664)] M r M' := by
  refine x_startI (own := RX6) (by decide +kernel) rfl rfl (Nat.le_of_ble_eq_true rfl) hT ?_
  intro p e s m args below meth c Q C0 hend
  unfold f_X6_duration at hf
  refine r_aload_n C0 (kk := 0) 0 rfl dX6_duration_0 ?_
  refine r_get4 C0 h0.1 0 (by decide) (v := .ref (g.1 2 0)) rfl rfl w5_87 dX6_duration_1 ?_
  refine r_get2 C0 h0.2.1.1 9 (by decide) (v := .int (M 6)) rfl rfl w4_19 dX6_duration_4 ?_
  exact hend hf dX6_duration_7
theorem dX6_checkRange_0 : decode cX6_checkRange 0 = .ok (.iload_n 0, 1) := by decide +kernel
theorem dX6_checkRange_1 : decode cX6_checkRange 1 = .ok (.iload_n 1, 1) := by decide +kernel
theorem dX6_checkRange_2 : decode cX6_checkRange 2 = .ok (.if_icmp .lt 8, 3) := by decide +kernel
theorem dX6_checkRange_5 : decode cX6_checkRange 5 = .ok (.iload_n 0, 1) := by decide +kernel
theorem dX6_checkRange_6 : decode cX6_checkRange 6 = .ok (.iload_n 2, 1) := by decide +kernel
theorem dX6_checkRange_7 : decode cX6_checkRange 7 = .ok (.if_icmp .le 13, 3) := by decide +kernel
theorem dX6_checkRange_10 : decode cX6_checkRange 10 = .ok (.new 206, 3) := by decide +kernel
theorem dX6_checkRange_13 : decode cX6_checkRange 13 = .ok (.dup, 1) := by decide +kernel
theorem dX6_checkRange_14 : decode cX6_checkRange 14 = .ok (.ldc 208, 2) := by decide +kernel
theorem dX6_checkRange_16 : decode cX6_checkRange 16 = .ok (.invokespecial 210, 3) := by decide +kernel
theorem dX6_checkRange_19 : decode cX6_checkRange 19 = .ok (.athrow, 1) := by decide +kernel
theorem dX6_checkRange_20 : decode cX6_checkRange 20 = .ok (.return_, 1) := by decide +kernel
theorem hd_X6_checkRange : yX6_checkRange.cls ≠ "java/lang/invoke/MethodHandle" ∧ yX6_checkRange.cls ≠ "java/lang/invoke/VarHandle" ∧ (parseMethodDescriptor yX6_checkRange.desc).map (fun d => d.parameters.length) = some 3 := by decide +kernel
set_option maxRecDepth 100000 in
set_option maxHeartbeats 4000000 in
theorem c_X6_checkRange (l : Launch) (D : va_G) (g : xG) (tb : List xQ) (hT : x_T g tb) {a0 : Int32} {a1 : Int32} {a2 : Int32}  {M M' : xM} (hf : f_X6_checkRange a0 a1 a2 M = some M') :
    cV l D g tb yX6_checkRange cX6_checkRange 3 ({ frames := 0, cells := 0, slots := 0, locals := 0 } : Room) [.int a0, .int a1, .int a2] M M' := by
  refine x_startV (own := RX6) (by decide +kernel) rfl rfl (Nat.le_of_ble_eq_true rfl) hT ?_
  intro p e s m args below meth c Q C0 hend
  have B10 : ∀ (M : xM), f_X6_checkRange_c10  a0 a1 a2 M = some M' → WW p l e ({ frames := 0, cells := 0, slots := 0, locals := 0 } : Room) s m args below meth c 0 0 Q 3 D g tb 10 [] [] M := by
    intro     M hf
    unfold f_X6_checkRange_c10 at hf
    exact none_ne hf
  unfold f_X6_checkRange at hf
  refine r_iload_n C0 (kk := 0) 0 rfl dX6_checkRange_0 ?_
  refine r_iload_n C0 (kk := 1) 1 rfl dX6_checkRange_1 ?_
  refine r_icmp_lt C0 (tgt := 10) (by decide) dX6_checkRange_2 (fun q1 => ?_) (fun q1 => ?_)
  · have hf := ie_t hf q1
    refine WW.sub [] rfl ?_
    exact B10     _ hf
  · have hf := ie_f hf q1
    refine r_iload_n C0 (kk := 0) 0 rfl dX6_checkRange_5 ?_
    refine r_iload_n C0 (kk := 2) 2 rfl dX6_checkRange_6 ?_
    refine r_icmp_le C0 (tgt := 20) (by decide) dX6_checkRange_7 (fun q2 => ?_) (fun q2 => ?_)
    · have hf := ie_t hf q2
      exact hend hf dX6_checkRange_20
    · have hf := ie_f hf q2
      refine WW.sub [] rfl ?_
      exact B10     _ hf
theorem dX2_densityIn_0 : decode cX2_densityIn 0 = .ok (.iload_n 1, 1) := by decide +kernel
theorem dX2_densityIn_1 : decode cX2_densityIn 1 = .ok (.ifCond .lt 23, 3) := by decide +kernel
theorem dX2_densityIn_4 : decode cX2_densityIn 4 = .ok (.aload_n 0, 1) := by decide +kernel
theorem dX2_densityIn_5 : decode cX2_densityIn 5 = .ok (.getfield 36, 3) := by decide +kernel
theorem dX2_densityIn_8 : decode cX2_densityIn 8 = .ok (.iconst 1, 1) := by decide +kernel
theorem dX2_densityIn_9 : decode cX2_densityIn 9 = .ok (.if_icmp .lt 15, 3) := by decide +kernel
theorem dX2_densityIn_12 : decode cX2_densityIn 12 = .ok (.aload_n 0, 1) := by decide +kernel
theorem dX2_densityIn_13 : decode cX2_densityIn 13 = .ok (.getfield 36, 3) := by decide +kernel
theorem dX2_densityIn_16 : decode cX2_densityIn 16 = .ok (.aload_n 0, 1) := by decide +kernel
theorem dX2_densityIn_17 : decode cX2_densityIn 17 = .ok (.getfield 23, 3) := by decide +kernel
theorem dX2_densityIn_20 : decode cX2_densityIn 20 = .ok (.arraylength, 1) := by decide +kernel
theorem dX2_densityIn_21 : decode cX2_densityIn 21 = .ok (.if_icmp .le 5, 3) := by decide +kernel
theorem dX2_densityIn_24 : decode cX2_densityIn 24 = .ok (.iconst 0, 1) := by decide +kernel
theorem dX2_densityIn_25 : decode cX2_densityIn 25 = .ok (.ireturn, 1) := by decide +kernel
theorem dX2_densityIn_26 : decode cX2_densityIn 26 = .ok (.aload_n 0, 1) := by decide +kernel
theorem dX2_densityIn_27 : decode cX2_densityIn 27 = .ok (.getfield 23, 3) := by decide +kernel
theorem dX2_densityIn_30 : decode cX2_densityIn 30 = .ok (.iload_n 1, 1) := by decide +kernel
theorem dX2_densityIn_31 : decode cX2_densityIn 31 = .ok (.iconst 5, 1) := by decide +kernel
theorem dX2_densityIn_32 : decode cX2_densityIn 32 = .ok (.idiv, 1) := by decide +kernel
theorem dX2_densityIn_33 : decode cX2_densityIn 33 = .ok (.aload_n 0, 1) := by decide +kernel
theorem dX2_densityIn_34 : decode cX2_densityIn 34 = .ok (.getfield 36, 3) := by decide +kernel
theorem dX2_densityIn_37 : decode cX2_densityIn 37 = .ok (.irem, 1) := by decide +kernel
theorem dX2_densityIn_38 : decode cX2_densityIn 38 = .ok (.iaload, 1) := by decide +kernel
theorem dX2_densityIn_39 : decode cX2_densityIn 39 = .ok (.ireturn, 1) := by decide +kernel
theorem hd_X2_densityIn : yX2_densityIn.cls = RX2 ∧ yX2_densityIn.cls ≠ "java/lang/invoke/MethodHandle" ∧ yX2_densityIn.cls ≠ "java/lang/invoke/VarHandle" ∧ (parseMethodDescriptor yX2_densityIn.desc).map (fun d => d.parameters.length) = some 1 := by decide +kernel
set_option maxRecDepth 100000 in
set_option maxHeartbeats 4000000 in
theorem c_X2_densityIn (l : Launch) (D : va_G) (g : xG) (tb : List xQ) (hT : x_T g tb) {a0 : Nat} {a1 : Int32} (h0 : x_mk tb a0) {M : xM} {r : Int32} {M' : xM} (hf : f_X2_densityIn a0 a1 M = some (r, M')) :
    cI l D g tb yX2_densityIn cX2_densityIn 2 .int ({ frames := 0, cells := 0, slots := 0, locals := 0 } : Room) [.ref (g.1 2 a0), .int a1] M r M' := by
  refine x_startI (own := RX2) (by decide +kernel) rfl rfl (Nat.le_of_ble_eq_true rfl) hT ?_
  intro p e s m args below meth c Q C0 hend
  unfold f_X2_densityIn at hf
  refine r_iload_n C0 (kk := 1) 1 rfl dX2_densityIn_0 ?_
  refine r_if_lt C0 (tgt := 24) (by decide) dX2_densityIn_1 (fun q1 => ?_) (fun q1 => ?_)
  · have hf := ie_t hf q1
    refine r_iconst C0 (v := 0) dX2_densityIn_24 rfl ?_
    exact hend hf dX2_densityIn_25
  · have hf := ie_f hf q1
    refine r_aload_n C0 (kk := 0) 0 rfl dX2_densityIn_4 ?_
    refine r_get2 C0 h0.1 5 (by decide) (v := .int (M (a0 + 8))) rfl rfl w4_9 dX2_densityIn_5 ?_
    refine r_iconst C0 (v := 1) dX2_densityIn_8 rfl ?_
    refine r_icmp_lt C0 (tgt := 24) (by decide) dX2_densityIn_9 (fun q2 => ?_) (fun q2 => ?_)
    · have hf := ie_t hf q2
      refine r_iconst C0 (v := 0) dX2_densityIn_24 rfl ?_
      exact hend hf dX2_densityIn_25
    · have hf := ie_f hf q2
      refine r_aload_n C0 (kk := 0) 0 rfl dX2_densityIn_12 ?_
      refine r_get2 C0 h0.1 5 (by decide) (v := .int (M (a0 + 8))) rfl rfl w4_9 dX2_densityIn_13 ?_
      refine r_aload_n C0 (kk := 0) 0 rfl dX2_densityIn_16 ?_
      refine r_get2 C0 h0.1 4 (by decide) (v := .ref (g.1 6 (a0 + 11))) rfl rfl w4_7 dX2_densityIn_17 ?_
      refine r_alen6 C0 h0.2.2.2.1 (v := 12) rfl dX2_densityIn_20 ?_
      refine r_icmp_le C0 (tgt := 26) (by decide) dX2_densityIn_21 (fun q3 => ?_) (fun q3 => ?_)
      · have hf := ie_t hf q3
        refine r_aload_n C0 (kk := 0) 0 rfl dX2_densityIn_26 ?_
        refine r_get2 C0 h0.1 4 (by decide) (v := .ref (g.1 6 (a0 + 11))) rfl rfl w4_7 dX2_densityIn_27 ?_
        refine r_iload_n C0 (kk := 1) 1 rfl dX2_densityIn_30 ?_
        refine r_iconst C0 (v := 5) dX2_densityIn_31 rfl ?_
        refine r_idiv C0 (by decide) dX2_densityIn_32 ?_
        refine r_aload_n C0 (kk := 0) 0 rfl dX2_densityIn_33 ?_
        refine r_get2 C0 h0.1 5 (by decide) (v := .int (M (a0 + 8))) rfl rfl w4_9 dX2_densityIn_34 ?_
        obtain ⟨q4, hf⟩ := gd_e hf
        refine r_irem C0 (nz_e q4) dX2_densityIn_37 ?_
        obtain ⟨q5, hf⟩ := gd_e hf
        refine r_ialdc C0 h0.2.2.2.1 q5 rfl dX2_densityIn_38 ?_
        exact hend hf dX2_densityIn_39
      · have hf := ie_f hf q3
        refine r_iconst C0 (v := 0) dX2_densityIn_24 rfl ?_
        exact hend hf dX2_densityIn_25
theorem dX6_isOpen_0 : decode cX6_isOpen 0 = .ok (.aload_n 0, 1) := by decide +kernel
theorem dX6_isOpen_1 : decode cX6_isOpen 1 = .ok (.getfield 10, 3) := by decide +kernel
theorem dX6_isOpen_4 : decode cX6_isOpen 4 = .ok (.getfield 130, 3) := by decide +kernel
theorem dX6_isOpen_7 : decode cX6_isOpen 7 = .ok (.ireturn, 1) := by decide +kernel
theorem hd_X6_isOpen : yX6_isOpen.cls = RX6 ∧ yX6_isOpen.cls ≠ "java/lang/invoke/MethodHandle" ∧ yX6_isOpen.cls ≠ "java/lang/invoke/VarHandle" ∧ (parseMethodDescriptor yX6_isOpen.desc).map (fun d => d.parameters.length) = some 0 := by decide +kernel
set_option maxRecDepth 100000 in
set_option maxHeartbeats 4000000 in
theorem c_X6_isOpen (l : Launch) (D : va_G) (g : xG) (tb : List xQ) (hT : x_T g tb)  (h0 : x_fb tb) {M : xM} {r : Int32} {M' : xM} (hf : f_X6_isOpen  M = some (r, M')) :
    cI l D g tb yX6_isOpen cX6_isOpen 1 .boolean ({ frames := 0, cells := 0, slots := 0, locals := 0 } : Room) [.ref (g.1 4 1664)] M r M' := by
  refine x_startZ (own := RX6) (by decide +kernel) rfl rfl (Nat.le_of_ble_eq_true rfl) hT ?_
  intro p e s m args below meth c Q C0 hend
  unfold f_X6_isOpen at hf
  refine r_aload_n C0 (kk := 0) 0 rfl dX6_isOpen_0 ?_
  refine r_get4 C0 h0.1 0 (by decide) (v := .ref (g.1 2 0)) rfl rfl w5_87 dX6_isOpen_1 ?_
  refine r_get2 C0 h0.2.1.1 10 (by decide) (v := .int (M 1)) rfl rfl w4_21 dX6_isOpen_4 ?_
  obtain ⟨q1, hf⟩ := gd_e hf
  exact hend q1 hf dX6_isOpen_7
theorem dX6_isReady_0 : decode cX6_isReady 0 = .ok (.aload_n 0, 1) := by decide +kernel
theorem dX6_isReady_1 : decode cX6_isReady 1 = .ok (.getfield 10, 3) := by decide +kernel
theorem dX6_isReady_4 : decode cX6_isReady 4 = .ok (.getfield 134, 3) := by decide +kernel
theorem dX6_isReady_7 : decode cX6_isReady 7 = .ok (.ireturn, 1) := by decide +kernel
theorem hd_X6_isReady : yX6_isReady.cls = RX6 ∧ yX6_isReady.cls ≠ "java/lang/invoke/MethodHandle" ∧ yX6_isReady.cls ≠ "java/lang/invoke/VarHandle" ∧ (parseMethodDescriptor yX6_isReady.desc).map (fun d => d.parameters.length) = some 0 := by decide +kernel
set_option maxRecDepth 100000 in
set_option maxHeartbeats 4000000 in
theorem c_X6_isReady (l : Launch) (D : va_G) (g : xG) (tb : List xQ) (hT : x_T g tb)  (h0 : x_fb tb) {M : xM} {r : Int32} {M' : xM} (hf : f_X6_isReady  M = some (r, M')) :
    cI l D g tb yX6_isReady cX6_isReady 1 .boolean ({ frames := 0, cells := 0, slots := 0, locals := 0 } : Room) [.ref (g.1 4 1664)] M r M' := by
  refine x_startZ (own := RX6) (by decide +kernel) rfl rfl (Nat.le_of_ble_eq_true rfl) hT ?_
  intro p e s m args below meth c Q C0 hend
  unfold f_X6_isReady at hf
  refine r_aload_n C0 (kk := 0) 0 rfl dX6_isReady_0 ?_
  refine r_get4 C0 h0.1 0 (by decide) (v := .ref (g.1 2 0)) rfl rfl w5_87 dX6_isReady_1 ?_
  refine r_get2 C0 h0.2.1.1 11 (by decide) (v := .int (M 2)) rfl rfl w4_23 dX6_isReady_4 ?_
  obtain ⟨q1, hf⟩ := gd_e hf
  exact hend q1 hf dX6_isReady_7
theorem dX6_openMinutes_0 : decode cX6_openMinutes 0 = .ok (.aload_n 0, 1) := by decide +kernel
theorem dX6_openMinutes_1 : decode cX6_openMinutes 1 = .ok (.getfield 10, 3) := by decide +kernel
theorem dX6_openMinutes_4 : decode cX6_openMinutes 4 = .ok (.getfield 137, 3) := by decide +kernel
theorem dX6_openMinutes_7 : decode cX6_openMinutes 7 = .ok (.ireturn, 1) := by decide +kernel
theorem hd_X6_openMinutes : yX6_openMinutes.cls = RX6 ∧ yX6_openMinutes.cls ≠ "java/lang/invoke/MethodHandle" ∧ yX6_openMinutes.cls ≠ "java/lang/invoke/VarHandle" ∧ (parseMethodDescriptor yX6_openMinutes.desc).map (fun d => d.parameters.length) = some 0 := by decide +kernel
set_option maxRecDepth 100000 in
set_option maxHeartbeats 4000000 in
theorem c_X6_openMinutes (l : Launch) (D : va_G) (g : xG) (tb : List xQ) (hT : x_T g tb)  (h0 : x_fb tb) {M : xM} {r : Int32} {M' : xM} (hf : f_X6_openMinutes  M = some (r, M')) :
    cI l D g tb yX6_openMinutes cX6_openMinutes 1 .int ({ frames := 0, cells := 0, slots := 0, locals := 0 } : Room) [.ref (g.1 4 1664)] M r M' := by
  refine x_startI (own := RX6) (by decide +kernel) rfl rfl (Nat.le_of_ble_eq_true rfl) hT ?_
  intro p e s m args below meth c Q C0 hend
  unfold f_X6_openMinutes at hf
  refine r_aload_n C0 (kk := 0) 0 rfl dX6_openMinutes_0 ?_
  refine r_get4 C0 h0.1 0 (by decide) (v := .ref (g.1 2 0)) rfl rfl w5_87 dX6_openMinutes_1 ?_
  refine r_get2 C0 h0.2.1.1 12 (by decide) (v := .int (M 3)) rfl rfl w4_25 dX6_openMinutes_4 ?_
  exact hend hf dX6_openMinutes_7
theorem dX6_ringings_0 : decode cX6_ringings 0 = .ok (.aload_n 0, 1) := by decide +kernel
theorem dX6_ringings_1 : decode cX6_ringings 1 = .ok (.getfield 10, 3) := by decide +kernel
theorem dX6_ringings_4 : decode cX6_ringings 4 = .ok (.getfield 140, 3) := by decide +kernel
theorem dX6_ringings_7 : decode cX6_ringings 7 = .ok (.ireturn, 1) := by decide +kernel
theorem hd_X6_ringings : yX6_ringings.cls = RX6 ∧ yX6_ringings.cls ≠ "java/lang/invoke/MethodHandle" ∧ yX6_ringings.cls ≠ "java/lang/invoke/VarHandle" ∧ (parseMethodDescriptor yX6_ringings.desc).map (fun d => d.parameters.length) = some 0 := by decide +kernel
set_option maxRecDepth 100000 in
set_option maxHeartbeats 4000000 in
theorem c_X6_ringings (l : Launch) (D : va_G) (g : xG) (tb : List xQ) (hT : x_T g tb)  (h0 : x_fb tb) {M : xM} {r : Int32} {M' : xM} (hf : f_X6_ringings  M = some (r, M')) :
    cI l D g tb yX6_ringings cX6_ringings 1 .int ({ frames := 0, cells := 0, slots := 0, locals := 0 } : Room) [.ref (g.1 4 1664)] M r M' := by
  refine x_startI (own := RX6) (by decide +kernel) rfl rfl (Nat.le_of_ble_eq_true rfl) hT ?_
  intro p e s m args below meth c Q C0 hend
  unfold f_X6_ringings at hf
  refine r_aload_n C0 (kk := 0) 0 rfl dX6_ringings_0 ?_
  refine r_get4 C0 h0.1 0 (by decide) (v := .ref (g.1 2 0)) rfl rfl w5_87 dX6_ringings_1 ?_
  refine r_get2 C0 h0.2.1.1 13 (by decide) (v := .int (M 4)) rfl rfl w4_27 dX6_ringings_4 ?_
  exact hend hf dX6_ringings_7
theorem dX6_stallCount_0 : decode cX6_stallCount 0 = .ok (.aload_n 0, 1) := by decide +kernel
theorem dX6_stallCount_1 : decode cX6_stallCount 1 = .ok (.getfield 10, 3) := by decide +kernel
theorem dX6_stallCount_4 : decode cX6_stallCount 4 = .ok (.getfield 66, 3) := by decide +kernel
theorem dX6_stallCount_7 : decode cX6_stallCount 7 = .ok (.ireturn, 1) := by decide +kernel
theorem hd_X6_stallCount : yX6_stallCount.cls = RX6 ∧ yX6_stallCount.cls ≠ "java/lang/invoke/MethodHandle" ∧ yX6_stallCount.cls ≠ "java/lang/invoke/VarHandle" ∧ (parseMethodDescriptor yX6_stallCount.desc).map (fun d => d.parameters.length) = some 0 := by decide +kernel
set_option maxRecDepth 100000 in
set_option maxHeartbeats 4000000 in
theorem c_X6_stallCount (l : Launch) (D : va_G) (g : xG) (tb : List xQ) (hT : x_T g tb)  (h0 : x_fb tb) {M : xM} {r : Int32} {M' : xM} (hf : f_X6_stallCount  M = some (r, M')) :
    cI l D g tb yX6_stallCount cX6_stallCount 1 .int ({ frames := 0, cells := 0, slots := 0, locals := 0 } : Room) [.ref (g.1 4 1664)] M r M' := by
  refine x_startI (own := RX6) (by decide +kernel) rfl rfl (Nat.le_of_ble_eq_true rfl) hT ?_
  intro p e s m args below meth c Q C0 hend
  unfold f_X6_stallCount at hf
  refine r_aload_n C0 (kk := 0) 0 rfl dX6_stallCount_0 ?_
  refine r_get4 C0 h0.1 0 (by decide) (v := .ref (g.1 2 0)) rfl rfl w5_87 dX6_stallCount_1 ?_
  refine r_get2 C0 h0.2.1.1 1 (by decide) (v := .int (M 9)) rfl rfl w3_239 dX6_stallCount_4 ?_
  exact hend hf dX6_stallCount_7
theorem dX6_checkStall_0 : decode cX6_checkStall 0 = .ok (.iload_n 1, 1) := by decide +kernel
theorem dX6_checkStall_1 : decode cX6_checkStall 1 = .ok (.ifCond .lt 14, 3) := by decide +kernel
theorem dX6_checkStall_4 : decode cX6_checkStall 4 = .ok (.iload_n 1, 1) := by decide +kernel
theorem dX6_checkStall_5 : decode cX6_checkStall 5 = .ok (.aload_n 0, 1) := by decide +kernel
theorem dX6_checkStall_6 : decode cX6_checkStall 6 = .ok (.getfield 10, 3) := by decide +kernel
theorem dX6_checkStall_9 : decode cX6_checkStall 9 = .ok (.getfield 66, 3) := by decide +kernel
theorem dX6_checkStall_12 : decode cX6_checkStall 12 = .ok (.if_icmp .lt 13, 3) := by decide +kernel
theorem dX6_checkStall_15 : decode cX6_checkStall 15 = .ok (.new 200, 3) := by decide +kernel
theorem dX6_checkStall_18 : decode cX6_checkStall 18 = .ok (.dup, 1) := by decide +kernel
theorem dX6_checkStall_19 : decode cX6_checkStall 19 = .ok (.ldc 202, 2) := by decide +kernel
theorem dX6_checkStall_21 : decode cX6_checkStall 21 = .ok (.invokespecial 204, 3) := by decide +kernel
theorem dX6_checkStall_24 : decode cX6_checkStall 24 = .ok (.athrow, 1) := by decide +kernel
theorem dX6_checkStall_25 : decode cX6_checkStall 25 = .ok (.return_, 1) := by decide +kernel
theorem hd_X6_checkStall : yX6_checkStall.cls = RX6 ∧ yX6_checkStall.cls ≠ "java/lang/invoke/MethodHandle" ∧ yX6_checkStall.cls ≠ "java/lang/invoke/VarHandle" ∧ (parseMethodDescriptor yX6_checkStall.desc).map (fun d => d.parameters.length) = some 1 := by decide +kernel
set_option maxRecDepth 100000 in
set_option maxHeartbeats 4000000 in
theorem c_X6_checkStall (l : Launch) (D : va_G) (g : xG) (tb : List xQ) (hT : x_T g tb) {a1 : Int32} (h0 : x_fb tb) {M M' : xM} (hf : f_X6_checkStall a1 M = some M') :
    cV l D g tb yX6_checkStall cX6_checkStall 2 ({ frames := 0, cells := 0, slots := 0, locals := 0 } : Room) [.ref (g.1 4 1664), .int a1] M M' := by
  refine x_startV (own := RX6) (by decide +kernel) rfl rfl (Nat.le_of_ble_eq_true rfl) hT ?_
  intro p e s m args below meth c Q C0 hend
  have B15 : ∀ (M : xM), f_X6_checkStall_c15  a1 M = some M' → WW p l e ({ frames := 0, cells := 0, slots := 0, locals := 0 } : Room) s m args below meth c 0 0 Q 2 D g tb 15 [] [] M := by
    intro     M hf
    unfold f_X6_checkStall_c15 at hf
    exact none_ne hf
  unfold f_X6_checkStall at hf
  refine r_iload_n C0 (kk := 1) 1 rfl dX6_checkStall_0 ?_
  refine r_if_lt C0 (tgt := 15) (by decide) dX6_checkStall_1 (fun q1 => ?_) (fun q1 => ?_)
  · have hf := ie_t hf q1
    refine WW.sub [] rfl ?_
    exact B15     _ hf
  · have hf := ie_f hf q1
    refine r_iload_n C0 (kk := 1) 1 rfl dX6_checkStall_4 ?_
    refine r_aload_n C0 (kk := 0) 0 rfl dX6_checkStall_5 ?_
    refine r_get4 C0 h0.1 0 (by decide) (v := .ref (g.1 2 0)) rfl rfl w5_87 dX6_checkStall_6 ?_
    refine r_get2 C0 h0.2.1.1 1 (by decide) (v := .int (M 9)) rfl rfl w3_239 dX6_checkStall_9 ?_
    refine r_icmp_lt C0 (tgt := 25) (by decide) dX6_checkStall_12 (fun q2 => ?_) (fun q2 => ?_)
    · have hf := ie_t hf q2
      exact hend hf dX6_checkStall_25
    · have hf := ie_f hf q2
      refine WW.sub [] rfl ?_
      exact B15     _ hf
theorem dX6_buyerCount_0 : decode cX6_buyerCount 0 = .ok (.aload_n 0, 1) := by decide +kernel
theorem dX6_buyerCount_1 : decode cX6_buyerCount 1 = .ok (.getfield 10, 3) := by decide +kernel
theorem dX6_buyerCount_4 : decode cX6_buyerCount 4 = .ok (.getfield 211, 3) := by decide +kernel
theorem dX6_buyerCount_7 : decode cX6_buyerCount 7 = .ok (.ireturn, 1) := by decide +kernel
theorem hd_X6_buyerCount : yX6_buyerCount.cls = RX6 ∧ yX6_buyerCount.cls ≠ "java/lang/invoke/MethodHandle" ∧ yX6_buyerCount.cls ≠ "java/lang/invoke/VarHandle" ∧ (parseMethodDescriptor yX6_buyerCount.desc).map (fun d => d.parameters.length) = some 0 := by decide +kernel
set_option maxRecDepth 100000 in
set_option maxHeartbeats 4000000 in
theorem c_X6_buyerCount (l : Launch) (D : va_G) (g : xG) (tb : List xQ) (hT : x_T g tb)  (h0 : x_fb tb) {M : xM} {r : Int32} {M' : xM} (hf : f_X6_buyerCount  M = some (r, M')) :
    cI l D g tb yX6_buyerCount cX6_buyerCount 1 .int ({ frames := 0, cells := 0, slots := 0, locals := 0 } : Room) [.ref (g.1 4 1664)] M r M' := by
  refine x_startI (own := RX6) (by decide +kernel) rfl rfl (Nat.le_of_ble_eq_true rfl) hT ?_
  intro p e s m args below meth c Q C0 hend
  unfold f_X6_buyerCount at hf
  refine r_aload_n C0 (kk := 0) 0 rfl dX6_buyerCount_0 ?_
  refine r_get4 C0 h0.1 0 (by decide) (v := .ref (g.1 2 0)) rfl rfl w5_87 dX6_buyerCount_1 ?_
  refine r_get2 C0 h0.2.1.1 3 (by decide) (v := .int (M 10)) rfl rfl w4_6 dX6_buyerCount_4 ?_
  exact hend hf dX6_buyerCount_7
theorem dX6_checkBuyer_0 : decode cX6_checkBuyer 0 = .ok (.iload_n 1, 1) := by decide +kernel
theorem dX6_checkBuyer_1 : decode cX6_checkBuyer 1 = .ok (.ifCond .lt 14, 3) := by decide +kernel
theorem dX6_checkBuyer_4 : decode cX6_checkBuyer 4 = .ok (.iload_n 1, 1) := by decide +kernel
theorem dX6_checkBuyer_5 : decode cX6_checkBuyer 5 = .ok (.aload_n 0, 1) := by decide +kernel
theorem dX6_checkBuyer_6 : decode cX6_checkBuyer 6 = .ok (.getfield 10, 3) := by decide +kernel
theorem dX6_checkBuyer_9 : decode cX6_checkBuyer 9 = .ok (.getfield 211, 3) := by decide +kernel
theorem dX6_checkBuyer_12 : decode cX6_checkBuyer 12 = .ok (.if_icmp .lt 13, 3) := by decide +kernel
theorem dX6_checkBuyer_15 : decode cX6_checkBuyer 15 = .ok (.new 200, 3) := by decide +kernel
theorem dX6_checkBuyer_18 : decode cX6_checkBuyer 18 = .ok (.dup, 1) := by decide +kernel
theorem dX6_checkBuyer_19 : decode cX6_checkBuyer 19 = .ok (.ldc 253, 2) := by decide +kernel
theorem dX6_checkBuyer_21 : decode cX6_checkBuyer 21 = .ok (.invokespecial 204, 3) := by decide +kernel
theorem dX6_checkBuyer_24 : decode cX6_checkBuyer 24 = .ok (.athrow, 1) := by decide +kernel
theorem dX6_checkBuyer_25 : decode cX6_checkBuyer 25 = .ok (.return_, 1) := by decide +kernel
theorem hd_X6_checkBuyer : yX6_checkBuyer.cls = RX6 ∧ yX6_checkBuyer.cls ≠ "java/lang/invoke/MethodHandle" ∧ yX6_checkBuyer.cls ≠ "java/lang/invoke/VarHandle" ∧ (parseMethodDescriptor yX6_checkBuyer.desc).map (fun d => d.parameters.length) = some 1 := by decide +kernel
set_option maxRecDepth 100000 in
set_option maxHeartbeats 4000000 in
theorem c_X6_checkBuyer (l : Launch) (D : va_G) (g : xG) (tb : List xQ) (hT : x_T g tb) {a1 : Int32} (h0 : x_fb tb) {M M' : xM} (hf : f_X6_checkBuyer a1 M = some M') :
    cV l D g tb yX6_checkBuyer cX6_checkBuyer 2 ({ frames := 0, cells := 0, slots := 0, locals := 0 } : Room) [.ref (g.1 4 1664), .int a1] M M' := by
  refine x_startV (own := RX6) (by decide +kernel) rfl rfl (Nat.le_of_ble_eq_true rfl) hT ?_
  intro p e s m args below meth c Q C0 hend
  have B15 : ∀ (M : xM), f_X6_checkBuyer_c15  a1 M = some M' → WW p l e ({ frames := 0, cells := 0, slots := 0, locals := 0 } : Room) s m args below meth c 0 0 Q 2 D g tb 15 [] [] M := by
    intro     M hf
    unfold f_X6_checkBuyer_c15 at hf
    exact none_ne hf
  unfold f_X6_checkBuyer at hf
  refine r_iload_n C0 (kk := 1) 1 rfl dX6_checkBuyer_0 ?_
  refine r_if_lt C0 (tgt := 15) (by decide) dX6_checkBuyer_1 (fun q1 => ?_) (fun q1 => ?_)
  · have hf := ie_t hf q1
    refine WW.sub [] rfl ?_
    exact B15     _ hf
  · have hf := ie_f hf q1
    refine r_iload_n C0 (kk := 1) 1 rfl dX6_checkBuyer_4 ?_
    refine r_aload_n C0 (kk := 0) 0 rfl dX6_checkBuyer_5 ?_
    refine r_get4 C0 h0.1 0 (by decide) (v := .ref (g.1 2 0)) rfl rfl w5_87 dX6_checkBuyer_6 ?_
    refine r_get2 C0 h0.2.1.1 3 (by decide) (v := .int (M 10)) rfl rfl w4_6 dX6_checkBuyer_9 ?_
    refine r_icmp_lt C0 (tgt := 25) (by decide) dX6_checkBuyer_12 (fun q2 => ?_) (fun q2 => ?_)
    · have hf := ie_t hf q2
      exact hend hf dX6_checkBuyer_25
    · have hf := ie_f hf q2
      refine WW.sub [] rfl ?_
      exact B15     _ hf
theorem dX2_countHeld_0 : decode cX2_countHeld 0 = .ok (.iconst 0, 1) := by decide +kernel
theorem dX2_countHeld_1 : decode cX2_countHeld 1 = .ok (.istore_n 2, 1) := by decide +kernel
theorem dX2_countHeld_2 : decode cX2_countHeld 2 = .ok (.iconst 0, 1) := by decide +kernel
theorem dX2_countHeld_3 : decode cX2_countHeld 3 = .ok (.istore_n 3, 1) := by decide +kernel
theorem dX2_countHeld_4 : decode cX2_countHeld 4 = .ok (.iload_n 3, 1) := by decide +kernel
theorem dX2_countHeld_5 : decode cX2_countHeld 5 = .ok (.aload_n 0, 1) := by decide +kernel
theorem dX2_countHeld_6 : decode cX2_countHeld 6 = .ok (.getfield 33, 3) := by decide +kernel
theorem dX2_countHeld_9 : decode cX2_countHeld 9 = .ok (.if_icmp .ge 25, 3) := by decide +kernel
theorem dX2_countHeld_12 : decode cX2_countHeld 12 = .ok (.aload_n 0, 1) := by decide +kernel
theorem dX2_countHeld_13 : decode cX2_countHeld 13 = .ok (.getfield 19, 3) := by decide +kernel
theorem dX2_countHeld_16 : decode cX2_countHeld 16 = .ok (.iload_n 3, 1) := by decide +kernel
theorem dX2_countHeld_17 : decode cX2_countHeld 17 = .ok (.aaload, 1) := by decide +kernel
theorem dX2_countHeld_18 : decode cX2_countHeld 18 = .ok (.getfield 81, 3) := by decide +kernel
theorem dX2_countHeld_21 : decode cX2_countHeld 21 = .ok (.iload_n 1, 1) := by decide +kernel
theorem dX2_countHeld_22 : decode cX2_countHeld 22 = .ok (.if_icmp .ne 6, 3) := by decide +kernel
theorem dX2_countHeld_25 : decode cX2_countHeld 25 = .ok (.iinc 2 1, 3) := by decide +kernel
theorem dX2_countHeld_28 : decode cX2_countHeld 28 = .ok (.iinc 3 1, 3) := by decide +kernel
theorem dX2_countHeld_31 : decode cX2_countHeld 31 = .ok (.goto (-27), 3) := by decide +kernel
theorem dX2_countHeld_34 : decode cX2_countHeld 34 = .ok (.iload_n 2, 1) := by decide +kernel
theorem dX2_countHeld_35 : decode cX2_countHeld 35 = .ok (.ireturn, 1) := by decide +kernel
theorem hd_X2_countHeld : yX2_countHeld.cls = RX2 ∧ yX2_countHeld.cls ≠ "java/lang/invoke/MethodHandle" ∧ yX2_countHeld.cls ≠ "java/lang/invoke/VarHandle" ∧ (parseMethodDescriptor yX2_countHeld.desc).map (fun d => d.parameters.length) = some 1 := by decide +kernel
set_option maxRecDepth 100000 in
set_option maxHeartbeats 4000000 in
theorem c_X2_countHeld (l : Launch) (D : va_G) (g : xG) (tb : List xQ) (hT : x_T g tb) {a0 : Nat} {a1 : Int32} (h0 : x_mk tb a0) {M : xM} {r : Int32} {M' : xM} (hf : f_X2_countHeld a0 a1 M = some (r, M')) :
    cI l D g tb yX2_countHeld cX2_countHeld 4 .int ({ frames := 0, cells := 0, slots := 0, locals := 0 } : Room) [.ref (g.1 2 a0), .int a1] M r M' := by
  refine x_startI (own := RX2) (by decide +kernel) rfl rfl (Nat.le_of_ble_eq_true rfl) hT ?_
  intro p e s m args below meth c Q C0 hend
  have B4 : ∀ (k4 : Int32 → Int32 → xM → Option (Int32 × xM)) (hk4 : ∀ (v2 : Int32) (v3 : Int32)  (M : xM), k4 v2 v3 M = some (r, M') → WW p l e ({ frames := 0, cells := 0, slots := 0, locals := 0 } : Room) s m args below meth c 0 0 Q 4 D g tb 4 [(0, .ref (g.1 2 a0)), (1, .int a1), (2, .int v2), (3, .int v3)] [] M), ∀ (v2 : Int32) (v3 : Int32)  (M : xM), fb_X2_countHeld_c4 k4 a0 a1 v2 v3 M = some (r, M') → WW p l e ({ frames := 0, cells := 0, slots := 0, locals := 0 } : Room) s m args below meth c 0 0 Q 4 D g tb 4 [(0, .ref (g.1 2 a0)), (1, .int a1), (2, .int v2), (3, .int v3)] [] M := by
    intro k4 hk4 v2 v3  M hf
    unfold fb_X2_countHeld_c4 at hf
    refine r_iload_n C0 (kk := 3) 3 rfl dX2_countHeld_4 ?_
    refine r_aload_n C0 (kk := 0) 0 rfl dX2_countHeld_5 ?_
    refine r_get2 C0 h0.1 3 (by decide) (v := .int (M (a0 + 10))) rfl rfl w4_4 dX2_countHeld_6 ?_
    refine r_icmp_ge C0 (tgt := 34) (by decide) dX2_countHeld_9 (fun q1 => ?_) (fun q1 => ?_)
    · have hf := ie_t hf q1
      refine r_iload_n C0 (kk := 2) 2 rfl dX2_countHeld_34 ?_
      exact hend hf dX2_countHeld_35
    · have hf := ie_f hf q1
      refine r_aload_n C0 (kk := 0) 0 rfl dX2_countHeld_12 ?_
      refine r_get2 C0 h0.1 2 (by decide) (v := .ref (g.1 11 (a0 + 77))) rfl rfl w4_1 dX2_countHeld_13 ?_
      refine r_iload_n C0 (kk := 3) 3 rfl dX2_countHeld_16 ?_
      obtain ⟨q2, hf⟩ := gd_e hf
      have hm3 : ((1, ((a0 + 77) + 8 * v3.toNatClampNeg), 0) : xQ) ∈ tb := h0.2.2.2.2.2 _ (inb_lt q2)
      refine r_aald11 C0 h0.2.2.1 (inb_in q2) dX2_countHeld_17 ?_
      refine r_get1 C0 hm3 4 (by decide) (v := .int (M (((a0 + 77) + 8 * v3.toNatClampNeg) + 4))) rfl rfl w3_209 dX2_countHeld_18 ?_
      refine r_iload_n C0 (kk := 1) 1 rfl dX2_countHeld_21 ?_
      refine r_icmp_ne C0 (tgt := 28) (by decide) dX2_countHeld_22 (fun q4 => ?_) (fun q4 => ?_)
      · have hf := ie_f hf q4
        refine r_iincc C0 3 rfl (k0 := 1) (by decide) (by decide) (lv2 := [(3, .int (v3 + 1)), (0, .ref (g.1 2 a0)), (1, .int a1), (2, .int v2)]) rfl dX2_countHeld_28 ?_
        refine r_goto C0 (tgt := 4) (by decide) dX2_countHeld_31 ?_
        refine WW.sub [1, 2, 3, 0] rfl ?_
        exact hk4 _ _   _ hf
      · have hf := ie_t hf q4
        refine r_iincc C0 2 rfl (k0 := 1) (by decide) (by decide) (lv2 := [(2, .int (v2 + 1)), (0, .ref (g.1 2 a0)), (1, .int a1), (3, .int v3)]) rfl dX2_countHeld_25 ?_
        refine r_iincc C0 3 rfl (k0 := 1) (by decide) (by decide) (lv2 := [(3, .int (v3 + 1)), (2, .int (v2 + 1)), (0, .ref (g.1 2 a0)), (1, .int a1)]) rfl dX2_countHeld_28 ?_
        refine r_goto C0 (tgt := 4) (by decide) dX2_countHeld_31 ?_
        refine WW.sub [2, 3, 1, 0] rfl ?_
        exact hk4 _ _   _ hf
  have L4 : ∀ (v2 : Int32) (v3 : Int32)  (M : xM), f_X2_countHeld_c4  a0 a1 v2 v3 M = some (r, M') → WW p l e ({ frames := 0, cells := 0, slots := 0, locals := 0 } : Room) s m args below meth c 0 0 Q 4 D g tb 4 [(0, .ref (g.1 2 a0)), (1, .int a1), (2, .int v2), (3, .int v3)] [] M := lp_ind (P := fun f => ∀ (v2 : Int32) (v3 : Int32)  (M : xM), f v2 v3 M = some (r, M') → WW p l e ({ frames := 0, cells := 0, slots := 0, locals := 0 } : Room) s m args below meth c 0 0 Q 4 D g tb 4 [(0, .ref (g.1 2 a0)), (1, .int a1), (2, .int v2), (3, .int v3)] [] M) (fun _ _ _ h => none_ne h) (fun f hf => B4 f hf) FU
  unfold f_X2_countHeld at hf
  refine r_iconst C0 (v := 0) dX2_countHeld_0 rfl ?_
  refine r_istore_n C0 (kk := 2) (lv2 := [(2, .int 0), (0, .ref (g.1 2 a0)), (1, .int a1)]) (by decide) rfl dX2_countHeld_1 ?_
  refine r_iconst C0 (v := 0) dX2_countHeld_2 rfl ?_
  refine r_istore_n C0 (kk := 3) (lv2 := [(3, .int 0), (2, .int 0), (0, .ref (g.1 2 a0)), (1, .int a1)]) (by decide) rfl dX2_countHeld_3 ?_
  refine WW.sub [2, 3, 1, 0] rfl ?_
  exact L4   _ _   _ hf
theorem dX4_copyFrom_0 : decode cX4_copyFrom 0 = .ok (.aload_n 0, 1) := by decide +kernel
theorem dX4_copyFrom_1 : decode cX4_copyFrom 1 = .ok (.aload_n 1, 1) := by decide +kernel
theorem dX4_copyFrom_2 : decode cX4_copyFrom 2 = .ok (.getfield 9, 3) := by decide +kernel
theorem dX4_copyFrom_5 : decode cX4_copyFrom 5 = .ok (.putfield 9, 3) := by decide +kernel
theorem dX4_copyFrom_8 : decode cX4_copyFrom 8 = .ok (.aload_n 0, 1) := by decide +kernel
theorem dX4_copyFrom_9 : decode cX4_copyFrom 9 = .ok (.aload_n 1, 1) := by decide +kernel
theorem dX4_copyFrom_10 : decode cX4_copyFrom 10 = .ok (.getfield 15, 3) := by decide +kernel
theorem dX4_copyFrom_13 : decode cX4_copyFrom 13 = .ok (.putfield 15, 3) := by decide +kernel
theorem dX4_copyFrom_16 : decode cX4_copyFrom 16 = .ok (.aload_n 0, 1) := by decide +kernel
theorem dX4_copyFrom_17 : decode cX4_copyFrom 17 = .ok (.aload_n 1, 1) := by decide +kernel
theorem dX4_copyFrom_18 : decode cX4_copyFrom 18 = .ok (.getfield 18, 3) := by decide +kernel
theorem dX4_copyFrom_21 : decode cX4_copyFrom 21 = .ok (.putfield 18, 3) := by decide +kernel
theorem dX4_copyFrom_24 : decode cX4_copyFrom 24 = .ok (.aload_n 0, 1) := by decide +kernel
theorem dX4_copyFrom_25 : decode cX4_copyFrom 25 = .ok (.aload_n 1, 1) := by decide +kernel
theorem dX4_copyFrom_26 : decode cX4_copyFrom 26 = .ok (.getfield 21, 3) := by decide +kernel
theorem dX4_copyFrom_29 : decode cX4_copyFrom 29 = .ok (.putfield 21, 3) := by decide +kernel
theorem dX4_copyFrom_32 : decode cX4_copyFrom 32 = .ok (.aload_n 0, 1) := by decide +kernel
theorem dX4_copyFrom_33 : decode cX4_copyFrom 33 = .ok (.aload_n 1, 1) := by decide +kernel
theorem dX4_copyFrom_34 : decode cX4_copyFrom 34 = .ok (.getfield 24, 3) := by decide +kernel
theorem dX4_copyFrom_37 : decode cX4_copyFrom 37 = .ok (.putfield 24, 3) := by decide +kernel
theorem dX4_copyFrom_40 : decode cX4_copyFrom 40 = .ok (.aload_n 0, 1) := by decide +kernel
theorem dX4_copyFrom_41 : decode cX4_copyFrom 41 = .ok (.aload_n 1, 1) := by decide +kernel
theorem dX4_copyFrom_42 : decode cX4_copyFrom 42 = .ok (.getfield 27, 3) := by decide +kernel
theorem dX4_copyFrom_45 : decode cX4_copyFrom 45 = .ok (.putfield 27, 3) := by decide +kernel
theorem dX4_copyFrom_48 : decode cX4_copyFrom 48 = .ok (.aload_n 0, 1) := by decide +kernel
theorem dX4_copyFrom_49 : decode cX4_copyFrom 49 = .ok (.aload_n 1, 1) := by decide +kernel
theorem dX4_copyFrom_50 : decode cX4_copyFrom 50 = .ok (.getfield 30, 3) := by decide +kernel
theorem dX4_copyFrom_53 : decode cX4_copyFrom 53 = .ok (.putfield 30, 3) := by decide +kernel
theorem dX4_copyFrom_56 : decode cX4_copyFrom 56 = .ok (.aload_n 0, 1) := by decide +kernel
theorem dX4_copyFrom_57 : decode cX4_copyFrom 57 = .ok (.aload_n 1, 1) := by decide +kernel
theorem dX4_copyFrom_58 : decode cX4_copyFrom 58 = .ok (.getfield 33, 3) := by decide +kernel
theorem dX4_copyFrom_61 : decode cX4_copyFrom 61 = .ok (.putfield 33, 3) := by decide +kernel
theorem dX4_copyFrom_64 : decode cX4_copyFrom 64 = .ok (.aload_n 0, 1) := by decide +kernel
theorem dX4_copyFrom_65 : decode cX4_copyFrom 65 = .ok (.aload_n 1, 1) := by decide +kernel
theorem dX4_copyFrom_66 : decode cX4_copyFrom 66 = .ok (.getfield 36, 3) := by decide +kernel
theorem dX4_copyFrom_69 : decode cX4_copyFrom 69 = .ok (.putfield 36, 3) := by decide +kernel
theorem dX4_copyFrom_72 : decode cX4_copyFrom 72 = .ok (.return_, 1) := by decide +kernel
theorem hd_X4_copyFrom : yX4_copyFrom.cls = RX4 ∧ yX4_copyFrom.cls ≠ "java/lang/invoke/MethodHandle" ∧ yX4_copyFrom.cls ≠ "java/lang/invoke/VarHandle" ∧ (parseMethodDescriptor yX4_copyFrom.desc).map (fun d => d.parameters.length) = some 1 := by decide +kernel
set_option maxRecDepth 100000 in
set_option maxHeartbeats 4000000 in
theorem c_X4_copyFrom (l : Launch) (D : va_G) (g : xG) (tb : List xQ) (hT : x_T g tb) {a0 : Nat} {a1 : Nat} (h0 : ((0, a0, 0) : xQ) ∈ tb) (h1 : ((0, a1, 0) : xQ) ∈ tb) {M M' : xM} (hf : f_X4_copyFrom a0 a1 M = some M') :
    cV l D g tb yX4_copyFrom cX4_copyFrom 2 ({ frames := 0, cells := 0, slots := 0, locals := 0 } : Room) [.ref (g.1 0 a0), .ref (g.1 0 a1)] M M' := by
  refine x_startV (own := RX4) (by decide +kernel) rfl rfl (Nat.le_of_ble_eq_true rfl) hT ?_
  intro p e s m args below meth c Q C0 hend
  unfold f_X4_copyFrom at hf
  refine r_aload_n C0 (kk := 0) 0 rfl dX4_copyFrom_0 ?_
  refine r_aload_n C0 (kk := 1) 1 rfl dX4_copyFrom_1 ?_
  refine r_get0 C0 h1 0 (by decide) (v := .int (M (a1 + 0))) rfl rfl w3_146 dX4_copyFrom_2 ?_
  refine r_put0 C0 h0 0 rfl rfl w3_146 rfl rfl rfl dX4_copyFrom_5 ?_
  refine r_aload_n C0 (kk := 0) 0 rfl dX4_copyFrom_8 ?_
  refine r_aload_n C0 (kk := 1) 1 rfl dX4_copyFrom_9 ?_
  refine r_get0 C0 h1 1 (by decide) (v := .int ((upd M (a0 + 0) (M (a1 + 0))) (a1 + 1))) rfl rfl w3_149 dX4_copyFrom_10 ?_
  refine r_put0 C0 h0 1 rfl rfl w3_149 rfl rfl rfl dX4_copyFrom_13 ?_
  refine r_aload_n C0 (kk := 0) 0 rfl dX4_copyFrom_16 ?_
  refine r_aload_n C0 (kk := 1) 1 rfl dX4_copyFrom_17 ?_
  refine r_get0 C0 h1 2 (by decide) (v := .int ((upd (upd M (a0 + 0) (M (a1 + 0))) (a0 + 1) ((upd M (a0 + 0) (M (a1 + 0))) (a1 + 1))) (a1 + 2))) rfl rfl w3_152 dX4_copyFrom_18 ?_
  refine r_put0 C0 h0 2 rfl rfl w3_152 rfl rfl rfl dX4_copyFrom_21 ?_
  refine r_aload_n C0 (kk := 0) 0 rfl dX4_copyFrom_24 ?_
  refine r_aload_n C0 (kk := 1) 1 rfl dX4_copyFrom_25 ?_
  refine r_get0 C0 h1 3 (by decide) (v := .int ((upd (upd (upd M (a0 + 0) (M (a1 + 0))) (a0 + 1) ((upd M (a0 + 0) (M (a1 + 0))) (a1 + 1))) (a0 + 2) ((upd (upd M (a0 + 0) (M (a1 + 0))) (a0 + 1) ((upd M (a0 + 0) (M (a1 + 0))) (a1 + 1))) (a1 + 2))) (a1 + 3))) rfl rfl w3_155 dX4_copyFrom_26 ?_
  refine r_put0 C0 h0 3 rfl rfl w3_155 rfl rfl rfl dX4_copyFrom_29 ?_
  refine r_aload_n C0 (kk := 0) 0 rfl dX4_copyFrom_32 ?_
  refine r_aload_n C0 (kk := 1) 1 rfl dX4_copyFrom_33 ?_
  refine r_get0 C0 h1 4 (by decide) (v := .int ((upd (upd (upd (upd M (a0 + 0) (M (a1 + 0))) (a0 + 1) ((upd M (a0 + 0) (M (a1 + 0))) (a1 + 1))) (a0 + 2) ((upd (upd M (a0 + 0) (M (a1 + 0))) (a0 + 1) ((upd M (a0 + 0) (M (a1 + 0))) (a1 + 1))) (a1 + 2))) (a0 + 3) ((upd (upd (upd M (a0 + 0) (M (a1 + 0))) (a0 + 1) ((upd M (a0 + 0) (M (a1 + 0))) (a1 + 1))) (a0 + 2) ((upd (upd M (a0 + 0) (M (a1 + 0))) (a0 + 1) ((upd M (a0 + 0) (M (a1 + 0))) (a1 + 1))) (a1 + 2))) (a1 + 3))) (a1 + 4))) rfl rfl w3_159 dX4_copyFrom_34 ?_
  refine r_put0 C0 h0 4 rfl rfl w3_159 rfl rfl rfl dX4_copyFrom_37 ?_
  refine r_aload_n C0 (kk := 0) 0 rfl dX4_copyFrom_40 ?_
  refine r_aload_n C0 (kk := 1) 1 rfl dX4_copyFrom_41 ?_
  refine r_get0 C0 h1 5 (by decide) (v := .int ((upd (upd (upd (upd (upd M (a0 + 0) (M (a1 + 0))) (a0 + 1) ((upd M (a0 + 0) (M (a1 + 0))) (a1 + 1))) (a0 + 2) ((upd (upd M (a0 + 0) (M (a1 + 0))) (a0 + 1) ((upd M (a0 + 0) (M (a1 + 0))) (a1 + 1))) (a1 + 2))) (a0 + 3) ((upd (upd (upd M (a0 + 0) (M (a1 + 0))) (a0 + 1) ((upd M (a0 + 0) (M (a1 + 0))) (a1 + 1))) (a0 + 2) ((upd (upd M (a0 + 0) (M (a1 + 0))) (a0 + 1) ((upd M (a0 + 0) (M (a1 + 0))) (a1 + 1))) (a1 + 2))) (a1 + 3))) (a0 + 4) ((upd (upd (upd (upd M (a0 + 0) (M (a1 + 0))) (a0 + 1) ((upd M (a0 + 0) (M (a1 + 0))) (a1 + 1))) (a0 + 2) ((upd (upd M (a0 + 0) (M (a1 + 0))) (a0 + 1) ((upd M (a0 + 0) (M (a1 + 0))) (a1 + 1))) (a1 + 2))) (a0 + 3) ((upd (upd (upd M (a0 + 0) (M (a1 + 0))) (a0 + 1) ((upd M (a0 + 0) (M (a1 + 0))) (a1 + 1))) (a0 + 2) ((upd (upd M (a0 + 0) (M (a1 + 0))) (a0 + 1) ((upd M (a0 + 0) (M (a1 + 0))) (a1 + 1))) (a1 + 2))) (a1 + 3))) (a1 + 4))) (a1 + 5))) rfl rfl w3_163 dX4_copyFrom_42 ?_
  refine r_put0 C0 h0 5 rfl rfl w3_163 rfl rfl rfl dX4_copyFrom_45 ?_
  refine r_aload_n C0 (kk := 0) 0 rfl dX4_copyFrom_48 ?_
  refine r_aload_n C0 (kk := 1) 1 rfl dX4_copyFrom_49 ?_
  refine r_get0 C0 h1 6 (by decide) (v := .int ((upd (upd (upd (upd (upd (upd M (a0 + 0) (M (a1 + 0))) (a0 + 1) ((upd M (a0 + 0) (M (a1 + 0))) (a1 + 1))) (a0 + 2) ((upd (upd M (a0 + 0) (M (a1 + 0))) (a0 + 1) ((upd M (a0 + 0) (M (a1 + 0))) (a1 + 1))) (a1 + 2))) (a0 + 3) ((upd (upd (upd M (a0 + 0) (M (a1 + 0))) (a0 + 1) ((upd M (a0 + 0) (M (a1 + 0))) (a1 + 1))) (a0 + 2) ((upd (upd M (a0 + 0) (M (a1 + 0))) (a0 + 1) ((upd M (a0 + 0) (M (a1 + 0))) (a1 + 1))) (a1 + 2))) (a1 + 3))) (a0 + 4) ((upd (upd (upd (upd M (a0 + 0) (M (a1 + 0))) (a0 + 1) ((upd M (a0 + 0) (M (a1 + 0))) (a1 + 1))) (a0 + 2) ((upd (upd M (a0 + 0) (M (a1 + 0))) (a0 + 1) ((upd M (a0 + 0) (M (a1 + 0))) (a1 + 1))) (a1 + 2))) (a0 + 3) ((upd (upd (upd M (a0 + 0) (M (a1 + 0))) (a0 + 1) ((upd M (a0 + 0) (M (a1 + 0))) (a1 + 1))) (a0 + 2) ((upd (upd M (a0 + 0) (M (a1 + 0))) (a0 + 1) ((upd M (a0 + 0) (M (a1 + 0))) (a1 + 1))) (a1 + 2))) (a1 + 3))) (a1 + 4))) (a0 + 5) ((upd (upd (upd (upd (upd M (a0 + 0) (M (a1 + 0))) (a0 + 1) ((upd M (a0 + 0) (M (a1 + 0))) (a1 + 1))) (a0 + 2) ((upd (upd M (a0 + 0) (M (a1 + 0))) (a0 + 1) ((upd M (a0 + 0) (M (a1 + 0))) (a1 + 1))) (a1 + 2))) (a0 + 3) ((upd (upd (upd M (a0 + 0) (M (a1 + 0))) (a0 + 1) ((upd M (a0 + 0) (M (a1 + 0))) (a1 + 1))) (a0 + 2) ((upd (upd M (a0 + 0) (M (a1 + 0))) (a0 + 1) ((upd M (a0 + 0) (M (a1 + 0))) (a1 + 1))) (a1 + 2))) (a1 + 3))) (a0 + 4) ((upd (upd (upd (upd M (a0 + 0) (M (a1 + 0))) (a0 + 1) ((upd M (a0 + 0) (M (a1 + 0))) (a1 + 1))) (a0 + 2) ((upd (upd M (a0 + 0) (M (a1 + 0))) (a0 + 1) ((upd M (a0 + 0) (M (a1 + 0))) (a1 + 1))) (a1 + 2))) (a0 + 3) ((upd (upd (upd M (a0 + 0) (M (a1 + 0))) (a0 + 1) ((upd M (a0 + 0) (M (a1 + 0))) (a1 + 1))) (a0 + 2) ((upd (upd M (a0 + 0) (M (a1 + 0))) (a0 + 1) ((upd M (a0 + 0) (M (a1 + 0))) (a1 + 1))) (a1 + 2))) (a1 + 3))) (a1 + 4))) (a1 + 5))) (a1 + 6))) rfl rfl w3_167 dX4_copyFrom_50 ?_
  refine r_put0 C0 h0 6 rfl rfl w3_167 rfl rfl rfl dX4_copyFrom_53 ?_
  refine r_aload_n C0 (kk := 0) 0 rfl dX4_copyFrom_56 ?_
  refine r_aload_n C0 (kk := 1) 1 rfl dX4_copyFrom_57 ?_
  refine r_get0 C0 h1 7 (by decide) (v := .int ((upd (upd (upd (upd (upd (upd (upd M (a0 + 0) (M (a1 + 0))) (a0 + 1) ((upd M (a0 + 0) (M (a1 + 0))) (a1 + 1))) (a0 + 2) ((upd (upd M (a0 + 0) (M (a1 + 0))) (a0 + 1) ((upd M (a0 + 0) (M (a1 + 0))) (a1 + 1))) (a1 + 2))) (a0 + 3) ((upd (upd (upd M (a0 + 0) (M (a1 + 0))) (a0 + 1) ((upd M (a0 + 0) (M (a1 + 0))) (a1 + 1))) (a0 + 2) ((upd (upd M (a0 + 0) (M (a1 + 0))) (a0 + 1) ((upd M (a0 + 0) (M (a1 + 0))) (a1 + 1))) (a1 + 2))) (a1 + 3))) (a0 + 4) ((upd (upd (upd (upd M (a0 + 0) (M (a1 + 0))) (a0 + 1) ((upd M (a0 + 0) (M (a1 + 0))) (a1 + 1))) (a0 + 2) ((upd (upd M (a0 + 0) (M (a1 + 0))) (a0 + 1) ((upd M (a0 + 0) (M (a1 + 0))) (a1 + 1))) (a1 + 2))) (a0 + 3) ((upd (upd (upd M (a0 + 0) (M (a1 + 0))) (a0 + 1) ((upd M (a0 + 0) (M (a1 + 0))) (a1 + 1))) (a0 + 2) ((upd (upd M (a0 + 0) (M (a1 + 0))) (a0 + 1) ((upd M (a0 + 0) (M (a1 + 0))) (a1 + 1))) (a1 + 2))) (a1 + 3))) (a1 + 4))) (a0 + 5) ((upd (upd (upd (upd (upd M (a0 + 0) (M (a1 + 0))) (a0 + 1) ((upd M (a0 + 0) (M (a1 + 0))) (a1 + 1))) (a0 + 2) ((upd (upd M (a0 + 0) (M (a1 + 0))) (a0 + 1) ((upd M (a0 + 0) (M (a1 + 0))) (a1 + 1))) (a1 + 2))) (a0 + 3) ((upd (upd (upd M (a0 + 0) (M (a1 + 0))) (a0 + 1) ((upd M (a0 + 0) (M (a1 + 0))) (a1 + 1))) (a0 + 2) ((upd (upd M (a0 + 0) (M (a1 + 0))) (a0 + 1) ((upd M (a0 + 0) (M (a1 + 0))) (a1 + 1))) (a1 + 2))) (a1 + 3))) (a0 + 4) ((upd (upd (upd (upd M (a0 + 0) (M (a1 + 0))) (a0 + 1) ((upd M (a0 + 0) (M (a1 + 0))) (a1 + 1))) (a0 + 2) ((upd (upd M (a0 + 0) (M (a1 + 0))) (a0 + 1) ((upd M (a0 + 0) (M (a1 + 0))) (a1 + 1))) (a1 + 2))) (a0 + 3) ((upd (upd (upd M (a0 + 0) (M (a1 + 0))) (a0 + 1) ((upd M (a0 + 0) (M (a1 + 0))) (a1 + 1))) (a0 + 2) ((upd (upd M (a0 + 0) (M (a1 + 0))) (a0 + 1) ((upd M (a0 + 0) (M (a1 + 0))) (a1 + 1))) (a1 + 2))) (a1 + 3))) (a1 + 4))) (a1 + 5))) (a0 + 6) ((upd (upd (upd (upd (upd (upd M (a0 + 0) (M (a1 + 0))) (a0 + 1) ((upd M (a0 + 0) (M (a1 + 0))) (a1 + 1))) (a0 + 2) ((upd (upd M (a0 + 0) (M (a1 + 0))) (a0 + 1) ((upd M (a0 + 0) (M (a1 + 0))) (a1 + 1))) (a1 + 2))) (a0 + 3) ((upd (upd (upd M (a0 + 0) (M (a1 + 0))) (a0 + 1) ((upd M (a0 + 0) (M (a1 + 0))) (a1 + 1))) (a0 + 2) ((upd (upd M (a0 + 0) (M (a1 + 0))) (a0 + 1) ((upd M (a0 + 0) (M (a1 + 0))) (a1 + 1))) (a1 + 2))) (a1 + 3))) (a0 + 4) ((upd (upd (upd (upd M (a0 + 0) (M (a1 + 0))) (a0 + 1) ((upd M (a0 + 0) (M (a1 + 0))) (a1 + 1))) (a0 + 2) ((upd (upd M (a0 + 0) (M (a1 + 0))) (a0 + 1) ((upd M (a0 + 0) (M (a1 + 0))) (a1 + 1))) (a1 + 2))) (a0 + 3) ((upd (upd (upd M (a0 + 0) (M (a1 + 0))) (a0 + 1) ((upd M (a0 + 0) (M (a1 + 0))) (a1 + 1))) (a0 + 2) ((upd (upd M (a0 + 0) (M (a1 + 0))) (a0 + 1) ((upd M (a0 + 0) (M (a1 + 0))) (a1 + 1))) (a1 + 2))) (a1 + 3))) (a1 + 4))) (a0 + 5) ((upd (upd (upd (upd (upd M (a0 + 0) (M (a1 + 0))) (a0 + 1) ((upd M (a0 + 0) (M (a1 + 0))) (a1 + 1))) (a0 + 2) ((upd (upd M (a0 + 0) (M (a1 + 0))) (a0 + 1) ((upd M (a0 + 0) (M (a1 + 0))) (a1 + 1))) (a1 + 2))) (a0 + 3) ((upd (upd (upd M (a0 + 0) (M (a1 + 0))) (a0 + 1) ((upd M (a0 + 0) (M (a1 + 0))) (a1 + 1))) (a0 + 2) ((upd (upd M (a0 + 0) (M (a1 + 0))) (a0 + 1) ((upd M (a0 + 0) (M (a1 + 0))) (a1 + 1))) (a1 + 2))) (a1 + 3))) (a0 + 4) ((upd (upd (upd (upd M (a0 + 0) (M (a1 + 0))) (a0 + 1) ((upd M (a0 + 0) (M (a1 + 0))) (a1 + 1))) (a0 + 2) ((upd (upd M (a0 + 0) (M (a1 + 0))) (a0 + 1) ((upd M (a0 + 0) (M (a1 + 0))) (a1 + 1))) (a1 + 2))) (a0 + 3) ((upd (upd (upd M (a0 + 0) (M (a1 + 0))) (a0 + 1) ((upd M (a0 + 0) (M (a1 + 0))) (a1 + 1))) (a0 + 2) ((upd (upd M (a0 + 0) (M (a1 + 0))) (a0 + 1) ((upd M (a0 + 0) (M (a1 + 0))) (a1 + 1))) (a1 + 2))) (a1 + 3))) (a1 + 4))) (a1 + 5))) (a1 + 6))) (a1 + 7))) rfl rfl w3_169 dX4_copyFrom_58 ?_
  refine r_put0 C0 h0 7 rfl rfl w3_169 rfl rfl rfl dX4_copyFrom_61 ?_
  refine r_aload_n C0 (kk := 0) 0 rfl dX4_copyFrom_64 ?_
  refine r_aload_n C0 (kk := 1) 1 rfl dX4_copyFrom_65 ?_
  refine r_get0 C0 h1 8 (by decide) (v := .int ((upd (upd (upd (upd (upd (upd (upd (upd M (a0 + 0) (M (a1 + 0))) (a0 + 1) ((upd M (a0 + 0) (M (a1 + 0))) (a1 + 1))) (a0 + 2) ((upd (upd M (a0 + 0) (M (a1 + 0))) (a0 + 1) ((upd M (a0 + 0) (M (a1 + 0))) (a1 + 1))) (a1 + 2))) (a0 + 3) ((upd (upd (upd M (a0 + 0) (M (a1 + 0))) (a0 + 1) ((upd M (a0 + 0) (M (a1 + 0))) (a1 + 1))) (a0 + 2) ((upd (upd M (a0 + 0) (M (a1 + 0))) (a0 + 1) ((upd M (a0 + 0) (M (a1 + 0))) (a1 + 1))) (a1 + 2))) (a1 + 3))) (a0 + 4) ((upd (upd (upd (upd M (a0 + 0) (M (a1 + 0))) (a0 + 1) ((upd M (a0 + 0) (M (a1 + 0))) (a1 + 1))) (a0 + 2) ((upd (upd M (a0 + 0) (M (a1 + 0))) (a0 + 1) ((upd M (a0 + 0) (M (a1 + 0))) (a1 + 1))) (a1 + 2))) (a0 + 3) ((upd (upd (upd M (a0 + 0) (M (a1 + 0))) (a0 + 1) ((upd M (a0 + 0) (M (a1 + 0))) (a1 + 1))) (a0 + 2) ((upd (upd M (a0 + 0) (M (a1 + 0))) (a0 + 1) ((upd M (a0 + 0) (M (a1 + 0))) (a1 + 1))) (a1 + 2))) (a1 + 3))) (a1 + 4))) (a0 + 5) ((upd (upd (upd (upd (upd M (a0 + 0) (M (a1 + 0))) (a0 + 1) ((upd M (a0 + 0) (M (a1 + 0))) (a1 + 1))) (a0 + 2) ((upd (upd M (a0 + 0) (M (a1 + 0))) (a0 + 1) ((upd M (a0 + 0) (M (a1 + 0))) (a1 + 1))) (a1 + 2))) (a0 + 3) ((upd (upd (upd M (a0 + 0) (M (a1 + 0))) (a0 + 1) ((upd M (a0 + 0) (M (a1 + 0))) (a1 + 1))) (a0 + 2) ((upd (upd M (a0 + 0) (M (a1 + 0))) (a0 + 1) ((upd M (a0 + 0) (M (a1 + 0))) (a1 + 1))) (a1 + 2))) (a1 + 3))) (a0 + 4) ((upd (upd (upd (upd M (a0 + 0) (M (a1 + 0))) (a0 + 1) ((upd M (a0 + 0) (M (a1 + 0))) (a1 + 1))) (a0 + 2) ((upd (upd M (a0 + 0) (M (a1 + 0))) (a0 + 1) ((upd M (a0 + 0) (M (a1 + 0))) (a1 + 1))) (a1 + 2))) (a0 + 3) ((upd (upd (upd M (a0 + 0) (M (a1 + 0))) (a0 + 1) ((upd M (a0 + 0) (M (a1 + 0))) (a1 + 1))) (a0 + 2) ((upd (upd M (a0 + 0) (M (a1 + 0))) (a0 + 1) ((upd M (a0 + 0) (M (a1 + 0))) (a1 + 1))) (a1 + 2))) (a1 + 3))) (a1 + 4))) (a1 + 5))) (a0 + 6) ((upd (upd (upd (upd (upd (upd M (a0 + 0) (M (a1 + 0))) (a0 + 1) ((upd M (a0 + 0) (M (a1 + 0))) (a1 + 1))) (a0 + 2) ((upd (upd M (a0 + 0) (M (a1 + 0))) (a0 + 1) ((upd M (a0 + 0) (M (a1 + 0))) (a1 + 1))) (a1 + 2))) (a0 + 3) ((upd (upd (upd M (a0 + 0) (M (a1 + 0))) (a0 + 1) ((upd M (a0 + 0) (M (a1 + 0))) (a1 + 1))) (a0 + 2) ((upd (upd M (a0 + 0) (M (a1 + 0))) (a0 + 1) ((upd M (a0 + 0) (M (a1 + 0))) (a1 + 1))) (a1 + 2))) (a1 + 3))) (a0 + 4) ((upd (upd (upd (upd M (a0 + 0) (M (a1 + 0))) (a0 + 1) ((upd M (a0 + 0) (M (a1 + 0))) (a1 + 1))) (a0 + 2) ((upd (upd M (a0 + 0) (M (a1 + 0))) (a0 + 1) ((upd M (a0 + 0) (M (a1 + 0))) (a1 + 1))) (a1 + 2))) (a0 + 3) ((upd (upd (upd M (a0 + 0) (M (a1 + 0))) (a0 + 1) ((upd M (a0 + 0) (M (a1 + 0))) (a1 + 1))) (a0 + 2) ((upd (upd M (a0 + 0) (M (a1 + 0))) (a0 + 1) ((upd M (a0 + 0) (M (a1 + 0))) (a1 + 1))) (a1 + 2))) (a1 + 3))) (a1 + 4))) (a0 + 5) ((upd (upd (upd (upd (upd M (a0 + 0) (M (a1 + 0))) (a0 + 1) ((upd M (a0 + 0) (M (a1 + 0))) (a1 + 1))) (a0 + 2) ((upd (upd M (a0 + 0) (M (a1 + 0))) (a0 + 1) ((upd M (a0 + 0) (M (a1 + 0))) (a1 + 1))) (a1 + 2))) (a0 + 3) ((upd (upd (upd M (a0 + 0) (M (a1 + 0))) (a0 + 1) ((upd M (a0 + 0) (M (a1 + 0))) (a1 + 1))) (a0 + 2) ((upd (upd M (a0 + 0) (M (a1 + 0))) (a0 + 1) ((upd M (a0 + 0) (M (a1 + 0))) (a1 + 1))) (a1 + 2))) (a1 + 3))) (a0 + 4) ((upd (upd (upd (upd M (a0 + 0) (M (a1 + 0))) (a0 + 1) ((upd M (a0 + 0) (M (a1 + 0))) (a1 + 1))) (a0 + 2) ((upd (upd M (a0 + 0) (M (a1 + 0))) (a0 + 1) ((upd M (a0 + 0) (M (a1 + 0))) (a1 + 1))) (a1 + 2))) (a0 + 3) ((upd (upd (upd M (a0 + 0) (M (a1 + 0))) (a0 + 1) ((upd M (a0 + 0) (M (a1 + 0))) (a1 + 1))) (a0 + 2) ((upd (upd M (a0 + 0) (M (a1 + 0))) (a0 + 1) ((upd M (a0 + 0) (M (a1 + 0))) (a1 + 1))) (a1 + 2))) (a1 + 3))) (a1 + 4))) (a1 + 5))) (a1 + 6))) (a0 + 7) ((upd (upd (upd (upd (upd (upd (upd M (a0 + 0) (M (a1 + 0))) (a0 + 1) ((upd M (a0 + 0) (M (a1 + 0))) (a1 + 1))) (a0 + 2) ((upd (upd M (a0 + 0) (M (a1 + 0))) (a0 + 1) ((upd M (a0 + 0) (M (a1 + 0))) (a1 + 1))) (a1 + 2))) (a0 + 3) ((upd (upd (upd M (a0 + 0) (M (a1 + 0))) (a0 + 1) ((upd M (a0 + 0) (M (a1 + 0))) (a1 + 1))) (a0 + 2) ((upd (upd M (a0 + 0) (M (a1 + 0))) (a0 + 1) ((upd M (a0 + 0) (M (a1 + 0))) (a1 + 1))) (a1 + 2))) (a1 + 3))) (a0 + 4) ((upd (upd (upd (upd M (a0 + 0) (M (a1 + 0))) (a0 + 1) ((upd M (a0 + 0) (M (a1 + 0))) (a1 + 1))) (a0 + 2) ((upd (upd M (a0 + 0) (M (a1 + 0))) (a0 + 1) ((upd M (a0 + 0) (M (a1 + 0))) (a1 + 1))) (a1 + 2))) (a0 + 3) ((upd (upd (upd M (a0 + 0) (M (a1 + 0))) (a0 + 1) ((upd M (a0 + 0) (M (a1 + 0))) (a1 + 1))) (a0 + 2) ((upd (upd M (a0 + 0) (M (a1 + 0))) (a0 + 1) ((upd M (a0 + 0) (M (a1 + 0))) (a1 + 1))) (a1 + 2))) (a1 + 3))) (a1 + 4))) (a0 + 5) ((upd (upd (upd (upd (upd M (a0 + 0) (M (a1 + 0))) (a0 + 1) ((upd M (a0 + 0) (M (a1 + 0))) (a1 + 1))) (a0 + 2) ((upd (upd M (a0 + 0) (M (a1 + 0))) (a0 + 1) ((upd M (a0 + 0) (M (a1 + 0))) (a1 + 1))) (a1 + 2))) (a0 + 3) ((upd (upd (upd M (a0 + 0) (M (a1 + 0))) (a0 + 1) ((upd M (a0 + 0) (M (a1 + 0))) (a1 + 1))) (a0 + 2) ((upd (upd M (a0 + 0) (M (a1 + 0))) (a0 + 1) ((upd M (a0 + 0) (M (a1 + 0))) (a1 + 1))) (a1 + 2))) (a1 + 3))) (a0 + 4) ((upd (upd (upd (upd M (a0 + 0) (M (a1 + 0))) (a0 + 1) ((upd M (a0 + 0) (M (a1 + 0))) (a1 + 1))) (a0 + 2) ((upd (upd M (a0 + 0) (M (a1 + 0))) (a0 + 1) ((upd M (a0 + 0) (M (a1 + 0))) (a1 + 1))) (a1 + 2))) (a0 + 3) ((upd (upd (upd M (a0 + 0) (M (a1 + 0))) (a0 + 1) ((upd M (a0 + 0) (M (a1 + 0))) (a1 + 1))) (a0 + 2) ((upd (upd M (a0 + 0) (M (a1 + 0))) (a0 + 1) ((upd M (a0 + 0) (M (a1 + 0))) (a1 + 1))) (a1 + 2))) (a1 + 3))) (a1 + 4))) (a1 + 5))) (a0 + 6) ((upd (upd (upd (upd (upd (upd M (a0 + 0) (M (a1 + 0))) (a0 + 1) ((upd M (a0 + 0) (M (a1 + 0))) (a1 + 1))) (a0 + 2) ((upd (upd M (a0 + 0) (M (a1 + 0))) (a0 + 1) ((upd M (a0 + 0) (M (a1 + 0))) (a1 + 1))) (a1 + 2))) (a0 + 3) ((upd (upd (upd M (a0 + 0) (M (a1 + 0))) (a0 + 1) ((upd M (a0 + 0) (M (a1 + 0))) (a1 + 1))) (a0 + 2) ((upd (upd M (a0 + 0) (M (a1 + 0))) (a0 + 1) ((upd M (a0 + 0) (M (a1 + 0))) (a1 + 1))) (a1 + 2))) (a1 + 3))) (a0 + 4) ((upd (upd (upd (upd M (a0 + 0) (M (a1 + 0))) (a0 + 1) ((upd M (a0 + 0) (M (a1 + 0))) (a1 + 1))) (a0 + 2) ((upd (upd M (a0 + 0) (M (a1 + 0))) (a0 + 1) ((upd M (a0 + 0) (M (a1 + 0))) (a1 + 1))) (a1 + 2))) (a0 + 3) ((upd (upd (upd M (a0 + 0) (M (a1 + 0))) (a0 + 1) ((upd M (a0 + 0) (M (a1 + 0))) (a1 + 1))) (a0 + 2) ((upd (upd M (a0 + 0) (M (a1 + 0))) (a0 + 1) ((upd M (a0 + 0) (M (a1 + 0))) (a1 + 1))) (a1 + 2))) (a1 + 3))) (a1 + 4))) (a0 + 5) ((upd (upd (upd (upd (upd M (a0 + 0) (M (a1 + 0))) (a0 + 1) ((upd M (a0 + 0) (M (a1 + 0))) (a1 + 1))) (a0 + 2) ((upd (upd M (a0 + 0) (M (a1 + 0))) (a0 + 1) ((upd M (a0 + 0) (M (a1 + 0))) (a1 + 1))) (a1 + 2))) (a0 + 3) ((upd (upd (upd M (a0 + 0) (M (a1 + 0))) (a0 + 1) ((upd M (a0 + 0) (M (a1 + 0))) (a1 + 1))) (a0 + 2) ((upd (upd M (a0 + 0) (M (a1 + 0))) (a0 + 1) ((upd M (a0 + 0) (M (a1 + 0))) (a1 + 1))) (a1 + 2))) (a1 + 3))) (a0 + 4) ((upd (upd (upd (upd M (a0 + 0) (M (a1 + 0))) (a0 + 1) ((upd M (a0 + 0) (M (a1 + 0))) (a1 + 1))) (a0 + 2) ((upd (upd M (a0 + 0) (M (a1 + 0))) (a0 + 1) ((upd M (a0 + 0) (M (a1 + 0))) (a1 + 1))) (a1 + 2))) (a0 + 3) ((upd (upd (upd M (a0 + 0) (M (a1 + 0))) (a0 + 1) ((upd M (a0 + 0) (M (a1 + 0))) (a1 + 1))) (a0 + 2) ((upd (upd M (a0 + 0) (M (a1 + 0))) (a0 + 1) ((upd M (a0 + 0) (M (a1 + 0))) (a1 + 1))) (a1 + 2))) (a1 + 3))) (a1 + 4))) (a1 + 5))) (a1 + 6))) (a1 + 7))) (a1 + 8))) rfl rfl w3_172 dX4_copyFrom_66 ?_
  refine r_put0 C0 h0 8 rfl rfl w3_172 rfl rfl rfl dX4_copyFrom_69 ?_
  exact hend hf dX4_copyFrom_72
theorem dX1_copyFrom_0 : decode cX1_copyFrom 0 = .ok (.aload_n 0, 1) := by decide +kernel
theorem dX1_copyFrom_1 : decode cX1_copyFrom 1 = .ok (.aload_n 1, 1) := by decide +kernel
theorem dX1_copyFrom_2 : decode cX1_copyFrom 2 = .ok (.getfield 15, 3) := by decide +kernel
theorem dX1_copyFrom_5 : decode cX1_copyFrom 5 = .ok (.putfield 15, 3) := by decide +kernel
theorem dX1_copyFrom_8 : decode cX1_copyFrom 8 = .ok (.aload_n 0, 1) := by decide +kernel
theorem dX1_copyFrom_9 : decode cX1_copyFrom 9 = .ok (.aload_n 1, 1) := by decide +kernel
theorem dX1_copyFrom_10 : decode cX1_copyFrom 10 = .ok (.getfield 18, 3) := by decide +kernel
theorem dX1_copyFrom_13 : decode cX1_copyFrom 13 = .ok (.putfield 18, 3) := by decide +kernel
theorem dX1_copyFrom_16 : decode cX1_copyFrom 16 = .ok (.aload_n 0, 1) := by decide +kernel
theorem dX1_copyFrom_17 : decode cX1_copyFrom 17 = .ok (.aload_n 1, 1) := by decide +kernel
theorem dX1_copyFrom_18 : decode cX1_copyFrom 18 = .ok (.getfield 21, 3) := by decide +kernel
theorem dX1_copyFrom_21 : decode cX1_copyFrom 21 = .ok (.putfield 21, 3) := by decide +kernel
theorem dX1_copyFrom_24 : decode cX1_copyFrom 24 = .ok (.aload_n 0, 1) := by decide +kernel
theorem dX1_copyFrom_25 : decode cX1_copyFrom 25 = .ok (.aload_n 1, 1) := by decide +kernel
theorem dX1_copyFrom_26 : decode cX1_copyFrom 26 = .ok (.getfield 24, 3) := by decide +kernel
theorem dX1_copyFrom_29 : decode cX1_copyFrom 29 = .ok (.putfield 24, 3) := by decide +kernel
theorem dX1_copyFrom_32 : decode cX1_copyFrom 32 = .ok (.aload_n 0, 1) := by decide +kernel
theorem dX1_copyFrom_33 : decode cX1_copyFrom 33 = .ok (.aload_n 1, 1) := by decide +kernel
theorem dX1_copyFrom_34 : decode cX1_copyFrom 34 = .ok (.getfield 9, 3) := by decide +kernel
theorem dX1_copyFrom_37 : decode cX1_copyFrom 37 = .ok (.putfield 9, 3) := by decide +kernel
theorem dX1_copyFrom_40 : decode cX1_copyFrom 40 = .ok (.aload_n 0, 1) := by decide +kernel
theorem dX1_copyFrom_41 : decode cX1_copyFrom 41 = .ok (.aload_n 1, 1) := by decide +kernel
theorem dX1_copyFrom_42 : decode cX1_copyFrom 42 = .ok (.getfield 27, 3) := by decide +kernel
theorem dX1_copyFrom_45 : decode cX1_copyFrom 45 = .ok (.putfield 27, 3) := by decide +kernel
theorem dX1_copyFrom_48 : decode cX1_copyFrom 48 = .ok (.aload_n 0, 1) := by decide +kernel
theorem dX1_copyFrom_49 : decode cX1_copyFrom 49 = .ok (.aload_n 1, 1) := by decide +kernel
theorem dX1_copyFrom_50 : decode cX1_copyFrom 50 = .ok (.getfield 30, 3) := by decide +kernel
theorem dX1_copyFrom_53 : decode cX1_copyFrom 53 = .ok (.putfield 30, 3) := by decide +kernel
theorem dX1_copyFrom_56 : decode cX1_copyFrom 56 = .ok (.aload_n 0, 1) := by decide +kernel
theorem dX1_copyFrom_57 : decode cX1_copyFrom 57 = .ok (.aload_n 1, 1) := by decide +kernel
theorem dX1_copyFrom_58 : decode cX1_copyFrom 58 = .ok (.getfield 33, 3) := by decide +kernel
theorem dX1_copyFrom_61 : decode cX1_copyFrom 61 = .ok (.putfield 33, 3) := by decide +kernel
theorem dX1_copyFrom_64 : decode cX1_copyFrom 64 = .ok (.return_, 1) := by decide +kernel
theorem hd_X1_copyFrom : yX1_copyFrom.cls = RX1 ∧ yX1_copyFrom.cls ≠ "java/lang/invoke/MethodHandle" ∧ yX1_copyFrom.cls ≠ "java/lang/invoke/VarHandle" ∧ (parseMethodDescriptor yX1_copyFrom.desc).map (fun d => d.parameters.length) = some 1 := by decide +kernel
set_option maxRecDepth 100000 in
set_option maxHeartbeats 4000000 in
theorem c_X1_copyFrom (l : Launch) (D : va_G) (g : xG) (tb : List xQ) (hT : x_T g tb) {a0 : Nat} {a1 : Nat} (h0 : ((1, a0, 0) : xQ) ∈ tb) (h1 : ((1, a1, 0) : xQ) ∈ tb) {M M' : xM} (hf : f_X1_copyFrom a0 a1 M = some M') :
    cV l D g tb yX1_copyFrom cX1_copyFrom 2 ({ frames := 0, cells := 0, slots := 0, locals := 0 } : Room) [.ref (g.1 1 a0), .ref (g.1 1 a1)] M M' := by
  refine x_startV (own := RX1) (by decide +kernel) rfl rfl (Nat.le_of_ble_eq_true rfl) hT ?_
  intro p e s m args below meth c Q C0 hend
  unfold f_X1_copyFrom at hf
  refine r_aload_n C0 (kk := 0) 0 rfl dX1_copyFrom_0 ?_
  refine r_aload_n C0 (kk := 1) 1 rfl dX1_copyFrom_1 ?_
  refine r_get1 C0 h1 0 (by decide) (v := .int (M (a1 + 0))) rfl rfl w3_199 dX1_copyFrom_2 ?_
  refine r_put1 C0 h0 0 rfl rfl w3_199 rfl rfl rfl dX1_copyFrom_5 ?_
  refine r_aload_n C0 (kk := 0) 0 rfl dX1_copyFrom_8 ?_
  refine r_aload_n C0 (kk := 1) 1 rfl dX1_copyFrom_9 ?_
  refine r_get1 C0 h1 1 (by decide) (v := .int ((upd M (a0 + 0) (M (a1 + 0))) (a1 + 1))) rfl rfl w3_202 dX1_copyFrom_10 ?_
  refine r_put1 C0 h0 1 rfl rfl w3_202 rfl rfl rfl dX1_copyFrom_13 ?_
  refine r_aload_n C0 (kk := 0) 0 rfl dX1_copyFrom_16 ?_
  refine r_aload_n C0 (kk := 1) 1 rfl dX1_copyFrom_17 ?_
  refine r_get1 C0 h1 2 (by decide) (v := .int ((upd (upd M (a0 + 0) (M (a1 + 0))) (a0 + 1) ((upd M (a0 + 0) (M (a1 + 0))) (a1 + 1))) (a1 + 2))) rfl rfl w3_204 dX1_copyFrom_18 ?_
  refine r_put1 C0 h0 2 rfl rfl w3_204 rfl rfl rfl dX1_copyFrom_21 ?_
  refine r_aload_n C0 (kk := 0) 0 rfl dX1_copyFrom_24 ?_
  refine r_aload_n C0 (kk := 1) 1 rfl dX1_copyFrom_25 ?_
  refine r_get1 C0 h1 3 (by decide) (v := .int ((upd (upd (upd M (a0 + 0) (M (a1 + 0))) (a0 + 1) ((upd M (a0 + 0) (M (a1 + 0))) (a1 + 1))) (a0 + 2) ((upd (upd M (a0 + 0) (M (a1 + 0))) (a0 + 1) ((upd M (a0 + 0) (M (a1 + 0))) (a1 + 1))) (a1 + 2))) (a1 + 3))) rfl rfl w3_206 dX1_copyFrom_26 ?_
  refine r_put1 C0 h0 3 rfl rfl w3_206 rfl rfl rfl dX1_copyFrom_29 ?_
  refine r_aload_n C0 (kk := 0) 0 rfl dX1_copyFrom_32 ?_
  refine r_aload_n C0 (kk := 1) 1 rfl dX1_copyFrom_33 ?_
  refine r_get1 C0 h1 4 (by decide) (v := .int ((upd (upd (upd (upd M (a0 + 0) (M (a1 + 0))) (a0 + 1) ((upd M (a0 + 0) (M (a1 + 0))) (a1 + 1))) (a0 + 2) ((upd (upd M (a0 + 0) (M (a1 + 0))) (a0 + 1) ((upd M (a0 + 0) (M (a1 + 0))) (a1 + 1))) (a1 + 2))) (a0 + 3) ((upd (upd (upd M (a0 + 0) (M (a1 + 0))) (a0 + 1) ((upd M (a0 + 0) (M (a1 + 0))) (a1 + 1))) (a0 + 2) ((upd (upd M (a0 + 0) (M (a1 + 0))) (a0 + 1) ((upd M (a0 + 0) (M (a1 + 0))) (a1 + 1))) (a1 + 2))) (a1 + 3))) (a1 + 4))) rfl rfl w3_208 dX1_copyFrom_34 ?_
  refine r_put1 C0 h0 4 rfl rfl w3_208 rfl rfl rfl dX1_copyFrom_37 ?_
  refine r_aload_n C0 (kk := 0) 0 rfl dX1_copyFrom_40 ?_
  refine r_aload_n C0 (kk := 1) 1 rfl dX1_copyFrom_41 ?_
  refine r_get1 C0 h1 5 (by decide) (v := .int ((upd (upd (upd (upd (upd M (a0 + 0) (M (a1 + 0))) (a0 + 1) ((upd M (a0 + 0) (M (a1 + 0))) (a1 + 1))) (a0 + 2) ((upd (upd M (a0 + 0) (M (a1 + 0))) (a0 + 1) ((upd M (a0 + 0) (M (a1 + 0))) (a1 + 1))) (a1 + 2))) (a0 + 3) ((upd (upd (upd M (a0 + 0) (M (a1 + 0))) (a0 + 1) ((upd M (a0 + 0) (M (a1 + 0))) (a1 + 1))) (a0 + 2) ((upd (upd M (a0 + 0) (M (a1 + 0))) (a0 + 1) ((upd M (a0 + 0) (M (a1 + 0))) (a1 + 1))) (a1 + 2))) (a1 + 3))) (a0 + 4) ((upd (upd (upd (upd M (a0 + 0) (M (a1 + 0))) (a0 + 1) ((upd M (a0 + 0) (M (a1 + 0))) (a1 + 1))) (a0 + 2) ((upd (upd M (a0 + 0) (M (a1 + 0))) (a0 + 1) ((upd M (a0 + 0) (M (a1 + 0))) (a1 + 1))) (a1 + 2))) (a0 + 3) ((upd (upd (upd M (a0 + 0) (M (a1 + 0))) (a0 + 1) ((upd M (a0 + 0) (M (a1 + 0))) (a1 + 1))) (a0 + 2) ((upd (upd M (a0 + 0) (M (a1 + 0))) (a0 + 1) ((upd M (a0 + 0) (M (a1 + 0))) (a1 + 1))) (a1 + 2))) (a1 + 3))) (a1 + 4))) (a1 + 5))) rfl rfl w3_211 dX1_copyFrom_42 ?_
  refine r_put1 C0 h0 5 rfl rfl w3_211 rfl rfl rfl dX1_copyFrom_45 ?_
  refine r_aload_n C0 (kk := 0) 0 rfl dX1_copyFrom_48 ?_
  refine r_aload_n C0 (kk := 1) 1 rfl dX1_copyFrom_49 ?_
  refine r_get1 C0 h1 6 (by decide) (v := .int ((upd (upd (upd (upd (upd (upd M (a0 + 0) (M (a1 + 0))) (a0 + 1) ((upd M (a0 + 0) (M (a1 + 0))) (a1 + 1))) (a0 + 2) ((upd (upd M (a0 + 0) (M (a1 + 0))) (a0 + 1) ((upd M (a0 + 0) (M (a1 + 0))) (a1 + 1))) (a1 + 2))) (a0 + 3) ((upd (upd (upd M (a0 + 0) (M (a1 + 0))) (a0 + 1) ((upd M (a0 + 0) (M (a1 + 0))) (a1 + 1))) (a0 + 2) ((upd (upd M (a0 + 0) (M (a1 + 0))) (a0 + 1) ((upd M (a0 + 0) (M (a1 + 0))) (a1 + 1))) (a1 + 2))) (a1 + 3))) (a0 + 4) ((upd (upd (upd (upd M (a0 + 0) (M (a1 + 0))) (a0 + 1) ((upd M (a0 + 0) (M (a1 + 0))) (a1 + 1))) (a0 + 2) ((upd (upd M (a0 + 0) (M (a1 + 0))) (a0 + 1) ((upd M (a0 + 0) (M (a1 + 0))) (a1 + 1))) (a1 + 2))) (a0 + 3) ((upd (upd (upd M (a0 + 0) (M (a1 + 0))) (a0 + 1) ((upd M (a0 + 0) (M (a1 + 0))) (a1 + 1))) (a0 + 2) ((upd (upd M (a0 + 0) (M (a1 + 0))) (a0 + 1) ((upd M (a0 + 0) (M (a1 + 0))) (a1 + 1))) (a1 + 2))) (a1 + 3))) (a1 + 4))) (a0 + 5) ((upd (upd (upd (upd (upd M (a0 + 0) (M (a1 + 0))) (a0 + 1) ((upd M (a0 + 0) (M (a1 + 0))) (a1 + 1))) (a0 + 2) ((upd (upd M (a0 + 0) (M (a1 + 0))) (a0 + 1) ((upd M (a0 + 0) (M (a1 + 0))) (a1 + 1))) (a1 + 2))) (a0 + 3) ((upd (upd (upd M (a0 + 0) (M (a1 + 0))) (a0 + 1) ((upd M (a0 + 0) (M (a1 + 0))) (a1 + 1))) (a0 + 2) ((upd (upd M (a0 + 0) (M (a1 + 0))) (a0 + 1) ((upd M (a0 + 0) (M (a1 + 0))) (a1 + 1))) (a1 + 2))) (a1 + 3))) (a0 + 4) ((upd (upd (upd (upd M (a0 + 0) (M (a1 + 0))) (a0 + 1) ((upd M (a0 + 0) (M (a1 + 0))) (a1 + 1))) (a0 + 2) ((upd (upd M (a0 + 0) (M (a1 + 0))) (a0 + 1) ((upd M (a0 + 0) (M (a1 + 0))) (a1 + 1))) (a1 + 2))) (a0 + 3) ((upd (upd (upd M (a0 + 0) (M (a1 + 0))) (a0 + 1) ((upd M (a0 + 0) (M (a1 + 0))) (a1 + 1))) (a0 + 2) ((upd (upd M (a0 + 0) (M (a1 + 0))) (a0 + 1) ((upd M (a0 + 0) (M (a1 + 0))) (a1 + 1))) (a1 + 2))) (a1 + 3))) (a1 + 4))) (a1 + 5))) (a1 + 6))) rfl rfl w3_213 dX1_copyFrom_50 ?_
  refine r_put1 C0 h0 6 rfl rfl w3_213 rfl rfl rfl dX1_copyFrom_53 ?_
  refine r_aload_n C0 (kk := 0) 0 rfl dX1_copyFrom_56 ?_
  refine r_aload_n C0 (kk := 1) 1 rfl dX1_copyFrom_57 ?_
  refine r_get1 C0 h1 7 (by decide) (v := .int ((upd (upd (upd (upd (upd (upd (upd M (a0 + 0) (M (a1 + 0))) (a0 + 1) ((upd M (a0 + 0) (M (a1 + 0))) (a1 + 1))) (a0 + 2) ((upd (upd M (a0 + 0) (M (a1 + 0))) (a0 + 1) ((upd M (a0 + 0) (M (a1 + 0))) (a1 + 1))) (a1 + 2))) (a0 + 3) ((upd (upd (upd M (a0 + 0) (M (a1 + 0))) (a0 + 1) ((upd M (a0 + 0) (M (a1 + 0))) (a1 + 1))) (a0 + 2) ((upd (upd M (a0 + 0) (M (a1 + 0))) (a0 + 1) ((upd M (a0 + 0) (M (a1 + 0))) (a1 + 1))) (a1 + 2))) (a1 + 3))) (a0 + 4) ((upd (upd (upd (upd M (a0 + 0) (M (a1 + 0))) (a0 + 1) ((upd M (a0 + 0) (M (a1 + 0))) (a1 + 1))) (a0 + 2) ((upd (upd M (a0 + 0) (M (a1 + 0))) (a0 + 1) ((upd M (a0 + 0) (M (a1 + 0))) (a1 + 1))) (a1 + 2))) (a0 + 3) ((upd (upd (upd M (a0 + 0) (M (a1 + 0))) (a0 + 1) ((upd M (a0 + 0) (M (a1 + 0))) (a1 + 1))) (a0 + 2) ((upd (upd M (a0 + 0) (M (a1 + 0))) (a0 + 1) ((upd M (a0 + 0) (M (a1 + 0))) (a1 + 1))) (a1 + 2))) (a1 + 3))) (a1 + 4))) (a0 + 5) ((upd (upd (upd (upd (upd M (a0 + 0) (M (a1 + 0))) (a0 + 1) ((upd M (a0 + 0) (M (a1 + 0))) (a1 + 1))) (a0 + 2) ((upd (upd M (a0 + 0) (M (a1 + 0))) (a0 + 1) ((upd M (a0 + 0) (M (a1 + 0))) (a1 + 1))) (a1 + 2))) (a0 + 3) ((upd (upd (upd M (a0 + 0) (M (a1 + 0))) (a0 + 1) ((upd M (a0 + 0) (M (a1 + 0))) (a1 + 1))) (a0 + 2) ((upd (upd M (a0 + 0) (M (a1 + 0))) (a0 + 1) ((upd M (a0 + 0) (M (a1 + 0))) (a1 + 1))) (a1 + 2))) (a1 + 3))) (a0 + 4) ((upd (upd (upd (upd M (a0 + 0) (M (a1 + 0))) (a0 + 1) ((upd M (a0 + 0) (M (a1 + 0))) (a1 + 1))) (a0 + 2) ((upd (upd M (a0 + 0) (M (a1 + 0))) (a0 + 1) ((upd M (a0 + 0) (M (a1 + 0))) (a1 + 1))) (a1 + 2))) (a0 + 3) ((upd (upd (upd M (a0 + 0) (M (a1 + 0))) (a0 + 1) ((upd M (a0 + 0) (M (a1 + 0))) (a1 + 1))) (a0 + 2) ((upd (upd M (a0 + 0) (M (a1 + 0))) (a0 + 1) ((upd M (a0 + 0) (M (a1 + 0))) (a1 + 1))) (a1 + 2))) (a1 + 3))) (a1 + 4))) (a1 + 5))) (a0 + 6) ((upd (upd (upd (upd (upd (upd M (a0 + 0) (M (a1 + 0))) (a0 + 1) ((upd M (a0 + 0) (M (a1 + 0))) (a1 + 1))) (a0 + 2) ((upd (upd M (a0 + 0) (M (a1 + 0))) (a0 + 1) ((upd M (a0 + 0) (M (a1 + 0))) (a1 + 1))) (a1 + 2))) (a0 + 3) ((upd (upd (upd M (a0 + 0) (M (a1 + 0))) (a0 + 1) ((upd M (a0 + 0) (M (a1 + 0))) (a1 + 1))) (a0 + 2) ((upd (upd M (a0 + 0) (M (a1 + 0))) (a0 + 1) ((upd M (a0 + 0) (M (a1 + 0))) (a1 + 1))) (a1 + 2))) (a1 + 3))) (a0 + 4) ((upd (upd (upd (upd M (a0 + 0) (M (a1 + 0))) (a0 + 1) ((upd M (a0 + 0) (M (a1 + 0))) (a1 + 1))) (a0 + 2) ((upd (upd M (a0 + 0) (M (a1 + 0))) (a0 + 1) ((upd M (a0 + 0) (M (a1 + 0))) (a1 + 1))) (a1 + 2))) (a0 + 3) ((upd (upd (upd M (a0 + 0) (M (a1 + 0))) (a0 + 1) ((upd M (a0 + 0) (M (a1 + 0))) (a1 + 1))) (a0 + 2) ((upd (upd M (a0 + 0) (M (a1 + 0))) (a0 + 1) ((upd M (a0 + 0) (M (a1 + 0))) (a1 + 1))) (a1 + 2))) (a1 + 3))) (a1 + 4))) (a0 + 5) ((upd (upd (upd (upd (upd M (a0 + 0) (M (a1 + 0))) (a0 + 1) ((upd M (a0 + 0) (M (a1 + 0))) (a1 + 1))) (a0 + 2) ((upd (upd M (a0 + 0) (M (a1 + 0))) (a0 + 1) ((upd M (a0 + 0) (M (a1 + 0))) (a1 + 1))) (a1 + 2))) (a0 + 3) ((upd (upd (upd M (a0 + 0) (M (a1 + 0))) (a0 + 1) ((upd M (a0 + 0) (M (a1 + 0))) (a1 + 1))) (a0 + 2) ((upd (upd M (a0 + 0) (M (a1 + 0))) (a0 + 1) ((upd M (a0 + 0) (M (a1 + 0))) (a1 + 1))) (a1 + 2))) (a1 + 3))) (a0 + 4) ((upd (upd (upd (upd M (a0 + 0) (M (a1 + 0))) (a0 + 1) ((upd M (a0 + 0) (M (a1 + 0))) (a1 + 1))) (a0 + 2) ((upd (upd M (a0 + 0) (M (a1 + 0))) (a0 + 1) ((upd M (a0 + 0) (M (a1 + 0))) (a1 + 1))) (a1 + 2))) (a0 + 3) ((upd (upd (upd M (a0 + 0) (M (a1 + 0))) (a0 + 1) ((upd M (a0 + 0) (M (a1 + 0))) (a1 + 1))) (a0 + 2) ((upd (upd M (a0 + 0) (M (a1 + 0))) (a0 + 1) ((upd M (a0 + 0) (M (a1 + 0))) (a1 + 1))) (a1 + 2))) (a1 + 3))) (a1 + 4))) (a1 + 5))) (a1 + 6))) (a1 + 7))) rfl rfl w3_216 dX1_copyFrom_58 ?_
  refine r_put1 C0 h0 7 rfl rfl w3_216 rfl rfl rfl dX1_copyFrom_61 ?_
  exact hend hf dX1_copyFrom_64
theorem dX2_soldInAll_0 : decode cX2_soldInAll 0 = .ok (.iconst 0, 1) := by decide +kernel
theorem dX2_soldInAll_1 : decode cX2_soldInAll 1 = .ok (.istore_n 1, 1) := by decide +kernel
theorem dX2_soldInAll_2 : decode cX2_soldInAll 2 = .ok (.iconst 0, 1) := by decide +kernel
theorem dX2_soldInAll_3 : decode cX2_soldInAll 3 = .ok (.istore_n 2, 1) := by decide +kernel
theorem dX2_soldInAll_4 : decode cX2_soldInAll 4 = .ok (.iload_n 2, 1) := by decide +kernel
theorem dX2_soldInAll_5 : decode cX2_soldInAll 5 = .ok (.aload_n 0, 1) := by decide +kernel
theorem dX2_soldInAll_6 : decode cX2_soldInAll 6 = .ok (.getfield 29, 3) := by decide +kernel
theorem dX2_soldInAll_9 : decode cX2_soldInAll 9 = .ok (.if_icmp .ge 21, 3) := by decide +kernel
theorem dX2_soldInAll_12 : decode cX2_soldInAll 12 = .ok (.iload_n 1, 1) := by decide +kernel
theorem dX2_soldInAll_13 : decode cX2_soldInAll 13 = .ok (.aload_n 0, 1) := by decide +kernel
theorem dX2_soldInAll_14 : decode cX2_soldInAll 14 = .ok (.getfield 11, 3) := by decide +kernel
theorem dX2_soldInAll_17 : decode cX2_soldInAll 17 = .ok (.iload_n 2, 1) := by decide +kernel
theorem dX2_soldInAll_18 : decode cX2_soldInAll 18 = .ok (.aaload, 1) := by decide +kernel
theorem dX2_soldInAll_19 : decode cX2_soldInAll 19 = .ok (.getfield 78, 3) := by decide +kernel
theorem dX2_soldInAll_22 : decode cX2_soldInAll 22 = .ok (.iadd, 1) := by decide +kernel
theorem dX2_soldInAll_23 : decode cX2_soldInAll 23 = .ok (.istore_n 1, 1) := by decide +kernel
theorem dX2_soldInAll_24 : decode cX2_soldInAll 24 = .ok (.iinc 2 1, 3) := by decide +kernel
theorem dX2_soldInAll_27 : decode cX2_soldInAll 27 = .ok (.goto (-23), 3) := by decide +kernel
theorem dX2_soldInAll_30 : decode cX2_soldInAll 30 = .ok (.iload_n 1, 1) := by decide +kernel
theorem dX2_soldInAll_31 : decode cX2_soldInAll 31 = .ok (.ireturn, 1) := by decide +kernel
theorem hd_X2_soldInAll : yX2_soldInAll.cls = RX2 ∧ yX2_soldInAll.cls ≠ "java/lang/invoke/MethodHandle" ∧ yX2_soldInAll.cls ≠ "java/lang/invoke/VarHandle" ∧ (parseMethodDescriptor yX2_soldInAll.desc).map (fun d => d.parameters.length) = some 0 := by decide +kernel
set_option maxRecDepth 100000 in
set_option maxHeartbeats 4000000 in
theorem c_X2_soldInAll (l : Launch) (D : va_G) (g : xG) (tb : List xQ) (hT : x_T g tb) {a0 : Nat} (h0 : x_mk tb a0) {M : xM} {r : Int32} {M' : xM} (hf : f_X2_soldInAll a0 M = some (r, M')) :
    cI l D g tb yX2_soldInAll cX2_soldInAll 3 .int ({ frames := 0, cells := 0, slots := 0, locals := 0 } : Room) [.ref (g.1 2 a0)] M r M' := by
  refine x_startI (own := RX2) (by decide +kernel) rfl rfl (Nat.le_of_ble_eq_true rfl) hT ?_
  intro p e s m args below meth c Q C0 hend
  have B4 : ∀ (k4 : Int32 → Int32 → xM → Option (Int32 × xM)) (hk4 : ∀ (v1 : Int32) (v2 : Int32)  (M : xM), k4 v1 v2 M = some (r, M') → WW p l e ({ frames := 0, cells := 0, slots := 0, locals := 0 } : Room) s m args below meth c 0 0 Q 3 D g tb 4 [(0, .ref (g.1 2 a0)), (1, .int v1), (2, .int v2)] [] M), ∀ (v1 : Int32) (v2 : Int32)  (M : xM), fb_X2_soldInAll_c4 k4 a0 v1 v2 M = some (r, M') → WW p l e ({ frames := 0, cells := 0, slots := 0, locals := 0 } : Room) s m args below meth c 0 0 Q 3 D g tb 4 [(0, .ref (g.1 2 a0)), (1, .int v1), (2, .int v2)] [] M := by
    intro k4 hk4 v1 v2  M hf
    unfold fb_X2_soldInAll_c4 at hf
    refine r_iload_n C0 (kk := 2) 2 rfl dX2_soldInAll_4 ?_
    refine r_aload_n C0 (kk := 0) 0 rfl dX2_soldInAll_5 ?_
    refine r_get2 C0 h0.1 1 (by decide) (v := .int (M (a0 + 9))) rfl rfl w3_238 dX2_soldInAll_6 ?_
    refine r_icmp_ge C0 (tgt := 30) (by decide) dX2_soldInAll_9 (fun q1 => ?_) (fun q1 => ?_)
    · have hf := ie_t hf q1
      refine r_iload_n C0 (kk := 1) 1 rfl dX2_soldInAll_30 ?_
      exact hend hf dX2_soldInAll_31
    · have hf := ie_f hf q1
      refine r_iload_n C0 (kk := 1) 1 rfl dX2_soldInAll_12 ?_
      refine r_aload_n C0 (kk := 0) 0 rfl dX2_soldInAll_13 ?_
      refine r_get2 C0 h0.1 0 (by decide) (v := .ref (g.1 10 (a0 + 23))) rfl rfl w3_235 dX2_soldInAll_14 ?_
      refine r_iload_n C0 (kk := 2) 2 rfl dX2_soldInAll_17 ?_
      obtain ⟨q2, hf⟩ := gd_e hf
      have hm3 : ((0, ((a0 + 23) + 9 * v2.toNatClampNeg), 0) : xQ) ∈ tb := h0.2.2.2.2.1 _ (inb_lt q2)
      refine r_aald10 C0 h0.2.1 (inb_in q2) dX2_soldInAll_18 ?_
      refine r_get0 C0 hm3 5 (by decide) (v := .int (M (((a0 + 23) + 9 * v2.toNatClampNeg) + 5))) rfl rfl w3_164 dX2_soldInAll_19 ?_
      refine r_iadd C0 dX2_soldInAll_22 ?_
      refine r_istore_n C0 (kk := 1) (lv2 := [(1, .int (v1 + (M (((a0 + 23) + 9 * v2.toNatClampNeg) + 5)))), (0, .ref (g.1 2 a0)), (2, .int v2)]) (by decide) rfl dX2_soldInAll_23 ?_
      refine r_iincc C0 2 rfl (k0 := 1) (by decide) (by decide) (lv2 := [(2, .int (v2 + 1)), (1, .int (v1 + (M (((a0 + 23) + 9 * v2.toNatClampNeg) + 5)))), (0, .ref (g.1 2 a0))]) rfl dX2_soldInAll_24 ?_
      refine r_goto C0 (tgt := 4) (by decide) dX2_soldInAll_27 ?_
      refine WW.sub [2, 1, 0] rfl ?_
      exact hk4 _ _   _ hf
  have L4 : ∀ (v1 : Int32) (v2 : Int32)  (M : xM), f_X2_soldInAll_c4  a0 v1 v2 M = some (r, M') → WW p l e ({ frames := 0, cells := 0, slots := 0, locals := 0 } : Room) s m args below meth c 0 0 Q 3 D g tb 4 [(0, .ref (g.1 2 a0)), (1, .int v1), (2, .int v2)] [] M := lp_ind (P := fun f => ∀ (v1 : Int32) (v2 : Int32)  (M : xM), f v1 v2 M = some (r, M') → WW p l e ({ frames := 0, cells := 0, slots := 0, locals := 0 } : Room) s m args below meth c 0 0 Q 3 D g tb 4 [(0, .ref (g.1 2 a0)), (1, .int v1), (2, .int v2)] [] M) (fun _ _ _ h => none_ne h) (fun f hf => B4 f hf) FU
  unfold f_X2_soldInAll at hf
  refine r_iconst C0 (v := 0) dX2_soldInAll_0 rfl ?_
  refine r_istore_n C0 (kk := 1) (lv2 := [(1, .int 0), (0, .ref (g.1 2 a0))]) (by decide) rfl dX2_soldInAll_1 ?_
  refine r_iconst C0 (v := 0) dX2_soldInAll_2 rfl ?_
  refine r_istore_n C0 (kk := 2) (lv2 := [(2, .int 0), (1, .int 0), (0, .ref (g.1 2 a0))]) (by decide) rfl dX2_soldInAll_3 ?_
  refine WW.sub [2, 1, 0] rfl ?_
  exact L4   _ _   _ hf
theorem dX2_densityNow_0 : decode cX2_densityNow 0 = .ok (.aload_n 0, 1) := by decide +kernel
theorem dX2_densityNow_1 : decode cX2_densityNow 1 = .ok (.aload_n 0, 1) := by decide +kernel
theorem dX2_densityNow_2 : decode cX2_densityNow 2 = .ok (.getfield 39, 3) := by decide +kernel
theorem dX2_densityNow_5 : decode cX2_densityNow 5 = .ok (.invokevirtual 71, 3) := by decide +kernel
theorem dX2_densityNow_8 : decode cX2_densityNow 8 = .ok (.ireturn, 1) := by decide +kernel
theorem hd_X2_densityNow : yX2_densityNow.cls = RX2 ∧ yX2_densityNow.cls ≠ "java/lang/invoke/MethodHandle" ∧ yX2_densityNow.cls ≠ "java/lang/invoke/VarHandle" ∧ (parseMethodDescriptor yX2_densityNow.desc).map (fun d => d.parameters.length) = some 0 := by decide +kernel
set_option maxRecDepth 100000 in
set_option maxHeartbeats 4000000 in
theorem c_X2_densityNow (l : Launch) (D : va_G) (g : xG) (tb : List xQ) (hT : x_T g tb) {a0 : Nat} (h0 : x_mk tb a0) {M : xM} {r : Int32} {M' : xM} (hf : f_X2_densityNow a0 M = some (r, M')) :
    cI l D g tb yX2_densityNow cX2_densityNow 1 .int ({ frames := 1, cells := 0, slots := 0, locals := 21 } : Room) [.ref (g.1 2 a0)] M r M' := by
  refine x_startI (own := RX2) (by decide +kernel) rfl rfl (Nat.le_of_ble_eq_true rfl) hT ?_
  intro p e s m args below meth c Q C0 hend
  unfold f_X2_densityNow at hf
  refine r_aload_n C0 (kk := 0) 0 rfl dX2_densityNow_0 ?_
  refine r_aload_n C0 (kk := 0) 0 rfl dX2_densityNow_1 ?_
  refine r_get2 C0 h0.1 6 (by decide) (v := .int (M (a0 + 0))) rfl rfl w4_12 dX2_densityNow_2 ?_
  obtain ⟨r3, M2, hc1, hf⟩ := bd2_e hf
  refine r_callVi C0 (As := [.int (M (a0 + 0))]) (rest := []) (c_X2_densityIn l D g tb hT h0 hc1) w2_53 w1_122 w1_123 w1_14 w1_124 (x_rec2 C0 h0.1) hd_X2_densityIn rfl ⟨rfl, rfl⟩ ⟨Nat.le_of_ble_eq_true rfl, Nat.le_of_ble_eq_true rfl⟩ (by decide) (by decide) rfl (Nat.le_of_ble_eq_true rfl) dX2_densityNow_5 ?_
  exact hend hf dX2_densityNow_8
theorem dX2_isStall_0 : decode cX2_isStall 0 = .ok (.iload_n 1, 1) := by decide +kernel
theorem dX2_isStall_1 : decode cX2_isStall 1 = .ok (.ifCond .lt 15, 3) := by decide +kernel
theorem dX2_isStall_4 : decode cX2_isStall 4 = .ok (.iload_n 1, 1) := by decide +kernel
theorem dX2_isStall_5 : decode cX2_isStall 5 = .ok (.aload_n 0, 1) := by decide +kernel
theorem dX2_isStall_6 : decode cX2_isStall 6 = .ok (.getfield 29, 3) := by decide +kernel
theorem dX2_isStall_9 : decode cX2_isStall 9 = .ok (.if_icmp .ge 7, 3) := by decide +kernel
theorem dX2_isStall_12 : decode cX2_isStall 12 = .ok (.iconst 1, 1) := by decide +kernel
theorem dX2_isStall_13 : decode cX2_isStall 13 = .ok (.goto 4, 3) := by decide +kernel
theorem dX2_isStall_16 : decode cX2_isStall 16 = .ok (.iconst 0, 1) := by decide +kernel
theorem dX2_isStall_17 : decode cX2_isStall 17 = .ok (.ireturn, 1) := by decide +kernel
theorem hd_X2_isStall : yX2_isStall.cls = RX2 ∧ yX2_isStall.cls ≠ "java/lang/invoke/MethodHandle" ∧ yX2_isStall.cls ≠ "java/lang/invoke/VarHandle" ∧ (parseMethodDescriptor yX2_isStall.desc).map (fun d => d.parameters.length) = some 1 := by decide +kernel
set_option maxRecDepth 100000 in
set_option maxHeartbeats 4000000 in
theorem c_X2_isStall (l : Launch) (D : va_G) (g : xG) (tb : List xQ) (hT : x_T g tb) {a0 : Nat} {a1 : Int32} (h0 : x_mk tb a0) {M : xM} {r : Int32} {M' : xM} (hf : f_X2_isStall a0 a1 M = some (r, M')) :
    cI l D g tb yX2_isStall cX2_isStall 2 .boolean ({ frames := 0, cells := 0, slots := 0, locals := 0 } : Room) [.ref (g.1 2 a0), .int a1] M r M' := by
  refine x_startZ (own := RX2) (by decide +kernel) rfl rfl (Nat.le_of_ble_eq_true rfl) hT ?_
  intro p e s m args below meth c Q C0 hend
  unfold f_X2_isStall at hf
  refine r_iload_n C0 (kk := 1) 1 rfl dX2_isStall_0 ?_
  refine r_if_lt C0 (tgt := 16) (by decide) dX2_isStall_1 (fun q1 => ?_) (fun q1 => ?_)
  · have hf := ie_t hf q1
    refine r_iconst C0 (v := 0) dX2_isStall_16 rfl ?_
    exact hend (by decide) hf dX2_isStall_17
  · have hf := ie_f hf q1
    refine r_iload_n C0 (kk := 1) 1 rfl dX2_isStall_4 ?_
    refine r_aload_n C0 (kk := 0) 0 rfl dX2_isStall_5 ?_
    refine r_get2 C0 h0.1 1 (by decide) (v := .int (M (a0 + 9))) rfl rfl w3_238 dX2_isStall_6 ?_
    refine r_icmp_ge C0 (tgt := 16) (by decide) dX2_isStall_9 (fun q2 => ?_) (fun q2 => ?_)
    · have hf := ie_t hf q2
      refine r_iconst C0 (v := 0) dX2_isStall_16 rfl ?_
      exact hend (by decide) hf dX2_isStall_17
    · have hf := ie_f hf q2
      refine r_iconst C0 (v := 1) dX2_isStall_12 rfl ?_
      refine r_goto C0 (tgt := 17) (by decide) dX2_isStall_13 ?_
      exact hend (by decide) hf dX2_isStall_17
theorem dX1_letGo_0 : decode cX1_letGo 0 = .ok (.aload_n 0, 1) := by decide +kernel
theorem dX1_letGo_1 : decode cX1_letGo 1 = .ok (.iconst (-1), 1) := by decide +kernel
theorem dX1_letGo_2 : decode cX1_letGo 2 = .ok (.putfield 9, 3) := by decide +kernel
theorem dX1_letGo_5 : decode cX1_letGo 5 = .ok (.aload_n 0, 1) := by decide +kernel
theorem dX1_letGo_6 : decode cX1_letGo 6 = .ok (.iconst 0, 1) := by decide +kernel
theorem dX1_letGo_7 : decode cX1_letGo 7 = .ok (.putfield 27, 3) := by decide +kernel
theorem dX1_letGo_10 : decode cX1_letGo 10 = .ok (.return_, 1) := by decide +kernel
theorem hd_X1_letGo : yX1_letGo.cls = RX1 ∧ yX1_letGo.cls ≠ "java/lang/invoke/MethodHandle" ∧ yX1_letGo.cls ≠ "java/lang/invoke/VarHandle" ∧ (parseMethodDescriptor yX1_letGo.desc).map (fun d => d.parameters.length) = some 0 := by decide +kernel
set_option maxRecDepth 100000 in
set_option maxHeartbeats 4000000 in
theorem c_X1_letGo (l : Launch) (D : va_G) (g : xG) (tb : List xQ) (hT : x_T g tb) {a0 : Nat} (h0 : ((1, a0, 0) : xQ) ∈ tb) {M M' : xM} (hf : f_X1_letGo a0 M = some M') :
    cV l D g tb yX1_letGo cX1_letGo 1 ({ frames := 0, cells := 0, slots := 0, locals := 0 } : Room) [.ref (g.1 1 a0)] M M' := by
  refine x_startV (own := RX1) (by decide +kernel) rfl rfl (Nat.le_of_ble_eq_true rfl) hT ?_
  intro p e s m args below meth c Q C0 hend
  unfold f_X1_letGo at hf
  refine r_aload_n C0 (kk := 0) 0 rfl dX1_letGo_0 ?_
  refine r_iconst C0 (v := (-1)) dX1_letGo_1 rfl ?_
  refine r_put1 C0 h0 4 rfl rfl w3_208 rfl rfl rfl dX1_letGo_2 ?_
  refine r_aload_n C0 (kk := 0) 0 rfl dX1_letGo_5 ?_
  refine r_iconst C0 (v := 0) dX1_letGo_6 rfl ?_
  refine r_put1 C0 h0 5 rfl rfl w3_211 rfl rfl rfl dX1_letGo_7 ?_
  exact hend hf dX1_letGo_10
theorem dX1_walkTo_0 : decode cX1_walkTo 0 = .ok (.iload_n 1, 1) := by decide +kernel
theorem dX1_walkTo_1 : decode cX1_walkTo 1 = .ok (.aload_n 0, 1) := by decide +kernel
theorem dX1_walkTo_2 : decode cX1_walkTo 2 = .ok (.getfield 15, 3) := by decide +kernel
theorem dX1_walkTo_5 : decode cX1_walkTo 5 = .ok (.isub, 1) := by decide +kernel
theorem dX1_walkTo_6 : decode cX1_walkTo 6 = .ok (.aload_n 0, 1) := by decide +kernel
theorem dX1_walkTo_7 : decode cX1_walkTo 7 = .ok (.getfield 24, 3) := by decide +kernel
theorem dX1_walkTo_10 : decode cX1_walkTo 10 = .ok (.if_icmp .le 19, 3) := by decide +kernel
theorem dX1_walkTo_13 : decode cX1_walkTo 13 = .ok (.aload_n 0, 1) := by decide +kernel
theorem dX1_walkTo_14 : decode cX1_walkTo 14 = .ok (.dup, 1) := by decide +kernel
theorem dX1_walkTo_15 : decode cX1_walkTo 15 = .ok (.getfield 15, 3) := by decide +kernel
theorem dX1_walkTo_18 : decode cX1_walkTo 18 = .ok (.aload_n 0, 1) := by decide +kernel
theorem dX1_walkTo_19 : decode cX1_walkTo 19 = .ok (.getfield 24, 3) := by decide +kernel
theorem dX1_walkTo_22 : decode cX1_walkTo 22 = .ok (.iadd, 1) := by decide +kernel
theorem dX1_walkTo_23 : decode cX1_walkTo 23 = .ok (.putfield 15, 3) := by decide +kernel
theorem dX1_walkTo_26 : decode cX1_walkTo 26 = .ok (.goto 37, 3) := by decide +kernel
theorem dX1_walkTo_29 : decode cX1_walkTo 29 = .ok (.aload_n 0, 1) := by decide +kernel
theorem dX1_walkTo_30 : decode cX1_walkTo 30 = .ok (.getfield 15, 3) := by decide +kernel
theorem dX1_walkTo_33 : decode cX1_walkTo 33 = .ok (.iload_n 1, 1) := by decide +kernel
theorem dX1_walkTo_34 : decode cX1_walkTo 34 = .ok (.isub, 1) := by decide +kernel
theorem dX1_walkTo_35 : decode cX1_walkTo 35 = .ok (.aload_n 0, 1) := by decide +kernel
theorem dX1_walkTo_36 : decode cX1_walkTo 36 = .ok (.getfield 24, 3) := by decide +kernel
theorem dX1_walkTo_39 : decode cX1_walkTo 39 = .ok (.if_icmp .le 19, 3) := by decide +kernel
theorem dX1_walkTo_42 : decode cX1_walkTo 42 = .ok (.aload_n 0, 1) := by decide +kernel
theorem dX1_walkTo_43 : decode cX1_walkTo 43 = .ok (.dup, 1) := by decide +kernel
theorem dX1_walkTo_44 : decode cX1_walkTo 44 = .ok (.getfield 15, 3) := by decide +kernel
theorem dX1_walkTo_47 : decode cX1_walkTo 47 = .ok (.aload_n 0, 1) := by decide +kernel
theorem dX1_walkTo_48 : decode cX1_walkTo 48 = .ok (.getfield 24, 3) := by decide +kernel
theorem dX1_walkTo_51 : decode cX1_walkTo 51 = .ok (.isub, 1) := by decide +kernel
theorem dX1_walkTo_52 : decode cX1_walkTo 52 = .ok (.putfield 15, 3) := by decide +kernel
theorem dX1_walkTo_55 : decode cX1_walkTo 55 = .ok (.goto 8, 3) := by decide +kernel
theorem dX1_walkTo_58 : decode cX1_walkTo 58 = .ok (.aload_n 0, 1) := by decide +kernel
theorem dX1_walkTo_59 : decode cX1_walkTo 59 = .ok (.iload_n 1, 1) := by decide +kernel
theorem dX1_walkTo_60 : decode cX1_walkTo 60 = .ok (.putfield 15, 3) := by decide +kernel
theorem dX1_walkTo_63 : decode cX1_walkTo 63 = .ok (.return_, 1) := by decide +kernel
theorem hd_X1_walkTo : yX1_walkTo.cls = RX1 ∧ yX1_walkTo.cls ≠ "java/lang/invoke/MethodHandle" ∧ yX1_walkTo.cls ≠ "java/lang/invoke/VarHandle" ∧ (parseMethodDescriptor yX1_walkTo.desc).map (fun d => d.parameters.length) = some 1 := by decide +kernel
set_option maxRecDepth 100000 in
set_option maxHeartbeats 4000000 in
theorem c_X1_walkTo (l : Launch) (D : va_G) (g : xG) (tb : List xQ) (hT : x_T g tb) {a0 : Nat} {a1 : Int32} (h0 : ((1, a0, 0) : xQ) ∈ tb) {M M' : xM} (hf : f_X1_walkTo a0 a1 M = some M') :
    cV l D g tb yX1_walkTo cX1_walkTo 2 ({ frames := 0, cells := 0, slots := 0, locals := 0 } : Room) [.ref (g.1 1 a0), .int a1] M M' := by
  refine x_startV (own := RX1) (by decide +kernel) rfl rfl (Nat.le_of_ble_eq_true rfl) hT ?_
  intro p e s m args below meth c Q C0 hend
  unfold f_X1_walkTo at hf
  refine r_iload_n C0 (kk := 1) 1 rfl dX1_walkTo_0 ?_
  refine r_aload_n C0 (kk := 0) 0 rfl dX1_walkTo_1 ?_
  refine r_get1 C0 h0 0 (by decide) (v := .int (M (a0 + 0))) rfl rfl w3_199 dX1_walkTo_2 ?_
  refine r_isub C0 dX1_walkTo_5 ?_
  refine r_aload_n C0 (kk := 0) 0 rfl dX1_walkTo_6 ?_
  refine r_get1 C0 h0 3 (by decide) (v := .int (M (a0 + 3))) rfl rfl w3_206 dX1_walkTo_7 ?_
  refine r_icmp_le C0 (tgt := 29) (by decide) dX1_walkTo_10 (fun q1 => ?_) (fun q1 => ?_)
  · have hf := ie_t hf q1
    refine r_aload_n C0 (kk := 0) 0 rfl dX1_walkTo_29 ?_
    refine r_get1 C0 h0 0 (by decide) (v := .int (M (a0 + 0))) rfl rfl w3_199 dX1_walkTo_30 ?_
    refine r_iload_n C0 (kk := 1) 1 rfl dX1_walkTo_33 ?_
    refine r_isub C0 dX1_walkTo_34 ?_
    refine r_aload_n C0 (kk := 0) 0 rfl dX1_walkTo_35 ?_
    refine r_get1 C0 h0 3 (by decide) (v := .int (M (a0 + 3))) rfl rfl w3_206 dX1_walkTo_36 ?_
    refine r_icmp_le C0 (tgt := 58) (by decide) dX1_walkTo_39 (fun q2 => ?_) (fun q2 => ?_)
    · have hf := ie_t hf q2
      refine r_aload_n C0 (kk := 0) 0 rfl dX1_walkTo_58 ?_
      refine r_iload_n C0 (kk := 1) 1 rfl dX1_walkTo_59 ?_
      refine r_put1 C0 h0 0 rfl rfl w3_199 rfl rfl rfl dX1_walkTo_60 ?_
      exact hend hf dX1_walkTo_63
    · have hf := ie_f hf q2
      refine r_aload_n C0 (kk := 0) 0 rfl dX1_walkTo_42 ?_
      refine r_dup C0 rfl dX1_walkTo_43 ?_
      refine r_get1 C0 h0 0 (by decide) (v := .int (M (a0 + 0))) rfl rfl w3_199 dX1_walkTo_44 ?_
      refine r_aload_n C0 (kk := 0) 0 rfl dX1_walkTo_47 ?_
      refine r_get1 C0 h0 3 (by decide) (v := .int (M (a0 + 3))) rfl rfl w3_206 dX1_walkTo_48 ?_
      refine r_isub C0 dX1_walkTo_51 ?_
      refine r_put1 C0 h0 0 rfl rfl w3_199 rfl rfl rfl dX1_walkTo_52 ?_
      refine r_goto C0 (tgt := 63) (by decide) dX1_walkTo_55 ?_
      exact hend hf dX1_walkTo_63
  · have hf := ie_f hf q1
    refine r_aload_n C0 (kk := 0) 0 rfl dX1_walkTo_13 ?_
    refine r_dup C0 rfl dX1_walkTo_14 ?_
    refine r_get1 C0 h0 0 (by decide) (v := .int (M (a0 + 0))) rfl rfl w3_199 dX1_walkTo_15 ?_
    refine r_aload_n C0 (kk := 0) 0 rfl dX1_walkTo_18 ?_
    refine r_get1 C0 h0 3 (by decide) (v := .int (M (a0 + 3))) rfl rfl w3_206 dX1_walkTo_19 ?_
    refine r_iadd C0 dX1_walkTo_22 ?_
    refine r_put1 C0 h0 0 rfl rfl w3_199 rfl rfl rfl dX1_walkTo_23 ?_
    refine r_goto C0 (tgt := 63) (by decide) dX1_walkTo_26 ?_
    exact hend hf dX1_walkTo_63
theorem dX1_payTo_0 : decode cX1_payTo 0 = .ok (.aload_n 0, 1) := by decide +kernel
theorem dX1_payTo_1 : decode cX1_payTo 1 = .ok (.dup, 1) := by decide +kernel
theorem dX1_payTo_2 : decode cX1_payTo 2 = .ok (.getfield 18, 3) := by decide +kernel
theorem dX1_payTo_5 : decode cX1_payTo 5 = .ok (.aload_n 0, 1) := by decide +kernel
theorem dX1_payTo_6 : decode cX1_payTo 6 = .ok (.getfield 27, 3) := by decide +kernel
theorem dX1_payTo_9 : decode cX1_payTo 9 = .ok (.isub, 1) := by decide +kernel
theorem dX1_payTo_10 : decode cX1_payTo 10 = .ok (.putfield 18, 3) := by decide +kernel
theorem dX1_payTo_13 : decode cX1_payTo 13 = .ok (.aload_n 1, 1) := by decide +kernel
theorem dX1_payTo_14 : decode cX1_payTo 14 = .ok (.dup, 1) := by decide +kernel
theorem dX1_payTo_15 : decode cX1_payTo 15 = .ok (.getfield 47, 3) := by decide +kernel
theorem dX1_payTo_18 : decode cX1_payTo 18 = .ok (.aload_n 0, 1) := by decide +kernel
theorem dX1_payTo_19 : decode cX1_payTo 19 = .ok (.getfield 27, 3) := by decide +kernel
theorem dX1_payTo_22 : decode cX1_payTo 22 = .ok (.iadd, 1) := by decide +kernel
theorem dX1_payTo_23 : decode cX1_payTo 23 = .ok (.putfield 47, 3) := by decide +kernel
theorem dX1_payTo_26 : decode cX1_payTo 26 = .ok (.aload_n 1, 1) := by decide +kernel
theorem dX1_payTo_27 : decode cX1_payTo 27 = .ok (.dup, 1) := by decide +kernel
theorem dX1_payTo_28 : decode cX1_payTo 28 = .ok (.getfield 50, 3) := by decide +kernel
theorem dX1_payTo_31 : decode cX1_payTo 31 = .ok (.iconst 1, 1) := by decide +kernel
theorem dX1_payTo_32 : decode cX1_payTo 32 = .ok (.iadd, 1) := by decide +kernel
theorem dX1_payTo_33 : decode cX1_payTo 33 = .ok (.putfield 50, 3) := by decide +kernel
theorem dX1_payTo_36 : decode cX1_payTo 36 = .ok (.aload_n 0, 1) := by decide +kernel
theorem dX1_payTo_37 : decode cX1_payTo 37 = .ok (.dup, 1) := by decide +kernel
theorem dX1_payTo_38 : decode cX1_payTo 38 = .ok (.getfield 33, 3) := by decide +kernel
theorem dX1_payTo_41 : decode cX1_payTo 41 = .ok (.iconst 1, 1) := by decide +kernel
theorem dX1_payTo_42 : decode cX1_payTo 42 = .ok (.iadd, 1) := by decide +kernel
theorem dX1_payTo_43 : decode cX1_payTo 43 = .ok (.putfield 33, 3) := by decide +kernel
theorem dX1_payTo_46 : decode cX1_payTo 46 = .ok (.aload_n 0, 1) := by decide +kernel
theorem dX1_payTo_47 : decode cX1_payTo 47 = .ok (.invokevirtual 53, 3) := by decide +kernel
theorem dX1_payTo_50 : decode cX1_payTo 50 = .ok (.return_, 1) := by decide +kernel
theorem hd_X1_payTo : yX1_payTo.cls = RX1 ∧ yX1_payTo.cls ≠ "java/lang/invoke/MethodHandle" ∧ yX1_payTo.cls ≠ "java/lang/invoke/VarHandle" ∧ (parseMethodDescriptor yX1_payTo.desc).map (fun d => d.parameters.length) = some 1 := by decide +kernel
set_option maxRecDepth 100000 in
set_option maxHeartbeats 4000000 in
theorem c_X1_payTo (l : Launch) (D : va_G) (g : xG) (tb : List xQ) (hT : x_T g tb) {a0 : Nat} {a1 : Nat} (h0 : ((1, a0, 0) : xQ) ∈ tb) (h1 : ((0, a1, 0) : xQ) ∈ tb) {M M' : xM} (hf : f_X1_payTo a0 a1 M = some M') :
    cV l D g tb yX1_payTo cX1_payTo 2 ({ frames := 1, cells := 0, slots := 0, locals := 20 } : Room) [.ref (g.1 1 a0), .ref (g.1 0 a1)] M M' := by
  refine x_startV (own := RX1) (by decide +kernel) rfl rfl (Nat.le_of_ble_eq_true rfl) hT ?_
  intro p e s m args below meth c Q C0 hend
  unfold f_X1_payTo at hf
  refine r_aload_n C0 (kk := 0) 0 rfl dX1_payTo_0 ?_
  refine r_dup C0 rfl dX1_payTo_1 ?_
  refine r_get1 C0 h0 1 (by decide) (v := .int (M (a0 + 1))) rfl rfl w3_202 dX1_payTo_2 ?_
  refine r_aload_n C0 (kk := 0) 0 rfl dX1_payTo_5 ?_
  refine r_get1 C0 h0 5 (by decide) (v := .int (M (a0 + 5))) rfl rfl w3_211 dX1_payTo_6 ?_
  refine r_isub C0 dX1_payTo_9 ?_
  refine r_put1 C0 h0 1 rfl rfl w3_202 rfl rfl rfl dX1_payTo_10 ?_
  refine r_aload_n C0 (kk := 1) 1 rfl dX1_payTo_13 ?_
  refine r_dup C0 rfl dX1_payTo_14 ?_
  refine r_get0 C0 h1 7 (by decide) (v := .int ((upd M (a0 + 1) ((M (a0 + 1)) - (M (a0 + 5)))) (a1 + 7))) rfl rfl w3_170 dX1_payTo_15 ?_
  refine r_aload_n C0 (kk := 0) 0 rfl dX1_payTo_18 ?_
  refine r_get1 C0 h0 5 (by decide) (v := .int ((upd M (a0 + 1) ((M (a0 + 1)) - (M (a0 + 5)))) (a0 + 5))) rfl rfl w3_211 dX1_payTo_19 ?_
  refine r_iadd C0 dX1_payTo_22 ?_
  refine r_put0 C0 h1 7 rfl rfl w3_170 rfl rfl rfl dX1_payTo_23 ?_
  refine r_aload_n C0 (kk := 1) 1 rfl dX1_payTo_26 ?_
  refine r_dup C0 rfl dX1_payTo_27 ?_
  refine r_get0 C0 h1 5 (by decide) (v := .int ((upd (upd M (a0 + 1) ((M (a0 + 1)) - (M (a0 + 5)))) (a1 + 7) (((upd M (a0 + 1) ((M (a0 + 1)) - (M (a0 + 5)))) (a1 + 7)) + ((upd M (a0 + 1) ((M (a0 + 1)) - (M (a0 + 5)))) (a0 + 5)))) (a1 + 5))) rfl rfl w3_165 dX1_payTo_28 ?_
  refine r_iconst C0 (v := 1) dX1_payTo_31 rfl ?_
  refine r_iadd C0 dX1_payTo_32 ?_
  refine r_put0 C0 h1 5 rfl rfl w3_165 rfl rfl rfl dX1_payTo_33 ?_
  refine r_aload_n C0 (kk := 0) 0 rfl dX1_payTo_36 ?_
  refine r_dup C0 rfl dX1_payTo_37 ?_
  refine r_get1 C0 h0 7 (by decide) (v := .int ((upd (upd (upd M (a0 + 1) ((M (a0 + 1)) - (M (a0 + 5)))) (a1 + 7) (((upd M (a0 + 1) ((M (a0 + 1)) - (M (a0 + 5)))) (a1 + 7)) + ((upd M (a0 + 1) ((M (a0 + 1)) - (M (a0 + 5)))) (a0 + 5)))) (a1 + 5) (((upd (upd M (a0 + 1) ((M (a0 + 1)) - (M (a0 + 5)))) (a1 + 7) (((upd M (a0 + 1) ((M (a0 + 1)) - (M (a0 + 5)))) (a1 + 7)) + ((upd M (a0 + 1) ((M (a0 + 1)) - (M (a0 + 5)))) (a0 + 5)))) (a1 + 5)) + 1)) (a0 + 7))) rfl rfl w3_216 dX1_payTo_38 ?_
  refine r_iconst C0 (v := 1) dX1_payTo_41 rfl ?_
  refine r_iadd C0 dX1_payTo_42 ?_
  refine r_put1 C0 h0 7 rfl rfl w3_216 rfl rfl rfl dX1_payTo_43 ?_
  refine r_aload_n C0 (kk := 0) 0 rfl dX1_payTo_46 ?_
  obtain ⟨M2, hc1, hf⟩ := bd_e hf
  refine r_callVv C0 (As := []) (rest := []) (c_X1_letGo l D g tb hT h0 hc1) w2_83 w2_67 w2_68 w1_16 w2_69 (x_rec1 C0 h0) hd_X1_letGo rfl ⟨rfl, rfl⟩ ⟨Nat.le_of_ble_eq_true rfl, Nat.le_of_ble_eq_true rfl⟩ (by decide) (by decide) rfl (Nat.le_of_ble_eq_true rfl) dX1_payTo_47 ?_
  exact hend hf dX1_payTo_50
theorem dX4_paces_0 : decode cX4_paces 0 = .ok (.iload_n 0, 1) := by decide +kernel
theorem dX4_paces_1 : decode cX4_paces 1 = .ok (.tableswitch 46 0 2 #[27, 34, 39], 27) := by decide +kernel
theorem dX4_paces_28 : decode cX4_paces 28 = .ok (.bipush 30, 2) := by decide +kernel
theorem dX4_paces_30 : decode cX4_paces 30 = .ok (.iconst 2, 1) := by decide +kernel
theorem dX4_paces_31 : decode cX4_paces 31 = .ok (.iload_n 1, 1) := by decide +kernel
theorem dX4_paces_32 : decode cX4_paces 32 = .ok (.imul, 1) := by decide +kernel
theorem dX4_paces_33 : decode cX4_paces 33 = .ok (.isub, 1) := by decide +kernel
theorem dX4_paces_34 : decode cX4_paces 34 = .ok (.ireturn, 1) := by decide +kernel
theorem dX4_paces_35 : decode cX4_paces 35 = .ok (.bipush 24, 2) := by decide +kernel
theorem dX4_paces_37 : decode cX4_paces 37 = .ok (.iload_n 1, 1) := by decide +kernel
theorem dX4_paces_38 : decode cX4_paces 38 = .ok (.isub, 1) := by decide +kernel
theorem dX4_paces_39 : decode cX4_paces 39 = .ok (.ireturn, 1) := by decide +kernel
theorem dX4_paces_40 : decode cX4_paces 40 = .ok (.bipush 45, 2) := by decide +kernel
theorem dX4_paces_42 : decode cX4_paces 42 = .ok (.iconst 5, 1) := by decide +kernel
theorem dX4_paces_43 : decode cX4_paces 43 = .ok (.iload_n 1, 1) := by decide +kernel
theorem dX4_paces_44 : decode cX4_paces 44 = .ok (.imul, 1) := by decide +kernel
theorem dX4_paces_45 : decode cX4_paces 45 = .ok (.isub, 1) := by decide +kernel
theorem dX4_paces_46 : decode cX4_paces 46 = .ok (.ireturn, 1) := by decide +kernel
theorem dX4_paces_47 : decode cX4_paces 47 = .ok (.bipush 12, 2) := by decide +kernel
theorem dX4_paces_49 : decode cX4_paces 49 = .ok (.ireturn, 1) := by decide +kernel
theorem hd_X4_paces : yX4_paces.cls ≠ "java/lang/invoke/MethodHandle" ∧ yX4_paces.cls ≠ "java/lang/invoke/VarHandle" ∧ (parseMethodDescriptor yX4_paces.desc).map (fun d => d.parameters.length) = some 2 := by decide +kernel
set_option maxRecDepth 100000 in
set_option maxHeartbeats 4000000 in
theorem c_X4_paces (l : Launch) (D : va_G) (g : xG) (tb : List xQ) (hT : x_T g tb) {a0 : Int32} {a1 : Int32}  {M : xM} {r : Int32} {M' : xM} (hf : f_X4_paces a0 a1 M = some (r, M')) :
    cI l D g tb yX4_paces cX4_paces 2 .int ({ frames := 0, cells := 0, slots := 0, locals := 0 } : Room) [.int a0, .int a1] M r M' := by
  refine x_startI (own := RX4) (by decide +kernel) rfl rfl (Nat.le_of_ble_eq_true rfl) hT ?_
  intro p e s m args below meth c Q C0 hend
  unfold f_X4_paces at hf
  refine r_iload_n C0 (kk := 0) 0 rfl dX4_paces_0 ?_
  rcases Decidable.em (a0 = 0) with q1 | q1
  · have hf := ie_t hf q1
    refine r_tsc C0 (cst := 0) q1 (by decide) (by decide) rfl (tgt := 28) (by decide) dX4_paces_1 ?_
    refine r_bipush C0 (v := 30) dX4_paces_28 rfl ?_
    refine r_iconst C0 (v := 2) dX4_paces_30 rfl ?_
    refine r_iload_n C0 (kk := 1) 1 rfl dX4_paces_31 ?_
    refine r_imul C0 dX4_paces_32 ?_
    refine r_isub C0 dX4_paces_33 ?_
    exact hend hf dX4_paces_34
  have hf := ie_f hf q1
  have nq1 : Int32.toInt a0 ≠ 0 := fun h => q1 (Int32.toInt_inj.mp h)
  rcases Decidable.em (a0 = 1) with q2 | q2
  · have hf := ie_t hf q2
    refine r_tsc C0 (cst := 1) q2 (by decide) (by decide) rfl (tgt := 35) (by decide) dX4_paces_1 ?_
    refine r_bipush C0 (v := 24) dX4_paces_35 rfl ?_
    refine r_iload_n C0 (kk := 1) 1 rfl dX4_paces_37 ?_
    refine r_isub C0 dX4_paces_38 ?_
    exact hend hf dX4_paces_39
  have hf := ie_f hf q2
  have nq2 : Int32.toInt a0 ≠ 1 := fun h => q2 (Int32.toInt_inj.mp h)
  rcases Decidable.em (a0 = 2) with q3 | q3
  · have hf := ie_t hf q3
    refine r_tsc C0 (cst := 2) q3 (by decide) (by decide) rfl (tgt := 40) (by decide) dX4_paces_1 ?_
    refine r_bipush C0 (v := 45) dX4_paces_40 rfl ?_
    refine r_iconst C0 (v := 5) dX4_paces_42 rfl ?_
    refine r_iload_n C0 (kk := 1) 1 rfl dX4_paces_43 ?_
    refine r_imul C0 dX4_paces_44 ?_
    refine r_isub C0 dX4_paces_45 ?_
    exact hend hf dX4_paces_46
  have hf := ie_f hf q3
  have nq3 : Int32.toInt a0 ≠ 2 := fun h => q3 (Int32.toInt_inj.mp h)
  refine r_tsd C0 (by omega) (tgt := 47) (by decide) dX4_paces_1 ?_
  refine r_bipush C0 (v := 12) dX4_paces_47 rfl ?_
  exact hend hf dX4_paces_49
theorem dX1_avoids_0 : decode cX1_avoids 0 = .ok (.aload_n 0, 1) := by decide +kernel
theorem dX1_avoids_1 : decode cX1_avoids 1 = .ok (.getfield 30, 3) := by decide +kernel
theorem dX1_avoids_4 : decode cX1_avoids 4 = .ok (.iload_n 1, 1) := by decide +kernel
theorem dX1_avoids_5 : decode cX1_avoids 5 = .ok (.ishr, 1) := by decide +kernel
theorem dX1_avoids_6 : decode cX1_avoids 6 = .ok (.iconst 1, 1) := by decide +kernel
theorem dX1_avoids_7 : decode cX1_avoids 7 = .ok (.iand, 1) := by decide +kernel
theorem dX1_avoids_8 : decode cX1_avoids 8 = .ok (.ifCond .eq 7, 3) := by decide +kernel
theorem dX1_avoids_11 : decode cX1_avoids 11 = .ok (.iconst 1, 1) := by decide +kernel
theorem dX1_avoids_12 : decode cX1_avoids 12 = .ok (.goto 4, 3) := by decide +kernel
theorem dX1_avoids_15 : decode cX1_avoids 15 = .ok (.iconst 0, 1) := by decide +kernel
theorem dX1_avoids_16 : decode cX1_avoids 16 = .ok (.ireturn, 1) := by decide +kernel
theorem hd_X1_avoids : yX1_avoids.cls = RX1 ∧ yX1_avoids.cls ≠ "java/lang/invoke/MethodHandle" ∧ yX1_avoids.cls ≠ "java/lang/invoke/VarHandle" ∧ (parseMethodDescriptor yX1_avoids.desc).map (fun d => d.parameters.length) = some 1 := by decide +kernel
set_option maxRecDepth 100000 in
set_option maxHeartbeats 4000000 in
theorem c_X1_avoids (l : Launch) (D : va_G) (g : xG) (tb : List xQ) (hT : x_T g tb) {a0 : Nat} {a1 : Int32} (h0 : ((1, a0, 0) : xQ) ∈ tb) {M : xM} {r : Int32} {M' : xM} (hf : f_X1_avoids a0 a1 M = some (r, M')) :
    cI l D g tb yX1_avoids cX1_avoids 2 .boolean ({ frames := 0, cells := 0, slots := 0, locals := 0 } : Room) [.ref (g.1 1 a0), .int a1] M r M' := by
  refine x_startZ (own := RX1) (by decide +kernel) rfl rfl (Nat.le_of_ble_eq_true rfl) hT ?_
  intro p e s m args below meth c Q C0 hend
  unfold f_X1_avoids at hf
  refine r_aload_n C0 (kk := 0) 0 rfl dX1_avoids_0 ?_
  refine r_get1 C0 h0 6 (by decide) (v := .int (M (a0 + 6))) rfl rfl w3_213 dX1_avoids_1 ?_
  refine r_iload_n C0 (kk := 1) 1 rfl dX1_avoids_4 ?_
  refine r_ishr C0 dX1_avoids_5 ?_
  refine r_iconst C0 (v := 1) dX1_avoids_6 rfl ?_
  refine r_iand C0 dX1_avoids_7 ?_
  refine r_if_eq C0 (tgt := 15) (by decide) dX1_avoids_8 (fun q1 => ?_) (fun q1 => ?_)
  · have hf := ie_t hf q1
    refine r_iconst C0 (v := 0) dX1_avoids_15 rfl ?_
    exact hend (by decide) hf dX1_avoids_16
  · have hf := ie_f hf q1
    refine r_iconst C0 (v := 1) dX1_avoids_11 rfl ?_
    refine r_goto C0 (tgt := 16) (by decide) dX1_avoids_12 ?_
    exact hend (by decide) hf dX1_avoids_16
theorem dX1_feel_0 : decode cX1_feel 0 = .ok (.aload_n 1, 1) := by decide +kernel
theorem dX1_feel_1 : decode cX1_feel 1 = .ok (.getfield 36, 3) := by decide +kernel
theorem dX1_feel_4 : decode cX1_feel 4 = .ok (.aload_n 0, 1) := by decide +kernel
theorem dX1_feel_5 : decode cX1_feel 5 = .ok (.getfield 21, 3) := by decide +kernel
theorem dX1_feel_8 : decode cX1_feel 8 = .ok (.if_icmp .eq 5, 3) := by decide +kernel
theorem dX1_feel_11 : decode cX1_feel 11 = .ok (.iconst 1, 1) := by decide +kernel
theorem dX1_feel_12 : decode cX1_feel 12 = .ok (.ireturn, 1) := by decide +kernel
theorem dX1_feel_13 : decode cX1_feel 13 = .ok (.aload_n 1, 1) := by decide +kernel
theorem dX1_feel_14 : decode cX1_feel 14 = .ok (.getfield 41, 3) := by decide +kernel
theorem dX1_feel_17 : decode cX1_feel 17 = .ok (.ifCond .ne 5, 3) := by decide +kernel
theorem dX1_feel_20 : decode cX1_feel 20 = .ok (.iconst 2, 1) := by decide +kernel
theorem dX1_feel_21 : decode cX1_feel 21 = .ok (.ireturn, 1) := by decide +kernel
theorem dX1_feel_22 : decode cX1_feel 22 = .ok (.aload_n 1, 1) := by decide +kernel
theorem dX1_feel_23 : decode cX1_feel 23 = .ok (.getfield 44, 3) := by decide +kernel
theorem dX1_feel_26 : decode cX1_feel 26 = .ok (.aload_n 0, 1) := by decide +kernel
theorem dX1_feel_27 : decode cX1_feel 27 = .ok (.getfield 18, 3) := by decide +kernel
theorem dX1_feel_30 : decode cX1_feel 30 = .ok (.if_icmp .le 7, 3) := by decide +kernel
theorem dX1_feel_33 : decode cX1_feel 33 = .ok (.iconst 3, 1) := by decide +kernel
theorem dX1_feel_34 : decode cX1_feel 34 = .ok (.goto 4, 3) := by decide +kernel
theorem dX1_feel_37 : decode cX1_feel 37 = .ok (.iconst 0, 1) := by decide +kernel
theorem dX1_feel_38 : decode cX1_feel 38 = .ok (.ireturn, 1) := by decide +kernel
theorem hd_X1_feel : yX1_feel.cls = RX1 ∧ yX1_feel.cls ≠ "java/lang/invoke/MethodHandle" ∧ yX1_feel.cls ≠ "java/lang/invoke/VarHandle" ∧ (parseMethodDescriptor yX1_feel.desc).map (fun d => d.parameters.length) = some 1 := by decide +kernel
set_option maxRecDepth 100000 in
set_option maxHeartbeats 4000000 in
theorem c_X1_feel (l : Launch) (D : va_G) (g : xG) (tb : List xQ) (hT : x_T g tb) {a0 : Nat} {a1 : Nat} (h0 : ((1, a0, 0) : xQ) ∈ tb) (h1 : ((0, a1, 0) : xQ) ∈ tb) {M : xM} {r : Int32} {M' : xM} (hf : f_X1_feel a0 a1 M = some (r, M')) :
    cI l D g tb yX1_feel cX1_feel 2 .int ({ frames := 0, cells := 0, slots := 0, locals := 0 } : Room) [.ref (g.1 1 a0), .ref (g.1 0 a1)] M r M' := by
  refine x_startI (own := RX1) (by decide +kernel) rfl rfl (Nat.le_of_ble_eq_true rfl) hT ?_
  intro p e s m args below meth c Q C0 hend
  unfold f_X1_feel at hf
  refine r_aload_n C0 (kk := 1) 1 rfl dX1_feel_0 ?_
  refine r_get0 C0 h1 2 (by decide) (v := .int (M (a1 + 2))) rfl rfl w3_153 dX1_feel_1 ?_
  refine r_aload_n C0 (kk := 0) 0 rfl dX1_feel_4 ?_
  refine r_get1 C0 h0 2 (by decide) (v := .int (M (a0 + 2))) rfl rfl w3_204 dX1_feel_5 ?_
  refine r_icmp_eq C0 (tgt := 13) (by decide) dX1_feel_8 (fun q1 => ?_) (fun q1 => ?_)
  · have hf := ie_t hf q1
    refine r_aload_n C0 (kk := 1) 1 rfl dX1_feel_13 ?_
    refine r_get0 C0 h1 4 (by decide) (v := .int (M (a1 + 4))) rfl rfl w3_160 dX1_feel_14 ?_
    refine r_if_ne C0 (tgt := 22) (by decide) dX1_feel_17 (fun q2 => ?_) (fun q2 => ?_)
    · have hf := ie_f hf q2
      refine r_aload_n C0 (kk := 1) 1 rfl dX1_feel_22 ?_
      refine r_get0 C0 h1 3 (by decide) (v := .int (M (a1 + 3))) rfl rfl w3_156 dX1_feel_23 ?_
      refine r_aload_n C0 (kk := 0) 0 rfl dX1_feel_26 ?_
      refine r_get1 C0 h0 1 (by decide) (v := .int (M (a0 + 1))) rfl rfl w3_202 dX1_feel_27 ?_
      refine r_icmp_le C0 (tgt := 37) (by decide) dX1_feel_30 (fun q3 => ?_) (fun q3 => ?_)
      · have hf := ie_t hf q3
        refine r_iconst C0 (v := 0) dX1_feel_37 rfl ?_
        exact hend hf dX1_feel_38
      · have hf := ie_f hf q3
        refine r_iconst C0 (v := 3) dX1_feel_33 rfl ?_
        refine r_goto C0 (tgt := 38) (by decide) dX1_feel_34 ?_
        exact hend hf dX1_feel_38
    · have hf := ie_t hf q2
      refine r_iconst C0 (v := 2) dX1_feel_20 rfl ?_
      exact hend hf dX1_feel_21
  · have hf := ie_f hf q1
    refine r_iconst C0 (v := 1) dX1_feel_11 rfl ?_
    exact hend hf dX1_feel_12
theorem dX1_take_0 : decode cX1_take 0 = .ok (.aload_n 1, 1) := by decide +kernel
theorem dX1_take_1 : decode cX1_take 1 = .ok (.dup, 1) := by decide +kernel
theorem dX1_take_2 : decode cX1_take 2 = .ok (.getfield 41, 3) := by decide +kernel
theorem dX1_take_5 : decode cX1_take 5 = .ok (.iconst 1, 1) := by decide +kernel
theorem dX1_take_6 : decode cX1_take 6 = .ok (.isub, 1) := by decide +kernel
theorem dX1_take_7 : decode cX1_take 7 = .ok (.putfield 41, 3) := by decide +kernel
theorem dX1_take_10 : decode cX1_take 10 = .ok (.aload_n 0, 1) := by decide +kernel
theorem dX1_take_11 : decode cX1_take 11 = .ok (.iload_n 2, 1) := by decide +kernel
theorem dX1_take_12 : decode cX1_take 12 = .ok (.putfield 9, 3) := by decide +kernel
theorem dX1_take_15 : decode cX1_take 15 = .ok (.aload_n 0, 1) := by decide +kernel
theorem dX1_take_16 : decode cX1_take 16 = .ok (.aload_n 1, 1) := by decide +kernel
theorem dX1_take_17 : decode cX1_take 17 = .ok (.getfield 44, 3) := by decide +kernel
theorem dX1_take_20 : decode cX1_take 20 = .ok (.putfield 27, 3) := by decide +kernel
theorem dX1_take_23 : decode cX1_take 23 = .ok (.return_, 1) := by decide +kernel
theorem hd_X1_take : yX1_take.cls = RX1 ∧ yX1_take.cls ≠ "java/lang/invoke/MethodHandle" ∧ yX1_take.cls ≠ "java/lang/invoke/VarHandle" ∧ (parseMethodDescriptor yX1_take.desc).map (fun d => d.parameters.length) = some 2 := by decide +kernel
set_option maxRecDepth 100000 in
set_option maxHeartbeats 4000000 in
theorem c_X1_take (l : Launch) (D : va_G) (g : xG) (tb : List xQ) (hT : x_T g tb) {a0 : Nat} {a1 : Nat} {a2 : Int32} (h0 : ((1, a0, 0) : xQ) ∈ tb) (h1 : ((0, a1, 0) : xQ) ∈ tb) {M M' : xM} (hf : f_X1_take a0 a1 a2 M = some M') :
    cV l D g tb yX1_take cX1_take 3 ({ frames := 0, cells := 0, slots := 0, locals := 0 } : Room) [.ref (g.1 1 a0), .ref (g.1 0 a1), .int a2] M M' := by
  refine x_startV (own := RX1) (by decide +kernel) rfl rfl (Nat.le_of_ble_eq_true rfl) hT ?_
  intro p e s m args below meth c Q C0 hend
  unfold f_X1_take at hf
  refine r_aload_n C0 (kk := 1) 1 rfl dX1_take_0 ?_
  refine r_dup C0 rfl dX1_take_1 ?_
  refine r_get0 C0 h1 4 (by decide) (v := .int (M (a1 + 4))) rfl rfl w3_160 dX1_take_2 ?_
  refine r_iconst C0 (v := 1) dX1_take_5 rfl ?_
  refine r_isub C0 dX1_take_6 ?_
  refine r_put0 C0 h1 4 rfl rfl w3_160 rfl rfl rfl dX1_take_7 ?_
  refine r_aload_n C0 (kk := 0) 0 rfl dX1_take_10 ?_
  refine r_iload_n C0 (kk := 2) 2 rfl dX1_take_11 ?_
  refine r_put1 C0 h0 4 rfl rfl w3_208 rfl rfl rfl dX1_take_12 ?_
  refine r_aload_n C0 (kk := 0) 0 rfl dX1_take_15 ?_
  refine r_aload_n C0 (kk := 1) 1 rfl dX1_take_16 ?_
  refine r_get0 C0 h1 3 (by decide) (v := .int ((upd (upd M (a1 + 4) ((M (a1 + 4)) - 1)) (a0 + 4) a2) (a1 + 3))) rfl rfl w3_156 dX1_take_17 ?_
  refine r_put1 C0 h0 5 rfl rfl w3_211 rfl rfl rfl dX1_take_20 ?_
  exact hend hf dX1_take_23
theorem dX1_avoid_0 : decode cX1_avoid 0 = .ok (.aload_n 0, 1) := by decide +kernel
theorem dX1_avoid_1 : decode cX1_avoid 1 = .ok (.dup, 1) := by decide +kernel
theorem dX1_avoid_2 : decode cX1_avoid 2 = .ok (.getfield 30, 3) := by decide +kernel
theorem dX1_avoid_5 : decode cX1_avoid 5 = .ok (.iconst 1, 1) := by decide +kernel
theorem dX1_avoid_6 : decode cX1_avoid 6 = .ok (.iload_n 1, 1) := by decide +kernel
theorem dX1_avoid_7 : decode cX1_avoid 7 = .ok (.ishl, 1) := by decide +kernel
theorem dX1_avoid_8 : decode cX1_avoid 8 = .ok (.ior, 1) := by decide +kernel
theorem dX1_avoid_9 : decode cX1_avoid 9 = .ok (.putfield 30, 3) := by decide +kernel
theorem dX1_avoid_12 : decode cX1_avoid 12 = .ok (.return_, 1) := by decide +kernel
theorem hd_X1_avoid : yX1_avoid.cls = RX1 ∧ yX1_avoid.cls ≠ "java/lang/invoke/MethodHandle" ∧ yX1_avoid.cls ≠ "java/lang/invoke/VarHandle" ∧ (parseMethodDescriptor yX1_avoid.desc).map (fun d => d.parameters.length) = some 1 := by decide +kernel
set_option maxRecDepth 100000 in
set_option maxHeartbeats 4000000 in
theorem c_X1_avoid (l : Launch) (D : va_G) (g : xG) (tb : List xQ) (hT : x_T g tb) {a0 : Nat} {a1 : Int32} (h0 : ((1, a0, 0) : xQ) ∈ tb) {M M' : xM} (hf : f_X1_avoid a0 a1 M = some M') :
    cV l D g tb yX1_avoid cX1_avoid 2 ({ frames := 0, cells := 0, slots := 0, locals := 0 } : Room) [.ref (g.1 1 a0), .int a1] M M' := by
  refine x_startV (own := RX1) (by decide +kernel) rfl rfl (Nat.le_of_ble_eq_true rfl) hT ?_
  intro p e s m args below meth c Q C0 hend
  unfold f_X1_avoid at hf
  refine r_aload_n C0 (kk := 0) 0 rfl dX1_avoid_0 ?_
  refine r_dup C0 rfl dX1_avoid_1 ?_
  refine r_get1 C0 h0 6 (by decide) (v := .int (M (a0 + 6))) rfl rfl w3_213 dX1_avoid_2 ?_
  refine r_iconst C0 (v := 1) dX1_avoid_5 rfl ?_
  refine r_iload_n C0 (kk := 1) 1 rfl dX1_avoid_6 ?_
  refine r_ishl C0 dX1_avoid_7 ?_
  refine r_ior C0 dX1_avoid_8 ?_
  refine r_put1 C0 h0 6 rfl rfl w3_213 rfl rfl rfl dX1_avoid_9 ?_
  exact hend hf dX1_avoid_12
theorem dX4_guardedDensity_0 : decode cX4_guardedDensity 0 = .ok (.aload_n 0, 1) := by decide +kernel
theorem dX4_guardedDensity_1 : decode cX4_guardedDensity 1 = .ok (.getfield 15, 3) := by decide +kernel
theorem dX4_guardedDensity_4 : decode cX4_guardedDensity 4 = .ok (.tableswitch 36 0 2 #[28, 31, 33], 28) := by decide +kernel
theorem dX4_guardedDensity_32 : decode cX4_guardedDensity 32 = .ok (.bipush 7, 2) := by decide +kernel
theorem dX4_guardedDensity_34 : decode cX4_guardedDensity 34 = .ok (.ireturn, 1) := by decide +kernel
theorem dX4_guardedDensity_35 : decode cX4_guardedDensity 35 = .ok (.iconst 5, 1) := by decide +kernel
theorem dX4_guardedDensity_36 : decode cX4_guardedDensity 36 = .ok (.ireturn, 1) := by decide +kernel
theorem dX4_guardedDensity_37 : decode cX4_guardedDensity 37 = .ok (.bipush 6, 2) := by decide +kernel
theorem dX4_guardedDensity_39 : decode cX4_guardedDensity 39 = .ok (.ireturn, 1) := by decide +kernel
theorem dX4_guardedDensity_40 : decode cX4_guardedDensity 40 = .ok (.bipush 9, 2) := by decide +kernel
theorem dX4_guardedDensity_42 : decode cX4_guardedDensity 42 = .ok (.ireturn, 1) := by decide +kernel
theorem hd_X4_guardedDensity : yX4_guardedDensity.cls = RX4 ∧ yX4_guardedDensity.cls ≠ "java/lang/invoke/MethodHandle" ∧ yX4_guardedDensity.cls ≠ "java/lang/invoke/VarHandle" ∧ (parseMethodDescriptor yX4_guardedDensity.desc).map (fun d => d.parameters.length) = some 0 := by decide +kernel
set_option maxRecDepth 100000 in
set_option maxHeartbeats 4000000 in
theorem c_X4_guardedDensity (l : Launch) (D : va_G) (g : xG) (tb : List xQ) (hT : x_T g tb) {a0 : Nat} (h0 : ((0, a0, 0) : xQ) ∈ tb) {M : xM} {r : Int32} {M' : xM} (hf : f_X4_guardedDensity a0 M = some (r, M')) :
    cI l D g tb yX4_guardedDensity cX4_guardedDensity 1 .int ({ frames := 0, cells := 0, slots := 0, locals := 0 } : Room) [.ref (g.1 0 a0)] M r M' := by
  refine x_startI (own := RX4) (by decide +kernel) rfl rfl (Nat.le_of_ble_eq_true rfl) hT ?_
  intro p e s m args below meth c Q C0 hend
  unfold f_X4_guardedDensity at hf
  refine r_aload_n C0 (kk := 0) 0 rfl dX4_guardedDensity_0 ?_
  refine r_get0 C0 h0 1 (by decide) (v := .int (M (a0 + 1))) rfl rfl w3_149 dX4_guardedDensity_1 ?_
  rcases Decidable.em ((M (a0 + 1)) = 0) with q1 | q1
  · have hf := ie_t hf q1
    refine r_tsc C0 (cst := 0) q1 (by decide) (by decide) rfl (tgt := 32) (by decide) dX4_guardedDensity_4 ?_
    refine r_bipush C0 (v := 7) dX4_guardedDensity_32 rfl ?_
    exact hend hf dX4_guardedDensity_34
  have hf := ie_f hf q1
  have nq1 : Int32.toInt (M (a0 + 1)) ≠ 0 := fun h => q1 (Int32.toInt_inj.mp h)
  rcases Decidable.em ((M (a0 + 1)) = 1) with q2 | q2
  · have hf := ie_t hf q2
    refine r_tsc C0 (cst := 1) q2 (by decide) (by decide) rfl (tgt := 35) (by decide) dX4_guardedDensity_4 ?_
    refine r_iconst C0 (v := 5) dX4_guardedDensity_35 rfl ?_
    exact hend hf dX4_guardedDensity_36
  have hf := ie_f hf q2
  have nq2 : Int32.toInt (M (a0 + 1)) ≠ 1 := fun h => q2 (Int32.toInt_inj.mp h)
  rcases Decidable.em ((M (a0 + 1)) = 2) with q3 | q3
  · have hf := ie_t hf q3
    refine r_tsc C0 (cst := 2) q3 (by decide) (by decide) rfl (tgt := 37) (by decide) dX4_guardedDensity_4 ?_
    refine r_bipush C0 (v := 6) dX4_guardedDensity_37 rfl ?_
    exact hend hf dX4_guardedDensity_39
  have hf := ie_f hf q3
  have nq3 : Int32.toInt (M (a0 + 1)) ≠ 2 := fun h => q3 (Int32.toInt_inj.mp h)
  refine r_tsd C0 (by omega) (tgt := 40) (by decide) dX4_guardedDensity_4 ?_
  refine r_bipush C0 (v := 9) dX4_guardedDensity_40 rfl ?_
  exact hend hf dX4_guardedDensity_42
theorem dX2_countMinute_0 : decode cX2_countMinute 0 = .ok (.aload_n 0, 1) := by decide +kernel
theorem dX2_countMinute_1 : decode cX2_countMinute 1 = .ok (.getfield 51, 3) := by decide +kernel
theorem dX2_countMinute_4 : decode cX2_countMinute 4 = .ok (.ifCond .eq 13, 3) := by decide +kernel
theorem dX2_countMinute_7 : decode cX2_countMinute 7 = .ok (.aload_n 0, 1) := by decide +kernel
theorem dX2_countMinute_8 : decode cX2_countMinute 8 = .ok (.dup, 1) := by decide +kernel
theorem dX2_countMinute_9 : decode cX2_countMinute 9 = .ok (.getfield 58, 3) := by decide +kernel
theorem dX2_countMinute_12 : decode cX2_countMinute 12 = .ok (.iconst 1, 1) := by decide +kernel
theorem dX2_countMinute_13 : decode cX2_countMinute 13 = .ok (.iadd, 1) := by decide +kernel
theorem dX2_countMinute_14 : decode cX2_countMinute 14 = .ok (.putfield 58, 3) := by decide +kernel
theorem dX2_countMinute_17 : decode cX2_countMinute 17 = .ok (.aload_n 0, 1) := by decide +kernel
theorem dX2_countMinute_18 : decode cX2_countMinute 18 = .ok (.dup, 1) := by decide +kernel
theorem dX2_countMinute_19 : decode cX2_countMinute 19 = .ok (.getfield 39, 3) := by decide +kernel
theorem dX2_countMinute_22 : decode cX2_countMinute 22 = .ok (.iconst 1, 1) := by decide +kernel
theorem dX2_countMinute_23 : decode cX2_countMinute 23 = .ok (.iadd, 1) := by decide +kernel
theorem dX2_countMinute_24 : decode cX2_countMinute 24 = .ok (.putfield 39, 3) := by decide +kernel
theorem dX2_countMinute_27 : decode cX2_countMinute 27 = .ok (.return_, 1) := by decide +kernel
theorem hd_X2_countMinute : yX2_countMinute.cls = RX2 ∧ yX2_countMinute.cls ≠ "java/lang/invoke/MethodHandle" ∧ yX2_countMinute.cls ≠ "java/lang/invoke/VarHandle" ∧ (parseMethodDescriptor yX2_countMinute.desc).map (fun d => d.parameters.length) = some 0 := by decide +kernel
set_option maxRecDepth 100000 in
set_option maxHeartbeats 4000000 in
theorem c_X2_countMinute (l : Launch) (D : va_G) (g : xG) (tb : List xQ) (hT : x_T g tb) {a0 : Nat} (h0 : x_mk tb a0) {M M' : xM} (hf : f_X2_countMinute a0 M = some M') :
    cV l D g tb yX2_countMinute cX2_countMinute 1 ({ frames := 0, cells := 0, slots := 0, locals := 0 } : Room) [.ref (g.1 2 a0)] M M' := by
  refine x_startV (own := RX2) (by decide +kernel) rfl rfl (Nat.le_of_ble_eq_true rfl) hT ?_
  intro p e s m args below meth c Q C0 hend
  have B17 : ∀ (M : xM), f_X2_countMinute_c17  a0 M = some M' → WW p l e ({ frames := 0, cells := 0, slots := 0, locals := 0 } : Room) s m args below meth c 0 0 Q 1 D g tb 17 [(0, .ref (g.1 2 a0))] [] M := by
    intro     M hf
    unfold f_X2_countMinute_c17 at hf
    refine r_aload_n C0 (kk := 0) 0 rfl dX2_countMinute_17 ?_
    refine r_dup C0 rfl dX2_countMinute_18 ?_
    refine r_get2 C0 h0.1 6 (by decide) (v := .int (M (a0 + 0))) rfl rfl w4_12 dX2_countMinute_19 ?_
    refine r_iconst C0 (v := 1) dX2_countMinute_22 rfl ?_
    refine r_iadd C0 dX2_countMinute_23 ?_
    refine r_put2 C0 h0.1 6 rfl rfl w4_12 rfl rfl rfl dX2_countMinute_24 ?_
    exact hend hf dX2_countMinute_27
  unfold f_X2_countMinute at hf
  refine r_aload_n C0 (kk := 0) 0 rfl dX2_countMinute_0 ?_
  refine r_get2 C0 h0.1 10 (by decide) (v := .int (M (a0 + 1))) rfl rfl w4_20 dX2_countMinute_1 ?_
  refine r_if_eq C0 (tgt := 17) (by decide) dX2_countMinute_4 (fun q1 => ?_) (fun q1 => ?_)
  · have hf := ie_t hf q1
    exact B17     _ hf
  · have hf := ie_f hf q1
    refine r_aload_n C0 (kk := 0) 0 rfl dX2_countMinute_7 ?_
    refine r_dup C0 rfl dX2_countMinute_8 ?_
    refine r_get2 C0 h0.1 12 (by decide) (v := .int (M (a0 + 3))) rfl rfl w4_24 dX2_countMinute_9 ?_
    refine r_iconst C0 (v := 1) dX2_countMinute_12 rfl ?_
    refine r_iadd C0 dX2_countMinute_13 ?_
    refine r_put2 C0 h0.1 12 rfl rfl w4_24 rfl rfl rfl dX2_countMinute_14 ?_
    exact B17     _ hf
theorem dL_in_0 : decode cL_in 0 = .ok (.iload_n 0, 1) := by decide +kernel
theorem dL_in_1 : decode cL_in 1 = .ok (.ldc 7, 2) := by decide +kernel
theorem dL_in_3 : decode cL_in 3 = .ok (.iand, 1) := by decide +kernel
theorem dL_in_4 : decode cL_in 4 = .ok (.iload_n 1, 1) := by decide +kernel
theorem dL_in_5 : decode cL_in 5 = .ok (.irem, 1) := by decide +kernel
theorem dL_in_6 : decode cL_in 6 = .ok (.ireturn, 1) := by decide +kernel
theorem hd_L_in : yL_in.cls ≠ "java/lang/invoke/MethodHandle" ∧ yL_in.cls ≠ "java/lang/invoke/VarHandle" ∧ (parseMethodDescriptor yL_in.desc).map (fun d => d.parameters.length) = some 2 := by decide +kernel
set_option maxRecDepth 100000 in
set_option maxHeartbeats 4000000 in
theorem c_L_in (l : Launch) (D : va_G) (g : xG) (tb : List xQ) (hT : x_T g tb) {a0 : Int32} {a1 : Int32}  {M : xM} {r : Int32} {M' : xM} (hf : f_L_in a0 a1 M = some (r, M')) :
    cI l D g tb yL_in cL_in 2 .int ({ frames := 0, cells := 0, slots := 0, locals := 0 } : Room) [.int a0, .int a1] M r M' := by
  refine x_startI (own := RL) (by decide +kernel) rfl rfl (Nat.le_of_ble_eq_true rfl) hT ?_
  intro p e s m args below meth c Q C0 hend
  unfold f_L_in at hf
  refine r_iload_n C0 (kk := 0) 0 rfl dL_in_0 ?_
  refine r_ldc C0 w2_130 dL_in_1 ?_
  refine r_iand C0 dL_in_3 ?_
  refine r_iload_n C0 (kk := 1) 1 rfl dL_in_4 ?_
  obtain ⟨q1, hf⟩ := gd_e hf
  refine r_irem C0 (nz_e q1) dL_in_5 ?_
  exact hend hf dL_in_6
theorem dJ3_checkFromToIndex_8c36e_0 : decode cJ3_checkFromToIndex_8c36e 0 = .ok (.iload_n 0, 1) := by decide +kernel
theorem dJ3_checkFromToIndex_8c36e_1 : decode cJ3_checkFromToIndex_8c36e 1 = .ok (.ifCond .lt 13, 3) := by decide +kernel
theorem dJ3_checkFromToIndex_8c36e_4 : decode cJ3_checkFromToIndex_8c36e 4 = .ok (.iload_n 0, 1) := by decide +kernel
theorem dJ3_checkFromToIndex_8c36e_5 : decode cJ3_checkFromToIndex_8c36e 5 = .ok (.iload_n 1, 1) := by decide +kernel
theorem dJ3_checkFromToIndex_8c36e_6 : decode cJ3_checkFromToIndex_8c36e 6 = .ok (.if_icmp .gt 8, 3) := by decide +kernel
theorem dJ3_checkFromToIndex_8c36e_9 : decode cJ3_checkFromToIndex_8c36e 9 = .ok (.iload_n 1, 1) := by decide +kernel
theorem dJ3_checkFromToIndex_8c36e_10 : decode cJ3_checkFromToIndex_8c36e 10 = .ok (.iload_n 2, 1) := by decide +kernel
theorem dJ3_checkFromToIndex_8c36e_11 : decode cJ3_checkFromToIndex_8c36e 11 = .ok (.if_icmp .le 11, 3) := by decide +kernel
theorem dJ3_checkFromToIndex_8c36e_14 : decode cJ3_checkFromToIndex_8c36e 14 = .ok (.aload_n 3, 1) := by decide +kernel
theorem dJ3_checkFromToIndex_8c36e_15 : decode cJ3_checkFromToIndex_8c36e 15 = .ok (.iload_n 0, 1) := by decide +kernel
theorem dJ3_checkFromToIndex_8c36e_16 : decode cJ3_checkFromToIndex_8c36e 16 = .ok (.iload_n 1, 1) := by decide +kernel
theorem dJ3_checkFromToIndex_8c36e_17 : decode cJ3_checkFromToIndex_8c36e 17 = .ok (.iload_n 2, 1) := by decide +kernel
theorem dJ3_checkFromToIndex_8c36e_18 : decode cJ3_checkFromToIndex_8c36e 18 = .ok (.invokestatic 99, 3) := by decide +kernel
theorem dJ3_checkFromToIndex_8c36e_21 : decode cJ3_checkFromToIndex_8c36e 21 = .ok (.athrow, 1) := by decide +kernel
theorem dJ3_checkFromToIndex_8c36e_22 : decode cJ3_checkFromToIndex_8c36e 22 = .ok (.iload_n 0, 1) := by decide +kernel
theorem dJ3_checkFromToIndex_8c36e_23 : decode cJ3_checkFromToIndex_8c36e 23 = .ok (.ireturn, 1) := by decide +kernel
theorem hd_J3_checkFromToIndex_8c36e : yJ3_checkFromToIndex_8c36e.cls ≠ "java/lang/invoke/MethodHandle" ∧ yJ3_checkFromToIndex_8c36e.cls ≠ "java/lang/invoke/VarHandle" ∧ (parseMethodDescriptor yJ3_checkFromToIndex_8c36e.desc).map (fun d => d.parameters.length) = some 4 := by decide +kernel
set_option maxRecDepth 100000 in
set_option maxHeartbeats 4000000 in
theorem c_J3_checkFromToIndex_8c36e (l : Launch) (D : va_G) (g : xG) (tb : List xQ) (hT : x_T g tb) {a0 : Int32} {a1 : Int32} {a2 : Int32} {a3 : (Option Nat)}  {M : xM} {r : Int32} {M' : xM} (hf : f_J3_checkFromToIndex_8c36e a0 a1 a2 M = some (r, M')) :
    cI l D g tb yJ3_checkFromToIndex_8c36e cJ3_checkFromToIndex_8c36e 4 .int ({ frames := 0, cells := 0, slots := 0, locals := 0 } : Room) [.int a0, .int a1, .int a2, va_rf a3] M r M' := by
  refine x_startI (own := RJ3) (by decide +kernel) rfl rfl (by cases a3 <;> exact Nat.le_of_ble_eq_true rfl) hT ?_
  intro p e s m args below meth c Q C0 hend
  have B14 : ∀ (M : xM), f_J3_checkFromToIndex_8c36e_c14  a0 a1 a2 M = some (r, M') → WW p l e ({ frames := 0, cells := 0, slots := 0, locals := 0 } : Room) s m args below meth c 0 0 Q 4 D g tb 14 [(0, .int a0), (1, .int a1), (2, .int a2), (3, va_rf a3)] [] M := by
    intro     M hf
    unfold f_J3_checkFromToIndex_8c36e_c14 at hf
    exact none_ne hf
  unfold f_J3_checkFromToIndex_8c36e at hf
  refine r_iload_n C0 (kk := 0) 0 rfl dJ3_checkFromToIndex_8c36e_0 ?_
  refine r_if_lt C0 (tgt := 14) (by decide) dJ3_checkFromToIndex_8c36e_1 (fun q1 => ?_) (fun q1 => ?_)
  · have hf := ie_t hf q1
    exact B14     _ hf
  · have hf := ie_f hf q1
    refine r_iload_n C0 (kk := 0) 0 rfl dJ3_checkFromToIndex_8c36e_4 ?_
    refine r_iload_n C0 (kk := 1) 1 rfl dJ3_checkFromToIndex_8c36e_5 ?_
    refine r_icmp_gt C0 (tgt := 14) (by decide) dJ3_checkFromToIndex_8c36e_6 (fun q2 => ?_) (fun q2 => ?_)
    · have hf := ie_t hf q2
      exact B14     _ hf
    · have hf := ie_f hf q2
      refine r_iload_n C0 (kk := 1) 1 rfl dJ3_checkFromToIndex_8c36e_9 ?_
      refine r_iload_n C0 (kk := 2) 2 rfl dJ3_checkFromToIndex_8c36e_10 ?_
      refine r_icmp_le C0 (tgt := 22) (by decide) dJ3_checkFromToIndex_8c36e_11 (fun q3 => ?_) (fun q3 => ?_)
      · have hf := ie_t hf q3
        refine r_iload_n C0 (kk := 0) 0 rfl dJ3_checkFromToIndex_8c36e_22 ?_
        exact hend hf dJ3_checkFromToIndex_8c36e_23
      · have hf := ie_f hf q3
        exact B14     _ hf
theorem dJ0_coder_7d493_0 : decode cJ0_coder_7d493 0 = .ok (.getstatic 38, 3) := by decide +kernel
theorem dJ0_coder_7d493_3 : decode cJ0_coder_7d493 3 = .ok (.ifCond .eq 10, 3) := by decide +kernel
theorem dJ0_coder_7d493_6 : decode cJ0_coder_7d493 6 = .ok (.aload_n 0, 1) := by decide +kernel
theorem dJ0_coder_7d493_7 : decode cJ0_coder_7d493 7 = .ok (.getfield 15, 3) := by decide +kernel
theorem dJ0_coder_7d493_10 : decode cJ0_coder_7d493 10 = .ok (.goto 4, 3) := by decide +kernel
theorem dJ0_coder_7d493_13 : decode cJ0_coder_7d493 13 = .ok (.iconst 1, 1) := by decide +kernel
theorem dJ0_coder_7d493_14 : decode cJ0_coder_7d493 14 = .ok (.ireturn, 1) := by decide +kernel
theorem hd_J0_coder_7d493 : yJ0_coder_7d493.cls = RJ0 ∧ yJ0_coder_7d493.cls ≠ "java/lang/invoke/MethodHandle" ∧ yJ0_coder_7d493.cls ≠ "java/lang/invoke/VarHandle" ∧ (parseMethodDescriptor yJ0_coder_7d493.desc).map (fun d => d.parameters.length) = some 0 := by decide +kernel
set_option maxRecDepth 100000 in
set_option maxHeartbeats 4000000 in
theorem c_J0_coder_7d493 (l : Launch) (D : va_G) (g : xG) (tb : List xQ) (hT : x_T g tb) {a0 : Nat} (h0 : a0 < 40) {M : xM} {r : Int32} {M' : xM} (hf : f_J0_coder_7d493 a0 M = some (r, M')) :
    cI l D g tb yJ0_coder_7d493 cJ0_coder_7d493 1 .byte ({ frames := 0, cells := 0, slots := 0, locals := 0 } : Room) [.ref (g.1 20 a0)] M r M' := by
  refine x_startN (own := RJ0) (by decide +kernel) rfl rfl (Nat.le_of_ble_eq_true rfl) hT ?_
  intro p e s m args below meth c Q C0 hend
  unfold f_J0_coder_7d493 at hf
  refine r_compact C0 w3_6 dJ0_coder_7d493_0 ?_
  refine r_if_eq C0 (tgt := 13) (by decide) dJ0_coder_7d493_3 (fun q1 => ?_) (fun q1 => ?_)
  · have hf := ie_t hf q1
    refine r_iconst C0 (v := 1) dJ0_coder_7d493_13 rfl ?_
    obtain ⟨q2, hf⟩ := gd_e hf
    exact hend (isn_e q2) hf dJ0_coder_7d493_14
  · have hf := ie_f hf q1
    refine r_aload_n C0 (kk := 0) 0 rfl dJ0_coder_7d493_6 ?_
    refine r_scod C0 h0 w3_118 dJ0_coder_7d493_7 ?_
    refine r_goto C0 (tgt := 14) (by decide) dJ0_coder_7d493_10 ?_
    obtain ⟨q3, hf⟩ := gd_e hf
    exact hend (isn_e q3) hf dJ0_coder_7d493_14
theorem dJ3_checkFromIndexSize_8c36e_0 : decode cJ3_checkFromIndexSize_8c36e 0 = .ok (.iload_n 2, 1) := by decide +kernel
theorem dJ3_checkFromIndexSize_8c36e_1 : decode cJ3_checkFromIndexSize_8c36e 1 = .ok (.iload_n 0, 1) := by decide +kernel
theorem dJ3_checkFromIndexSize_8c36e_2 : decode cJ3_checkFromIndexSize_8c36e 2 = .ok (.ior, 1) := by decide +kernel
theorem dJ3_checkFromIndexSize_8c36e_3 : decode cJ3_checkFromIndexSize_8c36e 3 = .ok (.iload_n 1, 1) := by decide +kernel
theorem dJ3_checkFromIndexSize_8c36e_4 : decode cJ3_checkFromIndexSize_8c36e 4 = .ok (.ior, 1) := by decide +kernel
theorem dJ3_checkFromIndexSize_8c36e_5 : decode cJ3_checkFromIndexSize_8c36e 5 = .ok (.ifCond .lt 10, 3) := by decide +kernel
theorem dJ3_checkFromIndexSize_8c36e_8 : decode cJ3_checkFromIndexSize_8c36e 8 = .ok (.iload_n 1, 1) := by decide +kernel
theorem dJ3_checkFromIndexSize_8c36e_9 : decode cJ3_checkFromIndexSize_8c36e 9 = .ok (.iload_n 2, 1) := by decide +kernel
theorem dJ3_checkFromIndexSize_8c36e_10 : decode cJ3_checkFromIndexSize_8c36e 10 = .ok (.iload_n 0, 1) := by decide +kernel
theorem dJ3_checkFromIndexSize_8c36e_11 : decode cJ3_checkFromIndexSize_8c36e 11 = .ok (.isub, 1) := by decide +kernel
theorem dJ3_checkFromIndexSize_8c36e_12 : decode cJ3_checkFromIndexSize_8c36e 12 = .ok (.if_icmp .le 11, 3) := by decide +kernel
theorem dJ3_checkFromIndexSize_8c36e_15 : decode cJ3_checkFromIndexSize_8c36e 15 = .ok (.aload_n 3, 1) := by decide +kernel
theorem dJ3_checkFromIndexSize_8c36e_16 : decode cJ3_checkFromIndexSize_8c36e 16 = .ok (.iload_n 0, 1) := by decide +kernel
theorem dJ3_checkFromIndexSize_8c36e_17 : decode cJ3_checkFromIndexSize_8c36e 17 = .ok (.iload_n 1, 1) := by decide +kernel
theorem dJ3_checkFromIndexSize_8c36e_18 : decode cJ3_checkFromIndexSize_8c36e 18 = .ok (.iload_n 2, 1) := by decide +kernel
theorem dJ3_checkFromIndexSize_8c36e_19 : decode cJ3_checkFromIndexSize_8c36e 19 = .ok (.invokestatic 103, 3) := by decide +kernel
theorem dJ3_checkFromIndexSize_8c36e_22 : decode cJ3_checkFromIndexSize_8c36e 22 = .ok (.athrow, 1) := by decide +kernel
theorem dJ3_checkFromIndexSize_8c36e_23 : decode cJ3_checkFromIndexSize_8c36e 23 = .ok (.iload_n 0, 1) := by decide +kernel
theorem dJ3_checkFromIndexSize_8c36e_24 : decode cJ3_checkFromIndexSize_8c36e 24 = .ok (.ireturn, 1) := by decide +kernel
theorem hd_J3_checkFromIndexSize_8c36e : yJ3_checkFromIndexSize_8c36e.cls ≠ "java/lang/invoke/MethodHandle" ∧ yJ3_checkFromIndexSize_8c36e.cls ≠ "java/lang/invoke/VarHandle" ∧ (parseMethodDescriptor yJ3_checkFromIndexSize_8c36e.desc).map (fun d => d.parameters.length) = some 4 := by decide +kernel
set_option maxRecDepth 100000 in
set_option maxHeartbeats 4000000 in
theorem c_J3_checkFromIndexSize_8c36e (l : Launch) (D : va_G) (g : xG) (tb : List xQ) (hT : x_T g tb) {a0 : Int32} {a1 : Int32} {a2 : Int32} {a3 : (Option Nat)}  {M : xM} {r : Int32} {M' : xM} (hf : f_J3_checkFromIndexSize_8c36e a0 a1 a2 M = some (r, M')) :
    cI l D g tb yJ3_checkFromIndexSize_8c36e cJ3_checkFromIndexSize_8c36e 4 .int ({ frames := 0, cells := 0, slots := 0, locals := 0 } : Room) [.int a0, .int a1, .int a2, va_rf a3] M r M' := by
  refine x_startI (own := RJ3) (by decide +kernel) rfl rfl (by cases a3 <;> exact Nat.le_of_ble_eq_true rfl) hT ?_
  intro p e s m args below meth c Q C0 hend
  have B15 : ∀ (M : xM), f_J3_checkFromIndexSize_8c36e_c15  a0 a1 a2 M = some (r, M') → WW p l e ({ frames := 0, cells := 0, slots := 0, locals := 0 } : Room) s m args below meth c 0 0 Q 4 D g tb 15 [(0, .int a0), (1, .int a1), (2, .int a2), (3, va_rf a3)] [] M := by
    intro     M hf
    unfold f_J3_checkFromIndexSize_8c36e_c15 at hf
    exact none_ne hf
  unfold f_J3_checkFromIndexSize_8c36e at hf
  refine r_iload_n C0 (kk := 2) 2 rfl dJ3_checkFromIndexSize_8c36e_0 ?_
  refine r_iload_n C0 (kk := 0) 0 rfl dJ3_checkFromIndexSize_8c36e_1 ?_
  refine r_ior C0 dJ3_checkFromIndexSize_8c36e_2 ?_
  refine r_iload_n C0 (kk := 1) 1 rfl dJ3_checkFromIndexSize_8c36e_3 ?_
  refine r_ior C0 dJ3_checkFromIndexSize_8c36e_4 ?_
  refine r_if_lt C0 (tgt := 15) (by decide) dJ3_checkFromIndexSize_8c36e_5 (fun q1 => ?_) (fun q1 => ?_)
  · have hf := ie_t hf q1
    exact B15     _ hf
  · have hf := ie_f hf q1
    refine r_iload_n C0 (kk := 1) 1 rfl dJ3_checkFromIndexSize_8c36e_8 ?_
    refine r_iload_n C0 (kk := 2) 2 rfl dJ3_checkFromIndexSize_8c36e_9 ?_
    refine r_iload_n C0 (kk := 0) 0 rfl dJ3_checkFromIndexSize_8c36e_10 ?_
    refine r_isub C0 dJ3_checkFromIndexSize_8c36e_11 ?_
    refine r_icmp_le C0 (tgt := 23) (by decide) dJ3_checkFromIndexSize_8c36e_12 (fun q2 => ?_) (fun q2 => ?_)
    · have hf := ie_t hf q2
      refine r_iload_n C0 (kk := 0) 0 rfl dJ3_checkFromIndexSize_8c36e_23 ?_
      exact hend hf dJ3_checkFromIndexSize_8c36e_24
    · have hf := ie_f hf q2
      exact B15     _ hf
theorem dJ0_isLatin1_aae02_0 : decode cJ0_isLatin1_aae02 0 = .ok (.getstatic 38, 3) := by decide +kernel
theorem dJ0_isLatin1_aae02_3 : decode cJ0_isLatin1_aae02 3 = .ok (.ifCond .eq 14, 3) := by decide +kernel
theorem dJ0_isLatin1_aae02_6 : decode cJ0_isLatin1_aae02 6 = .ok (.aload_n 0, 1) := by decide +kernel
theorem dJ0_isLatin1_aae02_7 : decode cJ0_isLatin1_aae02 7 = .ok (.getfield 15, 3) := by decide +kernel
theorem dJ0_isLatin1_aae02_10 : decode cJ0_isLatin1_aae02 10 = .ok (.ifCond .ne 7, 3) := by decide +kernel
theorem dJ0_isLatin1_aae02_13 : decode cJ0_isLatin1_aae02 13 = .ok (.iconst 1, 1) := by decide +kernel
theorem dJ0_isLatin1_aae02_14 : decode cJ0_isLatin1_aae02 14 = .ok (.goto 4, 3) := by decide +kernel
theorem dJ0_isLatin1_aae02_17 : decode cJ0_isLatin1_aae02 17 = .ok (.iconst 0, 1) := by decide +kernel
theorem dJ0_isLatin1_aae02_18 : decode cJ0_isLatin1_aae02 18 = .ok (.ireturn, 1) := by decide +kernel
theorem hd_J0_isLatin1_aae02 : yJ0_isLatin1_aae02.cls = RJ0 ∧ yJ0_isLatin1_aae02.cls ≠ "java/lang/invoke/MethodHandle" ∧ yJ0_isLatin1_aae02.cls ≠ "java/lang/invoke/VarHandle" ∧ (parseMethodDescriptor yJ0_isLatin1_aae02.desc).map (fun d => d.parameters.length) = some 0 := by decide +kernel
set_option maxRecDepth 100000 in
set_option maxHeartbeats 4000000 in
theorem c_J0_isLatin1_aae02 (l : Launch) (D : va_G) (g : xG) (tb : List xQ) (hT : x_T g tb) {a0 : Nat} (h0 : a0 < 40) {M : xM} {r : Int32} {M' : xM} (hf : f_J0_isLatin1_aae02 a0 M = some (r, M')) :
    cI l D g tb yJ0_isLatin1_aae02 cJ0_isLatin1_aae02 1 .boolean ({ frames := 0, cells := 0, slots := 0, locals := 0 } : Room) [.ref (g.1 20 a0)] M r M' := by
  refine x_startZ (own := RJ0) (by decide +kernel) rfl rfl (Nat.le_of_ble_eq_true rfl) hT ?_
  intro p e s m args below meth c Q C0 hend
  unfold f_J0_isLatin1_aae02 at hf
  refine r_compact C0 w3_6 dJ0_isLatin1_aae02_0 ?_
  refine r_if_eq C0 (tgt := 17) (by decide) dJ0_isLatin1_aae02_3 (fun q1 => ?_) (fun q1 => ?_)
  · have hf := ie_t hf q1
    refine r_iconst C0 (v := 0) dJ0_isLatin1_aae02_17 rfl ?_
    exact hend (by decide) hf dJ0_isLatin1_aae02_18
  · have hf := ie_f hf q1
    refine r_aload_n C0 (kk := 0) 0 rfl dJ0_isLatin1_aae02_6 ?_
    refine r_scod C0 h0 w3_118 dJ0_isLatin1_aae02_7 ?_
    refine r_if_ne C0 (tgt := 17) (by decide) dJ0_isLatin1_aae02_10 (fun q2 => ?_) (fun q2 => ?_)
    · have hf := ie_f hf q2
      refine r_iconst C0 (v := 0) dJ0_isLatin1_aae02_17 rfl ?_
      exact hend (by decide) hf dJ0_isLatin1_aae02_18
    · have hf := ie_t hf q2
      refine r_iconst C0 (v := 1) dJ0_isLatin1_aae02_13 rfl ?_
      refine r_goto C0 (tgt := 18) (by decide) dJ0_isLatin1_aae02_14 ?_
      exact hend (by decide) hf dJ0_isLatin1_aae02_18
theorem dJ3_checkIndex_8e157_0 : decode cJ3_checkIndex_8e157 0 = .ok (.iload_n 0, 1) := by decide +kernel
theorem dJ3_checkIndex_8e157_1 : decode cJ3_checkIndex_8e157 1 = .ok (.ifCond .lt 8, 3) := by decide +kernel
theorem dJ3_checkIndex_8e157_4 : decode cJ3_checkIndex_8e157 4 = .ok (.iload_n 0, 1) := by decide +kernel
theorem dJ3_checkIndex_8e157_5 : decode cJ3_checkIndex_8e157 5 = .ok (.iload_n 1, 1) := by decide +kernel
theorem dJ3_checkIndex_8e157_6 : decode cJ3_checkIndex_8e157 6 = .ok (.if_icmp .lt 10, 3) := by decide +kernel
theorem dJ3_checkIndex_8e157_9 : decode cJ3_checkIndex_8e157 9 = .ok (.aload_n 2, 1) := by decide +kernel
theorem dJ3_checkIndex_8e157_10 : decode cJ3_checkIndex_8e157 10 = .ok (.iload_n 0, 1) := by decide +kernel
theorem dJ3_checkIndex_8e157_11 : decode cJ3_checkIndex_8e157 11 = .ok (.iload_n 1, 1) := by decide +kernel
theorem dJ3_checkIndex_8e157_12 : decode cJ3_checkIndex_8e157 12 = .ok (.invokestatic 95, 3) := by decide +kernel
theorem dJ3_checkIndex_8e157_15 : decode cJ3_checkIndex_8e157 15 = .ok (.athrow, 1) := by decide +kernel
theorem dJ3_checkIndex_8e157_16 : decode cJ3_checkIndex_8e157 16 = .ok (.iload_n 0, 1) := by decide +kernel
theorem dJ3_checkIndex_8e157_17 : decode cJ3_checkIndex_8e157 17 = .ok (.ireturn, 1) := by decide +kernel
theorem hd_J3_checkIndex_8e157 : yJ3_checkIndex_8e157.cls ≠ "java/lang/invoke/MethodHandle" ∧ yJ3_checkIndex_8e157.cls ≠ "java/lang/invoke/VarHandle" ∧ (parseMethodDescriptor yJ3_checkIndex_8e157.desc).map (fun d => d.parameters.length) = some 3 := by decide +kernel
set_option maxRecDepth 100000 in
set_option maxHeartbeats 4000000 in
theorem c_J3_checkIndex_8e157 (l : Launch) (D : va_G) (g : xG) (tb : List xQ) (hT : x_T g tb) {a0 : Int32} {a1 : Int32} {a2 : (Option Nat)}  {M : xM} {r : Int32} {M' : xM} (hf : f_J3_checkIndex_8e157 a0 a1 M = some (r, M')) :
    cI l D g tb yJ3_checkIndex_8e157 cJ3_checkIndex_8e157 3 .int ({ frames := 0, cells := 0, slots := 0, locals := 0 } : Room) [.int a0, .int a1, va_rf a2] M r M' := by
  refine x_startI (own := RJ3) (by decide +kernel) rfl rfl (by cases a2 <;> exact Nat.le_of_ble_eq_true rfl) hT ?_
  intro p e s m args below meth c Q C0 hend
  have B9 : ∀ (M : xM), f_J3_checkIndex_8e157_c9  a0 a1 M = some (r, M') → WW p l e ({ frames := 0, cells := 0, slots := 0, locals := 0 } : Room) s m args below meth c 0 0 Q 3 D g tb 9 [(0, .int a0), (1, .int a1), (2, va_rf a2)] [] M := by
    intro     M hf
    unfold f_J3_checkIndex_8e157_c9 at hf
    exact none_ne hf
  unfold f_J3_checkIndex_8e157 at hf
  refine r_iload_n C0 (kk := 0) 0 rfl dJ3_checkIndex_8e157_0 ?_
  refine r_if_lt C0 (tgt := 9) (by decide) dJ3_checkIndex_8e157_1 (fun q1 => ?_) (fun q1 => ?_)
  · have hf := ie_t hf q1
    exact B9     _ hf
  · have hf := ie_f hf q1
    refine r_iload_n C0 (kk := 0) 0 rfl dJ3_checkIndex_8e157_4 ?_
    refine r_iload_n C0 (kk := 1) 1 rfl dJ3_checkIndex_8e157_5 ?_
    refine r_icmp_lt C0 (tgt := 16) (by decide) dJ3_checkIndex_8e157_6 (fun q2 => ?_) (fun q2 => ?_)
    · have hf := ie_t hf q2
      refine r_iload_n C0 (kk := 0) 0 rfl dJ3_checkIndex_8e157_16 ?_
      exact hend hf dJ3_checkIndex_8e157_17
    · have hf := ie_f hf q2
      exact B9     _ hf
theorem dX3_appendByte_0 : decode cX3_appendByte 0 = .ok (.aload_n 0, 1) := by decide +kernel
theorem dX3_appendByte_1 : decode cX3_appendByte 1 = .ok (.getfield 37, 3) := by decide +kernel
theorem dX3_appendByte_4 : decode cX3_appendByte 4 = .ok (.aload_n 0, 1) := by decide +kernel
theorem dX3_appendByte_5 : decode cX3_appendByte 5 = .ok (.getfield 9, 3) := by decide +kernel
theorem dX3_appendByte_8 : decode cX3_appendByte 8 = .ok (.arraylength, 1) := by decide +kernel
theorem dX3_appendByte_9 : decode cX3_appendByte 9 = .ok (.if_icmp .ge 24, 3) := by decide +kernel
theorem dX3_appendByte_12 : decode cX3_appendByte 12 = .ok (.aload_n 0, 1) := by decide +kernel
theorem dX3_appendByte_13 : decode cX3_appendByte 13 = .ok (.getfield 9, 3) := by decide +kernel
theorem dX3_appendByte_16 : decode cX3_appendByte 16 = .ok (.aload_n 0, 1) := by decide +kernel
theorem dX3_appendByte_17 : decode cX3_appendByte 17 = .ok (.getfield 37, 3) := by decide +kernel
theorem dX3_appendByte_20 : decode cX3_appendByte 20 = .ok (.iload_n 1, 1) := by decide +kernel
theorem dX3_appendByte_21 : decode cX3_appendByte 21 = .ok (.i2b, 1) := by decide +kernel
theorem dX3_appendByte_22 : decode cX3_appendByte 22 = .ok (.bastore, 1) := by decide +kernel
theorem dX3_appendByte_23 : decode cX3_appendByte 23 = .ok (.aload_n 0, 1) := by decide +kernel
theorem dX3_appendByte_24 : decode cX3_appendByte 24 = .ok (.dup, 1) := by decide +kernel
theorem dX3_appendByte_25 : decode cX3_appendByte 25 = .ok (.getfield 37, 3) := by decide +kernel
theorem dX3_appendByte_28 : decode cX3_appendByte 28 = .ok (.iconst 1, 1) := by decide +kernel
theorem dX3_appendByte_29 : decode cX3_appendByte 29 = .ok (.iadd, 1) := by decide +kernel
theorem dX3_appendByte_30 : decode cX3_appendByte 30 = .ok (.putfield 37, 3) := by decide +kernel
theorem dX3_appendByte_33 : decode cX3_appendByte 33 = .ok (.return_, 1) := by decide +kernel
theorem hd_X3_appendByte : yX3_appendByte.cls = RX3 ∧ yX3_appendByte.cls ≠ "java/lang/invoke/MethodHandle" ∧ yX3_appendByte.cls ≠ "java/lang/invoke/VarHandle" ∧ (parseMethodDescriptor yX3_appendByte.desc).map (fun d => d.parameters.length) = some 1 := by decide +kernel
set_option maxRecDepth 100000 in
set_option maxHeartbeats 4000000 in
theorem c_X3_appendByte (l : Launch) (D : va_G) (g : xG) (tb : List xQ) (hT : x_T g tb) {a1 : Int32} (h0 : x_rd tb) {M M' : xM} (hf : f_X3_appendByte a1 M = some M') :
    cV l D g tb yX3_appendByte cX3_appendByte 2 ({ frames := 0, cells := 0, slots := 0, locals := 0 } : Room) [.ref (g.1 3 1777), .int a1] M M' := by
  refine x_startV (own := RX3) (by decide +kernel) rfl rfl (Nat.le_of_ble_eq_true rfl) hT ?_
  intro p e s m args below meth c Q C0 hend
  unfold f_X3_appendByte at hf
  refine r_aload_n C0 (kk := 0) 0 rfl dX3_appendByte_0 ?_
  refine r_get3 C0 h0.1 1 (by decide) (v := .int (M 1778)) rfl rfl w4_65 dX3_appendByte_1 ?_
  refine r_aload_n C0 (kk := 0) 0 rfl dX3_appendByte_4 ?_
  refine r_get3 C0 h0.1 0 (by decide) (v := .ref (g.1 7 1792)) rfl rfl w4_63 dX3_appendByte_5 ?_
  refine r_alen7 C0 h0.2.1 (v := 700) rfl dX3_appendByte_8 ?_
  refine r_icmp_ge C0 (tgt := 33) (by decide) dX3_appendByte_9 (fun q1 => ?_) (fun q1 => ?_)
  · have hf := ie_t hf q1
    exact hend hf dX3_appendByte_33
  · have hf := ie_f hf q1
    refine r_aload_n C0 (kk := 0) 0 rfl dX3_appendByte_12 ?_
    refine r_get3 C0 h0.1 0 (by decide) (v := .ref (g.1 7 1792)) rfl rfl w4_63 dX3_appendByte_13 ?_
    refine r_aload_n C0 (kk := 0) 0 rfl dX3_appendByte_16 ?_
    refine r_get3 C0 h0.1 1 (by decide) (v := .int (M 1778)) rfl rfl w4_65 dX3_appendByte_17 ?_
    refine r_iload_n C0 (kk := 1) 1 rfl dX3_appendByte_20 ?_
    refine r_i2b C0 dX3_appendByte_21 ?_
    obtain ⟨q2, hf⟩ := gd_e hf
    refine r_bastc C0 h0.2.1 q2 rfl dX3_appendByte_22 ?_
    refine r_aload_n C0 (kk := 0) 0 rfl dX3_appendByte_23 ?_
    refine r_dup C0 rfl dX3_appendByte_24 ?_
    refine r_get3 C0 h0.1 1 (by decide) (v := .int ((upd M (1792 + (M 1778).toNatClampNeg) (vp_nar .byte a1.toInt8.toInt32)) 1778)) rfl rfl w4_65 dX3_appendByte_25 ?_
    refine r_iconst C0 (v := 1) dX3_appendByte_28 rfl ?_
    refine r_iadd C0 dX3_appendByte_29 ?_
    refine r_put3 C0 h0.1 1 rfl rfl w4_65 rfl rfl rfl dX3_appendByte_30 ?_
    exact hend hf dX3_appendByte_33
theorem dX3_begin_0 : decode cX3_begin 0 = .ok (.aload_n 0, 1) := by decide +kernel
theorem dX3_begin_1 : decode cX3_begin 1 = .ok (.iconst 0, 1) := by decide +kernel
theorem dX3_begin_2 : decode cX3_begin 2 = .ok (.putfield 39, 3) := by decide +kernel
theorem dX3_begin_5 : decode cX3_begin 5 = .ok (.aload_n 0, 1) := by decide +kernel
theorem dX3_begin_6 : decode cX3_begin 6 = .ok (.iconst 0, 1) := by decide +kernel
theorem dX3_begin_7 : decode cX3_begin 7 = .ok (.putfield 42, 3) := by decide +kernel
theorem dX3_begin_10 : decode cX3_begin 10 = .ok (.aload_n 0, 1) := by decide +kernel
theorem dX3_begin_11 : decode cX3_begin 11 = .ok (.iconst (-1), 1) := by decide +kernel
theorem dX3_begin_12 : decode cX3_begin 12 = .ok (.putfield 15, 3) := by decide +kernel
theorem dX3_begin_15 : decode cX3_begin 15 = .ok (.return_, 1) := by decide +kernel
theorem hd_X3_begin : yX3_begin.cls = RX3 ∧ yX3_begin.cls ≠ "java/lang/invoke/MethodHandle" ∧ yX3_begin.cls ≠ "java/lang/invoke/VarHandle" ∧ (parseMethodDescriptor yX3_begin.desc).map (fun d => d.parameters.length) = some 0 := by decide +kernel
set_option maxRecDepth 100000 in
set_option maxHeartbeats 4000000 in
theorem c_X3_begin (l : Launch) (D : va_G) (g : xG) (tb : List xQ) (hT : x_T g tb)  (h0 : x_rd tb) {M M' : xM} (hf : f_X3_begin  M = some M') :
    cV l D g tb yX3_begin cX3_begin 1 ({ frames := 0, cells := 0, slots := 0, locals := 0 } : Room) [.ref (g.1 3 1777)] M M' := by
  refine x_startV (own := RX3) (by decide +kernel) rfl rfl (Nat.le_of_ble_eq_true rfl) hT ?_
  intro p e s m args below meth c Q C0 hend
  unfold f_X3_begin at hf
  refine r_aload_n C0 (kk := 0) 0 rfl dX3_begin_0 ?_
  refine r_iconst C0 (v := 0) dX3_begin_1 rfl ?_
  refine r_put3 C0 h0.1 6 rfl rfl w4_72 rfl rfl rfl dX3_begin_2 ?_
  refine r_aload_n C0 (kk := 0) 0 rfl dX3_begin_5 ?_
  refine r_iconst C0 (v := 0) dX3_begin_6 rfl ?_
  refine r_put3 C0 h0.1 2 rfl rfl w4_66 rfl rfl rfl dX3_begin_7 ?_
  refine r_aload_n C0 (kk := 0) 0 rfl dX3_begin_10 ?_
  refine r_iconst C0 (v := (-1)) dX3_begin_11 rfl ?_
  refine r_put3 C0 h0.1 3 rfl rfl w4_68 rfl rfl rfl dX3_begin_12 ?_
  exact hend hf dX3_begin_15
theorem dX3_byteAt_0 : decode cX3_byteAt 0 = .ok (.iload_n 1, 1) := by decide +kernel
theorem dX3_byteAt_1 : decode cX3_byteAt 1 = .ok (.ifCond .lt 29, 3) := by decide +kernel
theorem dX3_byteAt_4 : decode cX3_byteAt 4 = .ok (.iload_n 1, 1) := by decide +kernel
theorem dX3_byteAt_5 : decode cX3_byteAt 5 = .ok (.aload_n 0, 1) := by decide +kernel
theorem dX3_byteAt_6 : decode cX3_byteAt 6 = .ok (.getfield 37, 3) := by decide +kernel
theorem dX3_byteAt_9 : decode cX3_byteAt 9 = .ok (.if_icmp .ge 21, 3) := by decide +kernel
theorem dX3_byteAt_12 : decode cX3_byteAt 12 = .ok (.iload_n 1, 1) := by decide +kernel
theorem dX3_byteAt_13 : decode cX3_byteAt 13 = .ok (.aload_n 0, 1) := by decide +kernel
theorem dX3_byteAt_14 : decode cX3_byteAt 14 = .ok (.getfield 9, 3) := by decide +kernel
theorem dX3_byteAt_17 : decode cX3_byteAt 17 = .ok (.arraylength, 1) := by decide +kernel
theorem dX3_byteAt_18 : decode cX3_byteAt 18 = .ok (.if_icmp .ge 12, 3) := by decide +kernel
theorem dX3_byteAt_21 : decode cX3_byteAt 21 = .ok (.aload_n 0, 1) := by decide +kernel
theorem dX3_byteAt_22 : decode cX3_byteAt 22 = .ok (.getfield 9, 3) := by decide +kernel
theorem dX3_byteAt_25 : decode cX3_byteAt 25 = .ok (.iload_n 1, 1) := by decide +kernel
theorem dX3_byteAt_26 : decode cX3_byteAt 26 = .ok (.baload, 1) := by decide +kernel
theorem dX3_byteAt_27 : decode cX3_byteAt 27 = .ok (.goto 4, 3) := by decide +kernel
theorem dX3_byteAt_30 : decode cX3_byteAt 30 = .ok (.iconst (-1), 1) := by decide +kernel
theorem dX3_byteAt_31 : decode cX3_byteAt 31 = .ok (.ireturn, 1) := by decide +kernel
theorem hd_X3_byteAt : yX3_byteAt.cls = RX3 ∧ yX3_byteAt.cls ≠ "java/lang/invoke/MethodHandle" ∧ yX3_byteAt.cls ≠ "java/lang/invoke/VarHandle" ∧ (parseMethodDescriptor yX3_byteAt.desc).map (fun d => d.parameters.length) = some 1 := by decide +kernel
set_option maxRecDepth 100000 in
set_option maxHeartbeats 4000000 in
theorem c_X3_byteAt (l : Launch) (D : va_G) (g : xG) (tb : List xQ) (hT : x_T g tb) {a1 : Int32} (h0 : x_rd tb) {M : xM} {r : Int32} {M' : xM} (hf : f_X3_byteAt a1 M = some (r, M')) :
    cI l D g tb yX3_byteAt cX3_byteAt 2 .int ({ frames := 0, cells := 0, slots := 0, locals := 0 } : Room) [.ref (g.1 3 1777), .int a1] M r M' := by
  refine x_startI (own := RX3) (by decide +kernel) rfl rfl (Nat.le_of_ble_eq_true rfl) hT ?_
  intro p e s m args below meth c Q C0 hend
  unfold f_X3_byteAt at hf
  refine r_iload_n C0 (kk := 1) 1 rfl dX3_byteAt_0 ?_
  refine r_if_lt C0 (tgt := 30) (by decide) dX3_byteAt_1 (fun q1 => ?_) (fun q1 => ?_)
  · have hf := ie_t hf q1
    refine r_iconst C0 (v := (-1)) dX3_byteAt_30 rfl ?_
    exact hend hf dX3_byteAt_31
  · have hf := ie_f hf q1
    refine r_iload_n C0 (kk := 1) 1 rfl dX3_byteAt_4 ?_
    refine r_aload_n C0 (kk := 0) 0 rfl dX3_byteAt_5 ?_
    refine r_get3 C0 h0.1 1 (by decide) (v := .int (M 1778)) rfl rfl w4_65 dX3_byteAt_6 ?_
    refine r_icmp_ge C0 (tgt := 30) (by decide) dX3_byteAt_9 (fun q2 => ?_) (fun q2 => ?_)
    · have hf := ie_t hf q2
      refine r_iconst C0 (v := (-1)) dX3_byteAt_30 rfl ?_
      exact hend hf dX3_byteAt_31
    · have hf := ie_f hf q2
      refine r_iload_n C0 (kk := 1) 1 rfl dX3_byteAt_12 ?_
      refine r_aload_n C0 (kk := 0) 0 rfl dX3_byteAt_13 ?_
      refine r_get3 C0 h0.1 0 (by decide) (v := .ref (g.1 7 1792)) rfl rfl w4_63 dX3_byteAt_14 ?_
      refine r_alen7 C0 h0.2.1 (v := 700) rfl dX3_byteAt_17 ?_
      refine r_icmp_ge C0 (tgt := 30) (by decide) dX3_byteAt_18 (fun q3 => ?_) (fun q3 => ?_)
      · have hf := ie_t hf q3
        refine r_iconst C0 (v := (-1)) dX3_byteAt_30 rfl ?_
        exact hend hf dX3_byteAt_31
      · have hf := ie_f hf q3
        refine r_aload_n C0 (kk := 0) 0 rfl dX3_byteAt_21 ?_
        refine r_get3 C0 h0.1 0 (by decide) (v := .ref (g.1 7 1792)) rfl rfl w4_63 dX3_byteAt_22 ?_
        refine r_iload_n C0 (kk := 1) 1 rfl dX3_byteAt_25 ?_
        obtain ⟨q4, hf⟩ := gd_e hf
        refine r_baldc C0 h0.2.1 q4 rfl dX3_byteAt_26 ?_
        refine r_goto C0 (tgt := 31) (by decide) dX3_byteAt_27 ?_
        exact hend hf dX3_byteAt_31
theorem dX3_isLetter_0 : decode cX3_isLetter 0 = .ok (.iload_n 0, 1) := by decide +kernel
theorem dX3_isLetter_1 : decode cX3_isLetter 1 = .ok (.bipush 97, 2) := by decide +kernel
theorem dX3_isLetter_3 : decode cX3_isLetter 3 = .ok (.if_icmp .lt 13, 3) := by decide +kernel
theorem dX3_isLetter_6 : decode cX3_isLetter 6 = .ok (.iload_n 0, 1) := by decide +kernel
theorem dX3_isLetter_7 : decode cX3_isLetter 7 = .ok (.bipush 122, 2) := by decide +kernel
theorem dX3_isLetter_9 : decode cX3_isLetter 9 = .ok (.if_icmp .gt 7, 3) := by decide +kernel
theorem dX3_isLetter_12 : decode cX3_isLetter 12 = .ok (.iconst 1, 1) := by decide +kernel
theorem dX3_isLetter_13 : decode cX3_isLetter 13 = .ok (.goto 4, 3) := by decide +kernel
theorem dX3_isLetter_16 : decode cX3_isLetter 16 = .ok (.iconst 0, 1) := by decide +kernel
theorem dX3_isLetter_17 : decode cX3_isLetter 17 = .ok (.ireturn, 1) := by decide +kernel
theorem hd_X3_isLetter : yX3_isLetter.cls ≠ "java/lang/invoke/MethodHandle" ∧ yX3_isLetter.cls ≠ "java/lang/invoke/VarHandle" ∧ (parseMethodDescriptor yX3_isLetter.desc).map (fun d => d.parameters.length) = some 1 := by decide +kernel
set_option maxRecDepth 100000 in
set_option maxHeartbeats 4000000 in
theorem c_X3_isLetter (l : Launch) (D : va_G) (g : xG) (tb : List xQ) (hT : x_T g tb) {a0 : Int32}  {M : xM} {r : Int32} {M' : xM} (hf : f_X3_isLetter a0 M = some (r, M')) :
    cI l D g tb yX3_isLetter cX3_isLetter 1 .boolean ({ frames := 0, cells := 0, slots := 0, locals := 0 } : Room) [.int a0] M r M' := by
  refine x_startZ (own := RX3) (by decide +kernel) rfl rfl (Nat.le_of_ble_eq_true rfl) hT ?_
  intro p e s m args below meth c Q C0 hend
  unfold f_X3_isLetter at hf
  refine r_iload_n C0 (kk := 0) 0 rfl dX3_isLetter_0 ?_
  refine r_bipush C0 (v := 97) dX3_isLetter_1 rfl ?_
  refine r_icmp_lt C0 (tgt := 16) (by decide) dX3_isLetter_3 (fun q1 => ?_) (fun q1 => ?_)
  · have hf := ie_t hf q1
    refine r_iconst C0 (v := 0) dX3_isLetter_16 rfl ?_
    exact hend (by decide) hf dX3_isLetter_17
  · have hf := ie_f hf q1
    refine r_iload_n C0 (kk := 0) 0 rfl dX3_isLetter_6 ?_
    refine r_bipush C0 (v := 122) dX3_isLetter_7 rfl ?_
    refine r_icmp_gt C0 (tgt := 16) (by decide) dX3_isLetter_9 (fun q2 => ?_) (fun q2 => ?_)
    · have hf := ie_t hf q2
      refine r_iconst C0 (v := 0) dX3_isLetter_16 rfl ?_
      exact hend (by decide) hf dX3_isLetter_17
    · have hf := ie_f hf q2
      refine r_iconst C0 (v := 1) dX3_isLetter_12 rfl ?_
      refine r_goto C0 (tgt := 17) (by decide) dX3_isLetter_13 ?_
      exact hend (by decide) hf dX3_isLetter_17
