theorem dX1_avoids_0 : decode cX1_avoids 0 = .ok (.aload_n 0, 1) := by decide +kernel
theorem dX1_avoids_1 : decode cX1_avoids 1 = .ok (.getfield 30, 3) := by decide +kernel
theorem dX1_avoids_4 : decode cX1_avoids 4 = .ok (.iload_n 1, 1) := by decide +kernel
theorem dX1_avoids_5 : decode cX1_avoids 5 = .ok (.ishr, 1) := by decide +kernel
theorem dX1_avoids_6 : decode cX1_avoids 6 = .ok (.iconst 1, 1) := by decide +kernel
theorem dX1_avoids_7 : decode cX1_avoids 7 = .ok (.iand, 1) := by decide +kernel
theorem dX1_avoids_8 : decode cX1_avoids 8 = .ok (.ifCond .eq 7, 3) := by decide +kernel
theorem dX1_avoids_11 : decode cX1_avoids 11 = .ok (.iconst 1, 1) := by decide +kernel
theorem dX1_avoids_12 : decode cX1_avoids 12 = .ok (.goto 4, 3) := by decide +kernel
theorem dX1_avoids_15 : decode cX1_avoids 15 = .ok (.iconst 0, 1) := by decide +kernel
theorem dX1_avoids_16 : decode cX1_avoids 16 = .ok (.ireturn, 1) := by decide +kernel
theorem hd_X1_avoids : yX1_avoids.cls = RX1 ∧ yX1_avoids.cls ≠ "java/lang/invoke/MethodHandle" ∧ yX1_avoids.cls ≠ "java/lang/invoke/VarHandle" ∧ (parseMethodDescriptor yX1_avoids.desc).map (fun d => d.parameters.length) = some 1 := by decide +kernel
set_option maxRecDepth 100000 in
set_option maxHeartbeats 4000000 in
theorem c_X1_avoids (l : Launch) (D : va_G) (g : xG) (tb : List xQ) (hT : x_T g tb) {a0 : Nat} {a1 : Int32} (h0 : ((1, a0, 0) : xQ) ∈ tb) {M : xM} {r : Int32} {M' : xM} (hf : f_X1_avoids a0 a1 M = some (r, M')) :
    cI l D g tb yX1_avoids cX1_avoids 2 .boolean ({ frames := 0, cells := 0, slots := 0, locals := 0 } : Room) [.ref (g.1 1 a0), .int a1] M r M' := by
  refine x_startZ (own := RX1) (by decide +kernel) rfl rfl (Nat.le_of_ble_eq_true rfl) hT ?_
  intro p e s m args below meth c Q C0 hend
  unfold f_X1_avoids at hf
  refine r_aload_n C0 (kk := 0) 0 rfl dX1_avoids_0 ?_
  refine r_get1 C0 h0 6 (by decide) (v := .int (M (a0 + 6))) rfl rfl w1_113 dX1_avoids_1 ?_
  refine r_iload_n C0 (kk := 1) 1 rfl dX1_avoids_4 ?_
  refine r_ishr C0 dX1_avoids_5 ?_
  refine r_iconst C0 (v := 1) dX1_avoids_6 rfl ?_
  refine r_iand C0 dX1_avoids_7 ?_
  refine r_if_eq C0 (tgt := 15) (by decide) dX1_avoids_8 (fun q1 => ?_) (fun q1 => ?_)
  · have hf := ie_t hf q1
    refine r_iconst C0 (v := 0) dX1_avoids_15 rfl ?_
    exact hend (by decide) hf dX1_avoids_16
  · have hf := ie_f hf q1
    refine r_iconst C0 (v := 1) dX1_avoids_11 rfl ?_
    refine r_goto C0 (tgt := 16) (by decide) dX1_avoids_12 ?_
    exact hend (by decide) hf dX1_avoids_16
theorem dX1_feel_0 : decode cX1_feel 0 = .ok (.aload_n 1, 1) := by decide +kernel
theorem dX1_feel_1 : decode cX1_feel 1 = .ok (.getfield 36, 3) := by decide +kernel
theorem dX1_feel_4 : decode cX1_feel 4 = .ok (.aload_n 0, 1) := by decide +kernel
theorem dX1_feel_5 : decode cX1_feel 5 = .ok (.getfield 21, 3) := by decide +kernel
theorem dX1_feel_8 : decode cX1_feel 8 = .ok (.if_icmp .eq 5, 3) := by decide +kernel
theorem dX1_feel_11 : decode cX1_feel 11 = .ok (.iconst 1, 1) := by decide +kernel
theorem dX1_feel_12 : decode cX1_feel 12 = .ok (.ireturn, 1) := by decide +kernel
theorem dX1_feel_13 : decode cX1_feel 13 = .ok (.aload_n 1, 1) := by decide +kernel
theorem dX1_feel_14 : decode cX1_feel 14 = .ok (.getfield 41, 3) := by decide +kernel
theorem dX1_feel_17 : decode cX1_feel 17 = .ok (.ifCond .ne 5, 3) := by decide +kernel
theorem dX1_feel_20 : decode cX1_feel 20 = .ok (.iconst 2, 1) := by decide +kernel
theorem dX1_feel_21 : decode cX1_feel 21 = .ok (.ireturn, 1) := by decide +kernel
theorem dX1_feel_22 : decode cX1_feel 22 = .ok (.aload_n 1, 1) := by decide +kernel
theorem dX1_feel_23 : decode cX1_feel 23 = .ok (.getfield 44, 3) := by decide +kernel
theorem dX1_feel_26 : decode cX1_feel 26 = .ok (.aload_n 0, 1) := by decide +kernel
theorem dX1_feel_27 : decode cX1_feel 27 = .ok (.getfield 18, 3) := by decide +kernel
theorem dX1_feel_30 : decode cX1_feel 30 = .ok (.if_icmp .le 7, 3) := by decide +kernel
theorem dX1_feel_33 : decode cX1_feel 33 = .ok (.iconst 3, 1) := by decide +kernel
theorem dX1_feel_34 : decode cX1_feel 34 = .ok (.goto 4, 3) := by decide +kernel
theorem dX1_feel_37 : decode cX1_feel 37 = .ok (.iconst 0, 1) := by decide +kernel
theorem dX1_feel_38 : decode cX1_feel 38 = .ok (.ireturn, 1) := by decide +kernel
theorem hd_X1_feel : yX1_feel.cls = RX1 ∧ yX1_feel.cls ≠ "java/lang/invoke/MethodHandle" ∧ yX1_feel.cls ≠ "java/lang/invoke/VarHandle" ∧ (parseMethodDescriptor yX1_feel.desc).map (fun d => d.parameters.length) = some 1 := by decide +kernel
set_option maxRecDepth 100000 in
set_option maxHeartbeats 4000000 in
theorem c_X1_feel (l : Launch) (D : va_G) (g : xG) (tb : List xQ) (hT : x_T g tb) {a0 : Nat} {a1 : Nat} (h0 : ((1, a0, 0) : xQ) ∈ tb) (h1 : ((0, a1, 0) : xQ) ∈ tb) {M : xM} {r : Int32} {M' : xM} (hf : f_X1_feel a0 a1 M = some (r, M')) :
    cI l D g tb yX1_feel cX1_feel 2 .int ({ frames := 0, cells := 0, slots := 0, locals := 0 } : Room) [.ref (g.1 1 a0), .ref (g.1 0 a1)] M r M' := by
  refine x_startI (own := RX1) (by decide +kernel) rfl rfl (Nat.le_of_ble_eq_true rfl) hT ?_
  intro p e s m args below meth c Q C0 hend
  unfold f_X1_feel at hf
  refine r_aload_n C0 (kk := 1) 1 rfl dX1_feel_0 ?_
  refine r_get0 C0 h1 2 (by decide) (v := .int (M (a1 + 2))) rfl rfl w1_52 dX1_feel_1 ?_
  refine r_aload_n C0 (kk := 0) 0 rfl dX1_feel_4 ?_
  refine r_get1 C0 h0 2 (by decide) (v := .int (M (a0 + 2))) rfl rfl w1_104 dX1_feel_5 ?_
  refine r_icmp_eq C0 (tgt := 13) (by decide) dX1_feel_8 (fun q1 => ?_) (fun q1 => ?_)
  · have hf := ie_t hf q1
    refine r_aload_n C0 (kk := 1) 1 rfl dX1_feel_13 ?_
    refine r_get0 C0 h1 4 (by decide) (v := .int (M (a1 + 4))) rfl rfl w1_59 dX1_feel_14 ?_
    refine r_if_ne C0 (tgt := 22) (by decide) dX1_feel_17 (fun q2 => ?_) (fun q2 => ?_)
    · have hf := ie_f hf q2
      refine r_aload_n C0 (kk := 1) 1 rfl dX1_feel_22 ?_
      refine r_get0 C0 h1 3 (by decide) (v := .int (M (a1 + 3))) rfl rfl w1_55 dX1_feel_23 ?_
      refine r_aload_n C0 (kk := 0) 0 rfl dX1_feel_26 ?_
      refine r_get1 C0 h0 1 (by decide) (v := .int (M (a0 + 1))) rfl rfl w1_102 dX1_feel_27 ?_
      refine r_icmp_le C0 (tgt := 37) (by decide) dX1_feel_30 (fun q3 => ?_) (fun q3 => ?_)
      · have hf := ie_t hf q3
        refine r_iconst C0 (v := 0) dX1_feel_37 rfl ?_
        exact hend hf dX1_feel_38
      · have hf := ie_f hf q3
        refine r_iconst C0 (v := 3) dX1_feel_33 rfl ?_
        refine r_goto C0 (tgt := 38) (by decide) dX1_feel_34 ?_
        exact hend hf dX1_feel_38
    · have hf := ie_t hf q2
      refine r_iconst C0 (v := 2) dX1_feel_20 rfl ?_
      exact hend hf dX1_feel_21
  · have hf := ie_f hf q1
    refine r_iconst C0 (v := 1) dX1_feel_11 rfl ?_
    exact hend hf dX1_feel_12
theorem dX1_take_0 : decode cX1_take 0 = .ok (.aload_n 1, 1) := by decide +kernel
theorem dX1_take_1 : decode cX1_take 1 = .ok (.dup, 1) := by decide +kernel
theorem dX1_take_2 : decode cX1_take 2 = .ok (.getfield 41, 3) := by decide +kernel
theorem dX1_take_5 : decode cX1_take 5 = .ok (.iconst 1, 1) := by decide +kernel
theorem dX1_take_6 : decode cX1_take 6 = .ok (.isub, 1) := by decide +kernel
theorem dX1_take_7 : decode cX1_take 7 = .ok (.putfield 41, 3) := by decide +kernel
theorem dX1_take_10 : decode cX1_take 10 = .ok (.aload_n 0, 1) := by decide +kernel
theorem dX1_take_11 : decode cX1_take 11 = .ok (.iload_n 2, 1) := by decide +kernel
theorem dX1_take_12 : decode cX1_take 12 = .ok (.putfield 9, 3) := by decide +kernel
theorem dX1_take_15 : decode cX1_take 15 = .ok (.aload_n 0, 1) := by decide +kernel
theorem dX1_take_16 : decode cX1_take 16 = .ok (.aload_n 1, 1) := by decide +kernel
theorem dX1_take_17 : decode cX1_take 17 = .ok (.getfield 44, 3) := by decide +kernel
theorem dX1_take_20 : decode cX1_take 20 = .ok (.putfield 27, 3) := by decide +kernel
theorem dX1_take_23 : decode cX1_take 23 = .ok (.return_, 1) := by decide +kernel
theorem hd_X1_take : yX1_take.cls = RX1 ∧ yX1_take.cls ≠ "java/lang/invoke/MethodHandle" ∧ yX1_take.cls ≠ "java/lang/invoke/VarHandle" ∧ (parseMethodDescriptor yX1_take.desc).map (fun d => d.parameters.length) = some 2 := by decide +kernel
set_option maxRecDepth 100000 in
set_option maxHeartbeats 4000000 in
theorem c_X1_take (l : Launch) (D : va_G) (g : xG) (tb : List xQ) (hT : x_T g tb) {a0 : Nat} {a1 : Nat} {a2 : Int32} (h0 : ((1, a0, 0) : xQ) ∈ tb) (h1 : ((0, a1, 0) : xQ) ∈ tb) {M M' : xM} (hf : f_X1_take a0 a1 a2 M = some M') :
    cV l D g tb yX1_take cX1_take 3 ({ frames := 0, cells := 0, slots := 0, locals := 0 } : Room) [.ref (g.1 1 a0), .ref (g.1 0 a1), .int a2] M M' := by
  refine x_startV (own := RX1) (by decide +kernel) rfl rfl (Nat.le_of_ble_eq_true rfl) hT ?_
  intro p e s m args below meth c Q C0 hend
  unfold f_X1_take at hf
  refine r_aload_n C0 (kk := 1) 1 rfl dX1_take_0 ?_
  refine r_dup C0 rfl dX1_take_1 ?_
  refine r_get0 C0 h1 4 (by decide) (v := .int (M (a1 + 4))) rfl rfl w1_59 dX1_take_2 ?_
  refine r_iconst C0 (v := 1) dX1_take_5 rfl ?_
  refine r_isub C0 dX1_take_6 ?_
  refine r_put0 C0 h1 4 rfl rfl w1_59 rfl rfl rfl dX1_take_7 ?_
  refine r_aload_n C0 (kk := 0) 0 rfl dX1_take_10 ?_
  refine r_iload_n C0 (kk := 2) 2 rfl dX1_take_11 ?_
  refine r_put1 C0 h0 4 rfl rfl w1_108 rfl rfl rfl dX1_take_12 ?_
  refine r_aload_n C0 (kk := 0) 0 rfl dX1_take_15 ?_
  refine r_aload_n C0 (kk := 1) 1 rfl dX1_take_16 ?_
  refine r_get0 C0 h1 3 (by decide) (v := .int ((upd (upd M (a1 + 4) ((M (a1 + 4)) - 1)) (a0 + 4) a2) (a1 + 3))) rfl rfl w1_55 dX1_take_17 ?_
  refine r_put1 C0 h0 5 rfl rfl w1_111 rfl rfl rfl dX1_take_20 ?_
  exact hend hf dX1_take_23
theorem dX4_guardedDensity_0 : decode cX4_guardedDensity 0 = .ok (.aload_n 0, 1) := by decide +kernel
theorem dX4_guardedDensity_1 : decode cX4_guardedDensity 1 = .ok (.getfield 15, 3) := by decide +kernel
theorem dX4_guardedDensity_4 : decode cX4_guardedDensity 4 = .ok (.tableswitch 36 0 2 #[28, 31, 33], 28) := by decide +kernel
theorem dX4_guardedDensity_32 : decode cX4_guardedDensity 32 = .ok (.bipush 7, 2) := by decide +kernel
theorem dX4_guardedDensity_34 : decode cX4_guardedDensity 34 = .ok (.ireturn, 1) := by decide +kernel
theorem dX4_guardedDensity_35 : decode cX4_guardedDensity 35 = .ok (.iconst 5, 1) := by decide +kernel
theorem dX4_guardedDensity_36 : decode cX4_guardedDensity 36 = .ok (.ireturn, 1) := by decide +kernel
theorem dX4_guardedDensity_37 : decode cX4_guardedDensity 37 = .ok (.bipush 6, 2) := by decide +kernel
theorem dX4_guardedDensity_39 : decode cX4_guardedDensity 39 = .ok (.ireturn, 1) := by decide +kernel
theorem dX4_guardedDensity_40 : decode cX4_guardedDensity 40 = .ok (.bipush 9, 2) := by decide +kernel
theorem dX4_guardedDensity_42 : decode cX4_guardedDensity 42 = .ok (.ireturn, 1) := by decide +kernel
theorem hd_X4_guardedDensity : yX4_guardedDensity.cls = RX4 ∧ yX4_guardedDensity.cls ≠ "java/lang/invoke/MethodHandle" ∧ yX4_guardedDensity.cls ≠ "java/lang/invoke/VarHandle" ∧ (parseMethodDescriptor yX4_guardedDensity.desc).map (fun d => d.parameters.length) = some 0 := by decide +kernel
set_option maxRecDepth 100000 in
set_option maxHeartbeats 4000000 in
theorem c_X4_guardedDensity (l : Launch) (D : va_G) (g : xG) (tb : List xQ) (hT : x_T g tb) {a0 : Nat} (h0 : ((0, a0, 0) : xQ) ∈ tb) {M : xM} {r : Int32} {M' : xM} (hf : f_X4_guardedDensity a0 M = some (r, M')) :
    cI l D g tb yX4_guardedDensity cX4_guardedDensity 1 .int ({ frames := 0, cells := 0, slots := 0, locals := 0 } : Room) [.ref (g.1 0 a0)] M r M' := by
  refine x_startI (own := RX4) (by decide +kernel) rfl rfl (Nat.le_of_ble_eq_true rfl) hT ?_
  intro p e s m args below meth c Q C0 hend
  unfold f_X4_guardedDensity at hf
  refine r_aload_n C0 (kk := 0) 0 rfl dX4_guardedDensity_0 ?_
  refine r_get0 C0 h0 1 (by decide) (v := .int (M (a0 + 1))) rfl rfl w1_48 dX4_guardedDensity_1 ?_
  rcases Decidable.em ((M (a0 + 1)) = 0) with q1 | q1
  · have hf := ie_t hf q1
    refine r_tsc C0 (cst := 0) q1 (by decide) (by decide) rfl (tgt := 32) (by decide) dX4_guardedDensity_4 ?_
    refine r_bipush C0 (v := 7) dX4_guardedDensity_32 rfl ?_
    exact hend hf dX4_guardedDensity_34
  have hf := ie_f hf q1
  have nq1 : Int32.toInt (M (a0 + 1)) ≠ 0 := fun h => q1 (Int32.toInt_inj.mp h)
  rcases Decidable.em ((M (a0 + 1)) = 1) with q2 | q2
  · have hf := ie_t hf q2
    refine r_tsc C0 (cst := 1) q2 (by decide) (by decide) rfl (tgt := 35) (by decide) dX4_guardedDensity_4 ?_
    refine r_iconst C0 (v := 5) dX4_guardedDensity_35 rfl ?_
    exact hend hf dX4_guardedDensity_36
  have hf := ie_f hf q2
  have nq2 : Int32.toInt (M (a0 + 1)) ≠ 1 := fun h => q2 (Int32.toInt_inj.mp h)
  rcases Decidable.em ((M (a0 + 1)) = 2) with q3 | q3
  · have hf := ie_t hf q3
    refine r_tsc C0 (cst := 2) q3 (by decide) (by decide) rfl (tgt := 37) (by decide) dX4_guardedDensity_4 ?_
    refine r_bipush C0 (v := 6) dX4_guardedDensity_37 rfl ?_
    exact hend hf dX4_guardedDensity_39
  have hf := ie_f hf q3
  have nq3 : Int32.toInt (M (a0 + 1)) ≠ 2 := fun h => q3 (Int32.toInt_inj.mp h)
  refine r_tsd C0 (by omega) (tgt := 40) (by decide) dX4_guardedDensity_4 ?_
  refine r_bipush C0 (v := 9) dX4_guardedDensity_40 rfl ?_
  exact hend hf dX4_guardedDensity_42
theorem dX2_countMinute_0 : decode cX2_countMinute 0 = .ok (.aload_n 0, 1) := by decide +kernel
theorem dX2_countMinute_1 : decode cX2_countMinute 1 = .ok (.getfield 51, 3) := by decide +kernel
theorem dX2_countMinute_4 : decode cX2_countMinute 4 = .ok (.ifCond .eq 13, 3) := by decide +kernel
theorem dX2_countMinute_7 : decode cX2_countMinute 7 = .ok (.aload_n 0, 1) := by decide +kernel
theorem dX2_countMinute_8 : decode cX2_countMinute 8 = .ok (.dup, 1) := by decide +kernel
theorem dX2_countMinute_9 : decode cX2_countMinute 9 = .ok (.getfield 58, 3) := by decide +kernel
theorem dX2_countMinute_12 : decode cX2_countMinute 12 = .ok (.iconst 1, 1) := by decide +kernel
theorem dX2_countMinute_13 : decode cX2_countMinute 13 = .ok (.iadd, 1) := by decide +kernel
theorem dX2_countMinute_14 : decode cX2_countMinute 14 = .ok (.putfield 58, 3) := by decide +kernel
theorem dX2_countMinute_17 : decode cX2_countMinute 17 = .ok (.aload_n 0, 1) := by decide +kernel
theorem dX2_countMinute_18 : decode cX2_countMinute 18 = .ok (.dup, 1) := by decide +kernel
theorem dX2_countMinute_19 : decode cX2_countMinute 19 = .ok (.getfield 39, 3) := by decide +kernel
theorem dX2_countMinute_22 : decode cX2_countMinute 22 = .ok (.iconst 1, 1) := by decide +kernel
theorem dX2_countMinute_23 : decode cX2_countMinute 23 = .ok (.iadd, 1) := by decide +kernel
theorem dX2_countMinute_24 : decode cX2_countMinute 24 = .ok (.putfield 39, 3) := by decide +kernel
theorem dX2_countMinute_27 : decode cX2_countMinute 27 = .ok (.return_, 1) := by decide +kernel
theorem hd_X2_countMinute : yX2_countMinute.cls = RX2 ∧ yX2_countMinute.cls ≠ "java/lang/invoke/MethodHandle" ∧ yX2_countMinute.cls ≠ "java/lang/invoke/VarHandle" ∧ (parseMethodDescriptor yX2_countMinute.desc).map (fun d => d.parameters.length) = some 0 := by decide +kernel
set_option maxRecDepth 100000 in
set_option maxHeartbeats 4000000 in
theorem c_X2_countMinute (l : Launch) (D : va_G) (g : xG) (tb : List xQ) (hT : x_T g tb) {a0 : Nat} (h0 : x_mk tb a0) {M M' : xM} (hf : f_X2_countMinute a0 M = some M') :
    cV l D g tb yX2_countMinute cX2_countMinute 1 ({ frames := 0, cells := 0, slots := 0, locals := 0 } : Room) [.ref (g.1 2 a0)] M M' := by
  refine x_startV (own := RX2) (by decide +kernel) rfl rfl (Nat.le_of_ble_eq_true rfl) hT ?_
  intro p e s m args below meth c Q C0 hend
  have B17 : ∀ (M : xM), f_X2_countMinute_c17  a0 M = some M' → WW p l e ({ frames := 0, cells := 0, slots := 0, locals := 0 } : Room) s m args below meth c 0 0 Q 1 D g tb 17 [(0, .ref (g.1 2 a0))] [] M := by
    intro     M hf
    unfold f_X2_countMinute_c17 at hf
    refine r_aload_n C0 (kk := 0) 0 rfl dX2_countMinute_17 ?_
    refine r_dup C0 rfl dX2_countMinute_18 ?_
    refine r_get2 C0 h0.1 6 (by decide) (v := .int (M (a0 + 0))) rfl rfl w1_152 dX2_countMinute_19 ?_
    refine r_iconst C0 (v := 1) dX2_countMinute_22 rfl ?_
    refine r_iadd C0 dX2_countMinute_23 ?_
    refine r_put2 C0 h0.1 6 rfl rfl w1_152 rfl rfl rfl dX2_countMinute_24 ?_
    exact hend hf dX2_countMinute_27
  unfold f_X2_countMinute at hf
  refine r_aload_n C0 (kk := 0) 0 rfl dX2_countMinute_0 ?_
  refine r_get2 C0 h0.1 10 (by decide) (v := .int (M (a0 + 1))) rfl rfl w1_160 dX2_countMinute_1 ?_
  refine r_if_eq C0 (tgt := 17) (by decide) dX2_countMinute_4 (fun q1 => ?_) (fun q1 => ?_)
  · have hf := ie_t hf q1
    exact B17     _ hf
  · have hf := ie_f hf q1
    refine r_aload_n C0 (kk := 0) 0 rfl dX2_countMinute_7 ?_
    refine r_dup C0 rfl dX2_countMinute_8 ?_
    refine r_get2 C0 h0.1 12 (by decide) (v := .int (M (a0 + 3))) rfl rfl w1_164 dX2_countMinute_9 ?_
    refine r_iconst C0 (v := 1) dX2_countMinute_12 rfl ?_
    refine r_iadd C0 dX2_countMinute_13 ?_
    refine r_put2 C0 h0.1 12 rfl rfl w1_164 rfl rfl rfl dX2_countMinute_14 ?_
    exact B17     _ hf
theorem dX3_clear_0 : decode cX3_clear 0 = .ok (.aload_n 0, 1) := by decide +kernel
theorem dX3_clear_1 : decode cX3_clear 1 = .ok (.iconst 0, 1) := by decide +kernel
theorem dX3_clear_2 : decode cX3_clear 2 = .ok (.putfield 37, 3) := by decide +kernel
theorem dX3_clear_5 : decode cX3_clear 5 = .ok (.return_, 1) := by decide +kernel
theorem hd_X3_clear : yX3_clear.cls = RX3 ∧ yX3_clear.cls ≠ "java/lang/invoke/MethodHandle" ∧ yX3_clear.cls ≠ "java/lang/invoke/VarHandle" ∧ (parseMethodDescriptor yX3_clear.desc).map (fun d => d.parameters.length) = some 0 := by decide +kernel
set_option maxRecDepth 100000 in
set_option maxHeartbeats 4000000 in
theorem c_X3_clear (l : Launch) (D : va_G) (g : xG) (tb : List xQ) (hT : x_T g tb)  (h0 : x_rd tb) {M M' : xM} (hf : f_X3_clear  M = some M') :
    cV l D g tb yX3_clear cX3_clear 1 ({ frames := 0, cells := 0, slots := 0, locals := 0 } : Room) [.ref (g.1 3 1777)] M M' := by
  refine x_startV (own := RX3) (by decide +kernel) rfl rfl (Nat.le_of_ble_eq_true rfl) hT ?_
  intro p e s m args below meth c Q C0 hend
  unfold f_X3_clear at hf
  refine r_aload_n C0 (kk := 0) 0 rfl dX3_clear_0 ?_
  refine r_iconst C0 (v := 0) dX3_clear_1 rfl ?_
  refine r_put3 C0 h0.1 1 rfl rfl w1_205 rfl rfl rfl dX3_clear_2 ?_
  exact hend hf dX3_clear_5
theorem dX4_copyFrom_0 : decode cX4_copyFrom 0 = .ok (.aload_n 0, 1) := by decide +kernel
theorem dX4_copyFrom_1 : decode cX4_copyFrom 1 = .ok (.aload_n 1, 1) := by decide +kernel
theorem dX4_copyFrom_2 : decode cX4_copyFrom 2 = .ok (.getfield 9, 3) := by decide +kernel
theorem dX4_copyFrom_5 : decode cX4_copyFrom 5 = .ok (.putfield 9, 3) := by decide +kernel
theorem dX4_copyFrom_8 : decode cX4_copyFrom 8 = .ok (.aload_n 0, 1) := by decide +kernel
theorem dX4_copyFrom_9 : decode cX4_copyFrom 9 = .ok (.aload_n 1, 1) := by decide +kernel
theorem dX4_copyFrom_10 : decode cX4_copyFrom 10 = .ok (.getfield 15, 3) := by decide +kernel
theorem dX4_copyFrom_13 : decode cX4_copyFrom 13 = .ok (.putfield 15, 3) := by decide +kernel
theorem dX4_copyFrom_16 : decode cX4_copyFrom 16 = .ok (.aload_n 0, 1) := by decide +kernel
theorem dX4_copyFrom_17 : decode cX4_copyFrom 17 = .ok (.aload_n 1, 1) := by decide +kernel
theorem dX4_copyFrom_18 : decode cX4_copyFrom 18 = .ok (.getfield 18, 3) := by decide +kernel
theorem dX4_copyFrom_21 : decode cX4_copyFrom 21 = .ok (.putfield 18, 3) := by decide +kernel
theorem dX4_copyFrom_24 : decode cX4_copyFrom 24 = .ok (.aload_n 0, 1) := by decide +kernel
theorem dX4_copyFrom_25 : decode cX4_copyFrom 25 = .ok (.aload_n 1, 1) := by decide +kernel
theorem dX4_copyFrom_26 : decode cX4_copyFrom 26 = .ok (.getfield 21, 3) := by decide +kernel
theorem dX4_copyFrom_29 : decode cX4_copyFrom 29 = .ok (.putfield 21, 3) := by decide +kernel
theorem dX4_copyFrom_32 : decode cX4_copyFrom 32 = .ok (.aload_n 0, 1) := by decide +kernel
theorem dX4_copyFrom_33 : decode cX4_copyFrom 33 = .ok (.aload_n 1, 1) := by decide +kernel
theorem dX4_copyFrom_34 : decode cX4_copyFrom 34 = .ok (.getfield 24, 3) := by decide +kernel
theorem dX4_copyFrom_37 : decode cX4_copyFrom 37 = .ok (.putfield 24, 3) := by decide +kernel
theorem dX4_copyFrom_40 : decode cX4_copyFrom 40 = .ok (.aload_n 0, 1) := by decide +kernel
theorem dX4_copyFrom_41 : decode cX4_copyFrom 41 = .ok (.aload_n 1, 1) := by decide +kernel
theorem dX4_copyFrom_42 : decode cX4_copyFrom 42 = .ok (.getfield 27, 3) := by decide +kernel
theorem dX4_copyFrom_45 : decode cX4_copyFrom 45 = .ok (.putfield 27, 3) := by decide +kernel
theorem dX4_copyFrom_48 : decode cX4_copyFrom 48 = .ok (.aload_n 0, 1) := by decide +kernel
theorem dX4_copyFrom_49 : decode cX4_copyFrom 49 = .ok (.aload_n 1, 1) := by decide +kernel
theorem dX4_copyFrom_50 : decode cX4_copyFrom 50 = .ok (.getfield 30, 3) := by decide +kernel
theorem dX4_copyFrom_53 : decode cX4_copyFrom 53 = .ok (.putfield 30, 3) := by decide +kernel
theorem dX4_copyFrom_56 : decode cX4_copyFrom 56 = .ok (.aload_n 0, 1) := by decide +kernel
theorem dX4_copyFrom_57 : decode cX4_copyFrom 57 = .ok (.aload_n 1, 1) := by decide +kernel
theorem dX4_copyFrom_58 : decode cX4_copyFrom 58 = .ok (.getfield 33, 3) := by decide +kernel
theorem dX4_copyFrom_61 : decode cX4_copyFrom 61 = .ok (.putfield 33, 3) := by decide +kernel
theorem dX4_copyFrom_64 : decode cX4_copyFrom 64 = .ok (.aload_n 0, 1) := by decide +kernel
theorem dX4_copyFrom_65 : decode cX4_copyFrom 65 = .ok (.aload_n 1, 1) := by decide +kernel
theorem dX4_copyFrom_66 : decode cX4_copyFrom 66 = .ok (.getfield 36, 3) := by decide +kernel
theorem dX4_copyFrom_69 : decode cX4_copyFrom 69 = .ok (.putfield 36, 3) := by decide +kernel
theorem dX4_copyFrom_72 : decode cX4_copyFrom 72 = .ok (.return_, 1) := by decide +kernel
theorem hd_X4_copyFrom : yX4_copyFrom.cls = RX4 ∧ yX4_copyFrom.cls ≠ "java/lang/invoke/MethodHandle" ∧ yX4_copyFrom.cls ≠ "java/lang/invoke/VarHandle" ∧ (parseMethodDescriptor yX4_copyFrom.desc).map (fun d => d.parameters.length) = some 1 := by decide +kernel
set_option maxRecDepth 100000 in
set_option maxHeartbeats 4000000 in
theorem c_X4_copyFrom (l : Launch) (D : va_G) (g : xG) (tb : List xQ) (hT : x_T g tb) {a0 : Nat} {a1 : Nat} (h0 : ((0, a0, 0) : xQ) ∈ tb) (h1 : ((0, a1, 0) : xQ) ∈ tb) {M M' : xM} (hf : f_X4_copyFrom a0 a1 M = some M') :
    cV l D g tb yX4_copyFrom cX4_copyFrom 2 ({ frames := 0, cells := 0, slots := 0, locals := 0 } : Room) [.ref (g.1 0 a0), .ref (g.1 0 a1)] M M' := by
  refine x_startV (own := RX4) (by decide +kernel) rfl rfl (Nat.le_of_ble_eq_true rfl) hT ?_
  intro p e s m args below meth c Q C0 hend
  unfold f_X4_copyFrom at hf
  refine r_aload_n C0 (kk := 0) 0 rfl dX4_copyFrom_0 ?_
  refine r_aload_n C0 (kk := 1) 1 rfl dX4_copyFrom_1 ?_
  refine r_get0 C0 h1 0 (by decide) (v := .int (M (a1 + 0))) rfl rfl w1_45 dX4_copyFrom_2 ?_
  refine r_put0 C0 h0 0 rfl rfl w1_45 rfl rfl rfl dX4_copyFrom_5 ?_
  refine r_aload_n C0 (kk := 0) 0 rfl dX4_copyFrom_8 ?_
  refine r_aload_n C0 (kk := 1) 1 rfl dX4_copyFrom_9 ?_
  refine r_get0 C0 h1 1 (by decide) (v := .int ((upd M (a0 + 0) (M (a1 + 0))) (a1 + 1))) rfl rfl w1_48 dX4_copyFrom_10 ?_
  refine r_put0 C0 h0 1 rfl rfl w1_48 rfl rfl rfl dX4_copyFrom_13 ?_
  refine r_aload_n C0 (kk := 0) 0 rfl dX4_copyFrom_16 ?_
  refine r_aload_n C0 (kk := 1) 1 rfl dX4_copyFrom_17 ?_
  refine r_get0 C0 h1 2 (by decide) (v := .int ((upd (upd M (a0 + 0) (M (a1 + 0))) (a0 + 1) ((upd M (a0 + 0) (M (a1 + 0))) (a1 + 1))) (a1 + 2))) rfl rfl w1_51 dX4_copyFrom_18 ?_
  refine r_put0 C0 h0 2 rfl rfl w1_51 rfl rfl rfl dX4_copyFrom_21 ?_
  refine r_aload_n C0 (kk := 0) 0 rfl dX4_copyFrom_24 ?_
  refine r_aload_n C0 (kk := 1) 1 rfl dX4_copyFrom_25 ?_
  refine r_get0 C0 h1 3 (by decide) (v := .int ((upd (upd (upd M (a0 + 0) (M (a1 + 0))) (a0 + 1) ((upd M (a0 + 0) (M (a1 + 0))) (a1 + 1))) (a0 + 2) ((upd (upd M (a0 + 0) (M (a1 + 0))) (a0 + 1) ((upd M (a0 + 0) (M (a1 + 0))) (a1 + 1))) (a1 + 2))) (a1 + 3))) rfl rfl w1_54 dX4_copyFrom_26 ?_
  refine r_put0 C0 h0 3 rfl rfl w1_54 rfl rfl rfl dX4_copyFrom_29 ?_
  refine r_aload_n C0 (kk := 0) 0 rfl dX4_copyFrom_32 ?_
  refine r_aload_n C0 (kk := 1) 1 rfl dX4_copyFrom_33 ?_
  refine r_get0 C0 h1 4 (by decide) (v := .int ((upd (upd (upd (upd M (a0 + 0) (M (a1 + 0))) (a0 + 1) ((upd M (a0 + 0) (M (a1 + 0))) (a1 + 1))) (a0 + 2) ((upd (upd M (a0 + 0) (M (a1 + 0))) (a0 + 1) ((upd M (a0 + 0) (M (a1 + 0))) (a1 + 1))) (a1 + 2))) (a0 + 3) ((upd (upd (upd M (a0 + 0) (M (a1 + 0))) (a0 + 1) ((upd M (a0 + 0) (M (a1 + 0))) (a1 + 1))) (a0 + 2) ((upd (upd M (a0 + 0) (M (a1 + 0))) (a0 + 1) ((upd M (a0 + 0) (M (a1 + 0))) (a1 + 1))) (a1 + 2))) (a1 + 3))) (a1 + 4))) rfl rfl w1_58 dX4_copyFrom_34 ?_
  refine r_put0 C0 h0 4 rfl rfl w1_58 rfl rfl rfl dX4_copyFrom_37 ?_
  refine r_aload_n C0 (kk := 0) 0 rfl dX4_copyFrom_40 ?_
  refine r_aload_n C0 (kk := 1) 1 rfl dX4_copyFrom_41 ?_
  refine r_get0 C0 h1 5 (by decide) (v := .int ((upd (upd (upd (upd (upd M (a0 + 0) (M (a1 + 0))) (a0 + 1) ((upd M (a0 + 0) (M (a1 + 0))) (a1 + 1))) (a0 + 2) ((upd (upd M (a0 + 0) (M (a1 + 0))) (a0 + 1) ((upd M (a0 + 0) (M (a1 + 0))) (a1 + 1))) (a1 + 2))) (a0 + 3) ((upd (upd (upd M (a0 + 0) (M (a1 + 0))) (a0 + 1) ((upd M (a0 + 0) (M (a1 + 0))) (a1 + 1))) (a0 + 2) ((upd (upd M (a0 + 0) (M (a1 + 0))) (a0 + 1) ((upd M (a0 + 0) (M (a1 + 0))) (a1 + 1))) (a1 + 2))) (a1 + 3))) (a0 + 4) ((upd (upd (upd (upd M (a0 + 0) (M (a1 + 0))) (a0 + 1) ((upd M (a0 + 0) (M (a1 + 0))) (a1 + 1))) (a0 + 2) ((upd (upd M (a0 + 0) (M (a1 + 0))) (a0 + 1) ((upd M (a0 + 0) (M (a1 + 0))) (a1 + 1))) (a1 + 2))) (a0 + 3) ((upd (upd (upd M (a0 + 0) (M (a1 + 0))) (a0 + 1) ((upd M (a0 + 0) (M (a1 + 0))) (a1 + 1))) (a0 + 2) ((upd (upd M (a0 + 0) (M (a1 + 0))) (a0 + 1) ((upd M (a0 + 0) (M (a1 + 0))) (a1 + 1))) (a1 + 2))) (a1 + 3))) (a1 + 4))) (a1 + 5))) rfl rfl w1_62 dX4_copyFrom_42 ?_
  refine r_put0 C0 h0 5 rfl rfl w1_62 rfl rfl rfl dX4_copyFrom_45 ?_
  refine r_aload_n C0 (kk := 0) 0 rfl dX4_copyFrom_48 ?_
  refine r_aload_n C0 (kk := 1) 1 rfl dX4_copyFrom_49 ?_
  refine r_get0 C0 h1 6 (by decide) (v := .int ((upd (upd (upd (upd (upd (upd M (a0 + 0) (M (a1 + 0))) (a0 + 1) ((upd M (a0 + 0) (M (a1 + 0))) (a1 + 1))) (a0 + 2) ((upd (upd M (a0 + 0) (M (a1 + 0))) (a0 + 1) ((upd M (a0 + 0) (M (a1 + 0))) (a1 + 1))) (a1 + 2))) (a0 + 3) ((upd (upd (upd M (a0 + 0) (M (a1 + 0))) (a0 + 1) ((upd M (a0 + 0) (M (a1 + 0))) (a1 + 1))) (a0 + 2) ((upd (upd M (a0 + 0) (M (a1 + 0))) (a0 + 1) ((upd M (a0 + 0) (M (a1 + 0))) (a1 + 1))) (a1 + 2))) (a1 + 3))) (a0 + 4) ((upd (upd (upd (upd M (a0 + 0) (M (a1 + 0))) (a0 + 1) ((upd M (a0 + 0) (M (a1 + 0))) (a1 + 1))) (a0 + 2) ((upd (upd M (a0 + 0) (M (a1 + 0))) (a0 + 1) ((upd M (a0 + 0) (M (a1 + 0))) (a1 + 1))) (a1 + 2))) (a0 + 3) ((upd (upd (upd M (a0 + 0) (M (a1 + 0))) (a0 + 1) ((upd M (a0 + 0) (M (a1 + 0))) (a1 + 1))) (a0 + 2) ((upd (upd M (a0 + 0) (M (a1 + 0))) (a0 + 1) ((upd M (a0 + 0) (M (a1 + 0))) (a1 + 1))) (a1 + 2))) (a1 + 3))) (a1 + 4))) (a0 + 5) ((upd (upd (upd (upd (upd M (a0 + 0) (M (a1 + 0))) (a0 + 1) ((upd M (a0 + 0) (M (a1 + 0))) (a1 + 1))) (a0 + 2) ((upd (upd M (a0 + 0) (M (a1 + 0))) (a0 + 1) ((upd M (a0 + 0) (M (a1 + 0))) (a1 + 1))) (a1 + 2))) (a0 + 3) ((upd (upd (upd M (a0 + 0) (M (a1 + 0))) (a0 + 1) ((upd M (a0 + 0) (M (a1 + 0))) (a1 + 1))) (a0 + 2) ((upd (upd M (a0 + 0) (M (a1 + 0))) (a0 + 1) ((upd M (a0 + 0) (M (a1 + 0))) (a1 + 1))) (a1 + 2))) (a1 + 3))) (a0 + 4) ((upd (upd (upd (upd M (a0 + 0) (M (a1 + 0))) (a0 + 1) ((upd M (a0 + 0) (M (a1 + 0))) (a1 + 1))) (a0 + 2) ((upd (upd M (a0 + 0) (M (a1 + 0))) (a0 + 1) ((upd M (a0 + 0) (M (a1 + 0))) (a1 + 1))) (a1 + 2))) (a0 + 3) ((upd (upd (upd M (a0 + 0) (M (a1 + 0))) (a0 + 1) ((upd M (a0 + 0) (M (a1 + 0))) (a1 + 1))) (a0 + 2) ((upd (upd M (a0 + 0) (M (a1 + 0))) (a0 + 1) ((upd M (a0 + 0) (M (a1 + 0))) (a1 + 1))) (a1 + 2))) (a1 + 3))) (a1 + 4))) (a1 + 5))) (a1 + 6))) rfl rfl w1_66 dX4_copyFrom_50 ?_
  refine r_put0 C0 h0 6 rfl rfl w1_66 rfl rfl rfl dX4_copyFrom_53 ?_
  refine r_aload_n C0 (kk := 0) 0 rfl dX4_copyFrom_56 ?_
  refine r_aload_n C0 (kk := 1) 1 rfl dX4_copyFrom_57 ?_
  refine r_get0 C0 h1 7 (by decide) (v := .int ((upd (upd (upd (upd (upd (upd (upd M (a0 + 0) (M (a1 + 0))) (a0 + 1) ((upd M (a0 + 0) (M (a1 + 0))) (a1 + 1))) (a0 + 2) ((upd (upd M (a0 + 0) (M (a1 + 0))) (a0 + 1) ((upd M (a0 + 0) (M (a1 + 0))) (a1 + 1))) (a1 + 2))) (a0 + 3) ((upd (upd (upd M (a0 + 0) (M (a1 + 0))) (a0 + 1) ((upd M (a0 + 0) (M (a1 + 0))) (a1 + 1))) (a0 + 2) ((upd (upd M (a0 + 0) (M (a1 + 0))) (a0 + 1) ((upd M (a0 + 0) (M (a1 + 0))) (a1 + 1))) (a1 + 2))) (a1 + 3))) (a0 + 4) ((upd (upd (upd (upd M (a0 + 0) (M (a1 + 0))) (a0 + 1) ((upd M (a0 + 0) (M (a1 + 0))) (a1 + 1))) (a0 + 2) ((upd (upd M (a0 + 0) (M (a1 + 0))) (a0 + 1) ((upd M (a0 + 0) (M (a1 + 0))) (a1 + 1))) (a1 + 2))) (a0 + 3) ((upd (upd (upd M (a0 + 0) (M (a1 + 0))) (a0 + 1) ((upd M (a0 + 0) (M (a1 + 0))) (a1 + 1))) (a0 + 2) ((upd (upd M (a0 + 0) (M (a1 + 0))) (a0 + 1) ((upd M (a0 + 0) (M (a1 + 0))) (a1 + 1))) (a1 + 2))) (a1 + 3))) (a1 + 4))) (a0 + 5) ((upd (upd (upd (upd (upd M (a0 + 0) (M (a1 + 0))) (a0 + 1) ((upd M (a0 + 0) (M (a1 + 0))) (a1 + 1))) (a0 + 2) ((upd (upd M (a0 + 0) (M (a1 + 0))) (a0 + 1) ((upd M (a0 + 0) (M (a1 + 0))) (a1 + 1))) (a1 + 2))) (a0 + 3) ((upd (upd (upd M (a0 + 0) (M (a1 + 0))) (a0 + 1) ((upd M (a0 + 0) (M (a1 + 0))) (a1 + 1))) (a0 + 2) ((upd (upd M (a0 + 0) (M (a1 + 0))) (a0 + 1) ((upd M (a0 + 0) (M (a1 + 0))) (a1 + 1))) (a1 + 2))) (a1 + 3))) (a0 + 4) ((upd (upd (upd (upd M (a0 + 0) (M (a1 + 0))) (a0 + 1) ((upd M (a0 + 0) (M (a1 + 0))) (a1 + 1))) (a0 + 2) ((upd (upd M (a0 + 0) (M (a1 + 0))) (a0 + 1) ((upd M (a0 + 0) (M (a1 + 0))) (a1 + 1))) (a1 + 2))) (a0 + 3) ((upd (upd (upd M (a0 + 0) (M (a1 + 0))) (a0 + 1) ((upd M (a0 + 0) (M (a1 + 0))) (a1 + 1))) (a0 + 2) ((upd (upd M (a0 + 0) (M (a1 + 0))) (a0 + 1) ((upd M (a0 + 0) (M (a1 + 0))) (a1 + 1))) (a1 + 2))) (a1 + 3))) (a1 + 4))) (a1 + 5))) (a0 + 6) ((upd (upd (upd (upd (upd (upd M (a0 + 0) (M (a1 + 0))) (a0 + 1) ((upd M (a0 + 0) (M (a1 + 0))) (a1 + 1))) (a0 + 2) ((upd (upd M (a0 + 0) (M (a1 + 0))) (a0 + 1) ((upd M (a0 + 0) (M (a1 + 0))) (a1 + 1))) (a1 + 2))) (a0 + 3) ((upd (upd (upd M (a0 + 0) (M (a1 + 0))) (a0 + 1) ((upd M (a0 + 0) (M (a1 + 0))) (a1 + 1))) (a0 + 2) ((upd (upd M (a0 + 0) (M (a1 + 0))) (a0 + 1) ((upd M (a0 + 0) (M (a1 + 0))) (a1 + 1))) (a1 + 2))) (a1 + 3))) (a0 + 4) ((upd (upd (upd (upd M (a0 + 0) (M (a1 + 0))) (a0 + 1) ((upd M (a0 + 0) (M (a1 + 0))) (a1 + 1))) (a0 + 2) ((upd (upd M (a0 + 0) (M (a1 + 0))) (a0 + 1) ((upd M (a0 + 0) (M (a1 + 0))) (a1 + 1))) (a1 + 2))) (a0 + 3) ((upd (upd (upd M (a0 + 0) (M (a1 + 0))) (a0 + 1) ((upd M (a0 + 0) (M (a1 + 0))) (a1 + 1))) (a0 + 2) ((upd (upd M (a0 + 0) (M (a1 + 0))) (a0 + 1) ((upd M (a0 + 0) (M (a1 + 0))) (a1 + 1))) (a1 + 2))) (a1 + 3))) (a1 + 4))) (a0 + 5) ((upd (upd (upd (upd (upd M (a0 + 0) (M (a1 + 0))) (a0 + 1) ((upd M (a0 + 0) (M (a1 + 0))) (a1 + 1))) (a0 + 2) ((upd (upd M (a0 + 0) (M (a1 + 0))) (a0 + 1) ((upd M (a0 + 0) (M (a1 + 0))) (a1 + 1))) (a1 + 2))) (a0 + 3) ((upd (upd (upd M (a0 + 0) (M (a1 + 0))) (a0 + 1) ((upd M (a0 + 0) (M (a1 + 0))) (a1 + 1))) (a0 + 2) ((upd (upd M (a0 + 0) (M (a1 + 0))) (a0 + 1) ((upd M (a0 + 0) (M (a1 + 0))) (a1 + 1))) (a1 + 2))) (a1 + 3))) (a0 + 4) ((upd (upd (upd (upd M (a0 + 0) (M (a1 + 0))) (a0 + 1) ((upd M (a0 + 0) (M (a1 + 0))) (a1 + 1))) (a0 + 2) ((upd (upd M (a0 + 0) (M (a1 + 0))) (a0 + 1) ((upd M (a0 + 0) (M (a1 + 0))) (a1 + 1))) (a1 + 2))) (a0 + 3) ((upd (upd (upd M (a0 + 0) (M (a1 + 0))) (a0 + 1) ((upd M (a0 + 0) (M (a1 + 0))) (a1 + 1))) (a0 + 2) ((upd (upd M (a0 + 0) (M (a1 + 0))) (a0 + 1) ((upd M (a0 + 0) (M (a1 + 0))) (a1 + 1))) (a1 + 2))) (a1 + 3))) (a1 + 4))) (a1 + 5))) (a1 + 6))) (a1 + 7))) rfl rfl w1_68 dX4_copyFrom_58 ?_
  refine r_put0 C0 h0 7 rfl rfl w1_68 rfl rfl rfl dX4_copyFrom_61 ?_
  refine r_aload_n C0 (kk := 0) 0 rfl dX4_copyFrom_64 ?_
  refine r_aload_n C0 (kk := 1) 1 rfl dX4_copyFrom_65 ?_
  refine r_get0 C0 h1 8 (by decide) (v := .int ((upd (upd (upd (upd (upd (upd (upd (upd M (a0 + 0) (M (a1 + 0))) (a0 + 1) ((upd M (a0 + 0) (M (a1 + 0))) (a1 + 1))) (a0 + 2) ((upd (upd M (a0 + 0) (M (a1 + 0))) (a0 + 1) ((upd M (a0 + 0) (M (a1 + 0))) (a1 + 1))) (a1 + 2))) (a0 + 3) ((upd (upd (upd M (a0 + 0) (M (a1 + 0))) (a0 + 1) ((upd M (a0 + 0) (M (a1 + 0))) (a1 + 1))) (a0 + 2) ((upd (upd M (a0 + 0) (M (a1 + 0))) (a0 + 1) ((upd M (a0 + 0) (M (a1 + 0))) (a1 + 1))) (a1 + 2))) (a1 + 3))) (a0 + 4) ((upd (upd (upd (upd M (a0 + 0) (M (a1 + 0))) (a0 + 1) ((upd M (a0 + 0) (M (a1 + 0))) (a1 + 1))) (a0 + 2) ((upd (upd M (a0 + 0) (M (a1 + 0))) (a0 + 1) ((upd M (a0 + 0) (M (a1 + 0))) (a1 + 1))) (a1 + 2))) (a0 + 3) ((upd (upd (upd M (a0 + 0) (M (a1 + 0))) (a0 + 1) ((upd M (a0 + 0) (M (a1 + 0))) (a1 + 1))) (a0 + 2) ((upd (upd M (a0 + 0) (M (a1 + 0))) (a0 + 1) ((upd M (a0 + 0) (M (a1 + 0))) (a1 + 1))) (a1 + 2))) (a1 + 3))) (a1 + 4))) (a0 + 5) ((upd (upd (upd (upd (upd M (a0 + 0) (M (a1 + 0))) (a0 + 1) ((upd M (a0 + 0) (M (a1 + 0))) (a1 + 1))) (a0 + 2) ((upd (upd M (a0 + 0) (M (a1 + 0))) (a0 + 1) ((upd M (a0 + 0) (M (a1 + 0))) (a1 + 1))) (a1 + 2))) (a0 + 3) ((upd (upd (upd M (a0 + 0) (M (a1 + 0))) (a0 + 1) ((upd M (a0 + 0) (M (a1 + 0))) (a1 + 1))) (a0 + 2) ((upd (upd M (a0 + 0) (M (a1 + 0))) (a0 + 1) ((upd M (a0 + 0) (M (a1 + 0))) (a1 + 1))) (a1 + 2))) (a1 + 3))) (a0 + 4) ((upd (upd (upd (upd M (a0 + 0) (M (a1 + 0))) (a0 + 1) ((upd M (a0 + 0) (M (a1 + 0))) (a1 + 1))) (a0 + 2) ((upd (upd M (a0 + 0) (M (a1 + 0))) (a0 + 1) ((upd M (a0 + 0) (M (a1 + 0))) (a1 + 1))) (a1 + 2))) (a0 + 3) ((upd (upd (upd M (a0 + 0) (M (a1 + 0))) (a0 + 1) ((upd M (a0 + 0) (M (a1 + 0))) (a1 + 1))) (a0 + 2) ((upd (upd M (a0 + 0) (M (a1 + 0))) (a0 + 1) ((upd M (a0 + 0) (M (a1 + 0))) (a1 + 1))) (a1 + 2))) (a1 + 3))) (a1 + 4))) (a1 + 5))) (a0 + 6) ((upd (upd (upd (upd (upd (upd M (a0 + 0) (M (a1 + 0))) (a0 + 1) ((upd M (a0 + 0) (M (a1 + 0))) (a1 + 1))) (a0 + 2) ((upd (upd M (a0 + 0) (M (a1 + 0))) (a0 + 1) ((upd M (a0 + 0) (M (a1 + 0))) (a1 + 1))) (a1 + 2))) (a0 + 3) ((upd (upd (upd M (a0 + 0) (M (a1 + 0))) (a0 + 1) ((upd M (a0 + 0) (M (a1 + 0))) (a1 + 1))) (a0 + 2) ((upd (upd M (a0 + 0) (M (a1 + 0))) (a0 + 1) ((upd M (a0 + 0) (M (a1 + 0))) (a1 + 1))) (a1 + 2))) (a1 + 3))) (a0 + 4) ((upd (upd (upd (upd M (a0 + 0) (M (a1 + 0))) (a0 + 1) ((upd M (a0 + 0) (M (a1 + 0))) (a1 + 1))) (a0 + 2) ((upd (upd M (a0 + 0) (M (a1 + 0))) (a0 + 1) ((upd M (a0 + 0) (M (a1 + 0))) (a1 + 1))) (a1 + 2))) (a0 + 3) ((upd (upd (upd M (a0 + 0) (M (a1 + 0))) (a0 + 1) ((upd M (a0 + 0) (M (a1 + 0))) (a1 + 1))) (a0 + 2) ((upd (upd M (a0 + 0) (M (a1 + 0))) (a0 + 1) ((upd M (a0 + 0) (M (a1 + 0))) (a1 + 1))) (a1 + 2))) (a1 + 3))) (a1 + 4))) (a0 + 5) ((upd (upd (upd (upd (upd M (a0 + 0) (M (a1 + 0))) (a0 + 1) ((upd M (a0 + 0) (M (a1 + 0))) (a1 + 1))) (a0 + 2) ((upd (upd M (a0 + 0) (M (a1 + 0))) (a0 + 1) ((upd M (a0 + 0) (M (a1 + 0))) (a1 + 1))) (a1 + 2))) (a0 + 3) ((upd (upd (upd M (a0 + 0) (M (a1 + 0))) (a0 + 1) ((upd M (a0 + 0) (M (a1 + 0))) (a1 + 1))) (a0 + 2) ((upd (upd M (a0 + 0) (M (a1 + 0))) (a0 + 1) ((upd M (a0 + 0) (M (a1 + 0))) (a1 + 1))) (a1 + 2))) (a1 + 3))) (a0 + 4) ((upd (upd (upd (upd M (a0 + 0) (M (a1 + 0))) (a0 + 1) ((upd M (a0 + 0) (M (a1 + 0))) (a1 + 1))) (a0 + 2) ((upd (upd M (a0 + 0) (M (a1 + 0))) (a0 + 1) ((upd M (a0 + 0) (M (a1 + 0))) (a1 + 1))) (a1 + 2))) (a0 + 3) ((upd (upd (upd M (a0 + 0) (M (a1 + 0))) (a0 + 1) ((upd M (a0 + 0) (M (a1 + 0))) (a1 + 1))) (a0 + 2) ((upd (upd M (a0 + 0) (M (a1 + 0))) (a0 + 1) ((upd M (a0 + 0) (M (a1 + 0))) (a1 + 1))) (a1 + 2))) (a1 + 3))) (a1 + 4))) (a1 + 5))) (a1 + 6))) (a0 + 7) ((upd (upd (upd (upd (upd (upd (upd M (a0 + 0) (M (a1 + 0))) (a0 + 1) ((upd M (a0 + 0) (M (a1 + 0))) (a1 + 1))) (a0 + 2) ((upd (upd M (a0 + 0) (M (a1 + 0))) (a0 + 1) ((upd M (a0 + 0) (M (a1 + 0))) (a1 + 1))) (a1 + 2))) (a0 + 3) ((upd (upd (upd M (a0 + 0) (M (a1 + 0))) (a0 + 1) ((upd M (a0 + 0) (M (a1 + 0))) (a1 + 1))) (a0 + 2) ((upd (upd M (a0 + 0) (M (a1 + 0))) (a0 + 1) ((upd M (a0 + 0) (M (a1 + 0))) (a1 + 1))) (a1 + 2))) (a1 + 3))) (a0 + 4) ((upd (upd (upd (upd M (a0 + 0) (M (a1 + 0))) (a0 + 1) ((upd M (a0 + 0) (M (a1 + 0))) (a1 + 1))) (a0 + 2) ((upd (upd M (a0 + 0) (M (a1 + 0))) (a0 + 1) ((upd M (a0 + 0) (M (a1 + 0))) (a1 + 1))) (a1 + 2))) (a0 + 3) ((upd (upd (upd M (a0 + 0) (M (a1 + 0))) (a0 + 1) ((upd M (a0 + 0) (M (a1 + 0))) (a1 + 1))) (a0 + 2) ((upd (upd M (a0 + 0) (M (a1 + 0))) (a0 + 1) ((upd M (a0 + 0) (M (a1 + 0))) (a1 + 1))) (a1 + 2))) (a1 + 3))) (a1 + 4))) (a0 + 5) ((upd (upd (upd (upd (upd M (a0 + 0) (M (a1 + 0))) (a0 + 1) ((upd M (a0 + 0) (M (a1 + 0))) (a1 + 1))) (a0 + 2) ((upd (upd M (a0 + 0) (M (a1 + 0))) (a0 + 1) ((upd M (a0 + 0) (M (a1 + 0))) (a1 + 1))) (a1 + 2))) (a0 + 3) ((upd (upd (upd M (a0 + 0) (M (a1 + 0))) (a0 + 1) ((upd M (a0 + 0) (M (a1 + 0))) (a1 + 1))) (a0 + 2) ((upd (upd M (a0 + 0) (M (a1 + 0))) (a0 + 1) ((upd M (a0 + 0) (M (a1 + 0))) (a1 + 1))) (a1 + 2))) (a1 + 3))) (a0 + 4) ((upd (upd (upd (upd M (a0 + 0) (M (a1 + 0))) (a0 + 1) ((upd M (a0 + 0) (M (a1 + 0))) (a1 + 1))) (a0 + 2) ((upd (upd M (a0 + 0) (M (a1 + 0))) (a0 + 1) ((upd M (a0 + 0) (M (a1 + 0))) (a1 + 1))) (a1 + 2))) (a0 + 3) ((upd (upd (upd M (a0 + 0) (M (a1 + 0))) (a0 + 1) ((upd M (a0 + 0) (M (a1 + 0))) (a1 + 1))) (a0 + 2) ((upd (upd M (a0 + 0) (M (a1 + 0))) (a0 + 1) ((upd M (a0 + 0) (M (a1 + 0))) (a1 + 1))) (a1 + 2))) (a1 + 3))) (a1 + 4))) (a1 + 5))) (a0 + 6) ((upd (upd (upd (upd (upd (upd M (a0 + 0) (M (a1 + 0))) (a0 + 1) ((upd M (a0 + 0) (M (a1 + 0))) (a1 + 1))) (a0 + 2) ((upd (upd M (a0 + 0) (M (a1 + 0))) (a0 + 1) ((upd M (a0 + 0) (M (a1 + 0))) (a1 + 1))) (a1 + 2))) (a0 + 3) ((upd (upd (upd M (a0 + 0) (M (a1 + 0))) (a0 + 1) ((upd M (a0 + 0) (M (a1 + 0))) (a1 + 1))) (a0 + 2) ((upd (upd M (a0 + 0) (M (a1 + 0))) (a0 + 1) ((upd M (a0 + 0) (M (a1 + 0))) (a1 + 1))) (a1 + 2))) (a1 + 3))) (a0 + 4) ((upd (upd (upd (upd M (a0 + 0) (M (a1 + 0))) (a0 + 1) ((upd M (a0 + 0) (M (a1 + 0))) (a1 + 1))) (a0 + 2) ((upd (upd M (a0 + 0) (M (a1 + 0))) (a0 + 1) ((upd M (a0 + 0) (M (a1 + 0))) (a1 + 1))) (a1 + 2))) (a0 + 3) ((upd (upd (upd M (a0 + 0) (M (a1 + 0))) (a0 + 1) ((upd M (a0 + 0) (M (a1 + 0))) (a1 + 1))) (a0 + 2) ((upd (upd M (a0 + 0) (M (a1 + 0))) (a0 + 1) ((upd M (a0 + 0) (M (a1 + 0))) (a1 + 1))) (a1 + 2))) (a1 + 3))) (a1 + 4))) (a0 + 5) ((upd (upd (upd (upd (upd M (a0 + 0) (M (a1 + 0))) (a0 + 1) ((upd M (a0 + 0) (M (a1 + 0))) (a1 + 1))) (a0 + 2) ((upd (upd M (a0 + 0) (M (a1 + 0))) (a0 + 1) ((upd M (a0 + 0) (M (a1 + 0))) (a1 + 1))) (a1 + 2))) (a0 + 3) ((upd (upd (upd M (a0 + 0) (M (a1 + 0))) (a0 + 1) ((upd M (a0 + 0) (M (a1 + 0))) (a1 + 1))) (a0 + 2) ((upd (upd M (a0 + 0) (M (a1 + 0))) (a0 + 1) ((upd M (a0 + 0) (M (a1 + 0))) (a1 + 1))) (a1 + 2))) (a1 + 3))) (a0 + 4) ((upd (upd (upd (upd M (a0 + 0) (M (a1 + 0))) (a0 + 1) ((upd M (a0 + 0) (M (a1 + 0))) (a1 + 1))) (a0 + 2) ((upd (upd M (a0 + 0) (M (a1 + 0))) (a0 + 1) ((upd M (a0 + 0) (M (a1 + 0))) (a1 + 1))) (a1 + 2))) (a0 + 3) ((upd (upd (upd M (a0 + 0) (M (a1 + 0))) (a0 + 1) ((upd M (a0 + 0) (M (a1 + 0))) (a1 + 1))) (a0 + 2) ((upd (upd M (a0 + 0) (M (a1 + 0))) (a0 + 1) ((upd M (a0 + 0) (M (a1 + 0))) (a1 + 1))) (a1 + 2))) (a1 + 3))) (a1 + 4))) (a1 + 5))) (a1 + 6))) (a1 + 7))) (a1 + 8))) rfl rfl w1_72 dX4_copyFrom_66 ?_
  refine r_put0 C0 h0 8 rfl rfl w1_72 rfl rfl rfl dX4_copyFrom_69 ?_
  exact hend hf dX4_copyFrom_72
theorem dX1_copyFrom_0 : decode cX1_copyFrom 0 = .ok (.aload_n 0, 1) := by decide +kernel
theorem dX1_copyFrom_1 : decode cX1_copyFrom 1 = .ok (.aload_n 1, 1) := by decide +kernel
theorem dX1_copyFrom_2 : decode cX1_copyFrom 2 = .ok (.getfield 15, 3) := by decide +kernel
theorem dX1_copyFrom_5 : decode cX1_copyFrom 5 = .ok (.putfield 15, 3) := by decide +kernel
theorem dX1_copyFrom_8 : decode cX1_copyFrom 8 = .ok (.aload_n 0, 1) := by decide +kernel
theorem dX1_copyFrom_9 : decode cX1_copyFrom 9 = .ok (.aload_n 1, 1) := by decide +kernel
theorem dX1_copyFrom_10 : decode cX1_copyFrom 10 = .ok (.getfield 18, 3) := by decide +kernel
theorem dX1_copyFrom_13 : decode cX1_copyFrom 13 = .ok (.putfield 18, 3) := by decide +kernel
theorem dX1_copyFrom_16 : decode cX1_copyFrom 16 = .ok (.aload_n 0, 1) := by decide +kernel
theorem dX1_copyFrom_17 : decode cX1_copyFrom 17 = .ok (.aload_n 1, 1) := by decide +kernel
theorem dX1_copyFrom_18 : decode cX1_copyFrom 18 = .ok (.getfield 21, 3) := by decide +kernel
theorem dX1_copyFrom_21 : decode cX1_copyFrom 21 = .ok (.putfield 21, 3) := by decide +kernel
theorem dX1_copyFrom_24 : decode cX1_copyFrom 24 = .ok (.aload_n 0, 1) := by decide +kernel
theorem dX1_copyFrom_25 : decode cX1_copyFrom 25 = .ok (.aload_n 1, 1) := by decide +kernel
theorem dX1_copyFrom_26 : decode cX1_copyFrom 26 = .ok (.getfield 24, 3) := by decide +kernel
theorem dX1_copyFrom_29 : decode cX1_copyFrom 29 = .ok (.putfield 24, 3) := by decide +kernel
theorem dX1_copyFrom_32 : decode cX1_copyFrom 32 = .ok (.aload_n 0, 1) := by decide +kernel
theorem dX1_copyFrom_33 : decode cX1_copyFrom 33 = .ok (.aload_n 1, 1) := by decide +kernel
theorem dX1_copyFrom_34 : decode cX1_copyFrom 34 = .ok (.getfield 9, 3) := by decide +kernel
theorem dX1_copyFrom_37 : decode cX1_copyFrom 37 = .ok (.putfield 9, 3) := by decide +kernel
theorem dX1_copyFrom_40 : decode cX1_copyFrom 40 = .ok (.aload_n 0, 1) := by decide +kernel
theorem dX1_copyFrom_41 : decode cX1_copyFrom 41 = .ok (.aload_n 1, 1) := by decide +kernel
theorem dX1_copyFrom_42 : decode cX1_copyFrom 42 = .ok (.getfield 27, 3) := by decide +kernel
theorem dX1_copyFrom_45 : decode cX1_copyFrom 45 = .ok (.putfield 27, 3) := by decide +kernel
theorem dX1_copyFrom_48 : decode cX1_copyFrom 48 = .ok (.aload_n 0, 1) := by decide +kernel
theorem dX1_copyFrom_49 : decode cX1_copyFrom 49 = .ok (.aload_n 1, 1) := by decide +kernel
theorem dX1_copyFrom_50 : decode cX1_copyFrom 50 = .ok (.getfield 30, 3) := by decide +kernel
theorem dX1_copyFrom_53 : decode cX1_copyFrom 53 = .ok (.putfield 30, 3) := by decide +kernel
theorem dX1_copyFrom_56 : decode cX1_copyFrom 56 = .ok (.aload_n 0, 1) := by decide +kernel
theorem dX1_copyFrom_57 : decode cX1_copyFrom 57 = .ok (.aload_n 1, 1) := by decide +kernel
theorem dX1_copyFrom_58 : decode cX1_copyFrom 58 = .ok (.getfield 33, 3) := by decide +kernel
theorem dX1_copyFrom_61 : decode cX1_copyFrom 61 = .ok (.putfield 33, 3) := by decide +kernel
theorem dX1_copyFrom_64 : decode cX1_copyFrom 64 = .ok (.return_, 1) := by decide +kernel
theorem hd_X1_copyFrom : yX1_copyFrom.cls = RX1 ∧ yX1_copyFrom.cls ≠ "java/lang/invoke/MethodHandle" ∧ yX1_copyFrom.cls ≠ "java/lang/invoke/VarHandle" ∧ (parseMethodDescriptor yX1_copyFrom.desc).map (fun d => d.parameters.length) = some 1 := by decide +kernel
set_option maxRecDepth 100000 in
set_option maxHeartbeats 4000000 in
theorem c_X1_copyFrom (l : Launch) (D : va_G) (g : xG) (tb : List xQ) (hT : x_T g tb) {a0 : Nat} {a1 : Nat} (h0 : ((1, a0, 0) : xQ) ∈ tb) (h1 : ((1, a1, 0) : xQ) ∈ tb) {M M' : xM} (hf : f_X1_copyFrom a0 a1 M = some M') :
    cV l D g tb yX1_copyFrom cX1_copyFrom 2 ({ frames := 0, cells := 0, slots := 0, locals := 0 } : Room) [.ref (g.1 1 a0), .ref (g.1 1 a1)] M M' := by
  refine x_startV (own := RX1) (by decide +kernel) rfl rfl (Nat.le_of_ble_eq_true rfl) hT ?_
  intro p e s m args below meth c Q C0 hend
  unfold f_X1_copyFrom at hf
  refine r_aload_n C0 (kk := 0) 0 rfl dX1_copyFrom_0 ?_
  refine r_aload_n C0 (kk := 1) 1 rfl dX1_copyFrom_1 ?_
  refine r_get1 C0 h1 0 (by decide) (v := .int (M (a1 + 0))) rfl rfl w1_99 dX1_copyFrom_2 ?_
  refine r_put1 C0 h0 0 rfl rfl w1_99 rfl rfl rfl dX1_copyFrom_5 ?_
  refine r_aload_n C0 (kk := 0) 0 rfl dX1_copyFrom_8 ?_
  refine r_aload_n C0 (kk := 1) 1 rfl dX1_copyFrom_9 ?_
  refine r_get1 C0 h1 1 (by decide) (v := .int ((upd M (a0 + 0) (M (a1 + 0))) (a1 + 1))) rfl rfl w1_102 dX1_copyFrom_10 ?_
  refine r_put1 C0 h0 1 rfl rfl w1_102 rfl rfl rfl dX1_copyFrom_13 ?_
  refine r_aload_n C0 (kk := 0) 0 rfl dX1_copyFrom_16 ?_
  refine r_aload_n C0 (kk := 1) 1 rfl dX1_copyFrom_17 ?_
  refine r_get1 C0 h1 2 (by decide) (v := .int ((upd (upd M (a0 + 0) (M (a1 + 0))) (a0 + 1) ((upd M (a0 + 0) (M (a1 + 0))) (a1 + 1))) (a1 + 2))) rfl rfl w1_104 dX1_copyFrom_18 ?_
  refine r_put1 C0 h0 2 rfl rfl w1_104 rfl rfl rfl dX1_copyFrom_21 ?_
  refine r_aload_n C0 (kk := 0) 0 rfl dX1_copyFrom_24 ?_
  refine r_aload_n C0 (kk := 1) 1 rfl dX1_copyFrom_25 ?_
  refine r_get1 C0 h1 3 (by decide) (v := .int ((upd (upd (upd M (a0 + 0) (M (a1 + 0))) (a0 + 1) ((upd M (a0 + 0) (M (a1 + 0))) (a1 + 1))) (a0 + 2) ((upd (upd M (a0 + 0) (M (a1 + 0))) (a0 + 1) ((upd M (a0 + 0) (M (a1 + 0))) (a1 + 1))) (a1 + 2))) (a1 + 3))) rfl rfl w1_106 dX1_copyFrom_26 ?_
  refine r_put1 C0 h0 3 rfl rfl w1_106 rfl rfl rfl dX1_copyFrom_29 ?_
  refine r_aload_n C0 (kk := 0) 0 rfl dX1_copyFrom_32 ?_
  refine r_aload_n C0 (kk := 1) 1 rfl dX1_copyFrom_33 ?_
  refine r_get1 C0 h1 4 (by decide) (v := .int ((upd (upd (upd (upd M (a0 + 0) (M (a1 + 0))) (a0 + 1) ((upd M (a0 + 0) (M (a1 + 0))) (a1 + 1))) (a0 + 2) ((upd (upd M (a0 + 0) (M (a1 + 0))) (a0 + 1) ((upd M (a0 + 0) (M (a1 + 0))) (a1 + 1))) (a1 + 2))) (a0 + 3) ((upd (upd (upd M (a0 + 0) (M (a1 + 0))) (a0 + 1) ((upd M (a0 + 0) (M (a1 + 0))) (a1 + 1))) (a0 + 2) ((upd (upd M (a0 + 0) (M (a1 + 0))) (a0 + 1) ((upd M (a0 + 0) (M (a1 + 0))) (a1 + 1))) (a1 + 2))) (a1 + 3))) (a1 + 4))) rfl rfl w1_108 dX1_copyFrom_34 ?_
  refine r_put1 C0 h0 4 rfl rfl w1_108 rfl rfl rfl dX1_copyFrom_37 ?_
  refine r_aload_n C0 (kk := 0) 0 rfl dX1_copyFrom_40 ?_
  refine r_aload_n C0 (kk := 1) 1 rfl dX1_copyFrom_41 ?_
  refine r_get1 C0 h1 5 (by decide) (v := .int ((upd (upd (upd (upd (upd M (a0 + 0) (M (a1 + 0))) (a0 + 1) ((upd M (a0 + 0) (M (a1 + 0))) (a1 + 1))) (a0 + 2) ((upd (upd M (a0 + 0) (M (a1 + 0))) (a0 + 1) ((upd M (a0 + 0) (M (a1 + 0))) (a1 + 1))) (a1 + 2))) (a0 + 3) ((upd (upd (upd M (a0 + 0) (M (a1 + 0))) (a0 + 1) ((upd M (a0 + 0) (M (a1 + 0))) (a1 + 1))) (a0 + 2) ((upd (upd M (a0 + 0) (M (a1 + 0))) (a0 + 1) ((upd M (a0 + 0) (M (a1 + 0))) (a1 + 1))) (a1 + 2))) (a1 + 3))) (a0 + 4) ((upd (upd (upd (upd M (a0 + 0) (M (a1 + 0))) (a0 + 1) ((upd M (a0 + 0) (M (a1 + 0))) (a1 + 1))) (a0 + 2) ((upd (upd M (a0 + 0) (M (a1 + 0))) (a0 + 1) ((upd M (a0 + 0) (M (a1 + 0))) (a1 + 1))) (a1 + 2))) (a0 + 3) ((upd (upd (upd M (a0 + 0) (M (a1 + 0))) (a0 + 1) ((upd M (a0 + 0) (M (a1 + 0))) (a1 + 1))) (a0 + 2) ((upd (upd M (a0 + 0) (M (a1 + 0))) (a0 + 1) ((upd M (a0 + 0) (M (a1 + 0))) (a1 + 1))) (a1 + 2))) (a1 + 3))) (a1 + 4))) (a1 + 5))) rfl rfl w1_111 dX1_copyFrom_42 ?_
  refine r_put1 C0 h0 5 rfl rfl w1_111 rfl rfl rfl dX1_copyFrom_45 ?_
  refine r_aload_n C0 (kk := 0) 0 rfl dX1_copyFrom_48 ?_
  refine r_aload_n C0 (kk := 1) 1 rfl dX1_copyFrom_49 ?_
  refine r_get1 C0 h1 6 (by decide) (v := .int ((upd (upd (upd (upd (upd (upd M (a0 + 0) (M (a1 + 0))) (a0 + 1) ((upd M (a0 + 0) (M (a1 + 0))) (a1 + 1))) (a0 + 2) ((upd (upd M (a0 + 0) (M (a1 + 0))) (a0 + 1) ((upd M (a0 + 0) (M (a1 + 0))) (a1 + 1))) (a1 + 2))) (a0 + 3) ((upd (upd (upd M (a0 + 0) (M (a1 + 0))) (a0 + 1) ((upd M (a0 + 0) (M (a1 + 0))) (a1 + 1))) (a0 + 2) ((upd (upd M (a0 + 0) (M (a1 + 0))) (a0 + 1) ((upd M (a0 + 0) (M (a1 + 0))) (a1 + 1))) (a1 + 2))) (a1 + 3))) (a0 + 4) ((upd (upd (upd (upd M (a0 + 0) (M (a1 + 0))) (a0 + 1) ((upd M (a0 + 0) (M (a1 + 0))) (a1 + 1))) (a0 + 2) ((upd (upd M (a0 + 0) (M (a1 + 0))) (a0 + 1) ((upd M (a0 + 0) (M (a1 + 0))) (a1 + 1))) (a1 + 2))) (a0 + 3) ((upd (upd (upd M (a0 + 0) (M (a1 + 0))) (a0 + 1) ((upd M (a0 + 0) (M (a1 + 0))) (a1 + 1))) (a0 + 2) ((upd (upd M (a0 + 0) (M (a1 + 0))) (a0 + 1) ((upd M (a0 + 0) (M (a1 + 0))) (a1 + 1))) (a1 + 2))) (a1 + 3))) (a1 + 4))) (a0 + 5) ((upd (upd (upd (upd (upd M (a0 + 0) (M (a1 + 0))) (a0 + 1) ((upd M (a0 + 0) (M (a1 + 0))) (a1 + 1))) (a0 + 2) ((upd (upd M (a0 + 0) (M (a1 + 0))) (a0 + 1) ((upd M (a0 + 0) (M (a1 + 0))) (a1 + 1))) (a1 + 2))) (a0 + 3) ((upd (upd (upd M (a0 + 0) (M (a1 + 0))) (a0 + 1) ((upd M (a0 + 0) (M (a1 + 0))) (a1 + 1))) (a0 + 2) ((upd (upd M (a0 + 0) (M (a1 + 0))) (a0 + 1) ((upd M (a0 + 0) (M (a1 + 0))) (a1 + 1))) (a1 + 2))) (a1 + 3))) (a0 + 4) ((upd (upd (upd (upd M (a0 + 0) (M (a1 + 0))) (a0 + 1) ((upd M (a0 + 0) (M (a1 + 0))) (a1 + 1))) (a0 + 2) ((upd (upd M (a0 + 0) (M (a1 + 0))) (a0 + 1) ((upd M (a0 + 0) (M (a1 + 0))) (a1 + 1))) (a1 + 2))) (a0 + 3) ((upd (upd (upd M (a0 + 0) (M (a1 + 0))) (a0 + 1) ((upd M (a0 + 0) (M (a1 + 0))) (a1 + 1))) (a0 + 2) ((upd (upd M (a0 + 0) (M (a1 + 0))) (a0 + 1) ((upd M (a0 + 0) (M (a1 + 0))) (a1 + 1))) (a1 + 2))) (a1 + 3))) (a1 + 4))) (a1 + 5))) (a1 + 6))) rfl rfl w1_113 dX1_copyFrom_50 ?_
  refine r_put1 C0 h0 6 rfl rfl w1_113 rfl rfl rfl dX1_copyFrom_53 ?_
  refine r_aload_n C0 (kk := 0) 0 rfl dX1_copyFrom_56 ?_
  refine r_aload_n C0 (kk := 1) 1 rfl dX1_copyFrom_57 ?_
  refine r_get1 C0 h1 7 (by decide) (v := .int ((upd (upd (upd (upd (upd (upd (upd M (a0 + 0) (M (a1 + 0))) (a0 + 1) ((upd M (a0 + 0) (M (a1 + 0))) (a1 + 1))) (a0 + 2) ((upd (upd M (a0 + 0) (M (a1 + 0))) (a0 + 1) ((upd M (a0 + 0) (M (a1 + 0))) (a1 + 1))) (a1 + 2))) (a0 + 3) ((upd (upd (upd M (a0 + 0) (M (a1 + 0))) (a0 + 1) ((upd M (a0 + 0) (M (a1 + 0))) (a1 + 1))) (a0 + 2) ((upd (upd M (a0 + 0) (M (a1 + 0))) (a0 + 1) ((upd M (a0 + 0) (M (a1 + 0))) (a1 + 1))) (a1 + 2))) (a1 + 3))) (a0 + 4) ((upd (upd (upd (upd M (a0 + 0) (M (a1 + 0))) (a0 + 1) ((upd M (a0 + 0) (M (a1 + 0))) (a1 + 1))) (a0 + 2) ((upd (upd M (a0 + 0) (M (a1 + 0))) (a0 + 1) ((upd M (a0 + 0) (M (a1 + 0))) (a1 + 1))) (a1 + 2))) (a0 + 3) ((upd (upd (upd M (a0 + 0) (M (a1 + 0))) (a0 + 1) ((upd M (a0 + 0) (M (a1 + 0))) (a1 + 1))) (a0 + 2) ((upd (upd M (a0 + 0) (M (a1 + 0))) (a0 + 1) ((upd M (a0 + 0) (M (a1 + 0))) (a1 + 1))) (a1 + 2))) (a1 + 3))) (a1 + 4))) (a0 + 5) ((upd (upd (upd (upd (upd M (a0 + 0) (M (a1 + 0))) (a0 + 1) ((upd M (a0 + 0) (M (a1 + 0))) (a1 + 1))) (a0 + 2) ((upd (upd M (a0 + 0) (M (a1 + 0))) (a0 + 1) ((upd M (a0 + 0) (M (a1 + 0))) (a1 + 1))) (a1 + 2))) (a0 + 3) ((upd (upd (upd M (a0 + 0) (M (a1 + 0))) (a0 + 1) ((upd M (a0 + 0) (M (a1 + 0))) (a1 + 1))) (a0 + 2) ((upd (upd M (a0 + 0) (M (a1 + 0))) (a0 + 1) ((upd M (a0 + 0) (M (a1 + 0))) (a1 + 1))) (a1 + 2))) (a1 + 3))) (a0 + 4) ((upd (upd (upd (upd M (a0 + 0) (M (a1 + 0))) (a0 + 1) ((upd M (a0 + 0) (M (a1 + 0))) (a1 + 1))) (a0 + 2) ((upd (upd M (a0 + 0) (M (a1 + 0))) (a0 + 1) ((upd M (a0 + 0) (M (a1 + 0))) (a1 + 1))) (a1 + 2))) (a0 + 3) ((upd (upd (upd M (a0 + 0) (M (a1 + 0))) (a0 + 1) ((upd M (a0 + 0) (M (a1 + 0))) (a1 + 1))) (a0 + 2) ((upd (upd M (a0 + 0) (M (a1 + 0))) (a0 + 1) ((upd M (a0 + 0) (M (a1 + 0))) (a1 + 1))) (a1 + 2))) (a1 + 3))) (a1 + 4))) (a1 + 5))) (a0 + 6) ((upd (upd (upd (upd (upd (upd M (a0 + 0) (M (a1 + 0))) (a0 + 1) ((upd M (a0 + 0) (M (a1 + 0))) (a1 + 1))) (a0 + 2) ((upd (upd M (a0 + 0) (M (a1 + 0))) (a0 + 1) ((upd M (a0 + 0) (M (a1 + 0))) (a1 + 1))) (a1 + 2))) (a0 + 3) ((upd (upd (upd M (a0 + 0) (M (a1 + 0))) (a0 + 1) ((upd M (a0 + 0) (M (a1 + 0))) (a1 + 1))) (a0 + 2) ((upd (upd M (a0 + 0) (M (a1 + 0))) (a0 + 1) ((upd M (a0 + 0) (M (a1 + 0))) (a1 + 1))) (a1 + 2))) (a1 + 3))) (a0 + 4) ((upd (upd (upd (upd M (a0 + 0) (M (a1 + 0))) (a0 + 1) ((upd M (a0 + 0) (M (a1 + 0))) (a1 + 1))) (a0 + 2) ((upd (upd M (a0 + 0) (M (a1 + 0))) (a0 + 1) ((upd M (a0 + 0) (M (a1 + 0))) (a1 + 1))) (a1 + 2))) (a0 + 3) ((upd (upd (upd M (a0 + 0) (M (a1 + 0))) (a0 + 1) ((upd M (a0 + 0) (M (a1 + 0))) (a1 + 1))) (a0 + 2) ((upd (upd M (a0 + 0) (M (a1 + 0))) (a0 + 1) ((upd M (a0 + 0) (M (a1 + 0))) (a1 + 1))) (a1 + 2))) (a1 + 3))) (a1 + 4))) (a0 + 5) ((upd (upd (upd (upd (upd M (a0 + 0) (M (a1 + 0))) (a0 + 1) ((upd M (a0 + 0) (M (a1 + 0))) (a1 + 1))) (a0 + 2) ((upd (upd M (a0 + 0) (M (a1 + 0))) (a0 + 1) ((upd M (a0 + 0) (M (a1 + 0))) (a1 + 1))) (a1 + 2))) (a0 + 3) ((upd (upd (upd M (a0 + 0) (M (a1 + 0))) (a0 + 1) ((upd M (a0 + 0) (M (a1 + 0))) (a1 + 1))) (a0 + 2) ((upd (upd M (a0 + 0) (M (a1 + 0))) (a0 + 1) ((upd M (a0 + 0) (M (a1 + 0))) (a1 + 1))) (a1 + 2))) (a1 + 3))) (a0 + 4) ((upd (upd (upd (upd M (a0 + 0) (M (a1 + 0))) (a0 + 1) ((upd M (a0 + 0) (M (a1 + 0))) (a1 + 1))) (a0 + 2) ((upd (upd M (a0 + 0) (M (a1 + 0))) (a0 + 1) ((upd M (a0 + 0) (M (a1 + 0))) (a1 + 1))) (a1 + 2))) (a0 + 3) ((upd (upd (upd M (a0 + 0) (M (a1 + 0))) (a0 + 1) ((upd M (a0 + 0) (M (a1 + 0))) (a1 + 1))) (a0 + 2) ((upd (upd M (a0 + 0) (M (a1 + 0))) (a0 + 1) ((upd M (a0 + 0) (M (a1 + 0))) (a1 + 1))) (a1 + 2))) (a1 + 3))) (a1 + 4))) (a1 + 5))) (a1 + 6))) (a1 + 7))) rfl rfl w1_116 dX1_copyFrom_58 ?_
  refine r_put1 C0 h0 7 rfl rfl w1_116 rfl rfl rfl dX1_copyFrom_61 ?_
  exact hend hf dX1_copyFrom_64
theorem dX6_forgetChanges_0 : decode cX6_forgetChanges 0 = .ok (.aload_n 0, 1) := by decide +kernel
theorem dX6_forgetChanges_1 : decode cX6_forgetChanges 1 = .ok (.iconst 0, 1) := by decide +kernel
theorem dX6_forgetChanges_2 : decode cX6_forgetChanges 2 = .ok (.putfield 318, 3) := by decide +kernel
theorem dX6_forgetChanges_5 : decode cX6_forgetChanges 5 = .ok (.aload_n 0, 1) := by decide +kernel
theorem dX6_forgetChanges_6 : decode cX6_forgetChanges 6 = .ok (.iconst 0, 1) := by decide +kernel
theorem dX6_forgetChanges_7 : decode cX6_forgetChanges 7 = .ok (.putfield 119, 3) := by decide +kernel
theorem dX6_forgetChanges_10 : decode cX6_forgetChanges 10 = .ok (.return_, 1) := by decide +kernel
theorem hd_X6_forgetChanges : yX6_forgetChanges.cls = RX6 ∧ yX6_forgetChanges.cls ≠ "java/lang/invoke/MethodHandle" ∧ yX6_forgetChanges.cls ≠ "java/lang/invoke/VarHandle" ∧ (parseMethodDescriptor yX6_forgetChanges.desc).map (fun d => d.parameters.length) = some 0 := by decide +kernel
set_option maxRecDepth 100000 in
set_option maxHeartbeats 4000000 in
theorem c_X6_forgetChanges (l : Launch) (D : va_G) (g : xG) (tb : List xQ) (hT : x_T g tb)  (h0 : x_fb tb) {M M' : xM} (hf : f_X6_forgetChanges  M = some M') :
    cV l D g tb yX6_forgetChanges cX6_forgetChanges 1 ({ frames := 0, cells := 0, slots := 0, locals := 0 } : Room) [.ref (g.1 4 1664)] M M' := by
  refine x_startV (own := RX6) (by decide +kernel) rfl rfl (Nat.le_of_ble_eq_true rfl) hT ?_
  intro p e s m args below meth c Q C0 hend
  unfold f_X6_forgetChanges at hf
  refine r_aload_n C0 (kk := 0) 0 rfl dX6_forgetChanges_0 ?_
  refine r_iconst C0 (v := 0) dX6_forgetChanges_1 rfl ?_
  refine r_put4 C0 h0.1 5 rfl rfl w3_107 rfl rfl rfl dX6_forgetChanges_2 ?_
  refine r_aload_n C0 (kk := 0) 0 rfl dX6_forgetChanges_5 ?_
  refine r_iconst C0 (v := 0) dX6_forgetChanges_6 rfl ?_
  refine r_put4 C0 h0.1 6 rfl rfl w3_108 rfl rfl rfl dX6_forgetChanges_7 ?_
  exact hend hf dX6_forgetChanges_10
theorem dX6_bytesIn_0 : decode cX6_bytesIn 0 = .ok (.iconst 0, 1) := by decide +kernel
theorem dX6_bytesIn_1 : decode cX6_bytesIn 1 = .ok (.istore_n 1, 1) := by decide +kernel
theorem dX6_bytesIn_2 : decode cX6_bytesIn 2 = .ok (.bipush 24, 2) := by decide +kernel
theorem dX6_bytesIn_4 : decode cX6_bytesIn 4 = .ok (.istore_n 2, 1) := by decide +kernel
theorem dX6_bytesIn_5 : decode cX6_bytesIn 5 = .ok (.iload_n 2, 1) := by decide +kernel
theorem dX6_bytesIn_6 : decode cX6_bytesIn 6 = .ok (.ifCond .lt 22, 3) := by decide +kernel
theorem dX6_bytesIn_9 : decode cX6_bytesIn 9 = .ok (.iload_n 0, 1) := by decide +kernel
theorem dX6_bytesIn_10 : decode cX6_bytesIn 10 = .ok (.iload_n 2, 1) := by decide +kernel
theorem dX6_bytesIn_11 : decode cX6_bytesIn 11 = .ok (.iushr, 1) := by decide +kernel
theorem dX6_bytesIn_12 : decode cX6_bytesIn 12 = .ok (.sipush 255, 3) := by decide +kernel
theorem dX6_bytesIn_15 : decode cX6_bytesIn 15 = .ok (.iand, 1) := by decide +kernel
theorem dX6_bytesIn_16 : decode cX6_bytesIn 16 = .ok (.ifCond .eq 6, 3) := by decide +kernel
theorem dX6_bytesIn_19 : decode cX6_bytesIn 19 = .ok (.iinc 1 1, 3) := by decide +kernel
theorem dX6_bytesIn_22 : decode cX6_bytesIn 22 = .ok (.iinc 2 (-8), 3) := by decide +kernel
theorem dX6_bytesIn_25 : decode cX6_bytesIn 25 = .ok (.goto (-20), 3) := by decide +kernel
theorem dX6_bytesIn_28 : decode cX6_bytesIn 28 = .ok (.iload_n 1, 1) := by decide +kernel
theorem dX6_bytesIn_29 : decode cX6_bytesIn 29 = .ok (.ireturn, 1) := by decide +kernel
theorem hd_X6_bytesIn : yX6_bytesIn.cls ≠ "java/lang/invoke/MethodHandle" ∧ yX6_bytesIn.cls ≠ "java/lang/invoke/VarHandle" ∧ (parseMethodDescriptor yX6_bytesIn.desc).map (fun d => d.parameters.length) = some 1 := by decide +kernel
set_option maxRecDepth 100000 in
set_option maxHeartbeats 4000000 in
theorem c_X6_bytesIn (l : Launch) (D : va_G) (g : xG) (tb : List xQ) (hT : x_T g tb) {a0 : Int32}  {M : xM} {r : Int32} {M' : xM} (hf : f_X6_bytesIn a0 M = some (r, M')) :
    cI l D g tb yX6_bytesIn cX6_bytesIn 3 .int ({ frames := 0, cells := 0, slots := 0, locals := 0 } : Room) [.int a0] M r M' := by
  refine x_startI (own := RX6) (by decide +kernel) rfl rfl (Nat.le_of_ble_eq_true rfl) hT ?_
  intro p e s m args below meth c Q C0 hend
  have B5 : ∀ (k5 : Int32 → Int32 → xM → Option (Int32 × xM)) (hk5 : ∀ (v1 : Int32) (v2 : Int32)  (M : xM), k5 v1 v2 M = some (r, M') → WW p l e ({ frames := 0, cells := 0, slots := 0, locals := 0 } : Room) s m args below meth c 0 0 Q 3 D g tb 5 [(0, .int a0), (1, .int v1), (2, .int v2)] [] M), ∀ (v1 : Int32) (v2 : Int32)  (M : xM), fb_X6_bytesIn_c5 k5 a0 v1 v2 M = some (r, M') → WW p l e ({ frames := 0, cells := 0, slots := 0, locals := 0 } : Room) s m args below meth c 0 0 Q 3 D g tb 5 [(0, .int a0), (1, .int v1), (2, .int v2)] [] M := by
    intro k5 hk5 v1 v2  M hf
    unfold fb_X6_bytesIn_c5 at hf
    refine r_iload_n C0 (kk := 2) 2 rfl dX6_bytesIn_5 ?_
    refine r_if_lt C0 (tgt := 28) (by decide) dX6_bytesIn_6 (fun q1 => ?_) (fun q1 => ?_)
    · have hf := ie_t hf q1
      refine r_iload_n C0 (kk := 1) 1 rfl dX6_bytesIn_28 ?_
      exact hend hf dX6_bytesIn_29
    · have hf := ie_f hf q1
      refine r_iload_n C0 (kk := 0) 0 rfl dX6_bytesIn_9 ?_
      refine r_iload_n C0 (kk := 2) 2 rfl dX6_bytesIn_10 ?_
      refine r_iushr C0 dX6_bytesIn_11 ?_
      refine r_sipush C0 (v := 255) dX6_bytesIn_12 rfl ?_
      refine r_iand C0 dX6_bytesIn_15 ?_
      refine r_if_eq C0 (tgt := 22) (by decide) dX6_bytesIn_16 (fun q2 => ?_) (fun q2 => ?_)
      · have hf := ie_t hf q2
        refine r_iincc C0 2 rfl (k0 := (-8)) (by decide) (by decide) (lv2 := [(2, .int (v2 + (-8))), (0, .int a0), (1, .int v1)]) rfl dX6_bytesIn_22 ?_
        refine r_goto C0 (tgt := 5) (by decide) dX6_bytesIn_25 ?_
        refine WW.sub [1, 2, 0] rfl ?_
        exact hk5 _ _   _ hf
      · have hf := ie_f hf q2
        refine r_iincc C0 1 rfl (k0 := 1) (by decide) (by decide) (lv2 := [(1, .int (v1 + 1)), (0, .int a0), (2, .int v2)]) rfl dX6_bytesIn_19 ?_
        refine r_iincc C0 2 rfl (k0 := (-8)) (by decide) (by decide) (lv2 := [(2, .int (v2 + (-8))), (1, .int (v1 + 1)), (0, .int a0)]) rfl dX6_bytesIn_22 ?_
        refine r_goto C0 (tgt := 5) (by decide) dX6_bytesIn_25 ?_
        refine WW.sub [2, 1, 0] rfl ?_
        exact hk5 _ _   _ hf
  have L5 : ∀ (v1 : Int32) (v2 : Int32)  (M : xM), f_X6_bytesIn_c5  a0 v1 v2 M = some (r, M') → WW p l e ({ frames := 0, cells := 0, slots := 0, locals := 0 } : Room) s m args below meth c 0 0 Q 3 D g tb 5 [(0, .int a0), (1, .int v1), (2, .int v2)] [] M := lp_ind (P := fun f => ∀ (v1 : Int32) (v2 : Int32)  (M : xM), f v1 v2 M = some (r, M') → WW p l e ({ frames := 0, cells := 0, slots := 0, locals := 0 } : Room) s m args below meth c 0 0 Q 3 D g tb 5 [(0, .int a0), (1, .int v1), (2, .int v2)] [] M) (fun _ _ _ h => none_ne h) (fun f hf => B5 f hf) FU
  unfold f_X6_bytesIn at hf
  refine r_iconst C0 (v := 0) dX6_bytesIn_0 rfl ?_
  refine r_istore_n C0 (kk := 1) (lv2 := [(1, .int 0), (0, .int a0)]) (by decide) rfl dX6_bytesIn_1 ?_
  refine r_bipush C0 (v := 24) dX6_bytesIn_2 rfl ?_
  refine r_istore_n C0 (kk := 2) (lv2 := [(2, .int 24), (1, .int 0), (0, .int a0)]) (by decide) rfl dX6_bytesIn_4 ?_
  refine WW.sub [2, 1, 0] rfl ?_
  exact L5   _ _   _ hf
theorem dX3_appendWord_0 : decode cX3_appendWord 0 = .ok (.bipush 24, 2) := by decide +kernel
theorem dX3_appendWord_2 : decode cX3_appendWord 2 = .ok (.istore_n 2, 1) := by decide +kernel
theorem dX3_appendWord_3 : decode cX3_appendWord 3 = .ok (.iload_n 2, 1) := by decide +kernel
theorem dX3_appendWord_4 : decode cX3_appendWord 4 = .ok (.ifCond .lt 26, 3) := by decide +kernel
theorem dX3_appendWord_7 : decode cX3_appendWord 7 = .ok (.iload_n 1, 1) := by decide +kernel
theorem dX3_appendWord_8 : decode cX3_appendWord 8 = .ok (.iload_n 2, 1) := by decide +kernel
theorem dX3_appendWord_9 : decode cX3_appendWord 9 = .ok (.iushr, 1) := by decide +kernel
theorem dX3_appendWord_10 : decode cX3_appendWord 10 = .ok (.sipush 255, 3) := by decide +kernel
theorem dX3_appendWord_13 : decode cX3_appendWord 13 = .ok (.iand, 1) := by decide +kernel
theorem dX3_appendWord_14 : decode cX3_appendWord 14 = .ok (.istore_n 3, 1) := by decide +kernel
theorem dX3_appendWord_15 : decode cX3_appendWord 15 = .ok (.iload_n 3, 1) := by decide +kernel
theorem dX3_appendWord_16 : decode cX3_appendWord 16 = .ok (.ifCond .eq 8, 3) := by decide +kernel
theorem dX3_appendWord_19 : decode cX3_appendWord 19 = .ok (.aload_n 0, 1) := by decide +kernel
theorem dX3_appendWord_20 : decode cX3_appendWord 20 = .ok (.iload_n 3, 1) := by decide +kernel
theorem dX3_appendWord_21 : decode cX3_appendWord 21 = .ok (.invokevirtual 33, 3) := by decide +kernel
theorem dX3_appendWord_24 : decode cX3_appendWord 24 = .ok (.iinc 2 (-8), 3) := by decide +kernel
theorem dX3_appendWord_27 : decode cX3_appendWord 27 = .ok (.goto (-24), 3) := by decide +kernel
theorem dX3_appendWord_30 : decode cX3_appendWord 30 = .ok (.return_, 1) := by decide +kernel
theorem hd_X3_appendWord : yX3_appendWord.cls = RX3 ∧ yX3_appendWord.cls ≠ "java/lang/invoke/MethodHandle" ∧ yX3_appendWord.cls ≠ "java/lang/invoke/VarHandle" ∧ (parseMethodDescriptor yX3_appendWord.desc).map (fun d => d.parameters.length) = some 1 := by decide +kernel
set_option maxRecDepth 100000 in
set_option maxHeartbeats 4000000 in
theorem c_X3_appendWord (l : Launch) (D : va_G) (g : xG) (tb : List xQ) (hT : x_T g tb) {a1 : Int32} (h0 : x_rd tb) {M M' : xM} (hf : f_X3_appendWord a1 M = some M') :
    cV l D g tb yX3_appendWord cX3_appendWord 4 ({ frames := 1, cells := 0, slots := 0, locals := 21 } : Room) [.ref (g.1 3 1777), .int a1] M M' := by
  refine x_startV (own := RX3) (by decide +kernel) rfl rfl (Nat.le_of_ble_eq_true rfl) hT ?_
  intro p e s m args below meth c Q C0 hend
  have B3 : ∀ (k3 : Int32 → xM → Option xM) (hk3 : ∀ (v2 : Int32)  (M : xM), k3 v2 M = some M' → WW p l e ({ frames := 1, cells := 0, slots := 0, locals := 21 } : Room) s m args below meth c 0 0 Q 4 D g tb 3 [(0, .ref (g.1 3 1777)), (1, .int a1), (2, .int v2)] [] M), ∀ (v2 : Int32)  (M : xM), fb_X3_appendWord_c3 k3 a1 v2 M = some M' → WW p l e ({ frames := 1, cells := 0, slots := 0, locals := 21 } : Room) s m args below meth c 0 0 Q 4 D g tb 3 [(0, .ref (g.1 3 1777)), (1, .int a1), (2, .int v2)] [] M := by
    intro k3 hk3 v2  M hf
    unfold fb_X3_appendWord_c3 at hf
    refine r_iload_n C0 (kk := 2) 2 rfl dX3_appendWord_3 ?_
    refine r_if_lt C0 (tgt := 30) (by decide) dX3_appendWord_4 (fun q1 => ?_) (fun q1 => ?_)
    · have hf := ie_t hf q1
      exact hend hf dX3_appendWord_30
    · have hf := ie_f hf q1
      refine r_iload_n C0 (kk := 1) 1 rfl dX3_appendWord_7 ?_
      refine r_iload_n C0 (kk := 2) 2 rfl dX3_appendWord_8 ?_
      refine r_iushr C0 dX3_appendWord_9 ?_
      refine r_sipush C0 (v := 255) dX3_appendWord_10 rfl ?_
      refine r_iand C0 dX3_appendWord_13 ?_
      refine r_istore_n C0 (kk := 3) (lv2 := [(3, .int ((iush a1 v2) &&& 255)), (0, .ref (g.1 3 1777)), (1, .int a1), (2, .int v2)]) (by decide) rfl dX3_appendWord_14 ?_
      refine r_iload_n C0 (kk := 3) 0 rfl dX3_appendWord_15 ?_
      refine r_if_eq C0 (tgt := 24) (by decide) dX3_appendWord_16 (fun q2 => ?_) (fun q2 => ?_)
      · have hf := ie_t hf q2
        refine r_iincc C0 3 rfl (k0 := (-8)) (by decide) (by decide) (lv2 := [(2, .int (v2 + (-8))), (3, .int ((iush a1 v2) &&& 255)), (0, .ref (g.1 3 1777)), (1, .int a1)]) rfl dX3_appendWord_24 ?_
        refine r_goto C0 (tgt := 3) (by decide) dX3_appendWord_27 ?_
        refine WW.sub [2, 3, 0] rfl ?_
        exact hk3 _   _ hf
      · have hf := ie_f hf q2
        refine r_aload_n C0 (kk := 0) 1 rfl dX3_appendWord_19 ?_
        refine r_iload_n C0 (kk := 3) 0 rfl dX3_appendWord_20 ?_
        obtain ⟨M4, hc3, hf⟩ := bd_e hf
        refine r_callVv C0 (As := [.int ((iush a1 v2) &&& 255)]) (rest := []) (c_X3_appendByte l D g tb hT h0 hc3) w2_53 w2_55 wp1_0 w1_5 w2_56 (x_rec3 C0 h0.1) hd_X3_appendByte rfl ⟨rfl, rfl⟩ ⟨Nat.le_of_ble_eq_true rfl, Nat.le_of_ble_eq_true rfl⟩ (by decide) (by decide) rfl (Nat.le_of_ble_eq_true rfl) dX3_appendWord_21 ?_
        refine r_iincc C0 3 rfl (k0 := (-8)) (by decide) (by decide) (lv2 := [(2, .int (v2 + (-8))), (3, .int ((iush a1 v2) &&& 255)), (0, .ref (g.1 3 1777)), (1, .int a1)]) rfl dX3_appendWord_24 ?_
        refine r_goto C0 (tgt := 3) (by decide) dX3_appendWord_27 ?_
        refine WW.sub [2, 3, 0] rfl ?_
        exact hk3 _   _ hf
  have L3 : ∀ (v2 : Int32)  (M : xM), f_X3_appendWord_c3  a1 v2 M = some M' → WW p l e ({ frames := 1, cells := 0, slots := 0, locals := 21 } : Room) s m args below meth c 0 0 Q 4 D g tb 3 [(0, .ref (g.1 3 1777)), (1, .int a1), (2, .int v2)] [] M := lp_ind (P := fun f => ∀ (v2 : Int32)  (M : xM), f v2 M = some M' → WW p l e ({ frames := 1, cells := 0, slots := 0, locals := 21 } : Room) s m args below meth c 0 0 Q 4 D g tb 3 [(0, .ref (g.1 3 1777)), (1, .int a1), (2, .int v2)] [] M) (fun _ _ h => none_ne h) (fun f hf => B3 f hf) FU
  unfold f_X3_appendWord at hf
  refine r_bipush C0 (v := 24) dX3_appendWord_0 rfl ?_
  refine r_istore_n C0 (kk := 2) (lv2 := [(2, .int 24), (0, .ref (g.1 3 1777)), (1, .int a1)]) (by decide) rfl dX3_appendWord_2 ?_
  refine WW.sub [1, 2, 0] rfl ?_
  exact L3   _   _ hf
theorem dX6_errorCode_0 : decode cX6_errorCode 0 = .ok (.aload_n 0, 1) := by decide +kernel
theorem dX6_errorCode_1 : decode cX6_errorCode 1 = .ok (.getfield 25, 3) := by decide +kernel
theorem dX6_errorCode_4 : decode cX6_errorCode 4 = .ok (.getfield 86, 3) := by decide +kernel
theorem dX6_errorCode_7 : decode cX6_errorCode 7 = .ok (.ireturn, 1) := by decide +kernel
theorem hd_X6_errorCode : yX6_errorCode.cls = RX6 ∧ yX6_errorCode.cls ≠ "java/lang/invoke/MethodHandle" ∧ yX6_errorCode.cls ≠ "java/lang/invoke/VarHandle" ∧ (parseMethodDescriptor yX6_errorCode.desc).map (fun d => d.parameters.length) = some 0 := by decide +kernel
set_option maxRecDepth 100000 in
set_option maxHeartbeats 4000000 in
theorem c_X6_errorCode (l : Launch) (D : va_G) (g : xG) (tb : List xQ) (hT : x_T g tb)  (h0 : x_fb tb) {M : xM} {r : Int32} {M' : xM} (hf : f_X6_errorCode  M = some (r, M')) :
    cI l D g tb yX6_errorCode cX6_errorCode 1 .int ({ frames := 0, cells := 0, slots := 0, locals := 0 } : Room) [.ref (g.1 4 1664)] M r M' := by
  refine x_startI (own := RX6) (by decide +kernel) rfl rfl (Nat.le_of_ble_eq_true rfl) hT ?_
  intro p e s m args below meth c Q C0 hend
  unfold f_X6_errorCode at hf
  refine r_aload_n C0 (kk := 0) 0 rfl dX6_errorCode_0 ?_
  refine r_get4 C0 h0.1 3 (by decide) (v := .ref (g.1 3 1777)) rfl rfl w3_105 dX6_errorCode_1 ?_
  refine r_get3 C0 h0.2.2.2.2.1.1 2 (by decide) (v := .int (M 1779)) rfl rfl w1_206 dX6_errorCode_4 ?_
  exact hend hf dX6_errorCode_7
theorem dX6_errorPosition_0 : decode cX6_errorPosition 0 = .ok (.aload_n 0, 1) := by decide +kernel
theorem dX6_errorPosition_1 : decode cX6_errorPosition 1 = .ok (.getfield 25, 3) := by decide +kernel
theorem dX6_errorPosition_4 : decode cX6_errorPosition 4 = .ok (.getfield 89, 3) := by decide +kernel
theorem dX6_errorPosition_7 : decode cX6_errorPosition 7 = .ok (.ireturn, 1) := by decide +kernel
theorem hd_X6_errorPosition : yX6_errorPosition.cls = RX6 ∧ yX6_errorPosition.cls ≠ "java/lang/invoke/MethodHandle" ∧ yX6_errorPosition.cls ≠ "java/lang/invoke/VarHandle" ∧ (parseMethodDescriptor yX6_errorPosition.desc).map (fun d => d.parameters.length) = some 0 := by decide +kernel
set_option maxRecDepth 100000 in
set_option maxHeartbeats 4000000 in
theorem c_X6_errorPosition (l : Launch) (D : va_G) (g : xG) (tb : List xQ) (hT : x_T g tb)  (h0 : x_fb tb) {M : xM} {r : Int32} {M' : xM} (hf : f_X6_errorPosition  M = some (r, M')) :
    cI l D g tb yX6_errorPosition cX6_errorPosition 1 .int ({ frames := 0, cells := 0, slots := 0, locals := 0 } : Room) [.ref (g.1 4 1664)] M r M' := by
  refine x_startI (own := RX6) (by decide +kernel) rfl rfl (Nat.le_of_ble_eq_true rfl) hT ?_
  intro p e s m args below meth c Q C0 hend
  unfold f_X6_errorPosition at hf
  refine r_aload_n C0 (kk := 0) 0 rfl dX6_errorPosition_0 ?_
  refine r_get4 C0 h0.1 3 (by decide) (v := .ref (g.1 3 1777)) rfl rfl w3_105 dX6_errorPosition_1 ?_
  refine r_get3 C0 h0.2.2.2.2.1.1 3 (by decide) (v := .int (M 1780)) rfl rfl w1_209 dX6_errorPosition_4 ?_
  exact hend hf dX6_errorPosition_7
theorem dX6_minute_0 : decode cX6_minute 0 = .ok (.aload_n 0, 1) := by decide +kernel
theorem dX6_minute_1 : decode cX6_minute 1 = .ok (.getfield 10, 3) := by decide +kernel
theorem dX6_minute_4 : decode cX6_minute 4 = .ok (.getfield 107, 3) := by decide +kernel
theorem dX6_minute_7 : decode cX6_minute 7 = .ok (.ireturn, 1) := by decide +kernel
theorem hd_X6_minute : yX6_minute.cls = RX6 ∧ yX6_minute.cls ≠ "java/lang/invoke/MethodHandle" ∧ yX6_minute.cls ≠ "java/lang/invoke/VarHandle" ∧ (parseMethodDescriptor yX6_minute.desc).map (fun d => d.parameters.length) = some 0 := by decide +kernel
set_option maxRecDepth 100000 in
set_option maxHeartbeats 4000000 in
theorem c_X6_minute (l : Launch) (D : va_G) (g : xG) (tb : List xQ) (hT : x_T g tb)  (h0 : x_fb tb) {M : xM} {r : Int32} {M' : xM} (hf : f_X6_minute  M = some (r, M')) :
    cI l D g tb yX6_minute cX6_minute 1 .int ({ frames := 0, cells := 0, slots := 0, locals := 0 } : Room) [.ref (g.1 4 1664)] M r M' := by
  refine x_startI (own := RX6) (by decide +kernel) rfl rfl (Nat.le_of_ble_eq_true rfl) hT ?_
  intro p e s m args below meth c Q C0 hend
  unfold f_X6_minute at hf
  refine r_aload_n C0 (kk := 0) 0 rfl dX6_minute_0 ?_
  refine r_get4 C0 h0.1 0 (by decide) (v := .ref (g.1 2 0)) rfl rfl w3_102 dX6_minute_1 ?_
  refine r_get2 C0 h0.2.1.1 6 (by decide) (v := .int (M 0)) rfl rfl w1_153 dX6_minute_4 ?_
  exact hend hf dX6_minute_7
theorem dX6_bellPosition_0 : decode cX6_bellPosition 0 = .ok (.aload_n 0, 1) := by decide +kernel
theorem dX6_bellPosition_1 : decode cX6_bellPosition 1 = .ok (.getfield 10, 3) := by decide +kernel
theorem dX6_bellPosition_4 : decode cX6_bellPosition 4 = .ok (.getfield 110, 3) := by decide +kernel
theorem dX6_bellPosition_7 : decode cX6_bellPosition 7 = .ok (.ireturn, 1) := by decide +kernel
theorem hd_X6_bellPosition : yX6_bellPosition.cls = RX6 ∧ yX6_bellPosition.cls ≠ "java/lang/invoke/MethodHandle" ∧ yX6_bellPosition.cls ≠ "java/lang/invoke/VarHandle" ∧ (parseMethodDescriptor yX6_bellPosition.desc).map (fun d => d.parameters.length) = some 0 := by decide +kernel
set_option maxRecDepth 100000 in
set_option maxHeartbeats 4000000 in
theorem c_X6_bellPosition (l : Launch) (D : va_G) (g : xG) (tb : List xQ) (hT : x_T g tb)  (h0 : x_fb tb) {M : xM} {r : Int32} {M' : xM} (hf : f_X6_bellPosition  M = some (r, M')) :
    cI l D g tb yX6_bellPosition cX6_bellPosition 1 .int ({ frames := 0, cells := 0, slots := 0, locals := 0 } : Room) [.ref (g.1 4 1664)] M r M' := by
  refine x_startI (own := RX6) (by decide +kernel) rfl rfl (Nat.le_of_ble_eq_true rfl) hT ?_
  intro p e s m args below meth c Q C0 hend
  unfold f_X6_bellPosition at hf
  refine r_aload_n C0 (kk := 0) 0 rfl dX6_bellPosition_0 ?_
  refine r_get4 C0 h0.1 0 (by decide) (v := .ref (g.1 2 0)) rfl rfl w3_102 dX6_bellPosition_1 ?_
  refine r_get2 C0 h0.2.1.1 7 (by decide) (v := .int (M 7)) rfl rfl w1_155 dX6_bellPosition_4 ?_
  exact hend hf dX6_bellPosition_7
theorem dX6_threshold_0 : decode cX6_threshold 0 = .ok (.aload_n 0, 1) := by decide +kernel
theorem dX6_threshold_1 : decode cX6_threshold 1 = .ok (.getfield 10, 3) := by decide +kernel
theorem dX6_threshold_4 : decode cX6_threshold 4 = .ok (.getfield 113, 3) := by decide +kernel
theorem dX6_threshold_7 : decode cX6_threshold 7 = .ok (.ireturn, 1) := by decide +kernel
theorem hd_X6_threshold : yX6_threshold.cls = RX6 ∧ yX6_threshold.cls ≠ "java/lang/invoke/MethodHandle" ∧ yX6_threshold.cls ≠ "java/lang/invoke/VarHandle" ∧ (parseMethodDescriptor yX6_threshold.desc).map (fun d => d.parameters.length) = some 0 := by decide +kernel
set_option maxRecDepth 100000 in
set_option maxHeartbeats 4000000 in
theorem c_X6_threshold (l : Launch) (D : va_G) (g : xG) (tb : List xQ) (hT : x_T g tb)  (h0 : x_fb tb) {M : xM} {r : Int32} {M' : xM} (hf : f_X6_threshold  M = some (r, M')) :
    cI l D g tb yX6_threshold cX6_threshold 1 .int ({ frames := 0, cells := 0, slots := 0, locals := 0 } : Room) [.ref (g.1 4 1664)] M r M' := by
  refine x_startI (own := RX6) (by decide +kernel) rfl rfl (Nat.le_of_ble_eq_true rfl) hT ?_
  intro p e s m args below meth c Q C0 hend
  unfold f_X6_threshold at hf
  refine r_aload_n C0 (kk := 0) 0 rfl dX6_threshold_0 ?_
  refine r_get4 C0 h0.1 0 (by decide) (v := .ref (g.1 2 0)) rfl rfl w3_102 dX6_threshold_1 ?_
  refine r_get2 C0 h0.2.1.1 8 (by decide) (v := .int (M 5)) rfl rfl w1_157 dX6_threshold_4 ?_
  exact hend hf dX6_threshold_7
theorem dX6_duration_0 : decode cX6_duration 0 = .ok (.aload_n 0, 1) := by decide +kernel
theorem dX6_duration_1 : decode cX6_duration 1 = .ok (.getfield 10, 3) := by decide +kernel
theorem dX6_duration_4 : decode cX6_duration 4 = .ok (.getfield 116, 3) := by decide +kernel
theorem dX6_duration_7 : decode cX6_duration 7 = .ok (.ireturn, 1) := by decide +kernel
theorem hd_X6_duration : yX6_duration.cls = RX6 ∧ yX6_duration.cls ≠ "java/lang/invoke/MethodHandle" ∧ yX6_duration.cls ≠ "java/lang/invoke/VarHandle" ∧ (parseMethodDescriptor yX6_duration.desc).map (fun d => d.parameters.length) = some 0 := by decide +kernel
set_option maxRecDepth 100000 in
set_option maxHeartbeats 4000000 in
theorem c_X6_duration (l : Launch) (D : va_G) (g : xG) (tb : List xQ) (hT : x_T g tb)  (h0 : x_fb tb) {M : xM} {r : Int32} {M' : xM} (hf : f_X6_duration  M = some (r, M')) :
    cI l D g tb yX6_duration cX6_duration 1 .int ({ frames := 0, cells := 0, slots := 0, locals := 0 } : Room) [.ref (g.1 4 1664)] M r M' := by
  refine x_startI (own := RX6) (by decide +kernel) rfl rfl (Nat.le_of_ble_eq_true rfl) hT ?_
  intro p e s m args below meth c Q C0 hend
  unfold f_X6_duration at hf
  refine r_aload_n C0 (kk := 0) 0 rfl dX6_duration_0 ?_
  refine r_get4 C0 h0.1 0 (by decide) (v := .ref (g.1 2 0)) rfl rfl w3_102 dX6_duration_1 ?_
  refine r_get2 C0 h0.2.1.1 9 (by decide) (v := .int (M 6)) rfl rfl w1_159 dX6_duration_4 ?_
  exact hend hf dX6_duration_7
theorem dX6_undoCount_0 : decode cX6_undoCount 0 = .ok (.aload_n 0, 1) := by decide +kernel
theorem dX6_undoCount_1 : decode cX6_undoCount 1 = .ok (.getfield 119, 3) := by decide +kernel
theorem dX6_undoCount_4 : decode cX6_undoCount 4 = .ok (.ireturn, 1) := by decide +kernel
theorem hd_X6_undoCount : yX6_undoCount.cls = RX6 ∧ yX6_undoCount.cls ≠ "java/lang/invoke/MethodHandle" ∧ yX6_undoCount.cls ≠ "java/lang/invoke/VarHandle" ∧ (parseMethodDescriptor yX6_undoCount.desc).map (fun d => d.parameters.length) = some 0 := by decide +kernel
set_option maxRecDepth 100000 in
set_option maxHeartbeats 4000000 in
theorem c_X6_undoCount (l : Launch) (D : va_G) (g : xG) (tb : List xQ) (hT : x_T g tb)  (h0 : x_fb tb) {M : xM} {r : Int32} {M' : xM} (hf : f_X6_undoCount  M = some (r, M')) :
    cI l D g tb yX6_undoCount cX6_undoCount 1 .int ({ frames := 0, cells := 0, slots := 0, locals := 0 } : Room) [.ref (g.1 4 1664)] M r M' := by
  refine x_startI (own := RX6) (by decide +kernel) rfl rfl (Nat.le_of_ble_eq_true rfl) hT ?_
  intro p e s m args below meth c Q C0 hend
  unfold f_X6_undoCount at hf
  refine r_aload_n C0 (kk := 0) 0 rfl dX6_undoCount_0 ?_
  refine r_get4 C0 h0.1 6 (by decide) (v := .int (M 1670)) rfl rfl w3_108 dX6_undoCount_1 ?_
  exact hend hf dX6_undoCount_4
theorem dX6_isOpen_0 : decode cX6_isOpen 0 = .ok (.aload_n 0, 1) := by decide +kernel
theorem dX6_isOpen_1 : decode cX6_isOpen 1 = .ok (.getfield 10, 3) := by decide +kernel
theorem dX6_isOpen_4 : decode cX6_isOpen 4 = .ok (.getfield 130, 3) := by decide +kernel
theorem dX6_isOpen_7 : decode cX6_isOpen 7 = .ok (.ireturn, 1) := by decide +kernel
theorem hd_X6_isOpen : yX6_isOpen.cls = RX6 ∧ yX6_isOpen.cls ≠ "java/lang/invoke/MethodHandle" ∧ yX6_isOpen.cls ≠ "java/lang/invoke/VarHandle" ∧ (parseMethodDescriptor yX6_isOpen.desc).map (fun d => d.parameters.length) = some 0 := by decide +kernel
set_option maxRecDepth 100000 in
set_option maxHeartbeats 4000000 in
theorem c_X6_isOpen (l : Launch) (D : va_G) (g : xG) (tb : List xQ) (hT : x_T g tb)  (h0 : x_fb tb) {M : xM} {r : Int32} {M' : xM} (hf : f_X6_isOpen  M = some (r, M')) :
    cI l D g tb yX6_isOpen cX6_isOpen 1 .boolean ({ frames := 0, cells := 0, slots := 0, locals := 0 } : Room) [.ref (g.1 4 1664)] M r M' := by
  refine x_startZ (own := RX6) (by decide +kernel) rfl rfl (Nat.le_of_ble_eq_true rfl) hT ?_
  intro p e s m args below meth c Q C0 hend
  unfold f_X6_isOpen at hf
  refine r_aload_n C0 (kk := 0) 0 rfl dX6_isOpen_0 ?_
  refine r_get4 C0 h0.1 0 (by decide) (v := .ref (g.1 2 0)) rfl rfl w3_102 dX6_isOpen_1 ?_
  refine r_get2 C0 h0.2.1.1 10 (by decide) (v := .int (M 1)) rfl rfl w1_161 dX6_isOpen_4 ?_
  obtain ⟨q1, hf⟩ := gd_e hf
  exact hend q1 hf dX6_isOpen_7
theorem dX6_isReady_0 : decode cX6_isReady 0 = .ok (.aload_n 0, 1) := by decide +kernel
theorem dX6_isReady_1 : decode cX6_isReady 1 = .ok (.getfield 10, 3) := by decide +kernel
theorem dX6_isReady_4 : decode cX6_isReady 4 = .ok (.getfield 134, 3) := by decide +kernel
theorem dX6_isReady_7 : decode cX6_isReady 7 = .ok (.ireturn, 1) := by decide +kernel
theorem hd_X6_isReady : yX6_isReady.cls = RX6 ∧ yX6_isReady.cls ≠ "java/lang/invoke/MethodHandle" ∧ yX6_isReady.cls ≠ "java/lang/invoke/VarHandle" ∧ (parseMethodDescriptor yX6_isReady.desc).map (fun d => d.parameters.length) = some 0 := by decide +kernel
set_option maxRecDepth 100000 in
set_option maxHeartbeats 4000000 in
theorem c_X6_isReady (l : Launch) (D : va_G) (g : xG) (tb : List xQ) (hT : x_T g tb)  (h0 : x_fb tb) {M : xM} {r : Int32} {M' : xM} (hf : f_X6_isReady  M = some (r, M')) :
    cI l D g tb yX6_isReady cX6_isReady 1 .boolean ({ frames := 0, cells := 0, slots := 0, locals := 0 } : Room) [.ref (g.1 4 1664)] M r M' := by
  refine x_startZ (own := RX6) (by decide +kernel) rfl rfl (Nat.le_of_ble_eq_true rfl) hT ?_
  intro p e s m args below meth c Q C0 hend
  unfold f_X6_isReady at hf
  refine r_aload_n C0 (kk := 0) 0 rfl dX6_isReady_0 ?_
  refine r_get4 C0 h0.1 0 (by decide) (v := .ref (g.1 2 0)) rfl rfl w3_102 dX6_isReady_1 ?_
  refine r_get2 C0 h0.2.1.1 11 (by decide) (v := .int (M 2)) rfl rfl w1_163 dX6_isReady_4 ?_
  obtain ⟨q1, hf⟩ := gd_e hf
  exact hend q1 hf dX6_isReady_7
theorem dX6_openMinutes_0 : decode cX6_openMinutes 0 = .ok (.aload_n 0, 1) := by decide +kernel
theorem dX6_openMinutes_1 : decode cX6_openMinutes 1 = .ok (.getfield 10, 3) := by decide +kernel
theorem dX6_openMinutes_4 : decode cX6_openMinutes 4 = .ok (.getfield 137, 3) := by decide +kernel
theorem dX6_openMinutes_7 : decode cX6_openMinutes 7 = .ok (.ireturn, 1) := by decide +kernel
theorem hd_X6_openMinutes : yX6_openMinutes.cls = RX6 ∧ yX6_openMinutes.cls ≠ "java/lang/invoke/MethodHandle" ∧ yX6_openMinutes.cls ≠ "java/lang/invoke/VarHandle" ∧ (parseMethodDescriptor yX6_openMinutes.desc).map (fun d => d.parameters.length) = some 0 := by decide +kernel
set_option maxRecDepth 100000 in
set_option maxHeartbeats 4000000 in
theorem c_X6_openMinutes (l : Launch) (D : va_G) (g : xG) (tb : List xQ) (hT : x_T g tb)  (h0 : x_fb tb) {M : xM} {r : Int32} {M' : xM} (hf : f_X6_openMinutes  M = some (r, M')) :
    cI l D g tb yX6_openMinutes cX6_openMinutes 1 .int ({ frames := 0, cells := 0, slots := 0, locals := 0 } : Room) [.ref (g.1 4 1664)] M r M' := by
  refine x_startI (own := RX6) (by decide +kernel) rfl rfl (Nat.le_of_ble_eq_true rfl) hT ?_
  intro p e s m args below meth c Q C0 hend
  unfold f_X6_openMinutes at hf
  refine r_aload_n C0 (kk := 0) 0 rfl dX6_openMinutes_0 ?_
  refine r_get4 C0 h0.1 0 (by decide) (v := .ref (g.1 2 0)) rfl rfl w3_102 dX6_openMinutes_1 ?_
  refine r_get2 C0 h0.2.1.1 12 (by decide) (v := .int (M 3)) rfl rfl w1_165 dX6_openMinutes_4 ?_
  exact hend hf dX6_openMinutes_7
theorem dX6_ringings_0 : decode cX6_ringings 0 = .ok (.aload_n 0, 1) := by decide +kernel
theorem dX6_ringings_1 : decode cX6_ringings 1 = .ok (.getfield 10, 3) := by decide +kernel
theorem dX6_ringings_4 : decode cX6_ringings 4 = .ok (.getfield 140, 3) := by decide +kernel
theorem dX6_ringings_7 : decode cX6_ringings 7 = .ok (.ireturn, 1) := by decide +kernel
theorem hd_X6_ringings : yX6_ringings.cls = RX6 ∧ yX6_ringings.cls ≠ "java/lang/invoke/MethodHandle" ∧ yX6_ringings.cls ≠ "java/lang/invoke/VarHandle" ∧ (parseMethodDescriptor yX6_ringings.desc).map (fun d => d.parameters.length) = some 0 := by decide +kernel
set_option maxRecDepth 100000 in
set_option maxHeartbeats 4000000 in
theorem c_X6_ringings (l : Launch) (D : va_G) (g : xG) (tb : List xQ) (hT : x_T g tb)  (h0 : x_fb tb) {M : xM} {r : Int32} {M' : xM} (hf : f_X6_ringings  M = some (r, M')) :
    cI l D g tb yX6_ringings cX6_ringings 1 .int ({ frames := 0, cells := 0, slots := 0, locals := 0 } : Room) [.ref (g.1 4 1664)] M r M' := by
  refine x_startI (own := RX6) (by decide +kernel) rfl rfl (Nat.le_of_ble_eq_true rfl) hT ?_
  intro p e s m args below meth c Q C0 hend
  unfold f_X6_ringings at hf
  refine r_aload_n C0 (kk := 0) 0 rfl dX6_ringings_0 ?_
  refine r_get4 C0 h0.1 0 (by decide) (v := .ref (g.1 2 0)) rfl rfl w3_102 dX6_ringings_1 ?_
  refine r_get2 C0 h0.2.1.1 13 (by decide) (v := .int (M 4)) rfl rfl w1_167 dX6_ringings_4 ?_
  exact hend hf dX6_ringings_7
theorem dX6_stallCount_0 : decode cX6_stallCount 0 = .ok (.aload_n 0, 1) := by decide +kernel
theorem dX6_stallCount_1 : decode cX6_stallCount 1 = .ok (.getfield 10, 3) := by decide +kernel
theorem dX6_stallCount_4 : decode cX6_stallCount 4 = .ok (.getfield 66, 3) := by decide +kernel
theorem dX6_stallCount_7 : decode cX6_stallCount 7 = .ok (.ireturn, 1) := by decide +kernel
theorem hd_X6_stallCount : yX6_stallCount.cls = RX6 ∧ yX6_stallCount.cls ≠ "java/lang/invoke/MethodHandle" ∧ yX6_stallCount.cls ≠ "java/lang/invoke/VarHandle" ∧ (parseMethodDescriptor yX6_stallCount.desc).map (fun d => d.parameters.length) = some 0 := by decide +kernel
set_option maxRecDepth 100000 in
set_option maxHeartbeats 4000000 in
theorem c_X6_stallCount (l : Launch) (D : va_G) (g : xG) (tb : List xQ) (hT : x_T g tb)  (h0 : x_fb tb) {M : xM} {r : Int32} {M' : xM} (hf : f_X6_stallCount  M = some (r, M')) :
    cI l D g tb yX6_stallCount cX6_stallCount 1 .int ({ frames := 0, cells := 0, slots := 0, locals := 0 } : Room) [.ref (g.1 4 1664)] M r M' := by
  refine x_startI (own := RX6) (by decide +kernel) rfl rfl (Nat.le_of_ble_eq_true rfl) hT ?_
  intro p e s m args below meth c Q C0 hend
  unfold f_X6_stallCount at hf
  refine r_aload_n C0 (kk := 0) 0 rfl dX6_stallCount_0 ?_
  refine r_get4 C0 h0.1 0 (by decide) (v := .ref (g.1 2 0)) rfl rfl w3_102 dX6_stallCount_1 ?_
  refine r_get2 C0 h0.2.1.1 1 (by decide) (v := .int (M 9)) rfl rfl w1_139 dX6_stallCount_4 ?_
  exact hend hf dX6_stallCount_7
theorem dX6_buyerCount_0 : decode cX6_buyerCount 0 = .ok (.aload_n 0, 1) := by decide +kernel
theorem dX6_buyerCount_1 : decode cX6_buyerCount 1 = .ok (.getfield 10, 3) := by decide +kernel
theorem dX6_buyerCount_4 : decode cX6_buyerCount 4 = .ok (.getfield 211, 3) := by decide +kernel
theorem dX6_buyerCount_7 : decode cX6_buyerCount 7 = .ok (.ireturn, 1) := by decide +kernel
theorem hd_X6_buyerCount : yX6_buyerCount.cls = RX6 ∧ yX6_buyerCount.cls ≠ "java/lang/invoke/MethodHandle" ∧ yX6_buyerCount.cls ≠ "java/lang/invoke/VarHandle" ∧ (parseMethodDescriptor yX6_buyerCount.desc).map (fun d => d.parameters.length) = some 0 := by decide +kernel
set_option maxRecDepth 100000 in
set_option maxHeartbeats 4000000 in
theorem c_X6_buyerCount (l : Launch) (D : va_G) (g : xG) (tb : List xQ) (hT : x_T g tb)  (h0 : x_fb tb) {M : xM} {r : Int32} {M' : xM} (hf : f_X6_buyerCount  M = some (r, M')) :
    cI l D g tb yX6_buyerCount cX6_buyerCount 1 .int ({ frames := 0, cells := 0, slots := 0, locals := 0 } : Room) [.ref (g.1 4 1664)] M r M' := by
  refine x_startI (own := RX6) (by decide +kernel) rfl rfl (Nat.le_of_ble_eq_true rfl) hT ?_
  intro p e s m args below meth c Q C0 hend
  unfold f_X6_buyerCount at hf
  refine r_aload_n C0 (kk := 0) 0 rfl dX6_buyerCount_0 ?_
  refine r_get4 C0 h0.1 0 (by decide) (v := .ref (g.1 2 0)) rfl rfl w3_102 dX6_buyerCount_1 ?_
  refine r_get2 C0 h0.2.1.1 3 (by decide) (v := .int (M 10)) rfl rfl w1_146 dX6_buyerCount_4 ?_
  exact hend hf dX6_buyerCount_7
theorem dX2_earnedInAll_0 : decode cX2_earnedInAll 0 = .ok (.iconst 0, 1) := by decide +kernel
theorem dX2_earnedInAll_1 : decode cX2_earnedInAll 1 = .ok (.istore_n 1, 1) := by decide +kernel
theorem dX2_earnedInAll_2 : decode cX2_earnedInAll 2 = .ok (.iconst 0, 1) := by decide +kernel
theorem dX2_earnedInAll_3 : decode cX2_earnedInAll 3 = .ok (.istore_n 2, 1) := by decide +kernel
theorem dX2_earnedInAll_4 : decode cX2_earnedInAll 4 = .ok (.iload_n 2, 1) := by decide +kernel
theorem dX2_earnedInAll_5 : decode cX2_earnedInAll 5 = .ok (.aload_n 0, 1) := by decide +kernel
theorem dX2_earnedInAll_6 : decode cX2_earnedInAll 6 = .ok (.getfield 29, 3) := by decide +kernel
theorem dX2_earnedInAll_9 : decode cX2_earnedInAll 9 = .ok (.if_icmp .ge 21, 3) := by decide +kernel
theorem dX2_earnedInAll_12 : decode cX2_earnedInAll 12 = .ok (.iload_n 1, 1) := by decide +kernel
theorem dX2_earnedInAll_13 : decode cX2_earnedInAll 13 = .ok (.aload_n 0, 1) := by decide +kernel
theorem dX2_earnedInAll_14 : decode cX2_earnedInAll 14 = .ok (.getfield 11, 3) := by decide +kernel
theorem dX2_earnedInAll_17 : decode cX2_earnedInAll 17 = .ok (.iload_n 2, 1) := by decide +kernel
theorem dX2_earnedInAll_18 : decode cX2_earnedInAll 18 = .ok (.aaload, 1) := by decide +kernel
theorem dX2_earnedInAll_19 : decode cX2_earnedInAll 19 = .ok (.getfield 75, 3) := by decide +kernel
theorem dX2_earnedInAll_22 : decode cX2_earnedInAll 22 = .ok (.iadd, 1) := by decide +kernel
theorem dX2_earnedInAll_23 : decode cX2_earnedInAll 23 = .ok (.istore_n 1, 1) := by decide +kernel
theorem dX2_earnedInAll_24 : decode cX2_earnedInAll 24 = .ok (.iinc 2 1, 3) := by decide +kernel
theorem dX2_earnedInAll_27 : decode cX2_earnedInAll 27 = .ok (.goto (-23), 3) := by decide +kernel
theorem dX2_earnedInAll_30 : decode cX2_earnedInAll 30 = .ok (.iload_n 1, 1) := by decide +kernel
theorem dX2_earnedInAll_31 : decode cX2_earnedInAll 31 = .ok (.ireturn, 1) := by decide +kernel
theorem hd_X2_earnedInAll : yX2_earnedInAll.cls = RX2 ∧ yX2_earnedInAll.cls ≠ "java/lang/invoke/MethodHandle" ∧ yX2_earnedInAll.cls ≠ "java/lang/invoke/VarHandle" ∧ (parseMethodDescriptor yX2_earnedInAll.desc).map (fun d => d.parameters.length) = some 0 := by decide +kernel
set_option maxRecDepth 100000 in
set_option maxHeartbeats 4000000 in
theorem c_X2_earnedInAll (l : Launch) (D : va_G) (g : xG) (tb : List xQ) (hT : x_T g tb) {a0 : Nat} (h0 : x_mk tb a0) {M : xM} {r : Int32} {M' : xM} (hf : f_X2_earnedInAll a0 M = some (r, M')) :
    cI l D g tb yX2_earnedInAll cX2_earnedInAll 3 .int ({ frames := 0, cells := 0, slots := 0, locals := 0 } : Room) [.ref (g.1 2 a0)] M r M' := by
  refine x_startI (own := RX2) (by decide +kernel) rfl rfl (Nat.le_of_ble_eq_true rfl) hT ?_
  intro p e s m args below meth c Q C0 hend
  have B4 : ∀ (k4 : Int32 → Int32 → xM → Option (Int32 × xM)) (hk4 : ∀ (v1 : Int32) (v2 : Int32)  (M : xM), k4 v1 v2 M = some (r, M') → WW p l e ({ frames := 0, cells := 0, slots := 0, locals := 0 } : Room) s m args below meth c 0 0 Q 3 D g tb 4 [(0, .ref (g.1 2 a0)), (1, .int v1), (2, .int v2)] [] M), ∀ (v1 : Int32) (v2 : Int32)  (M : xM), fb_X2_earnedInAll_c4 k4 a0 v1 v2 M = some (r, M') → WW p l e ({ frames := 0, cells := 0, slots := 0, locals := 0 } : Room) s m args below meth c 0 0 Q 3 D g tb 4 [(0, .ref (g.1 2 a0)), (1, .int v1), (2, .int v2)] [] M := by
    intro k4 hk4 v1 v2  M hf
    unfold fb_X2_earnedInAll_c4 at hf
    refine r_iload_n C0 (kk := 2) 2 rfl dX2_earnedInAll_4 ?_
    refine r_aload_n C0 (kk := 0) 0 rfl dX2_earnedInAll_5 ?_
    refine r_get2 C0 h0.1 1 (by decide) (v := .int (M (a0 + 9))) rfl rfl w1_138 dX2_earnedInAll_6 ?_
    refine r_icmp_ge C0 (tgt := 30) (by decide) dX2_earnedInAll_9 (fun q1 => ?_) (fun q1 => ?_)
    · have hf := ie_t hf q1
      refine r_iload_n C0 (kk := 1) 1 rfl dX2_earnedInAll_30 ?_
      exact hend hf dX2_earnedInAll_31
    · have hf := ie_f hf q1
      refine r_iload_n C0 (kk := 1) 1 rfl dX2_earnedInAll_12 ?_
      refine r_aload_n C0 (kk := 0) 0 rfl dX2_earnedInAll_13 ?_
      refine r_get2 C0 h0.1 0 (by decide) (v := .ref (g.1 10 (a0 + 23))) rfl rfl w1_135 dX2_earnedInAll_14 ?_
      refine r_iload_n C0 (kk := 2) 2 rfl dX2_earnedInAll_17 ?_
      obtain ⟨q2, hf⟩ := gd_e hf
      have hm3 : ((0, ((a0 + 23) + 9 * v2.toNatClampNeg), 0) : xQ) ∈ tb := h0.2.2.2.2.1 _ (inb_lt q2)
      refine r_aald10 C0 h0.2.1 (inb_in q2) dX2_earnedInAll_18 ?_
      refine r_get0 C0 hm3 7 (by decide) (v := .int (M (((a0 + 23) + 9 * v2.toNatClampNeg) + 7))) rfl rfl w1_69 dX2_earnedInAll_19 ?_
      refine r_iadd C0 dX2_earnedInAll_22 ?_
      refine r_istore_n C0 (kk := 1) (lv2 := [(1, .int (v1 + (M (((a0 + 23) + 9 * v2.toNatClampNeg) + 7)))), (0, .ref (g.1 2 a0)), (2, .int v2)]) (by decide) rfl dX2_earnedInAll_23 ?_
      refine r_iincc C0 2 rfl (k0 := 1) (by decide) (by decide) (lv2 := [(2, .int (v2 + 1)), (1, .int (v1 + (M (((a0 + 23) + 9 * v2.toNatClampNeg) + 7)))), (0, .ref (g.1 2 a0))]) rfl dX2_earnedInAll_24 ?_
      refine r_goto C0 (tgt := 4) (by decide) dX2_earnedInAll_27 ?_
      refine WW.sub [2, 1, 0] rfl ?_
      exact hk4 _ _   _ hf
  have L4 : ∀ (v1 : Int32) (v2 : Int32)  (M : xM), f_X2_earnedInAll_c4  a0 v1 v2 M = some (r, M') → WW p l e ({ frames := 0, cells := 0, slots := 0, locals := 0 } : Room) s m args below meth c 0 0 Q 3 D g tb 4 [(0, .ref (g.1 2 a0)), (1, .int v1), (2, .int v2)] [] M := lp_ind (P := fun f => ∀ (v1 : Int32) (v2 : Int32)  (M : xM), f v1 v2 M = some (r, M') → WW p l e ({ frames := 0, cells := 0, slots := 0, locals := 0 } : Room) s m args below meth c 0 0 Q 3 D g tb 4 [(0, .ref (g.1 2 a0)), (1, .int v1), (2, .int v2)] [] M) (fun _ _ _ h => none_ne h) (fun f hf => B4 f hf) FU
  unfold f_X2_earnedInAll at hf
  refine r_iconst C0 (v := 0) dX2_earnedInAll_0 rfl ?_
  refine r_istore_n C0 (kk := 1) (lv2 := [(1, .int 0), (0, .ref (g.1 2 a0))]) (by decide) rfl dX2_earnedInAll_1 ?_
  refine r_iconst C0 (v := 0) dX2_earnedInAll_2 rfl ?_
  refine r_istore_n C0 (kk := 2) (lv2 := [(2, .int 0), (1, .int 0), (0, .ref (g.1 2 a0))]) (by decide) rfl dX2_earnedInAll_3 ?_
  refine WW.sub [2, 1, 0] rfl ?_
  exact L4   _ _   _ hf
theorem dX2_countHeld_0 : decode cX2_countHeld 0 = .ok (.iconst 0, 1) := by decide +kernel
theorem dX2_countHeld_1 : decode cX2_countHeld 1 = .ok (.istore_n 2, 1) := by decide +kernel
theorem dX2_countHeld_2 : decode cX2_countHeld 2 = .ok (.iconst 0, 1) := by decide +kernel
theorem dX2_countHeld_3 : decode cX2_countHeld 3 = .ok (.istore_n 3, 1) := by decide +kernel
theorem dX2_countHeld_4 : decode cX2_countHeld 4 = .ok (.iload_n 3, 1) := by decide +kernel
theorem dX2_countHeld_5 : decode cX2_countHeld 5 = .ok (.aload_n 0, 1) := by decide +kernel
theorem dX2_countHeld_6 : decode cX2_countHeld 6 = .ok (.getfield 33, 3) := by decide +kernel
theorem dX2_countHeld_9 : decode cX2_countHeld 9 = .ok (.if_icmp .ge 25, 3) := by decide +kernel
theorem dX2_countHeld_12 : decode cX2_countHeld 12 = .ok (.aload_n 0, 1) := by decide +kernel
theorem dX2_countHeld_13 : decode cX2_countHeld 13 = .ok (.getfield 19, 3) := by decide +kernel
theorem dX2_countHeld_16 : decode cX2_countHeld 16 = .ok (.iload_n 3, 1) := by decide +kernel
theorem dX2_countHeld_17 : decode cX2_countHeld 17 = .ok (.aaload, 1) := by decide +kernel
theorem dX2_countHeld_18 : decode cX2_countHeld 18 = .ok (.getfield 81, 3) := by decide +kernel
theorem dX2_countHeld_21 : decode cX2_countHeld 21 = .ok (.iload_n 1, 1) := by decide +kernel
theorem dX2_countHeld_22 : decode cX2_countHeld 22 = .ok (.if_icmp .ne 6, 3) := by decide +kernel
theorem dX2_countHeld_25 : decode cX2_countHeld 25 = .ok (.iinc 2 1, 3) := by decide +kernel
theorem dX2_countHeld_28 : decode cX2_countHeld 28 = .ok (.iinc 3 1, 3) := by decide +kernel
theorem dX2_countHeld_31 : decode cX2_countHeld 31 = .ok (.goto (-27), 3) := by decide +kernel
theorem dX2_countHeld_34 : decode cX2_countHeld 34 = .ok (.iload_n 2, 1) := by decide +kernel
theorem dX2_countHeld_35 : decode cX2_countHeld 35 = .ok (.ireturn, 1) := by decide +kernel
theorem hd_X2_countHeld : yX2_countHeld.cls = RX2 ∧ yX2_countHeld.cls ≠ "java/lang/invoke/MethodHandle" ∧ yX2_countHeld.cls ≠ "java/lang/invoke/VarHandle" ∧ (parseMethodDescriptor yX2_countHeld.desc).map (fun d => d.parameters.length) = some 1 := by decide +kernel
set_option maxRecDepth 100000 in
set_option maxHeartbeats 4000000 in
theorem c_X2_countHeld (l : Launch) (D : va_G) (g : xG) (tb : List xQ) (hT : x_T g tb) {a0 : Nat} {a1 : Int32} (h0 : x_mk tb a0) {M : xM} {r : Int32} {M' : xM} (hf : f_X2_countHeld a0 a1 M = some (r, M')) :
    cI l D g tb yX2_countHeld cX2_countHeld 4 .int ({ frames := 0, cells := 0, slots := 0, locals := 0 } : Room) [.ref (g.1 2 a0), .int a1] M r M' := by
  refine x_startI (own := RX2) (by decide +kernel) rfl rfl (Nat.le_of_ble_eq_true rfl) hT ?_
  intro p e s m args below meth c Q C0 hend
  have B4 : ∀ (k4 : Int32 → Int32 → xM → Option (Int32 × xM)) (hk4 : ∀ (v2 : Int32) (v3 : Int32)  (M : xM), k4 v2 v3 M = some (r, M') → WW p l e ({ frames := 0, cells := 0, slots := 0, locals := 0 } : Room) s m args below meth c 0 0 Q 4 D g tb 4 [(0, .ref (g.1 2 a0)), (1, .int a1), (2, .int v2), (3, .int v3)] [] M), ∀ (v2 : Int32) (v3 : Int32)  (M : xM), fb_X2_countHeld_c4 k4 a0 a1 v2 v3 M = some (r, M') → WW p l e ({ frames := 0, cells := 0, slots := 0, locals := 0 } : Room) s m args below meth c 0 0 Q 4 D g tb 4 [(0, .ref (g.1 2 a0)), (1, .int a1), (2, .int v2), (3, .int v3)] [] M := by
    intro k4 hk4 v2 v3  M hf
    unfold fb_X2_countHeld_c4 at hf
    refine r_iload_n C0 (kk := 3) 3 rfl dX2_countHeld_4 ?_
    refine r_aload_n C0 (kk := 0) 0 rfl dX2_countHeld_5 ?_
    refine r_get2 C0 h0.1 3 (by decide) (v := .int (M (a0 + 10))) rfl rfl w1_144 dX2_countHeld_6 ?_
    refine r_icmp_ge C0 (tgt := 34) (by decide) dX2_countHeld_9 (fun q1 => ?_) (fun q1 => ?_)
    · have hf := ie_t hf q1
      refine r_iload_n C0 (kk := 2) 2 rfl dX2_countHeld_34 ?_
      exact hend hf dX2_countHeld_35
    · have hf := ie_f hf q1
      refine r_aload_n C0 (kk := 0) 0 rfl dX2_countHeld_12 ?_
      refine r_get2 C0 h0.1 2 (by decide) (v := .ref (g.1 11 (a0 + 77))) rfl rfl w1_141 dX2_countHeld_13 ?_
      refine r_iload_n C0 (kk := 3) 3 rfl dX2_countHeld_16 ?_
      obtain ⟨q2, hf⟩ := gd_e hf
      have hm3 : ((1, ((a0 + 77) + 8 * v3.toNatClampNeg), 0) : xQ) ∈ tb := h0.2.2.2.2.2 _ (inb_lt q2)
      refine r_aald11 C0 h0.2.2.1 (inb_in q2) dX2_countHeld_17 ?_
      refine r_get1 C0 hm3 4 (by decide) (v := .int (M (((a0 + 77) + 8 * v3.toNatClampNeg) + 4))) rfl rfl w1_109 dX2_countHeld_18 ?_
      refine r_iload_n C0 (kk := 1) 1 rfl dX2_countHeld_21 ?_
      refine r_icmp_ne C0 (tgt := 28) (by decide) dX2_countHeld_22 (fun q4 => ?_) (fun q4 => ?_)
      · have hf := ie_f hf q4
        refine r_iincc C0 3 rfl (k0 := 1) (by decide) (by decide) (lv2 := [(3, .int (v3 + 1)), (0, .ref (g.1 2 a0)), (1, .int a1), (2, .int v2)]) rfl dX2_countHeld_28 ?_
        refine r_goto C0 (tgt := 4) (by decide) dX2_countHeld_31 ?_
        refine WW.sub [1, 2, 3, 0] rfl ?_
        exact hk4 _ _   _ hf
      · have hf := ie_t hf q4
        refine r_iincc C0 2 rfl (k0 := 1) (by decide) (by decide) (lv2 := [(2, .int (v2 + 1)), (0, .ref (g.1 2 a0)), (1, .int a1), (3, .int v3)]) rfl dX2_countHeld_25 ?_
        refine r_iincc C0 3 rfl (k0 := 1) (by decide) (by decide) (lv2 := [(3, .int (v3 + 1)), (2, .int (v2 + 1)), (0, .ref (g.1 2 a0)), (1, .int a1)]) rfl dX2_countHeld_28 ?_
        refine r_goto C0 (tgt := 4) (by decide) dX2_countHeld_31 ?_
        refine WW.sub [2, 3, 1, 0] rfl ?_
        exact hk4 _ _   _ hf
  have L4 : ∀ (v2 : Int32) (v3 : Int32)  (M : xM), f_X2_countHeld_c4  a0 a1 v2 v3 M = some (r, M') → WW p l e ({ frames := 0, cells := 0, slots := 0, locals := 0 } : Room) s m args below meth c 0 0 Q 4 D g tb 4 [(0, .ref (g.1 2 a0)), (1, .int a1), (2, .int v2), (3, .int v3)] [] M := lp_ind (P := fun f => ∀ (v2 : Int32) (v3 : Int32)  (M : xM), f v2 v3 M = some (r, M') → WW p l e ({ frames := 0, cells := 0, slots := 0, locals := 0 } : Room) s m args below meth c 0 0 Q 4 D g tb 4 [(0, .ref (g.1 2 a0)), (1, .int a1), (2, .int v2), (3, .int v3)] [] M) (fun _ _ _ h => none_ne h) (fun f hf => B4 f hf) FU
  unfold f_X2_countHeld at hf
  refine r_iconst C0 (v := 0) dX2_countHeld_0 rfl ?_
  refine r_istore_n C0 (kk := 2) (lv2 := [(2, .int 0), (0, .ref (g.1 2 a0)), (1, .int a1)]) (by decide) rfl dX2_countHeld_1 ?_
  refine r_iconst C0 (v := 0) dX2_countHeld_2 rfl ?_
  refine r_istore_n C0 (kk := 3) (lv2 := [(3, .int 0), (2, .int 0), (0, .ref (g.1 2 a0)), (1, .int a1)]) (by decide) rfl dX2_countHeld_3 ?_
  refine WW.sub [2, 3, 1, 0] rfl ?_
  exact L4   _ _   _ hf
theorem dX2_soldInAll_0 : decode cX2_soldInAll 0 = .ok (.iconst 0, 1) := by decide +kernel
theorem dX2_soldInAll_1 : decode cX2_soldInAll 1 = .ok (.istore_n 1, 1) := by decide +kernel
theorem dX2_soldInAll_2 : decode cX2_soldInAll 2 = .ok (.iconst 0, 1) := by decide +kernel
theorem dX2_soldInAll_3 : decode cX2_soldInAll 3 = .ok (.istore_n 2, 1) := by decide +kernel
theorem dX2_soldInAll_4 : decode cX2_soldInAll 4 = .ok (.iload_n 2, 1) := by decide +kernel
theorem dX2_soldInAll_5 : decode cX2_soldInAll 5 = .ok (.aload_n 0, 1) := by decide +kernel
theorem dX2_soldInAll_6 : decode cX2_soldInAll 6 = .ok (.getfield 29, 3) := by decide +kernel
theorem dX2_soldInAll_9 : decode cX2_soldInAll 9 = .ok (.if_icmp .ge 21, 3) := by decide +kernel
theorem dX2_soldInAll_12 : decode cX2_soldInAll 12 = .ok (.iload_n 1, 1) := by decide +kernel
theorem dX2_soldInAll_13 : decode cX2_soldInAll 13 = .ok (.aload_n 0, 1) := by decide +kernel
theorem dX2_soldInAll_14 : decode cX2_soldInAll 14 = .ok (.getfield 11, 3) := by decide +kernel
theorem dX2_soldInAll_17 : decode cX2_soldInAll 17 = .ok (.iload_n 2, 1) := by decide +kernel
theorem dX2_soldInAll_18 : decode cX2_soldInAll 18 = .ok (.aaload, 1) := by decide +kernel
theorem dX2_soldInAll_19 : decode cX2_soldInAll 19 = .ok (.getfield 78, 3) := by decide +kernel
theorem dX2_soldInAll_22 : decode cX2_soldInAll 22 = .ok (.iadd, 1) := by decide +kernel
theorem dX2_soldInAll_23 : decode cX2_soldInAll 23 = .ok (.istore_n 1, 1) := by decide +kernel
theorem dX2_soldInAll_24 : decode cX2_soldInAll 24 = .ok (.iinc 2 1, 3) := by decide +kernel
theorem dX2_soldInAll_27 : decode cX2_soldInAll 27 = .ok (.goto (-23), 3) := by decide +kernel
theorem dX2_soldInAll_30 : decode cX2_soldInAll 30 = .ok (.iload_n 1, 1) := by decide +kernel
theorem dX2_soldInAll_31 : decode cX2_soldInAll 31 = .ok (.ireturn, 1) := by decide +kernel
theorem hd_X2_soldInAll : yX2_soldInAll.cls = RX2 ∧ yX2_soldInAll.cls ≠ "java/lang/invoke/MethodHandle" ∧ yX2_soldInAll.cls ≠ "java/lang/invoke/VarHandle" ∧ (parseMethodDescriptor yX2_soldInAll.desc).map (fun d => d.parameters.length) = some 0 := by decide +kernel
set_option maxRecDepth 100000 in
set_option maxHeartbeats 4000000 in
theorem c_X2_soldInAll (l : Launch) (D : va_G) (g : xG) (tb : List xQ) (hT : x_T g tb) {a0 : Nat} (h0 : x_mk tb a0) {M : xM} {r : Int32} {M' : xM} (hf : f_X2_soldInAll a0 M = some (r, M')) :
    cI l D g tb yX2_soldInAll cX2_soldInAll 3 .int ({ frames := 0, cells := 0, slots := 0, locals := 0 } : Room) [.ref (g.1 2 a0)] M r M' := by
  refine x_startI (own := RX2) (by decide +kernel) rfl rfl (Nat.le_of_ble_eq_true rfl) hT ?_
  intro p e s m args below meth c Q C0 hend
  have B4 : ∀ (k4 : Int32 → Int32 → xM → Option (Int32 × xM)) (hk4 : ∀ (v1 : Int32) (v2 : Int32)  (M : xM), k4 v1 v2 M = some (r, M') → WW p l e ({ frames := 0, cells := 0, slots := 0, locals := 0 } : Room) s m args below meth c 0 0 Q 3 D g tb 4 [(0, .ref (g.1 2 a0)), (1, .int v1), (2, .int v2)] [] M), ∀ (v1 : Int32) (v2 : Int32)  (M : xM), fb_X2_soldInAll_c4 k4 a0 v1 v2 M = some (r, M') → WW p l e ({ frames := 0, cells := 0, slots := 0, locals := 0 } : Room) s m args below meth c 0 0 Q 3 D g tb 4 [(0, .ref (g.1 2 a0)), (1, .int v1), (2, .int v2)] [] M := by
    intro k4 hk4 v1 v2  M hf
    unfold fb_X2_soldInAll_c4 at hf
    refine r_iload_n C0 (kk := 2) 2 rfl dX2_soldInAll_4 ?_
    refine r_aload_n C0 (kk := 0) 0 rfl dX2_soldInAll_5 ?_
    refine r_get2 C0 h0.1 1 (by decide) (v := .int (M (a0 + 9))) rfl rfl w1_138 dX2_soldInAll_6 ?_
    refine r_icmp_ge C0 (tgt := 30) (by decide) dX2_soldInAll_9 (fun q1 => ?_) (fun q1 => ?_)
    · have hf := ie_t hf q1
      refine r_iload_n C0 (kk := 1) 1 rfl dX2_soldInAll_30 ?_
      exact hend hf dX2_soldInAll_31
    · have hf := ie_f hf q1
      refine r_iload_n C0 (kk := 1) 1 rfl dX2_soldInAll_12 ?_
      refine r_aload_n C0 (kk := 0) 0 rfl dX2_soldInAll_13 ?_
      refine r_get2 C0 h0.1 0 (by decide) (v := .ref (g.1 10 (a0 + 23))) rfl rfl w1_135 dX2_soldInAll_14 ?_
      refine r_iload_n C0 (kk := 2) 2 rfl dX2_soldInAll_17 ?_
      obtain ⟨q2, hf⟩ := gd_e hf
      have hm3 : ((0, ((a0 + 23) + 9 * v2.toNatClampNeg), 0) : xQ) ∈ tb := h0.2.2.2.2.1 _ (inb_lt q2)
      refine r_aald10 C0 h0.2.1 (inb_in q2) dX2_soldInAll_18 ?_
      refine r_get0 C0 hm3 5 (by decide) (v := .int (M (((a0 + 23) + 9 * v2.toNatClampNeg) + 5))) rfl rfl w1_63 dX2_soldInAll_19 ?_
      refine r_iadd C0 dX2_soldInAll_22 ?_
      refine r_istore_n C0 (kk := 1) (lv2 := [(1, .int (v1 + (M (((a0 + 23) + 9 * v2.toNatClampNeg) + 5)))), (0, .ref (g.1 2 a0)), (2, .int v2)]) (by decide) rfl dX2_soldInAll_23 ?_
      refine r_iincc C0 2 rfl (k0 := 1) (by decide) (by decide) (lv2 := [(2, .int (v2 + 1)), (1, .int (v1 + (M (((a0 + 23) + 9 * v2.toNatClampNeg) + 5)))), (0, .ref (g.1 2 a0))]) rfl dX2_soldInAll_24 ?_
      refine r_goto C0 (tgt := 4) (by decide) dX2_soldInAll_27 ?_
      refine WW.sub [2, 1, 0] rfl ?_
      exact hk4 _ _   _ hf
  have L4 : ∀ (v1 : Int32) (v2 : Int32)  (M : xM), f_X2_soldInAll_c4  a0 v1 v2 M = some (r, M') → WW p l e ({ frames := 0, cells := 0, slots := 0, locals := 0 } : Room) s m args below meth c 0 0 Q 3 D g tb 4 [(0, .ref (g.1 2 a0)), (1, .int v1), (2, .int v2)] [] M := lp_ind (P := fun f => ∀ (v1 : Int32) (v2 : Int32)  (M : xM), f v1 v2 M = some (r, M') → WW p l e ({ frames := 0, cells := 0, slots := 0, locals := 0 } : Room) s m args below meth c 0 0 Q 3 D g tb 4 [(0, .ref (g.1 2 a0)), (1, .int v1), (2, .int v2)] [] M) (fun _ _ _ h => none_ne h) (fun f hf => B4 f hf) FU
  unfold f_X2_soldInAll at hf
  refine r_iconst C0 (v := 0) dX2_soldInAll_0 rfl ?_
  refine r_istore_n C0 (kk := 1) (lv2 := [(1, .int 0), (0, .ref (g.1 2 a0))]) (by decide) rfl dX2_soldInAll_1 ?_
  refine r_iconst C0 (v := 0) dX2_soldInAll_2 rfl ?_
  refine r_istore_n C0 (kk := 2) (lv2 := [(2, .int 0), (1, .int 0), (0, .ref (g.1 2 a0))]) (by decide) rfl dX2_soldInAll_3 ?_
  refine WW.sub [2, 1, 0] rfl ?_
  exact L4   _ _   _ hf
theorem dX6_drawOnRope_0 : decode cX6_drawOnRope 0 = .ok (.iload_n 1, 1) := by decide +kernel
theorem dX6_drawOnRope_1 : decode cX6_drawOnRope 1 = .ok (.ifCond .lt 20, 3) := by decide +kernel
theorem dX6_drawOnRope_4 : decode cX6_drawOnRope 4 = .ok (.iload_n 1, 1) := by decide +kernel
theorem dX6_drawOnRope_5 : decode cX6_drawOnRope 5 = .ok (.aload_n 0, 1) := by decide +kernel
theorem dX6_drawOnRope_6 : decode cX6_drawOnRope 6 = .ok (.getfield 40, 3) := by decide +kernel
theorem dX6_drawOnRope_9 : decode cX6_drawOnRope 9 = .ok (.arraylength, 1) := by decide +kernel
theorem dX6_drawOnRope_10 : decode cX6_drawOnRope 10 = .ok (.if_icmp .ge 11, 3) := by decide +kernel
theorem dX6_drawOnRope_13 : decode cX6_drawOnRope 13 = .ok (.aload_n 0, 1) := by decide +kernel
theorem dX6_drawOnRope_14 : decode cX6_drawOnRope 14 = .ok (.getfield 40, 3) := by decide +kernel
theorem dX6_drawOnRope_17 : decode cX6_drawOnRope 17 = .ok (.iload_n 1, 1) := by decide +kernel
theorem dX6_drawOnRope_18 : decode cX6_drawOnRope 18 = .ok (.iload_n 2, 1) := by decide +kernel
theorem dX6_drawOnRope_19 : decode cX6_drawOnRope 19 = .ok (.i2b, 1) := by decide +kernel
theorem dX6_drawOnRope_20 : decode cX6_drawOnRope 20 = .ok (.bastore, 1) := by decide +kernel
theorem dX6_drawOnRope_21 : decode cX6_drawOnRope 21 = .ok (.return_, 1) := by decide +kernel
theorem hd_X6_drawOnRope : yX6_drawOnRope.cls = RX6 ∧ yX6_drawOnRope.cls ≠ "java/lang/invoke/MethodHandle" ∧ yX6_drawOnRope.cls ≠ "java/lang/invoke/VarHandle" ∧ (parseMethodDescriptor yX6_drawOnRope.desc).map (fun d => d.parameters.length) = some 2 := by decide +kernel
set_option maxRecDepth 100000 in
set_option maxHeartbeats 4000000 in
theorem c_X6_drawOnRope (l : Launch) (D : va_G) (g : xG) (tb : List xQ) (hT : x_T g tb) {a1 : Int32} {a2 : Int32} (h0 : x_fb tb) {M M' : xM} (hf : f_X6_drawOnRope a1 a2 M = some M') :
    cV l D g tb yX6_drawOnRope cX6_drawOnRope 3 ({ frames := 0, cells := 0, slots := 0, locals := 0 } : Room) [.ref (g.1 4 1664), .int a1, .int a2] M M' := by
  refine x_startV (own := RX6) (by decide +kernel) rfl rfl (Nat.le_of_ble_eq_true rfl) hT ?_
  intro p e s m args below meth c Q C0 hend
  unfold f_X6_drawOnRope at hf
  refine r_iload_n C0 (kk := 1) 1 rfl dX6_drawOnRope_0 ?_
  refine r_if_lt C0 (tgt := 21) (by decide) dX6_drawOnRope_1 (fun q1 => ?_) (fun q1 => ?_)
  · have hf := ie_t hf q1
    exact hend hf dX6_drawOnRope_21
  · have hf := ie_f hf q1
    refine r_iload_n C0 (kk := 1) 1 rfl dX6_drawOnRope_4 ?_
    refine r_aload_n C0 (kk := 0) 0 rfl dX6_drawOnRope_5 ?_
    refine r_get4 C0 h0.1 9 (by decide) (v := .ref (g.1 7 1677)) rfl rfl w3_111 dX6_drawOnRope_6 ?_
    refine r_alen7 C0 h0.2.2.2.2.2.2.2.2.1 (v := 100) rfl dX6_drawOnRope_9 ?_
    refine r_icmp_ge C0 (tgt := 21) (by decide) dX6_drawOnRope_10 (fun q2 => ?_) (fun q2 => ?_)
    · have hf := ie_t hf q2
      exact hend hf dX6_drawOnRope_21
    · have hf := ie_f hf q2
      refine r_aload_n C0 (kk := 0) 0 rfl dX6_drawOnRope_13 ?_
      refine r_get4 C0 h0.1 9 (by decide) (v := .ref (g.1 7 1677)) rfl rfl w3_111 dX6_drawOnRope_14 ?_
      refine r_iload_n C0 (kk := 1) 1 rfl dX6_drawOnRope_17 ?_
      refine r_iload_n C0 (kk := 2) 2 rfl dX6_drawOnRope_18 ?_
      refine r_i2b C0 dX6_drawOnRope_19 ?_
      obtain ⟨q3, hf⟩ := gd_e hf
      refine r_bastc C0 h0.2.2.2.2.2.2.2.2.1 q3 rfl dX6_drawOnRope_20 ?_
      exact hend hf dX6_drawOnRope_21
theorem dX6_outputByte_0 : decode cX6_outputByte 0 = .ok (.iload_n 1, 1) := by decide +kernel
theorem dX6_outputByte_1 : decode cX6_outputByte 1 = .ok (.ifCond .lt 11, 3) := by decide +kernel
theorem dX6_outputByte_4 : decode cX6_outputByte 4 = .ok (.iload_n 1, 1) := by decide +kernel
theorem dX6_outputByte_5 : decode cX6_outputByte 5 = .ok (.aload_n 0, 1) := by decide +kernel
theorem dX6_outputByte_6 : decode cX6_outputByte 6 = .ok (.getfield 335, 3) := by decide +kernel
theorem dX6_outputByte_9 : decode cX6_outputByte 9 = .ok (.if_icmp .lt 5, 3) := by decide +kernel
theorem dX6_outputByte_12 : decode cX6_outputByte 12 = .ok (.iconst (-1), 1) := by decide +kernel
theorem dX6_outputByte_13 : decode cX6_outputByte 13 = .ok (.ireturn, 1) := by decide +kernel
theorem dX6_outputByte_14 : decode cX6_outputByte 14 = .ok (.aload_n 0, 1) := by decide +kernel
theorem dX6_outputByte_15 : decode cX6_outputByte 15 = .ok (.getfield 40, 3) := by decide +kernel
theorem dX6_outputByte_18 : decode cX6_outputByte 18 = .ok (.iload_n 1, 1) := by decide +kernel
theorem dX6_outputByte_19 : decode cX6_outputByte 19 = .ok (.baload, 1) := by decide +kernel
theorem dX6_outputByte_20 : decode cX6_outputByte 20 = .ok (.ireturn, 1) := by decide +kernel
theorem hd_X6_outputByte : yX6_outputByte.cls = RX6 ∧ yX6_outputByte.cls ≠ "java/lang/invoke/MethodHandle" ∧ yX6_outputByte.cls ≠ "java/lang/invoke/VarHandle" ∧ (parseMethodDescriptor yX6_outputByte.desc).map (fun d => d.parameters.length) = some 1 := by decide +kernel
set_option maxRecDepth 100000 in
set_option maxHeartbeats 4000000 in
theorem c_X6_outputByte (l : Launch) (D : va_G) (g : xG) (tb : List xQ) (hT : x_T g tb) {a1 : Int32} (h0 : x_fb tb) {M : xM} {r : Int32} {M' : xM} (hf : f_X6_outputByte a1 M = some (r, M')) :
    cI l D g tb yX6_outputByte cX6_outputByte 2 .int ({ frames := 0, cells := 0, slots := 0, locals := 0 } : Room) [.ref (g.1 4 1664), .int a1] M r M' := by
  refine x_startI (own := RX6) (by decide +kernel) rfl rfl (Nat.le_of_ble_eq_true rfl) hT ?_
  intro p e s m args below meth c Q C0 hend
  unfold f_X6_outputByte at hf
  refine r_iload_n C0 (kk := 1) 1 rfl dX6_outputByte_0 ?_
  refine r_if_lt C0 (tgt := 12) (by decide) dX6_outputByte_1 (fun q1 => ?_) (fun q1 => ?_)
  · have hf := ie_t hf q1
    refine r_iconst C0 (v := (-1)) dX6_outputByte_12 rfl ?_
    exact hend hf dX6_outputByte_13
  · have hf := ie_f hf q1
    refine r_iload_n C0 (kk := 1) 1 rfl dX6_outputByte_4 ?_
    refine r_aload_n C0 (kk := 0) 0 rfl dX6_outputByte_5 ?_
    refine r_get4 C0 h0.1 10 (by decide) (v := .int (M 1674)) rfl rfl w3_112 dX6_outputByte_6 ?_
    refine r_icmp_lt C0 (tgt := 14) (by decide) dX6_outputByte_9 (fun q2 => ?_) (fun q2 => ?_)
    · have hf := ie_t hf q2
      refine r_aload_n C0 (kk := 0) 0 rfl dX6_outputByte_14 ?_
      refine r_get4 C0 h0.1 9 (by decide) (v := .ref (g.1 7 1677)) rfl rfl w3_111 dX6_outputByte_15 ?_
      refine r_iload_n C0 (kk := 1) 1 rfl dX6_outputByte_18 ?_
      obtain ⟨q3, hf⟩ := gd_e hf
      refine r_baldc C0 h0.2.2.2.2.2.2.2.2.1 q3 rfl dX6_outputByte_19 ?_
      exact hend hf dX6_outputByte_20
    · have hf := ie_f hf q2
      refine r_iconst C0 (v := (-1)) dX6_outputByte_12 rfl ?_
      exact hend hf dX6_outputByte_13
theorem dX6_checkRange_0 : decode cX6_checkRange 0 = .ok (.iload_n 0, 1) := by decide +kernel
theorem dX6_checkRange_1 : decode cX6_checkRange 1 = .ok (.iload_n 1, 1) := by decide +kernel
theorem dX6_checkRange_2 : decode cX6_checkRange 2 = .ok (.if_icmp .lt 8, 3) := by decide +kernel
theorem dX6_checkRange_5 : decode cX6_checkRange 5 = .ok (.iload_n 0, 1) := by decide +kernel
theorem dX6_checkRange_6 : decode cX6_checkRange 6 = .ok (.iload_n 2, 1) := by decide +kernel
theorem dX6_checkRange_7 : decode cX6_checkRange 7 = .ok (.if_icmp .le 13, 3) := by decide +kernel
theorem dX6_checkRange_10 : decode cX6_checkRange 10 = .ok (.new 206, 3) := by decide +kernel
theorem dX6_checkRange_13 : decode cX6_checkRange 13 = .ok (.dup, 1) := by decide +kernel
theorem dX6_checkRange_14 : decode cX6_checkRange 14 = .ok (.ldc 208, 2) := by decide +kernel
theorem dX6_checkRange_16 : decode cX6_checkRange 16 = .ok (.invokespecial 210, 3) := by decide +kernel
theorem dX6_checkRange_19 : decode cX6_checkRange 19 = .ok (.athrow, 1) := by decide +kernel
theorem dX6_checkRange_20 : decode cX6_checkRange 20 = .ok (.return_, 1) := by decide +kernel
theorem hd_X6_checkRange : yX6_checkRange.cls ≠ "java/lang/invoke/MethodHandle" ∧ yX6_checkRange.cls ≠ "java/lang/invoke/VarHandle" ∧ (parseMethodDescriptor yX6_checkRange.desc).map (fun d => d.parameters.length) = some 3 := by decide +kernel
set_option maxRecDepth 100000 in
set_option maxHeartbeats 4000000 in
theorem c_X6_checkRange (l : Launch) (D : va_G) (g : xG) (tb : List xQ) (hT : x_T g tb) (hlst : l.stackTraces = false) {a0 : Int32} {a1 : Int32} {a2 : Int32}  {M : xM} {k : Nat} {r : Unit} {M' : xM} (hf : f_X6_checkRange a0 a1 a2 M = some (k, r, M')) :
    tV l D g tb yX6_checkRange cX6_checkRange 3 ({ frames := 6, cells := 1, slots := 6, locals := 82 } : Room) 1 [.int a0, .int a1, .int a2] M k M' := by
  refine x_tstartV (own := RX6) (r := r) (by decide +kernel) rfl rfl (Nat.le_of_ble_eq_true rfl) hT ?_
  intro p e s m args below meth c Q C0 hend hpr hthr
  have B10 : ∀ (M : xM), f_X6_checkRange_c10  a0 a1 a2 M = some (k, r, M') → WW p l e ({ frames := 6, cells := 1, slots := 6, locals := 82 } : Room) s m args below meth c 0 0 Q 3 D g tb 10 [] [] M := by
    intro     M hf
    unfold f_X6_checkRange_c10 at hf
    exact hthr hlst rfl x_tk1 (by decide) (si := 10) rfl dX6_checkRange_10 dX6_checkRange_13 (Or.inl ⟨dX6_checkRange_14, dX6_checkRange_16, dX6_checkRange_19⟩) (by decide) (Nat.le_of_ble_eq_true rfl) (by decide) (by decide) (by decide) (by decide) hf
  unfold f_X6_checkRange at hf
  refine r_iload_n C0 (kk := 0) 0 rfl dX6_checkRange_0 ?_
  refine r_iload_n C0 (kk := 1) 1 rfl dX6_checkRange_1 ?_
  refine r_icmp_lt C0 (tgt := 10) (by decide) dX6_checkRange_2 (fun q1 => ?_) (fun q1 => ?_)
  · have hf := ie_t hf q1
    refine WW.sub [] rfl ?_
    exact B10     _ hf
  · have hf := ie_f hf q1
    refine r_iload_n C0 (kk := 0) 0 rfl dX6_checkRange_5 ?_
    refine r_iload_n C0 (kk := 2) 2 rfl dX6_checkRange_6 ?_
    refine r_icmp_le C0 (tgt := 20) (by decide) dX6_checkRange_7 (fun q2 => ?_) (fun q2 => ?_)
    · have hf := ie_t hf q2
      exact hend (by decide) (by decide) hf dX6_checkRange_20
    · have hf := ie_f hf q2
      refine WW.sub [] rfl ?_
      exact B10     _ hf
theorem dX6_checkStall_0 : decode cX6_checkStall 0 = .ok (.iload_n 1, 1) := by decide +kernel
theorem dX6_checkStall_1 : decode cX6_checkStall 1 = .ok (.ifCond .lt 14, 3) := by decide +kernel
theorem dX6_checkStall_4 : decode cX6_checkStall 4 = .ok (.iload_n 1, 1) := by decide +kernel
theorem dX6_checkStall_5 : decode cX6_checkStall 5 = .ok (.aload_n 0, 1) := by decide +kernel
theorem dX6_checkStall_6 : decode cX6_checkStall 6 = .ok (.getfield 10, 3) := by decide +kernel
theorem dX6_checkStall_9 : decode cX6_checkStall 9 = .ok (.getfield 66, 3) := by decide +kernel
theorem dX6_checkStall_12 : decode cX6_checkStall 12 = .ok (.if_icmp .lt 13, 3) := by decide +kernel
theorem dX6_checkStall_15 : decode cX6_checkStall 15 = .ok (.new 200, 3) := by decide +kernel
theorem dX6_checkStall_18 : decode cX6_checkStall 18 = .ok (.dup, 1) := by decide +kernel
theorem dX6_checkStall_19 : decode cX6_checkStall 19 = .ok (.ldc 202, 2) := by decide +kernel
theorem dX6_checkStall_21 : decode cX6_checkStall 21 = .ok (.invokespecial 204, 3) := by decide +kernel
theorem dX6_checkStall_24 : decode cX6_checkStall 24 = .ok (.athrow, 1) := by decide +kernel
theorem dX6_checkStall_25 : decode cX6_checkStall 25 = .ok (.return_, 1) := by decide +kernel
theorem hd_X6_checkStall : yX6_checkStall.cls = RX6 ∧ yX6_checkStall.cls ≠ "java/lang/invoke/MethodHandle" ∧ yX6_checkStall.cls ≠ "java/lang/invoke/VarHandle" ∧ (parseMethodDescriptor yX6_checkStall.desc).map (fun d => d.parameters.length) = some 1 := by decide +kernel
set_option maxRecDepth 100000 in
set_option maxHeartbeats 4000000 in
theorem c_X6_checkStall (l : Launch) (D : va_G) (g : xG) (tb : List xQ) (hT : x_T g tb) (hlst : l.stackTraces = false) {a1 : Int32} (h0 : x_fb tb) {M : xM} {k : Nat} {r : Unit} {M' : xM} (hf : f_X6_checkStall a1 M = some (k, r, M')) :
    tV l D g tb yX6_checkStall cX6_checkStall 2 ({ frames := 6, cells := 1, slots := 6, locals := 82 } : Room) 1 [.ref (g.1 4 1664), .int a1] M k M' := by
  refine x_tstartV (own := RX6) (r := r) (by decide +kernel) rfl rfl (Nat.le_of_ble_eq_true rfl) hT ?_
  intro p e s m args below meth c Q C0 hend hpr hthr
  have B15 : ∀ (M : xM), f_X6_checkStall_c15  a1 M = some (k, r, M') → WW p l e ({ frames := 6, cells := 1, slots := 6, locals := 82 } : Room) s m args below meth c 0 0 Q 2 D g tb 15 [] [] M := by
    intro     M hf
    unfold f_X6_checkStall_c15 at hf
    exact hthr hlst rfl x_tk2 (by decide) (si := 11) rfl dX6_checkStall_15 dX6_checkStall_18 (Or.inl ⟨dX6_checkStall_19, dX6_checkStall_21, dX6_checkStall_24⟩) (by decide) (Nat.le_of_ble_eq_true rfl) (by decide) (by decide) (by decide) (by decide) hf
  unfold f_X6_checkStall at hf
  refine r_iload_n C0 (kk := 1) 1 rfl dX6_checkStall_0 ?_
  refine r_if_lt C0 (tgt := 15) (by decide) dX6_checkStall_1 (fun q1 => ?_) (fun q1 => ?_)
  · have hf := ie_t hf q1
    refine WW.sub [] rfl ?_
    exact B15     _ hf
  · have hf := ie_f hf q1
    refine r_iload_n C0 (kk := 1) 1 rfl dX6_checkStall_4 ?_
    refine r_aload_n C0 (kk := 0) 0 rfl dX6_checkStall_5 ?_
    refine r_get4 C0 h0.1 0 (by decide) (v := .ref (g.1 2 0)) rfl rfl w3_102 dX6_checkStall_6 ?_
    refine r_get2 C0 h0.2.1.1 1 (by decide) (v := .int (M 9)) rfl rfl w1_139 dX6_checkStall_9 ?_
    refine r_icmp_lt C0 (tgt := 25) (by decide) dX6_checkStall_12 (fun q2 => ?_) (fun q2 => ?_)
    · have hf := ie_t hf q2
      exact hend (by decide) (by decide) hf dX6_checkStall_25
    · have hf := ie_f hf q2
      refine WW.sub [] rfl ?_
      exact B15     _ hf
theorem dX6_heldOf_0 : decode cX6_heldOf 0 = .ok (.aload_n 0, 1) := by decide +kernel
theorem dX6_heldOf_1 : decode cX6_heldOf 1 = .ok (.iload_n 1, 1) := by decide +kernel
theorem dX6_heldOf_2 : decode cX6_heldOf 2 = .ok (.invokevirtual 173, 3) := by decide +kernel
theorem dX6_heldOf_5 : decode cX6_heldOf 5 = .ok (.aload_n 0, 1) := by decide +kernel
theorem dX6_heldOf_6 : decode cX6_heldOf 6 = .ok (.getfield 10, 3) := by decide +kernel
theorem dX6_heldOf_9 : decode cX6_heldOf 9 = .ok (.iload_n 1, 1) := by decide +kernel
theorem dX6_heldOf_10 : decode cX6_heldOf 10 = .ok (.invokevirtual 176, 3) := by decide +kernel
theorem dX6_heldOf_13 : decode cX6_heldOf 13 = .ok (.ireturn, 1) := by decide +kernel
theorem hd_X6_heldOf : yX6_heldOf.cls = RX6 ∧ yX6_heldOf.cls ≠ "java/lang/invoke/MethodHandle" ∧ yX6_heldOf.cls ≠ "java/lang/invoke/VarHandle" ∧ (parseMethodDescriptor yX6_heldOf.desc).map (fun d => d.parameters.length) = some 1 := by decide +kernel
set_option maxRecDepth 100000 in
set_option maxHeartbeats 4000000 in
theorem c_X6_heldOf (l : Launch) (D : va_G) (g : xG) (tb : List xQ) (hT : x_T g tb) (hlst : l.stackTraces = false) {a1 : Int32} (h0 : x_fb tb) {M : xM} {k : Nat} {r : Int32} {M' : xM} (hf : f_X6_heldOf a1 M = some (k, r, M')) :
    tI l D g tb yX6_heldOf cX6_heldOf 2 .int ({ frames := 7, cells := 1, slots := 6, locals := 103 } : Room) 1 [.ref (g.1 4 1664), .int a1] M k r M' := by
  refine x_tstartI (own := RX6) (r := r) (by decide +kernel) rfl rfl (Nat.le_of_ble_eq_true rfl) hT ?_
  intro p e s m args below meth c Q C0 hend hpr hthr
  unfold f_X6_heldOf at hf
  refine r_aload_n C0 (kk := 0) 0 rfl dX6_heldOf_0 ?_
  refine r_iload_n C0 (kk := 1) 1 rfl dX6_heldOf_1 ?_
  obtain ⟨k2, r4, M3, hc1, hx5, hf⟩ := tbd_e hf
  refine r_tcallVv C0 (As := [.int a1]) (rest := []) (c_X6_checkStall l D g tb hT hlst h0 hc1) w4_129 w4_131 wp2_11 w1_1 w4_132 (x_rec4 C0 h0.1) hd_X6_checkStall rfl ⟨rfl, rfl⟩ ⟨Nat.le_of_ble_eq_true rfl, Nat.le_of_ble_eq_true rfl⟩ (by decide) (by decide) rfl (Nat.le_of_ble_eq_true rfl) dX6_heldOf_2 (fun H1 locs1 ls E ce q hk hE hH hS hl h1 h2 h3 => hpr (by decide) (by decide) hk hE hH hS h1 h2 h3 (hx5 hk)) (fun hk => ?_)
  have hf := hf hk
  refine r_aload_n C0 (kk := 0) 0 rfl dX6_heldOf_5 ?_
  refine r_get4 C0 h0.1 0 (by decide) (v := .ref (g.1 2 0)) rfl rfl w3_102 dX6_heldOf_6 ?_
  refine r_iload_n C0 (kk := 1) 1 rfl dX6_heldOf_9 ?_
  obtain ⟨r9, M8, hc7, hf⟩ := bd2_e hf
  refine r_callVi C0 (As := [.int a1]) (rest := []) (c_X2_countHeld l D g tb hT h0.2.1 hc7) w3_238 w3_239 w4_0 w1_2 w4_1 (x_rec2 C0 h0.2.1.1) hd_X2_countHeld rfl ⟨rfl, rfl⟩ ⟨Nat.le_of_ble_eq_true rfl, Nat.le_of_ble_eq_true rfl⟩ (by decide) (by decide) rfl (Nat.le_of_ble_eq_true rfl) dX6_heldOf_10 ?_
  exact hend (by decide) (by decide) hf dX6_heldOf_13
theorem dX6_reach_0 : decode cX6_reach 0 = .ok (.iload_n 1, 1) := by decide +kernel
theorem dX6_reach_1 : decode cX6_reach 1 = .ok (.iconst 0, 1) := by decide +kernel
theorem dX6_reach_2 : decode cX6_reach 2 = .ok (.iconst 3, 1) := by decide +kernel
theorem dX6_reach_3 : decode cX6_reach 3 = .ok (.invokestatic 123, 3) := by decide +kernel
theorem dX6_reach_6 : decode cX6_reach 6 = .ok (.iload_n 2, 1) := by decide +kernel
theorem dX6_reach_7 : decode cX6_reach 7 = .ok (.iconst 0, 1) := by decide +kernel
theorem dX6_reach_8 : decode cX6_reach 8 = .ok (.bipush 9, 2) := by decide +kernel
theorem dX6_reach_10 : decode cX6_reach 10 = .ok (.invokestatic 123, 3) := by decide +kernel
theorem dX6_reach_13 : decode cX6_reach 13 = .ok (.iload_n 1, 1) := by decide +kernel
theorem dX6_reach_14 : decode cX6_reach 14 = .ok (.iload_n 2, 1) := by decide +kernel
theorem dX6_reach_15 : decode cX6_reach 15 = .ok (.invokestatic 188, 3) := by decide +kernel
theorem dX6_reach_18 : decode cX6_reach 18 = .ok (.ireturn, 1) := by decide +kernel
theorem hd_X6_reach : yX6_reach.cls = RX6 ∧ yX6_reach.cls ≠ "java/lang/invoke/MethodHandle" ∧ yX6_reach.cls ≠ "java/lang/invoke/VarHandle" ∧ (parseMethodDescriptor yX6_reach.desc).map (fun d => d.parameters.length) = some 2 := by decide +kernel
set_option maxRecDepth 100000 in
set_option maxHeartbeats 4000000 in
theorem c_X6_reach (l : Launch) (D : va_G) (g : xG) (tb : List xQ) (hT : x_T g tb) (hlst : l.stackTraces = false) {a1 : Int32} {a2 : Int32} (h0 : x_fb tb) {M : xM} {k : Nat} {r : Int32} {M' : xM} (hf : f_X6_reach a1 a2 M = some (k, r, M')) :
    tI l D g tb yX6_reach cX6_reach 3 .int ({ frames := 7, cells := 2, slots := 12, locals := 104 } : Room) 2 [.ref (g.1 4 1664), .int a1, .int a2] M k r M' := by
  refine x_tstartI (own := RX6) (r := r) (by decide +kernel) rfl rfl (Nat.le_of_ble_eq_true rfl) hT ?_
  intro p e s m args below meth c Q C0 hend hpr hthr
  unfold f_X6_reach at hf
  refine r_iload_n C0 (kk := 1) 1 rfl dX6_reach_0 ?_
  refine r_iconst C0 (v := 0) dX6_reach_1 rfl ?_
  refine r_iconst C0 (v := 3) dX6_reach_2 rfl ?_
  obtain ⟨k2, r4, M3, hc1, hx5, hf⟩ := tbd_e hf
  refine r_tcallSv C0 (As := [.int a1, .int 0, .int 3]) (rest := []) (c_X6_checkRange l D g tb hT hlst  hc1) w4_45 w4_46 w1_1 w4_47 hd_X6_checkRange rfl ⟨rfl, rfl⟩ ⟨Nat.le_of_ble_eq_true rfl, Nat.le_of_ble_eq_true rfl⟩ (by decide) (by decide) rfl (Nat.le_of_ble_eq_true rfl) dX6_reach_3 (fun H1 locs1 ls E ce q hk hE hH hS hl h1 h2 h3 => hpr (by decide) (by decide) hk hE hH hS h1 h2 h3 (hx5 hk)) (fun hk => ?_)
  have hf := hf hk
  refine r_iload_n C0 (kk := 2) 2 rfl dX6_reach_6 ?_
  refine r_iconst C0 (v := 0) dX6_reach_7 rfl ?_
  refine r_bipush C0 (v := 9) dX6_reach_8 rfl ?_
  obtain ⟨k8, r10, M9, hc7, hx11, hf⟩ := tbd_e hf
  refine r_tcallSv C0 (As := [.int a2, .int 0, .int 9]) (rest := []) (c_X6_checkRange l D g tb hT hlst  hc7) w4_45 w4_46 w1_1 w4_47 hd_X6_checkRange rfl ⟨rfl, rfl⟩ ⟨Nat.le_of_ble_eq_true rfl, Nat.le_of_ble_eq_true rfl⟩ (by decide) (by decide) rfl (Nat.le_of_ble_eq_true rfl) dX6_reach_10 (fun H1 locs1 ls E ce q hk hE hH hS hl h1 h2 h3 => hpr (by decide) (by decide) hk hE hH hS h1 h2 h3 (hx11 hk)) (fun hk => ?_)
  have hf := hf hk
  refine r_iload_n C0 (kk := 1) 1 rfl dX6_reach_13 ?_
  refine r_iload_n C0 (kk := 2) 2 rfl dX6_reach_14 ?_
  obtain ⟨r15, M14, hc13, hf⟩ := bd2_e hf
  refine r_callSi C0 (As := [.int a1, .int a2]) (rest := []) (c_X4_paces l D g tb hT  hc13) w4_212 w3_53 w1_3 w3_54 hd_X4_paces rfl ⟨rfl, rfl⟩ ⟨Nat.le_of_ble_eq_true rfl, Nat.le_of_ble_eq_true rfl⟩ (by decide) (by decide) rfl (Nat.le_of_ble_eq_true rfl) dX6_reach_15 ?_
  exact hend (by decide) (by decide) hf dX6_reach_18
theorem dX4_isSeenFrom_0 : decode cX4_isSeenFrom 0 = .ok (.aload_n 0, 1) := by decide +kernel
theorem dX4_isSeenFrom_1 : decode cX4_isSeenFrom 1 = .ok (.getfield 9, 3) := by decide +kernel
theorem dX4_isSeenFrom_4 : decode cX4_isSeenFrom 4 = .ok (.iload_n 1, 1) := by decide +kernel
theorem dX4_isSeenFrom_5 : decode cX4_isSeenFrom 5 = .ok (.isub, 1) := by decide +kernel
theorem dX4_isSeenFrom_6 : decode cX4_isSeenFrom 6 = .ok (.invokestatic 39, 3) := by decide +kernel
theorem dX4_isSeenFrom_9 : decode cX4_isSeenFrom 9 = .ok (.aload_n 0, 1) := by decide +kernel
theorem dX4_isSeenFrom_10 : decode cX4_isSeenFrom 10 = .ok (.getfield 15, 3) := by decide +kernel
theorem dX4_isSeenFrom_13 : decode cX4_isSeenFrom 13 = .ok (.iload_n 2, 1) := by decide +kernel
theorem dX4_isSeenFrom_14 : decode cX4_isSeenFrom 14 = .ok (.invokestatic 45, 3) := by decide +kernel
theorem dX4_isSeenFrom_17 : decode cX4_isSeenFrom 17 = .ok (.if_icmp .gt 7, 3) := by decide +kernel
theorem dX4_isSeenFrom_20 : decode cX4_isSeenFrom 20 = .ok (.iconst 1, 1) := by decide +kernel
theorem dX4_isSeenFrom_21 : decode cX4_isSeenFrom 21 = .ok (.goto 4, 3) := by decide +kernel
theorem dX4_isSeenFrom_24 : decode cX4_isSeenFrom 24 = .ok (.iconst 0, 1) := by decide +kernel
theorem dX4_isSeenFrom_25 : decode cX4_isSeenFrom 25 = .ok (.ireturn, 1) := by decide +kernel
theorem hd_X4_isSeenFrom : yX4_isSeenFrom.cls = RX4 ∧ yX4_isSeenFrom.cls ≠ "java/lang/invoke/MethodHandle" ∧ yX4_isSeenFrom.cls ≠ "java/lang/invoke/VarHandle" ∧ (parseMethodDescriptor yX4_isSeenFrom.desc).map (fun d => d.parameters.length) = some 2 := by decide +kernel
set_option maxRecDepth 100000 in
set_option maxHeartbeats 4000000 in
theorem c_X4_isSeenFrom (l : Launch) (D : va_G) (g : xG) (tb : List xQ) (hT : x_T g tb) {a0 : Nat} {a1 : Int32} {a2 : Int32} (h0 : ((0, a0, 0) : xQ) ∈ tb) {M : xM} {r : Int32} {M' : xM} (hf : f_X4_isSeenFrom a0 a1 a2 M = some (r, M')) :
    cI l D g tb yX4_isSeenFrom cX4_isSeenFrom 3 .boolean ({ frames := 1, cells := 0, slots := 0, locals := 21 } : Room) [.ref (g.1 0 a0), .int a1, .int a2] M r M' := by
  refine x_startZ (own := RX4) (by decide +kernel) rfl rfl (Nat.le_of_ble_eq_true rfl) hT ?_
  intro p e s m args below meth c Q C0 hend
  unfold f_X4_isSeenFrom at hf
  refine r_aload_n C0 (kk := 0) 0 rfl dX4_isSeenFrom_0 ?_
  refine r_get0 C0 h0 0 (by decide) (v := .int (M (a0 + 0))) rfl rfl w1_45 dX4_isSeenFrom_1 ?_
  refine r_iload_n C0 (kk := 1) 1 rfl dX4_isSeenFrom_4 ?_
  refine r_isub C0 dX4_isSeenFrom_5 ?_
  refine r_abs C0 w4_224 w3_50 w1_13 w3_51 (by decide) (Nat.le_of_ble_eq_true rfl) (by decide) (by decide) dX4_isSeenFrom_6 ?_
  refine r_aload_n C0 (kk := 0) 0 rfl dX4_isSeenFrom_9 ?_
  refine r_get0 C0 h0 1 (by decide) (v := .int (M (a0 + 1))) rfl rfl w1_48 dX4_isSeenFrom_10 ?_
  refine r_iload_n C0 (kk := 2) 2 rfl dX4_isSeenFrom_13 ?_
  obtain ⟨r3, M2, hc1, hf⟩ := bd2_e hf
  refine r_callSi C0 (As := [.int (M (a0 + 1)), .int a2]) (rest := [.int (iabs ((M (a0 + 0)) - a1))]) (c_X4_paces l D g tb hT  hc1) w4_225 w3_53 w1_3 w3_54 hd_X4_paces rfl ⟨rfl, rfl⟩ ⟨Nat.le_of_ble_eq_true rfl, Nat.le_of_ble_eq_true rfl⟩ (by decide) (by decide) rfl (Nat.le_of_ble_eq_true rfl) dX4_isSeenFrom_14 ?_
  refine r_icmp_gt C0 (tgt := 24) (by decide) dX4_isSeenFrom_17 (fun q4 => ?_) (fun q4 => ?_)
  · have hf := ie_t hf q4
    refine r_iconst C0 (v := 0) dX4_isSeenFrom_24 rfl ?_
    exact hend (by decide) hf dX4_isSeenFrom_25
  · have hf := ie_f hf q4
    refine r_iconst C0 (v := 1) dX4_isSeenFrom_20 rfl ?_
    refine r_goto C0 (tgt := 25) (by decide) dX4_isSeenFrom_21 ?_
    exact hend (by decide) hf dX4_isSeenFrom_25
theorem dX6_checkBuyer_0 : decode cX6_checkBuyer 0 = .ok (.iload_n 1, 1) := by decide +kernel
theorem dX6_checkBuyer_1 : decode cX6_checkBuyer 1 = .ok (.ifCond .lt 14, 3) := by decide +kernel
theorem dX6_checkBuyer_4 : decode cX6_checkBuyer 4 = .ok (.iload_n 1, 1) := by decide +kernel
theorem dX6_checkBuyer_5 : decode cX6_checkBuyer 5 = .ok (.aload_n 0, 1) := by decide +kernel
theorem dX6_checkBuyer_6 : decode cX6_checkBuyer 6 = .ok (.getfield 10, 3) := by decide +kernel
theorem dX6_checkBuyer_9 : decode cX6_checkBuyer 9 = .ok (.getfield 211, 3) := by decide +kernel
theorem dX6_checkBuyer_12 : decode cX6_checkBuyer 12 = .ok (.if_icmp .lt 13, 3) := by decide +kernel
theorem dX6_checkBuyer_15 : decode cX6_checkBuyer 15 = .ok (.new 200, 3) := by decide +kernel
theorem dX6_checkBuyer_18 : decode cX6_checkBuyer 18 = .ok (.dup, 1) := by decide +kernel
theorem dX6_checkBuyer_19 : decode cX6_checkBuyer 19 = .ok (.ldc 253, 2) := by decide +kernel
theorem dX6_checkBuyer_21 : decode cX6_checkBuyer 21 = .ok (.invokespecial 204, 3) := by decide +kernel
theorem dX6_checkBuyer_24 : decode cX6_checkBuyer 24 = .ok (.athrow, 1) := by decide +kernel
theorem dX6_checkBuyer_25 : decode cX6_checkBuyer 25 = .ok (.return_, 1) := by decide +kernel
theorem hd_X6_checkBuyer : yX6_checkBuyer.cls = RX6 ∧ yX6_checkBuyer.cls ≠ "java/lang/invoke/MethodHandle" ∧ yX6_checkBuyer.cls ≠ "java/lang/invoke/VarHandle" ∧ (parseMethodDescriptor yX6_checkBuyer.desc).map (fun d => d.parameters.length) = some 1 := by decide +kernel
set_option maxRecDepth 100000 in
set_option maxHeartbeats 4000000 in
theorem c_X6_checkBuyer (l : Launch) (D : va_G) (g : xG) (tb : List xQ) (hT : x_T g tb) (hlst : l.stackTraces = false) {a1 : Int32} (h0 : x_fb tb) {M : xM} {k : Nat} {r : Unit} {M' : xM} (hf : f_X6_checkBuyer a1 M = some (k, r, M')) :
    tV l D g tb yX6_checkBuyer cX6_checkBuyer 2 ({ frames := 6, cells := 1, slots := 6, locals := 82 } : Room) 1 [.ref (g.1 4 1664), .int a1] M k M' := by
  refine x_tstartV (own := RX6) (r := r) (by decide +kernel) rfl rfl (Nat.le_of_ble_eq_true rfl) hT ?_
  intro p e s m args below meth c Q C0 hend hpr hthr
  have B15 : ∀ (M : xM), f_X6_checkBuyer_c15  a1 M = some (k, r, M') → WW p l e ({ frames := 6, cells := 1, slots := 6, locals := 82 } : Room) s m args below meth c 0 0 Q 2 D g tb 15 [] [] M := by
    intro     M hf
    unfold f_X6_checkBuyer_c15 at hf
    exact hthr hlst rfl x_tk2 (by decide) (si := 12) rfl dX6_checkBuyer_15 dX6_checkBuyer_18 (Or.inl ⟨dX6_checkBuyer_19, dX6_checkBuyer_21, dX6_checkBuyer_24⟩) (by decide) (Nat.le_of_ble_eq_true rfl) (by decide) (by decide) (by decide) (by decide) hf
  unfold f_X6_checkBuyer at hf
  refine r_iload_n C0 (kk := 1) 1 rfl dX6_checkBuyer_0 ?_
  refine r_if_lt C0 (tgt := 15) (by decide) dX6_checkBuyer_1 (fun q1 => ?_) (fun q1 => ?_)
  · have hf := ie_t hf q1
    refine WW.sub [] rfl ?_
    exact B15     _ hf
  · have hf := ie_f hf q1
    refine r_iload_n C0 (kk := 1) 1 rfl dX6_checkBuyer_4 ?_
    refine r_aload_n C0 (kk := 0) 0 rfl dX6_checkBuyer_5 ?_
    refine r_get4 C0 h0.1 0 (by decide) (v := .ref (g.1 2 0)) rfl rfl w3_102 dX6_checkBuyer_6 ?_
    refine r_get2 C0 h0.2.1.1 3 (by decide) (v := .int (M 10)) rfl rfl w1_146 dX6_checkBuyer_9 ?_
    refine r_icmp_lt C0 (tgt := 25) (by decide) dX6_checkBuyer_12 (fun q2 => ?_) (fun q2 => ?_)
    · have hf := ie_t hf q2
      exact hend (by decide) (by decide) hf dX6_checkBuyer_25
    · have hf := ie_f hf q2
      refine WW.sub [] rfl ?_
      exact B15     _ hf
theorem dX7_startTrial_0 : decode cX7_startTrial 0 = .ok (.iconst 0, 1) := by decide +kernel
theorem dX7_startTrial_1 : decode cX7_startTrial 1 = .ok (.istore_n 1, 1) := by decide +kernel
theorem dX7_startTrial_2 : decode cX7_startTrial 2 = .ok (.iload_n 1, 1) := by decide +kernel
theorem dX7_startTrial_3 : decode cX7_startTrial 3 = .ok (.bipush 125, 2) := by decide +kernel
theorem dX7_startTrial_5 : decode cX7_startTrial 5 = .ok (.if_icmp .ge 21, 3) := by decide +kernel
theorem dX7_startTrial_8 : decode cX7_startTrial 8 = .ok (.aload_n 0, 1) := by decide +kernel
theorem dX7_startTrial_9 : decode cX7_startTrial 9 = .ok (.getfield 23, 3) := by decide +kernel
theorem dX7_startTrial_12 : decode cX7_startTrial 12 = .ok (.iload_n 1, 1) := by decide +kernel
theorem dX7_startTrial_13 : decode cX7_startTrial 13 = .ok (.aload_n 0, 1) := by decide +kernel
theorem dX7_startTrial_14 : decode cX7_startTrial 14 = .ok (.getfield 17, 3) := by decide +kernel
theorem dX7_startTrial_17 : decode cX7_startTrial 17 = .ok (.iload_n 1, 1) := by decide +kernel
theorem dX7_startTrial_18 : decode cX7_startTrial 18 = .ok (.iaload, 1) := by decide +kernel
theorem dX7_startTrial_19 : decode cX7_startTrial 19 = .ok (.iastore, 1) := by decide +kernel
theorem dX7_startTrial_20 : decode cX7_startTrial 20 = .ok (.iinc 1 1, 3) := by decide +kernel
theorem dX7_startTrial_23 : decode cX7_startTrial 23 = .ok (.goto (-21), 3) := by decide +kernel
theorem dX7_startTrial_26 : decode cX7_startTrial 26 = .ok (.return_, 1) := by decide +kernel
theorem hd_X7_startTrial : yX7_startTrial.cls = RX7 ∧ yX7_startTrial.cls ≠ "java/lang/invoke/MethodHandle" ∧ yX7_startTrial.cls ≠ "java/lang/invoke/VarHandle" ∧ (parseMethodDescriptor yX7_startTrial.desc).map (fun d => d.parameters.length) = some 0 := by decide +kernel
set_option maxRecDepth 100000 in
set_option maxHeartbeats 4000000 in
theorem c_X7_startTrial (l : Launch) (D : va_G) (g : xG) (tb : List xQ) (hT : x_T g tb)  (h0 : x_md tb) {M M' : xM} (hf : f_X7_startTrial  M = some M') :
    cV l D g tb yX7_startTrial cX7_startTrial 2 ({ frames := 0, cells := 0, slots := 0, locals := 0 } : Room) [.ref (g.1 5 2500)] M M' := by
  refine x_startV (own := RX7) (by decide +kernel) rfl rfl (Nat.le_of_ble_eq_true rfl) hT ?_
  intro p e s m args below meth c Q C0 hend
  have B2 : ∀ (k2 : Int32 → xM → Option xM) (hk2 : ∀ (v1 : Int32)  (M : xM), k2 v1 M = some M' → WW p l e ({ frames := 0, cells := 0, slots := 0, locals := 0 } : Room) s m args below meth c 0 0 Q 2 D g tb 2 [(0, .ref (g.1 5 2500)), (1, .int v1)] [] M), ∀ (v1 : Int32)  (M : xM), fb_X7_startTrial_c2 k2  v1 M = some M' → WW p l e ({ frames := 0, cells := 0, slots := 0, locals := 0 } : Room) s m args below meth c 0 0 Q 2 D g tb 2 [(0, .ref (g.1 5 2500)), (1, .int v1)] [] M := by
    intro k2 hk2 v1  M hf
    unfold fb_X7_startTrial_c2 at hf
    refine r_iload_n C0 (kk := 1) 1 rfl dX7_startTrial_2 ?_
    refine r_bipush C0 (v := 125) dX7_startTrial_3 rfl ?_
    refine r_icmp_ge C0 (tgt := 26) (by decide) dX7_startTrial_5 (fun q1 => ?_) (fun q1 => ?_)
    · have hf := ie_t hf q1
      exact hend hf dX7_startTrial_26
    · have hf := ie_f hf q1
      refine r_aload_n C0 (kk := 0) 0 rfl dX7_startTrial_8 ?_
      refine r_get5 C0 h0.1 7 (by decide) (v := .ref (g.1 6 2770)) rfl rfl w6_223 dX7_startTrial_9 ?_
      refine r_iload_n C0 (kk := 1) 1 rfl dX7_startTrial_12 ?_
      refine r_aload_n C0 (kk := 0) 0 rfl dX7_startTrial_13 ?_
      refine r_get5 C0 h0.1 5 (by decide) (v := .ref (g.1 6 2520)) rfl rfl w6_221 dX7_startTrial_14 ?_
      refine r_iload_n C0 (kk := 1) 1 rfl dX7_startTrial_17 ?_
      obtain ⟨q2, hf⟩ := gd_e hf
      refine r_ialdc C0 h0.2.1 q2 rfl dX7_startTrial_18 ?_
      obtain ⟨q3, hf⟩ := gd_e hf
      refine r_iastc C0 h0.2.2.2.1 q3 rfl dX7_startTrial_19 ?_
      refine r_iincc C0 1 rfl (k0 := 1) (by decide) (by decide) (lv2 := [(1, .int (v1 + 1)), (0, .ref (g.1 5 2500))]) rfl dX7_startTrial_20 ?_
      refine r_goto C0 (tgt := 2) (by decide) dX7_startTrial_23 ?_
      refine WW.sub [1, 0] rfl ?_
      exact hk2 _   _ hf
  have L2 : ∀ (v1 : Int32)  (M : xM), f_X7_startTrial_c2   v1 M = some M' → WW p l e ({ frames := 0, cells := 0, slots := 0, locals := 0 } : Room) s m args below meth c 0 0 Q 2 D g tb 2 [(0, .ref (g.1 5 2500)), (1, .int v1)] [] M := lp_ind (P := fun f => ∀ (v1 : Int32)  (M : xM), f v1 M = some M' → WW p l e ({ frames := 0, cells := 0, slots := 0, locals := 0 } : Room) s m args below meth c 0 0 Q 2 D g tb 2 [(0, .ref (g.1 5 2500)), (1, .int v1)] [] M) (fun _ _ h => none_ne h) (fun f hf => B2 f hf) FU
  unfold f_X7_startTrial at hf
  refine r_iconst C0 (v := 0) dX7_startTrial_0 rfl ?_
  refine r_istore_n C0 (kk := 1) (lv2 := [(1, .int 0), (0, .ref (g.1 5 2500))]) (by decide) rfl dX7_startTrial_1 ?_
  refine WW.sub [1, 0] rfl ?_
  exact L2   _   _ hf
theorem dX7_inRange_0 : decode cX7_inRange 0 = .ok (.iload_n 0, 1) := by decide +kernel
theorem dX7_inRange_1 : decode cX7_inRange 1 = .ok (.iload_n 1, 1) := by decide +kernel
theorem dX7_inRange_2 : decode cX7_inRange 2 = .ok (.if_icmp .lt 12, 3) := by decide +kernel
theorem dX7_inRange_5 : decode cX7_inRange 5 = .ok (.iload_n 0, 1) := by decide +kernel
theorem dX7_inRange_6 : decode cX7_inRange 6 = .ok (.iload_n 2, 1) := by decide +kernel
theorem dX7_inRange_7 : decode cX7_inRange 7 = .ok (.if_icmp .gt 7, 3) := by decide +kernel
theorem dX7_inRange_10 : decode cX7_inRange 10 = .ok (.iconst 1, 1) := by decide +kernel
theorem dX7_inRange_11 : decode cX7_inRange 11 = .ok (.goto 4, 3) := by decide +kernel
theorem dX7_inRange_14 : decode cX7_inRange 14 = .ok (.iconst 0, 1) := by decide +kernel
theorem dX7_inRange_15 : decode cX7_inRange 15 = .ok (.ireturn, 1) := by decide +kernel
theorem hd_X7_inRange : yX7_inRange.cls ≠ "java/lang/invoke/MethodHandle" ∧ yX7_inRange.cls ≠ "java/lang/invoke/VarHandle" ∧ (parseMethodDescriptor yX7_inRange.desc).map (fun d => d.parameters.length) = some 3 := by decide +kernel
set_option maxRecDepth 100000 in
set_option maxHeartbeats 4000000 in
theorem c_X7_inRange (l : Launch) (D : va_G) (g : xG) (tb : List xQ) (hT : x_T g tb) {a0 : Int32} {a1 : Int32} {a2 : Int32}  {M : xM} {r : Int32} {M' : xM} (hf : f_X7_inRange a0 a1 a2 M = some (r, M')) :
    cI l D g tb yX7_inRange cX7_inRange 3 .boolean ({ frames := 0, cells := 0, slots := 0, locals := 0 } : Room) [.int a0, .int a1, .int a2] M r M' := by
  refine x_startZ (own := RX7) (by decide +kernel) rfl rfl (Nat.le_of_ble_eq_true rfl) hT ?_
  intro p e s m args below meth c Q C0 hend
  unfold f_X7_inRange at hf
  refine r_iload_n C0 (kk := 0) 0 rfl dX7_inRange_0 ?_
  refine r_iload_n C0 (kk := 1) 1 rfl dX7_inRange_1 ?_
  refine r_icmp_lt C0 (tgt := 14) (by decide) dX7_inRange_2 (fun q1 => ?_) (fun q1 => ?_)
  · have hf := ie_t hf q1
    refine r_iconst C0 (v := 0) dX7_inRange_14 rfl ?_
    exact hend (by decide) hf dX7_inRange_15
  · have hf := ie_f hf q1
    refine r_iload_n C0 (kk := 0) 0 rfl dX7_inRange_5 ?_
    refine r_iload_n C0 (kk := 2) 2 rfl dX7_inRange_6 ?_
    refine r_icmp_gt C0 (tgt := 14) (by decide) dX7_inRange_7 (fun q2 => ?_) (fun q2 => ?_)
    · have hf := ie_t hf q2
      refine r_iconst C0 (v := 0) dX7_inRange_14 rfl ?_
      exact hend (by decide) hf dX7_inRange_15
    · have hf := ie_f hf q2
      refine r_iconst C0 (v := 1) dX7_inRange_10 rfl ?_
      refine r_goto C0 (tgt := 15) (by decide) dX7_inRange_11 ?_
      exact hend (by decide) hf dX7_inRange_15
theorem dX7_isDigit_0 : decode cX7_isDigit 0 = .ok (.iload_n 0, 1) := by decide +kernel
theorem dX7_isDigit_1 : decode cX7_isDigit 1 = .ok (.bipush 48, 2) := by decide +kernel
theorem dX7_isDigit_3 : decode cX7_isDigit 3 = .ok (.bipush 57, 2) := by decide +kernel
theorem dX7_isDigit_5 : decode cX7_isDigit 5 = .ok (.invokestatic 147, 3) := by decide +kernel
theorem dX7_isDigit_8 : decode cX7_isDigit 8 = .ok (.ireturn, 1) := by decide +kernel
theorem hd_X7_isDigit : yX7_isDigit.cls ≠ "java/lang/invoke/MethodHandle" ∧ yX7_isDigit.cls ≠ "java/lang/invoke/VarHandle" ∧ (parseMethodDescriptor yX7_isDigit.desc).map (fun d => d.parameters.length) = some 1 := by decide +kernel
set_option maxRecDepth 100000 in
set_option maxHeartbeats 4000000 in
theorem c_X7_isDigit (l : Launch) (D : va_G) (g : xG) (tb : List xQ) (hT : x_T g tb) {a0 : Int32}  {M : xM} {r : Int32} {M' : xM} (hf : f_X7_isDigit a0 M = some (r, M')) :
    cI l D g tb yX7_isDigit cX7_isDigit 1 .boolean ({ frames := 1, cells := 0, slots := 0, locals := 22 } : Room) [.int a0] M r M' := by
  refine x_startZ (own := RX7) (by decide +kernel) rfl rfl (Nat.le_of_ble_eq_true rfl) hT ?_
  intro p e s m args below meth c Q C0 hend
  unfold f_X7_isDigit at hf
  refine r_iload_n C0 (kk := 0) 0 rfl dX7_isDigit_0 ?_
  refine r_bipush C0 (v := 48) dX7_isDigit_1 rfl ?_
  refine r_bipush C0 (v := 57) dX7_isDigit_3 rfl ?_
  obtain ⟨r3, M2, hc1, hf⟩ := bd2_e hf
  refine r_callSi C0 (As := [.int a0, .int 48, .int 57]) (rest := []) (c_X7_inRange l D g tb hT  hc1) w6_12 w6_13 w1_14 w6_14 hd_X7_inRange rfl ⟨rfl, rfl⟩ ⟨Nat.le_of_ble_eq_true rfl, Nat.le_of_ble_eq_true rfl⟩ (by decide) (by decide) rfl (Nat.le_of_ble_eq_true rfl) dX7_isDigit_5 ?_
  obtain ⟨q4, hf⟩ := gd_e hf
  exact hend q4 hf dX7_isDigit_8
theorem dX7_flag_0 : decode cX7_flag 0 = .ok (.iload_n 0, 1) := by decide +kernel
theorem dX7_flag_1 : decode cX7_flag 1 = .ok (.ifCond .eq 7, 3) := by decide +kernel
theorem dX7_flag_4 : decode cX7_flag 4 = .ok (.iconst 1, 1) := by decide +kernel
theorem dX7_flag_5 : decode cX7_flag 5 = .ok (.goto 4, 3) := by decide +kernel
theorem dX7_flag_8 : decode cX7_flag 8 = .ok (.iconst 0, 1) := by decide +kernel
theorem dX7_flag_9 : decode cX7_flag 9 = .ok (.ireturn, 1) := by decide +kernel
theorem hd_X7_flag : yX7_flag.cls ≠ "java/lang/invoke/MethodHandle" ∧ yX7_flag.cls ≠ "java/lang/invoke/VarHandle" ∧ (parseMethodDescriptor yX7_flag.desc).map (fun d => d.parameters.length) = some 1 := by decide +kernel
set_option maxRecDepth 100000 in
set_option maxHeartbeats 4000000 in
theorem c_X7_flag (l : Launch) (D : va_G) (g : xG) (tb : List xQ) (hT : x_T g tb) {a0 : Int32}  {M : xM} {r : Int32} {M' : xM} (hf : f_X7_flag a0 M = some (r, M')) :
    cI l D g tb yX7_flag cX7_flag 1 .int ({ frames := 0, cells := 0, slots := 0, locals := 0 } : Room) [.int a0] M r M' := by
  refine x_startI (own := RX7) (by decide +kernel) rfl rfl (Nat.le_of_ble_eq_true rfl) hT ?_
  intro p e s m args below meth c Q C0 hend
  unfold f_X7_flag at hf
  refine r_iload_n C0 (kk := 0) 0 rfl dX7_flag_0 ?_
  refine r_if_eq C0 (tgt := 8) (by decide) dX7_flag_1 (fun q1 => ?_) (fun q1 => ?_)
  · have hf := ie_t hf q1
    refine r_iconst C0 (v := 0) dX7_flag_8 rfl ?_
    exact hend hf dX7_flag_9
  · have hf := ie_f hf q1
    refine r_iconst C0 (v := 1) dX7_flag_4 rfl ?_
    refine r_goto C0 (tgt := 9) (by decide) dX7_flag_5 ?_
    exact hend hf dX7_flag_9
theorem dX7_wrong_0 : decode cX7_wrong 0 = .ok (.aload_n 0, 1) := by decide +kernel
theorem dX7_wrong_1 : decode cX7_wrong 1 = .ok (.iload_n 1, 1) := by decide +kernel
theorem dX7_wrong_2 : decode cX7_wrong 2 = .ok (.putfield 170, 3) := by decide +kernel
theorem dX7_wrong_5 : decode cX7_wrong 5 = .ok (.aload_n 0, 1) := by decide +kernel
theorem dX7_wrong_6 : decode cX7_wrong 6 = .ok (.aload_n 0, 1) := by decide +kernel
theorem dX7_wrong_7 : decode cX7_wrong 7 = .ok (.getfield 153, 3) := by decide +kernel
theorem dX7_wrong_10 : decode cX7_wrong 10 = .ok (.putfield 13, 3) := by decide +kernel
theorem dX7_wrong_13 : decode cX7_wrong 13 = .ok (.iconst 0, 1) := by decide +kernel
theorem dX7_wrong_14 : decode cX7_wrong 14 = .ok (.ireturn, 1) := by decide +kernel
theorem hd_X7_wrong : yX7_wrong.cls = RX7 ∧ yX7_wrong.cls ≠ "java/lang/invoke/MethodHandle" ∧ yX7_wrong.cls ≠ "java/lang/invoke/VarHandle" ∧ (parseMethodDescriptor yX7_wrong.desc).map (fun d => d.parameters.length) = some 1 := by decide +kernel
set_option maxRecDepth 100000 in
set_option maxHeartbeats 4000000 in
theorem c_X7_wrong (l : Launch) (D : va_G) (g : xG) (tb : List xQ) (hT : x_T g tb) {a1 : Int32} (h0 : x_md tb) {M : xM} {r : Int32} {M' : xM} (hf : f_X7_wrong a1 M = some (r, M')) :
    cI l D g tb yX7_wrong cX7_wrong 2 .boolean ({ frames := 0, cells := 0, slots := 0, locals := 0 } : Room) [.ref (g.1 5 2500), .int a1] M r M' := by
  refine x_startZ (own := RX7) (by decide +kernel) rfl rfl (Nat.le_of_ble_eq_true rfl) hT ?_
  intro p e s m args below meth c Q C0 hend
  unfold f_X7_wrong at hf
  refine r_aload_n C0 (kk := 0) 0 rfl dX7_wrong_0 ?_
  refine r_iload_n C0 (kk := 1) 1 rfl dX7_wrong_1 ?_
  refine r_put5 C0 h0.1 2 rfl rfl w6_218 rfl rfl rfl dX7_wrong_2 ?_
  refine r_aload_n C0 (kk := 0) 0 rfl dX7_wrong_5 ?_
  refine r_aload_n C0 (kk := 0) 0 rfl dX7_wrong_6 ?_
  refine r_get5 C0 h0.1 17 (by decide) (v := .int ((upd M 2502 a1) 2517)) rfl rfl w6_233 dX7_wrong_7 ?_
  refine r_put5 C0 h0.1 3 rfl rfl w6_219 rfl rfl rfl dX7_wrong_10 ?_
  refine r_iconst C0 (v := 0) dX7_wrong_13 rfl ?_
  exact hend (by decide) hf dX7_wrong_14
theorem dX7_numberIn_0 : decode cX7_numberIn 0 = .ok (.aload_n 0, 1) := by decide +kernel
theorem dX7_numberIn_1 : decode cX7_numberIn 1 = .ok (.getfield 156, 3) := by decide +kernel
theorem dX7_numberIn_4 : decode cX7_numberIn 4 = .ok (.iconst 1, 1) := by decide +kernel
theorem dX7_numberIn_5 : decode cX7_numberIn 5 = .ok (.if_icmp .eq 9, 3) := by decide +kernel
theorem dX7_numberIn_8 : decode cX7_numberIn 8 = .ok (.aload_n 0, 1) := by decide +kernel
theorem dX7_numberIn_9 : decode cX7_numberIn 9 = .ok (.iconst 1, 1) := by decide +kernel
theorem dX7_numberIn_10 : decode cX7_numberIn 10 = .ok (.invokevirtual 177, 3) := by decide +kernel
theorem dX7_numberIn_13 : decode cX7_numberIn 13 = .ok (.ireturn, 1) := by decide +kernel
theorem dX7_numberIn_14 : decode cX7_numberIn 14 = .ok (.aload_n 0, 1) := by decide +kernel
theorem dX7_numberIn_15 : decode cX7_numberIn 15 = .ok (.getfield 166, 3) := by decide +kernel
theorem dX7_numberIn_18 : decode cX7_numberIn 18 = .ok (.iload_n 1, 1) := by decide +kernel
theorem dX7_numberIn_19 : decode cX7_numberIn 19 = .ok (.iload_n 2, 1) := by decide +kernel
theorem dX7_numberIn_20 : decode cX7_numberIn 20 = .ok (.invokestatic 147, 3) := by decide +kernel
theorem dX7_numberIn_23 : decode cX7_numberIn 23 = .ok (.ifCond .ne 11, 3) := by decide +kernel
theorem dX7_numberIn_26 : decode cX7_numberIn 26 = .ok (.aload_n 0, 1) := by decide +kernel
theorem dX7_numberIn_27 : decode cX7_numberIn 27 = .ok (.iconst 2, 1) := by decide +kernel
theorem dX7_numberIn_28 : decode cX7_numberIn 28 = .ok (.invokevirtual 177, 3) := by decide +kernel
theorem dX7_numberIn_31 : decode cX7_numberIn 31 = .ok (.ifCond .eq 7, 3) := by decide +kernel
theorem dX7_numberIn_34 : decode cX7_numberIn 34 = .ok (.iconst 1, 1) := by decide +kernel
theorem dX7_numberIn_35 : decode cX7_numberIn 35 = .ok (.goto 4, 3) := by decide +kernel
theorem dX7_numberIn_38 : decode cX7_numberIn 38 = .ok (.iconst 0, 1) := by decide +kernel
theorem dX7_numberIn_39 : decode cX7_numberIn 39 = .ok (.ireturn, 1) := by decide +kernel
theorem hd_X7_numberIn : yX7_numberIn.cls = RX7 ∧ yX7_numberIn.cls ≠ "java/lang/invoke/MethodHandle" ∧ yX7_numberIn.cls ≠ "java/lang/invoke/VarHandle" ∧ (parseMethodDescriptor yX7_numberIn.desc).map (fun d => d.parameters.length) = some 2 := by decide +kernel
set_option maxRecDepth 100000 in
set_option maxHeartbeats 4000000 in
theorem c_X7_numberIn (l : Launch) (D : va_G) (g : xG) (tb : List xQ) (hT : x_T g tb) {a1 : Int32} {a2 : Int32} (h0 : x_md tb) {M : xM} {r : Int32} {M' : xM} (hf : f_X7_numberIn a1 a2 M = some (r, M')) :
    cI l D g tb yX7_numberIn cX7_numberIn 3 .boolean ({ frames := 1, cells := 0, slots := 0, locals := 22 } : Room) [.ref (g.1 5 2500), .int a1, .int a2] M r M' := by
  refine x_startZ (own := RX7) (by decide +kernel) rfl rfl (Nat.le_of_ble_eq_true rfl) hT ?_
  intro p e s m args below meth c Q C0 hend
  unfold f_X7_numberIn at hf
  refine r_aload_n C0 (kk := 0) 0 rfl dX7_numberIn_0 ?_
  refine r_get5 C0 h0.1 16 (by decide) (v := .int (M 2516)) rfl rfl w6_232 dX7_numberIn_1 ?_
  refine r_iconst C0 (v := 1) dX7_numberIn_4 rfl ?_
  refine r_icmp_eq C0 (tgt := 14) (by decide) dX7_numberIn_5 (fun q1 => ?_) (fun q1 => ?_)
  · have hf := ie_t hf q1
    refine r_aload_n C0 (kk := 0) 0 rfl dX7_numberIn_14 ?_
    refine r_get5 C0 h0.1 18 (by decide) (v := .int (M 2518)) rfl rfl w6_234 dX7_numberIn_15 ?_
    refine r_iload_n C0 (kk := 1) 1 rfl dX7_numberIn_18 ?_
    refine r_iload_n C0 (kk := 2) 2 rfl dX7_numberIn_19 ?_
    obtain ⟨r4, M3, hc2, hf⟩ := bd2_e hf
    refine r_callSi C0 (As := [.int (M 2518), .int a1, .int a2]) (rest := []) (c_X7_inRange l D g tb hT  hc2) w6_12 w6_13 w1_14 w6_14 hd_X7_inRange rfl ⟨rfl, rfl⟩ ⟨Nat.le_of_ble_eq_true rfl, Nat.le_of_ble_eq_true rfl⟩ (by decide) (by decide) rfl (Nat.le_of_ble_eq_true rfl) dX7_numberIn_20 ?_
    refine r_if_ne C0 (tgt := 34) (by decide) dX7_numberIn_23 (fun q5 => ?_) (fun q5 => ?_)
    · have hf := ie_f hf q5
      refine r_iconst C0 (v := 1) dX7_numberIn_34 rfl ?_
      refine r_goto C0 (tgt := 39) (by decide) dX7_numberIn_35 ?_
      exact hend (by decide) hf dX7_numberIn_39
    · have hf := ie_t hf q5
      refine r_aload_n C0 (kk := 0) 0 rfl dX7_numberIn_26 ?_
      refine r_iconst C0 (v := 2) dX7_numberIn_27 rfl ?_
      obtain ⟨r8, M7, hc6, hf⟩ := bd2_e hf
      refine r_callVi C0 (As := [.int 2]) (rest := []) (c_X7_wrong l D g tb hT h0 hc6) w6_35 w6_37 wp3_4 w1_14 w6_38 (x_rec5 C0 h0.1) hd_X7_wrong rfl ⟨rfl, rfl⟩ ⟨Nat.le_of_ble_eq_true rfl, Nat.le_of_ble_eq_true rfl⟩ (by decide) (by decide) rfl (Nat.le_of_ble_eq_true rfl) dX7_numberIn_28 ?_
      refine r_if_eq C0 (tgt := 38) (by decide) dX7_numberIn_31 (fun q9 => ?_) (fun q9 => ?_)
      · have hf := ie_t hf q9
        refine r_iconst C0 (v := 0) dX7_numberIn_38 rfl ?_
        exact hend (by decide) hf dX7_numberIn_39
      · have hf := ie_f hf q9
        refine r_iconst C0 (v := 1) dX7_numberIn_34 rfl ?_
        refine r_goto C0 (tgt := 39) (by decide) dX7_numberIn_35 ?_
        exact hend (by decide) hf dX7_numberIn_39
  · have hf := ie_f hf q1
    refine r_aload_n C0 (kk := 0) 0 rfl dX7_numberIn_8 ?_
    refine r_iconst C0 (v := 1) dX7_numberIn_9 rfl ?_
    obtain ⟨r12, M11, hc10, hf⟩ := bd2_e hf
    refine r_callVi C0 (As := [.int 1]) (rest := []) (c_X7_wrong l D g tb hT h0 hc10) w6_35 w6_37 wp3_4 w1_14 w6_38 (x_rec5 C0 h0.1) hd_X7_wrong rfl ⟨rfl, rfl⟩ ⟨Nat.le_of_ble_eq_true rfl, Nat.le_of_ble_eq_true rfl⟩ (by decide) (by decide) rfl (Nat.le_of_ble_eq_true rfl) dX7_numberIn_10 ?_
    obtain ⟨q13, hf⟩ := gd_e hf
    exact hend q13 hf dX7_numberIn_13
