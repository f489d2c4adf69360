theorem dJ0_coder_7d493_0 : decode cJ0_coder_7d493 0 = .ok (.getstatic 38, 3) := by decide +kernel
theorem dJ0_coder_7d493_3 : decode cJ0_coder_7d493 3 = .ok (.ifCond .eq 10, 3) := by decide +kernel
theorem dJ0_coder_7d493_6 : decode cJ0_coder_7d493 6 = .ok (.aload_n 0, 1) := by decide +kernel
theorem dJ0_coder_7d493_7 : decode cJ0_coder_7d493 7 = .ok (.getfield 15, 3) := by decide +kernel
theorem dJ0_coder_7d493_10 : decode cJ0_coder_7d493 10 = .ok (.goto 4, 3) := by decide +kernel
theorem dJ0_coder_7d493_13 : decode cJ0_coder_7d493 13 = .ok (.iconst 1, 1) := by decide +kernel
theorem dJ0_coder_7d493_14 : decode cJ0_coder_7d493 14 = .ok (.ireturn, 1) := by decide +kernel
theorem hd_J0_coder_7d493 : yJ0_coder_7d493.cls = RJ0 ∧ yJ0_coder_7d493.cls ≠ "java/lang/invoke/MethodHandle" ∧ yJ0_coder_7d493.cls ≠ "java/lang/invoke/VarHandle" ∧ (parseMethodDescriptor yJ0_coder_7d493.desc).map (fun d => d.parameters.length) = some 0 := by decide +kernel
set_option maxRecDepth 100000 in
set_option maxHeartbeats 4000000 in
theorem c_J0_coder_7d493 (l : Launch) (D : va_G) (g : xG) (tb : List xQ) (hT : x_T g tb) {a0 : Nat} (h0 : a0 < 56) {M : xM} {r : Int32} {M' : xM} (hf : f_J0_coder_7d493 a0 M = some (r, M')) :
    cI l D g tb yJ0_coder_7d493 cJ0_coder_7d493 1 .byte ({ frames := 0, cells := 0, slots := 0, locals := 0 } : Room) [.ref (g.1 20 a0)] M r M' := by
  refine x_startN (own := RJ0) (by decide +kernel) rfl rfl (Nat.le_of_ble_eq_true rfl) hT ?_
  intro p e s m args below meth c Q C0 hend
  unfold f_J0_coder_7d493 at hf
  refine r_compact C0 w2_13 dJ0_coder_7d493_0 ?_
  refine r_if_eq C0 (tgt := 13) (by decide) dJ0_coder_7d493_3 (fun q1 => ?_) (fun q1 => ?_)
  · have hf := ie_t hf q1
    refine r_iconst C0 (v := 1) dJ0_coder_7d493_13 rfl ?_
    obtain ⟨q2, hf⟩ := gd_e hf
    exact hend (isn_e q2) hf dJ0_coder_7d493_14
  · have hf := ie_f hf q1
    refine r_aload_n C0 (kk := 0) 0 rfl dJ0_coder_7d493_6 ?_
    refine r_scod C0 h0 w8_130 dJ0_coder_7d493_7 ?_
    refine r_goto C0 (tgt := 14) (by decide) dJ0_coder_7d493_10 ?_
    obtain ⟨q3, hf⟩ := gd_e hf
    exact hend (isn_e q3) hf dJ0_coder_7d493_14
theorem dJ0_isLatin1_aae02_0 : decode cJ0_isLatin1_aae02 0 = .ok (.getstatic 38, 3) := by decide +kernel
theorem dJ0_isLatin1_aae02_3 : decode cJ0_isLatin1_aae02 3 = .ok (.ifCond .eq 14, 3) := by decide +kernel
theorem dJ0_isLatin1_aae02_6 : decode cJ0_isLatin1_aae02 6 = .ok (.aload_n 0, 1) := by decide +kernel
theorem dJ0_isLatin1_aae02_7 : decode cJ0_isLatin1_aae02 7 = .ok (.getfield 15, 3) := by decide +kernel
theorem dJ0_isLatin1_aae02_10 : decode cJ0_isLatin1_aae02 10 = .ok (.ifCond .ne 7, 3) := by decide +kernel
theorem dJ0_isLatin1_aae02_13 : decode cJ0_isLatin1_aae02 13 = .ok (.iconst 1, 1) := by decide +kernel
theorem dJ0_isLatin1_aae02_14 : decode cJ0_isLatin1_aae02 14 = .ok (.goto 4, 3) := by decide +kernel
theorem dJ0_isLatin1_aae02_17 : decode cJ0_isLatin1_aae02 17 = .ok (.iconst 0, 1) := by decide +kernel
theorem dJ0_isLatin1_aae02_18 : decode cJ0_isLatin1_aae02 18 = .ok (.ireturn, 1) := by decide +kernel
theorem hd_J0_isLatin1_aae02 : yJ0_isLatin1_aae02.cls = RJ0 ∧ yJ0_isLatin1_aae02.cls ≠ "java/lang/invoke/MethodHandle" ∧ yJ0_isLatin1_aae02.cls ≠ "java/lang/invoke/VarHandle" ∧ (parseMethodDescriptor yJ0_isLatin1_aae02.desc).map (fun d => d.parameters.length) = some 0 := by decide +kernel
set_option maxRecDepth 100000 in
set_option maxHeartbeats 4000000 in
theorem c_J0_isLatin1_aae02 (l : Launch) (D : va_G) (g : xG) (tb : List xQ) (hT : x_T g tb) {a0 : Nat} (h0 : a0 < 56) {M : xM} {r : Int32} {M' : xM} (hf : f_J0_isLatin1_aae02 a0 M = some (r, M')) :
    cI l D g tb yJ0_isLatin1_aae02 cJ0_isLatin1_aae02 1 .boolean ({ frames := 0, cells := 0, slots := 0, locals := 0 } : Room) [.ref (g.1 20 a0)] M r M' := by
  refine x_startZ (own := RJ0) (by decide +kernel) rfl rfl (Nat.le_of_ble_eq_true rfl) hT ?_
  intro p e s m args below meth c Q C0 hend
  unfold f_J0_isLatin1_aae02 at hf
  refine r_compact C0 w2_13 dJ0_isLatin1_aae02_0 ?_
  refine r_if_eq C0 (tgt := 17) (by decide) dJ0_isLatin1_aae02_3 (fun q1 => ?_) (fun q1 => ?_)
  · have hf := ie_t hf q1
    refine r_iconst C0 (v := 0) dJ0_isLatin1_aae02_17 rfl ?_
    exact hend (by decide) hf dJ0_isLatin1_aae02_18
  · have hf := ie_f hf q1
    refine r_aload_n C0 (kk := 0) 0 rfl dJ0_isLatin1_aae02_6 ?_
    refine r_scod C0 h0 w8_130 dJ0_isLatin1_aae02_7 ?_
    refine r_if_ne C0 (tgt := 17) (by decide) dJ0_isLatin1_aae02_10 (fun q2 => ?_) (fun q2 => ?_)
    · have hf := ie_f hf q2
      refine r_iconst C0 (v := 0) dJ0_isLatin1_aae02_17 rfl ?_
      exact hend (by decide) hf dJ0_isLatin1_aae02_18
    · have hf := ie_t hf q2
      refine r_iconst C0 (v := 1) dJ0_isLatin1_aae02_13 rfl ?_
      refine r_goto C0 (tgt := 18) (by decide) dJ0_isLatin1_aae02_14 ?_
      exact hend (by decide) hf dJ0_isLatin1_aae02_18
theorem dJ3_checkIndex_8e157_0 : decode cJ3_checkIndex_8e157 0 = .ok (.iload_n 0, 1) := by decide +kernel
theorem dJ3_checkIndex_8e157_1 : decode cJ3_checkIndex_8e157 1 = .ok (.ifCond .lt 8, 3) := by decide +kernel
theorem dJ3_checkIndex_8e157_4 : decode cJ3_checkIndex_8e157 4 = .ok (.iload_n 0, 1) := by decide +kernel
theorem dJ3_checkIndex_8e157_5 : decode cJ3_checkIndex_8e157 5 = .ok (.iload_n 1, 1) := by decide +kernel
theorem dJ3_checkIndex_8e157_6 : decode cJ3_checkIndex_8e157 6 = .ok (.if_icmp .lt 10, 3) := by decide +kernel
theorem dJ3_checkIndex_8e157_9 : decode cJ3_checkIndex_8e157 9 = .ok (.aload_n 2, 1) := by decide +kernel
theorem dJ3_checkIndex_8e157_10 : decode cJ3_checkIndex_8e157 10 = .ok (.iload_n 0, 1) := by decide +kernel
theorem dJ3_checkIndex_8e157_11 : decode cJ3_checkIndex_8e157 11 = .ok (.iload_n 1, 1) := by decide +kernel
theorem dJ3_checkIndex_8e157_12 : decode cJ3_checkIndex_8e157 12 = .ok (.invokestatic 95, 3) := by decide +kernel
theorem dJ3_checkIndex_8e157_15 : decode cJ3_checkIndex_8e157 15 = .ok (.athrow, 1) := by decide +kernel
theorem dJ3_checkIndex_8e157_16 : decode cJ3_checkIndex_8e157 16 = .ok (.iload_n 0, 1) := by decide +kernel
theorem dJ3_checkIndex_8e157_17 : decode cJ3_checkIndex_8e157 17 = .ok (.ireturn, 1) := by decide +kernel
theorem hd_J3_checkIndex_8e157 : yJ3_checkIndex_8e157.cls ≠ "java/lang/invoke/MethodHandle" ∧ yJ3_checkIndex_8e157.cls ≠ "java/lang/invoke/VarHandle" ∧ (parseMethodDescriptor yJ3_checkIndex_8e157.desc).map (fun d => d.parameters.length) = some 3 := by decide +kernel
set_option maxRecDepth 100000 in
set_option maxHeartbeats 4000000 in
theorem c_J3_checkIndex_8e157 (l : Launch) (D : va_G) (g : xG) (tb : List xQ) (hT : x_T g tb) {a0 : Int32} {a1 : Int32} {a2 : (Option Nat)}  {M : xM} {r : Int32} {M' : xM} (hf : f_J3_checkIndex_8e157 a0 a1 M = some (r, M')) :
    cI l D g tb yJ3_checkIndex_8e157 cJ3_checkIndex_8e157 3 .int ({ frames := 0, cells := 0, slots := 0, locals := 0 } : Room) [.int a0, .int a1, va_rf a2] M r M' := by
  refine x_startI (own := RJ3) (by decide +kernel) rfl rfl (by cases a2 <;> exact Nat.le_of_ble_eq_true rfl) hT ?_
  intro p e s m args below meth c Q C0 hend
  have B9 : ∀ (M : xM), f_J3_checkIndex_8e157_c9  a0 a1 M = some (r, M') → WW p l e ({ frames := 0, cells := 0, slots := 0, locals := 0 } : Room) s m args below meth c 0 0 Q 3 D g tb 9 [(0, .int a0), (1, .int a1), (2, va_rf a2)] [] M := by
    intro     M hf
    unfold f_J3_checkIndex_8e157_c9 at hf
    exact none_ne hf
  unfold f_J3_checkIndex_8e157 at hf
  refine r_iload_n C0 (kk := 0) 0 rfl dJ3_checkIndex_8e157_0 ?_
  refine r_if_lt C0 (tgt := 9) (by decide) dJ3_checkIndex_8e157_1 (fun q1 => ?_) (fun q1 => ?_)
  · have hf := ie_t hf q1
    exact B9     _ hf
  · have hf := ie_f hf q1
    refine r_iload_n C0 (kk := 0) 0 rfl dJ3_checkIndex_8e157_4 ?_
    refine r_iload_n C0 (kk := 1) 1 rfl dJ3_checkIndex_8e157_5 ?_
    refine r_icmp_lt C0 (tgt := 16) (by decide) dJ3_checkIndex_8e157_6 (fun q2 => ?_) (fun q2 => ?_)
    · have hf := ie_t hf q2
      refine r_iload_n C0 (kk := 0) 0 rfl dJ3_checkIndex_8e157_16 ?_
      exact hend hf dJ3_checkIndex_8e157_17
    · have hf := ie_f hf q2
      exact B9     _ hf
theorem dX3_hasNoRoom_0 : decode cX3_hasNoRoom 0 = .ok (.aload_n 0, 1) := by decide +kernel
theorem dX3_hasNoRoom_1 : decode cX3_hasNoRoom 1 = .ok (.getfield 91, 3) := by decide +kernel
theorem dX3_hasNoRoom_4 : decode cX3_hasNoRoom 4 = .ok (.getstatic 118, 3) := by decide +kernel
theorem dX3_hasNoRoom_7 : decode cX3_hasNoRoom 7 = .ok (.if_acmp .ne 12, 3) := by decide +kernel
theorem dX3_hasNoRoom_10 : decode cX3_hasNoRoom 10 = .ok (.aload_n 1, 1) := by decide +kernel
theorem dX3_hasNoRoom_11 : decode cX3_hasNoRoom 11 = .ok (.getfield 121, 3) := by decide +kernel
theorem dX3_hasNoRoom_14 : decode cX3_hasNoRoom 14 = .ok (.bipush 6, 2) := by decide +kernel
theorem dX3_hasNoRoom_16 : decode cX3_hasNoRoom 16 = .ok (.if_icmp .ge 22, 3) := by decide +kernel
theorem dX3_hasNoRoom_19 : decode cX3_hasNoRoom 19 = .ok (.aload_n 0, 1) := by decide +kernel
theorem dX3_hasNoRoom_20 : decode cX3_hasNoRoom 20 = .ok (.getfield 91, 3) := by decide +kernel
theorem dX3_hasNoRoom_23 : decode cX3_hasNoRoom 23 = .ok (.getstatic 124, 3) := by decide +kernel
theorem dX3_hasNoRoom_26 : decode cX3_hasNoRoom 26 = .ok (.if_acmp .ne 16, 3) := by decide +kernel
theorem dX3_hasNoRoom_29 : decode cX3_hasNoRoom 29 = .ok (.aload_n 1, 1) := by decide +kernel
theorem dX3_hasNoRoom_30 : decode cX3_hasNoRoom 30 = .ok (.getfield 127, 3) := by decide +kernel
theorem dX3_hasNoRoom_33 : decode cX3_hasNoRoom 33 = .ok (.bipush 6, 2) := by decide +kernel
theorem dX3_hasNoRoom_35 : decode cX3_hasNoRoom 35 = .ok (.if_icmp .lt 7, 3) := by decide +kernel
theorem dX3_hasNoRoom_38 : decode cX3_hasNoRoom 38 = .ok (.iconst 1, 1) := by decide +kernel
theorem dX3_hasNoRoom_39 : decode cX3_hasNoRoom 39 = .ok (.goto 4, 3) := by decide +kernel
theorem dX3_hasNoRoom_42 : decode cX3_hasNoRoom 42 = .ok (.iconst 0, 1) := by decide +kernel
theorem dX3_hasNoRoom_43 : decode cX3_hasNoRoom 43 = .ok (.ireturn, 1) := by decide +kernel
theorem hd_X3_hasNoRoom : yX3_hasNoRoom.cls = RX3 ∧ yX3_hasNoRoom.cls ≠ "java/lang/invoke/MethodHandle" ∧ yX3_hasNoRoom.cls ≠ "java/lang/invoke/VarHandle" ∧ (parseMethodDescriptor yX3_hasNoRoom.desc).map (fun d => d.parameters.length) = some 1 := by decide +kernel
set_option maxRecDepth 100000 in
set_option maxHeartbeats 4000000 in
theorem c_X3_hasNoRoom (l : Launch) (D : va_G) (g : xG) (tb : List xQ) (hT : x_T g tb) {a1 : Nat} (h0 : x_rd tb) (h1 : x_mk tb a1) {M : xM} {r : Int32} {M' : xM} (hf : f_X3_hasNoRoom a1 M = some (r, M')) :
    cI l D g tb yX3_hasNoRoom cX3_hasNoRoom 2 .boolean ({ frames := 0, cells := 0, slots := 0, locals := 0 } : Room) [.ref (g.1 3 1777), .ref (g.1 2 a1)] M r M' := by
  refine x_startZ (own := RX3) (by decide +kernel) rfl rfl (Nat.le_of_ble_eq_true rfl) hT ?_
  intro p e s m args below meth c Q C0 hend
  have B19 : ∀ (M : xM), f_X3_hasNoRoom_c19  a1 M = some (r, M') → WW p l e ({ frames := 0, cells := 0, slots := 0, locals := 0 } : Room) s m args below meth c 0 0 Q 2 D g tb 19 [(0, .ref (g.1 3 1777)), (1, .ref (g.1 2 a1))] [] M := by
    intro     M hf
    unfold f_X3_hasNoRoom_c19 at hf
    refine r_aload_n C0 (kk := 0) 0 rfl dX3_hasNoRoom_19 ?_
    refine r_get3 C0 h0.1 4 (by decide) (v := va_re g.2.2 (x_en (M 1781))) rfl rfl w1_210 dX3_hasNoRoom_20 ?_
    refine r_gverb C0 (i := 1) (x := 2) (by decide) (by decide) w2_146 dX3_hasNoRoom_23 ?_
    obtain ⟨q5, hf⟩ := gd_e hf
    refine r_acmpne C0 q5 (by decide) (tgt := 42) (by decide) dX3_hasNoRoom_26 (fun q4 => ?_) (fun q4 => ?_)
    · have hf := ie_f hf q4
      refine r_iconst C0 (v := 0) dX3_hasNoRoom_42 rfl ?_
      exact hend (by decide) hf dX3_hasNoRoom_43
    · have hf := ie_t hf q4
      refine r_aload_n C0 (kk := 1) 1 rfl dX3_hasNoRoom_29 ?_
      refine r_get2 C0 h1.1 3 (by decide) (v := .int (M (a1 + 10))) rfl rfl w1_145 dX3_hasNoRoom_30 ?_
      refine r_bipush C0 (v := 6) dX3_hasNoRoom_33 rfl ?_
      refine r_icmp_lt C0 (tgt := 42) (by decide) dX3_hasNoRoom_35 (fun q6 => ?_) (fun q6 => ?_)
      · have hf := ie_t hf q6
        refine r_iconst C0 (v := 0) dX3_hasNoRoom_42 rfl ?_
        exact hend (by decide) hf dX3_hasNoRoom_43
      · have hf := ie_f hf q6
        refine r_iconst C0 (v := 1) dX3_hasNoRoom_38 rfl ?_
        refine r_goto C0 (tgt := 43) (by decide) dX3_hasNoRoom_39 ?_
        exact hend (by decide) hf dX3_hasNoRoom_43
  unfold f_X3_hasNoRoom at hf
  refine r_aload_n C0 (kk := 0) 0 rfl dX3_hasNoRoom_0 ?_
  refine r_get3 C0 h0.1 4 (by decide) (v := va_re g.2.2 (x_en (M 1781))) rfl rfl w1_210 dX3_hasNoRoom_1 ?_
  refine r_gverb C0 (i := 0) (x := 1) (by decide) (by decide) w2_144 dX3_hasNoRoom_4 ?_
  obtain ⟨q2, hf⟩ := gd_e hf
  refine r_acmpne C0 q2 (by decide) (tgt := 19) (by decide) dX3_hasNoRoom_7 (fun q1 => ?_) (fun q1 => ?_)
  · have hf := ie_f hf q1
    exact B19     _ hf
  · have hf := ie_t hf q1
    refine r_aload_n C0 (kk := 1) 1 rfl dX3_hasNoRoom_10 ?_
    refine r_get2 C0 h1.1 1 (by decide) (v := .int (M (a1 + 9))) rfl rfl w1_140 dX3_hasNoRoom_11 ?_
    refine r_bipush C0 (v := 6) dX3_hasNoRoom_14 rfl ?_
    refine r_icmp_ge C0 (tgt := 38) (by decide) dX3_hasNoRoom_16 (fun q3 => ?_) (fun q3 => ?_)
    · have hf := ie_t hf q3
      refine r_iconst C0 (v := 1) dX3_hasNoRoom_38 rfl ?_
      refine r_goto C0 (tgt := 43) (by decide) dX3_hasNoRoom_39 ?_
      exact hend (by decide) hf dX3_hasNoRoom_43
    · have hf := ie_f hf q3
      exact B19     _ hf
theorem dX2_changeStall_0 : decode cX2_changeStall 0 = .ok (.getstatic 175, 3) := by decide +kernel
theorem dX2_changeStall_3 : decode cX2_changeStall 3 = .ok (.aload_n 0, 1) := by decide +kernel
theorem dX2_changeStall_4 : decode cX2_changeStall 4 = .ok (.invokevirtual 180, 3) := by decide +kernel
theorem dX2_changeStall_7 : decode cX2_changeStall 7 = .ok (.iaload, 1) := by decide +kernel
theorem dX2_changeStall_8 : decode cX2_changeStall 8 = .ok (.tableswitch 52 6 8 #[28, 36, 44], 28) := by decide +kernel
theorem dX2_changeStall_36 : decode cX2_changeStall 36 = .ok (.aload_n 1, 1) := by decide +kernel
theorem dX2_changeStall_37 : decode cX2_changeStall 37 = .ok (.iload_n 2, 1) := by decide +kernel
theorem dX2_changeStall_38 : decode cX2_changeStall 38 = .ok (.putfield 206, 3) := by decide +kernel
theorem dX2_changeStall_41 : decode cX2_changeStall 41 = .ok (.goto 24, 3) := by decide +kernel
theorem dX2_changeStall_44 : decode cX2_changeStall 44 = .ok (.aload_n 1, 1) := by decide +kernel
theorem dX2_changeStall_45 : decode cX2_changeStall 45 = .ok (.iload_n 2, 1) := by decide +kernel
theorem dX2_changeStall_46 : decode cX2_changeStall 46 = .ok (.invokevirtual 108, 3) := by decide +kernel
theorem dX2_changeStall_49 : decode cX2_changeStall 49 = .ok (.goto 16, 3) := by decide +kernel
theorem dX2_changeStall_52 : decode cX2_changeStall 52 = .ok (.aload_n 1, 1) := by decide +kernel
theorem dX2_changeStall_53 : decode cX2_changeStall 53 = .ok (.iload_n 2, 1) := by decide +kernel
theorem dX2_changeStall_54 : decode cX2_changeStall 54 = .ok (.putfield 93, 3) := by decide +kernel
theorem dX2_changeStall_57 : decode cX2_changeStall 57 = .ok (.goto 8, 3) := by decide +kernel
theorem dX2_changeStall_60 : decode cX2_changeStall 60 = .ok (.aload_n 1, 1) := by decide +kernel
theorem dX2_changeStall_61 : decode cX2_changeStall 61 = .ok (.iload_n 2, 1) := by decide +kernel
theorem dX2_changeStall_62 : decode cX2_changeStall 62 = .ok (.putfield 84, 3) := by decide +kernel
theorem dX2_changeStall_65 : decode cX2_changeStall 65 = .ok (.return_, 1) := by decide +kernel
theorem hd_X2_changeStall : yX2_changeStall.cls ≠ "java/lang/invoke/MethodHandle" ∧ yX2_changeStall.cls ≠ "java/lang/invoke/VarHandle" ∧ (parseMethodDescriptor yX2_changeStall.desc).map (fun d => d.parameters.length) = some 3 := by decide +kernel
set_option maxRecDepth 100000 in
set_option maxHeartbeats 4000000 in
theorem c_X2_changeStall (l : Launch) (D : va_G) (g : xG) (tb : List xQ) (hT : x_T g tb) {a0 : Int32} {a1 : Nat} {a2 : Int32} (h0 : inb (a0 - 1) 9 = true) (h1 : ((0, a1, 0) : xQ) ∈ tb) {M M' : xM} (hf : f_X2_changeStall a0 a1 a2 M = some M') :
    cV l D g tb yX2_changeStall cX2_changeStall 3 ({ frames := 1, cells := 0, slots := 0, locals := 21 } : Room) [.ref (g.2.2 (a0 - 1).toNatClampNeg), .ref (g.1 0 a1), .int a2] M M' := by
  refine x_startV (own := RX2) (by decide +kernel) rfl rfl (Nat.le_of_ble_eq_true rfl) hT ?_
  intro p e s m args below meth c Q C0 hend
  unfold f_X2_changeStall at hf
  refine r_gsm C0 w2_210 dX2_changeStall_0 ?_
  refine r_aload_n C0 (kk := 0) 0 rfl dX2_changeStall_3 ?_
  refine r_ordinal C0 (inb_lt h0) w2_212 (by decide) (by decide) (by decide) (by decide) (Nat.le_of_ble_eq_true rfl) dX2_changeStall_4 ?_
  obtain ⟨q1, hf⟩ := gd_e hf
  refine r_smald C0 q1 dX2_changeStall_7 ?_
  rcases Decidable.em ((x_smap (nI (a0 - 1).toNatClampNeg).toNatClampNeg) = 6) with q2 | q2
  · have hf := ie_t hf q2
    refine r_tsc C0 (cst := 6) q2 (by decide) (by decide) rfl (tgt := 36) (by decide) dX2_changeStall_8 ?_
    refine r_aload_n C0 (kk := 1) 1 rfl dX2_changeStall_36 ?_
    refine r_iload_n C0 (kk := 2) 2 rfl dX2_changeStall_37 ?_
    refine r_put0 C0 h1 3 rfl rfl w1_56 rfl rfl rfl dX2_changeStall_38 ?_
    refine r_goto C0 (tgt := 65) (by decide) dX2_changeStall_41 ?_
    exact hend hf dX2_changeStall_65
  have hf := ie_f hf q2
  have nq2 : Int32.toInt (x_smap (nI (a0 - 1).toNatClampNeg).toNatClampNeg) ≠ 6 := fun h => q2 (Int32.toInt_inj.mp h)
  rcases Decidable.em ((x_smap (nI (a0 - 1).toNatClampNeg).toNatClampNeg) = 7) with q3 | q3
  · have hf := ie_t hf q3
    refine r_tsc C0 (cst := 7) q3 (by decide) (by decide) rfl (tgt := 44) (by decide) dX2_changeStall_8 ?_
    refine r_aload_n C0 (kk := 1) 1 rfl dX2_changeStall_44 ?_
    refine r_iload_n C0 (kk := 2) 2 rfl dX2_changeStall_45 ?_
    obtain ⟨M5, hc4, hf⟩ := bd_e hf
    refine r_callVv C0 (As := [.int a2]) (rest := []) (c_X4_receive l D g tb hT h1 hc4) w2_226 w2_227 w2_228 w1_3 w2_229 (x_rec0 C0 h1) hd_X4_receive rfl ⟨rfl, rfl⟩ ⟨Nat.le_of_ble_eq_true rfl, Nat.le_of_ble_eq_true rfl⟩ (by decide) (by decide) rfl (Nat.le_of_ble_eq_true rfl) dX2_changeStall_46 ?_
    refine r_goto C0 (tgt := 65) (by decide) dX2_changeStall_49 ?_
    exact hend hf dX2_changeStall_65
  have hf := ie_f hf q3
  have nq3 : Int32.toInt (x_smap (nI (a0 - 1).toNatClampNeg).toNatClampNeg) ≠ 7 := fun h => q3 (Int32.toInt_inj.mp h)
  rcases Decidable.em ((x_smap (nI (a0 - 1).toNatClampNeg).toNatClampNeg) = 8) with q6 | q6
  · have hf := ie_t hf q6
    refine r_tsc C0 (cst := 8) q6 (by decide) (by decide) rfl (tgt := 52) (by decide) dX2_changeStall_8 ?_
    refine r_aload_n C0 (kk := 1) 1 rfl dX2_changeStall_52 ?_
    refine r_iload_n C0 (kk := 2) 2 rfl dX2_changeStall_53 ?_
    refine r_put0 C0 h1 1 rfl rfl w1_49 rfl rfl rfl dX2_changeStall_54 ?_
    refine r_goto C0 (tgt := 65) (by decide) dX2_changeStall_57 ?_
    exact hend hf dX2_changeStall_65
  have hf := ie_f hf q6
  have nq6 : Int32.toInt (x_smap (nI (a0 - 1).toNatClampNeg).toNatClampNeg) ≠ 8 := fun h => q6 (Int32.toInt_inj.mp h)
  refine r_tsd C0 (by omega) (tgt := 60) (by decide) dX2_changeStall_8 ?_
  refine r_aload_n C0 (kk := 1) 1 rfl dX2_changeStall_60 ?_
  refine r_iload_n C0 (kk := 2) 2 rfl dX2_changeStall_61 ?_
  refine r_put0 C0 h1 0 rfl rfl w1_46 rfl rfl rfl dX2_changeStall_62 ?_
  exact hend hf dX2_changeStall_65
theorem dJ0_length_8abf5_0 : decode cJ0_length_8abf5 0 = .ok (.aload_n 0, 1) := by decide +kernel
theorem dJ0_length_8abf5_1 : decode cJ0_length_8abf5 1 = .ok (.getfield 9, 3) := by decide +kernel
theorem dJ0_length_8abf5_4 : decode cJ0_length_8abf5 4 = .ok (.arraylength, 1) := by decide +kernel
theorem dJ0_length_8abf5_5 : decode cJ0_length_8abf5 5 = .ok (.aload_n 0, 1) := by decide +kernel
theorem dJ0_length_8abf5_6 : decode cJ0_length_8abf5 6 = .ok (.invokevirtual 335, 3) := by decide +kernel
theorem dJ0_length_8abf5_9 : decode cJ0_length_8abf5 9 = .ok (.ishr, 1) := by decide +kernel
theorem dJ0_length_8abf5_10 : decode cJ0_length_8abf5 10 = .ok (.ireturn, 1) := by decide +kernel
theorem hd_J0_length_8abf5 : yJ0_length_8abf5.cls = RJ0 ∧ yJ0_length_8abf5.cls ≠ "java/lang/invoke/MethodHandle" ∧ yJ0_length_8abf5.cls ≠ "java/lang/invoke/VarHandle" ∧ (parseMethodDescriptor yJ0_length_8abf5.desc).map (fun d => d.parameters.length) = some 0 := by decide +kernel
set_option maxRecDepth 100000 in
set_option maxHeartbeats 4000000 in
theorem c_J0_length_8abf5 (l : Launch) (D : va_G) (g : xG) (tb : List xQ) (hT : x_T g tb) {a0 : Nat} (h0 : a0 < 56) {M : xM} {r : Int32} {M' : xM} (hf : f_J0_length_8abf5 a0 M = some (r, M')) :
    cI l D g tb yJ0_length_8abf5 cJ0_length_8abf5 1 .int ({ frames := 1, cells := 0, slots := 0, locals := 20 } : Room) [.ref (g.1 20 a0)] M r M' := by
  refine x_startI (own := RJ0) (by decide +kernel) rfl rfl (Nat.le_of_ble_eq_true rfl) hT ?_
  intro p e s m args below meth c Q C0 hend
  unfold f_J0_length_8abf5 at hf
  refine r_aload_n C0 (kk := 0) 0 rfl dJ0_length_8abf5_0 ?_
  refine r_sval C0 h0 w8_129 dJ0_length_8abf5_1 ?_
  refine r_slen C0 h0 dJ0_length_8abf5_4 ?_
  refine r_aload_n C0 (kk := 0) 0 rfl dJ0_length_8abf5_5 ?_
  obtain ⟨r3, M2, hc1, hf⟩ := bd2_e hf
  refine r_callVi C0 (As := []) (rest := [.int (nI (x_slen a0))]) (c_J0_coder_7d493 l D g tb hT h0 hc1) w2_9 w2_10 w2_11 w1_6 w2_12 (x_rec20 C0 h0) hd_J0_coder_7d493 rfl ⟨rfl, rfl⟩ ⟨Nat.le_of_ble_eq_true rfl, Nat.le_of_ble_eq_true rfl⟩ (by decide) (by decide) rfl (Nat.le_of_ble_eq_true rfl) dJ0_length_8abf5_6 ?_
  refine r_ishr C0 dJ0_length_8abf5_9 ?_
  exact hend hf dJ0_length_8abf5_10
theorem dJ0_checkIndex_df160_0 : decode cJ0_checkIndex_df160 0 = .ok (.iload_n 0, 1) := by decide +kernel
theorem dJ0_checkIndex_df160_1 : decode cJ0_checkIndex_df160 1 = .ok (.iload_n 1, 1) := by decide +kernel
theorem dJ0_checkIndex_df160_2 : decode cJ0_checkIndex_df160 2 = .ok (.getstatic 1053, 3) := by decide +kernel
theorem dJ0_checkIndex_df160_5 : decode cJ0_checkIndex_df160 5 = .ok (.invokestatic 1059, 3) := by decide +kernel
theorem dJ0_checkIndex_df160_8 : decode cJ0_checkIndex_df160 8 = .ok (.pop, 1) := by decide +kernel
theorem dJ0_checkIndex_df160_9 : decode cJ0_checkIndex_df160 9 = .ok (.return_, 1) := by decide +kernel
theorem hd_J0_checkIndex_df160 : yJ0_checkIndex_df160.cls ≠ "java/lang/invoke/MethodHandle" ∧ yJ0_checkIndex_df160.cls ≠ "java/lang/invoke/VarHandle" ∧ (parseMethodDescriptor yJ0_checkIndex_df160.desc).map (fun d => d.parameters.length) = some 2 := by decide +kernel
set_option maxRecDepth 100000 in
set_option maxHeartbeats 4000000 in
theorem c_J0_checkIndex_df160 (l : Launch) (D : va_G) (g : xG) (tb : List xQ) (hT : x_T g tb) {a0 : Int32} {a1 : Int32}  {M M' : xM} (hf : f_J0_checkIndex_df160 a0 a1 M = some M') :
    cV l D g tb yJ0_checkIndex_df160 cJ0_checkIndex_df160 2 ({ frames := 1, cells := 0, slots := 0, locals := 22 } : Room) [.int a0, .int a1] M M' := by
  refine x_startV (own := RJ0) (by decide +kernel) rfl rfl (Nat.le_of_ble_eq_true rfl) hT ?_
  intro p e s m args below meth c Q C0 hend
  unfold f_J0_checkIndex_df160 at hf
  refine r_iload_n C0 (kk := 0) 0 rfl dJ0_checkIndex_df160_0 ?_
  refine r_iload_n C0 (kk := 1) 1 rfl dJ0_checkIndex_df160_1 ?_
  refine r_sioobe C0 w2_29 dJ0_checkIndex_df160_2 (fun z1 => ?_)
  obtain ⟨r4, M3, hc2, hf⟩ := bd2_e hf
  refine r_callSi C0 (As := [.int a0, .int a1, va_rf z1]) (rest := []) (c_J3_checkIndex_8e157 l D g tb hT  hc2) w2_31 w2_32 w1_8 w2_33 hd_J3_checkIndex_8e157 rfl ⟨rfl, rfl⟩ ⟨Nat.le_of_ble_eq_true rfl, Nat.le_of_ble_eq_true rfl⟩ (by decide) (by decide) rfl (Nat.le_of_ble_eq_true rfl) dJ0_checkIndex_df160_5 ?_
  refine r_pop C0 rfl dJ0_checkIndex_df160_8 ?_
  exact hend hf dJ0_checkIndex_df160_9
theorem dX3_isRefusedBy_0 : decode cX3_isRefusedBy 0 = .ok (.aload_n 0, 1) := by decide +kernel
theorem dX3_isRefusedBy_1 : decode cX3_isRefusedBy 1 = .ok (.getfield 91, 3) := by decide +kernel
theorem dX3_isRefusedBy_4 : decode cX3_isRefusedBy 4 = .ok (.getstatic 158, 3) := by decide +kernel
theorem dX3_isRefusedBy_7 : decode cX3_isRefusedBy 7 = .ok (.if_acmp .ne 44, 3) := by decide +kernel
theorem dX3_isRefusedBy_10 : decode cX3_isRefusedBy 10 = .ok (.iload_n 2, 1) := by decide +kernel
theorem dX3_isRefusedBy_11 : decode cX3_isRefusedBy 11 = .ok (.iconst 1, 1) := by decide +kernel
theorem dX3_isRefusedBy_12 : decode cX3_isRefusedBy 12 = .ok (.if_icmp .ne 39, 3) := by decide +kernel
theorem dX3_isRefusedBy_15 : decode cX3_isRefusedBy 15 = .ok (.aload_n 0, 1) := by decide +kernel
theorem dX3_isRefusedBy_16 : decode cX3_isRefusedBy 16 = .ok (.iconst 0, 1) := by decide +kernel
theorem dX3_isRefusedBy_17 : decode cX3_isRefusedBy 17 = .ok (.invokevirtual 161, 3) := by decide +kernel
theorem dX3_isRefusedBy_20 : decode cX3_isRefusedBy 20 = .ok (.istore_n 3, 1) := by decide +kernel
theorem dX3_isRefusedBy_21 : decode cX3_isRefusedBy 21 = .ok (.aload_n 1, 1) := by decide +kernel
theorem dX3_isRefusedBy_22 : decode cX3_isRefusedBy 22 = .ok (.iload_n 3, 1) := by decide +kernel
theorem dX3_isRefusedBy_23 : decode cX3_isRefusedBy 23 = .ok (.invokevirtual 165, 3) := by decide +kernel
theorem dX3_isRefusedBy_26 : decode cX3_isRefusedBy 26 = .ok (.ifCond .eq 23, 3) := by decide +kernel
theorem dX3_isRefusedBy_29 : decode cX3_isRefusedBy 29 = .ok (.aload_n 1, 1) := by decide +kernel
theorem dX3_isRefusedBy_30 : decode cX3_isRefusedBy 30 = .ok (.getfield 168, 3) := by decide +kernel
theorem dX3_isRefusedBy_33 : decode cX3_isRefusedBy 33 = .ok (.iload_n 3, 1) := by decide +kernel
theorem dX3_isRefusedBy_34 : decode cX3_isRefusedBy 34 = .ok (.aaload, 1) := by decide +kernel
theorem dX3_isRefusedBy_35 : decode cX3_isRefusedBy 35 = .ok (.aload_n 0, 1) := by decide +kernel
theorem dX3_isRefusedBy_36 : decode cX3_isRefusedBy 36 = .ok (.getfield 55, 3) := by decide +kernel
theorem dX3_isRefusedBy_39 : decode cX3_isRefusedBy 39 = .ok (.invokevirtual 172, 3) := by decide +kernel
theorem dX3_isRefusedBy_42 : decode cX3_isRefusedBy 42 = .ok (.ifCond .ne 7, 3) := by decide +kernel
theorem dX3_isRefusedBy_45 : decode cX3_isRefusedBy 45 = .ok (.iconst 1, 1) := by decide +kernel
theorem dX3_isRefusedBy_46 : decode cX3_isRefusedBy 46 = .ok (.goto 4, 3) := by decide +kernel
theorem dX3_isRefusedBy_49 : decode cX3_isRefusedBy 49 = .ok (.iconst 0, 1) := by decide +kernel
theorem dX3_isRefusedBy_50 : decode cX3_isRefusedBy 50 = .ok (.ireturn, 1) := by decide +kernel
theorem dX3_isRefusedBy_51 : decode cX3_isRefusedBy 51 = .ok (.aload_n 0, 1) := by decide +kernel
theorem dX3_isRefusedBy_52 : decode cX3_isRefusedBy 52 = .ok (.getfield 91, 3) := by decide +kernel
theorem dX3_isRefusedBy_55 : decode cX3_isRefusedBy 55 = .ok (.getstatic 177, 3) := by decide +kernel
theorem dX3_isRefusedBy_58 : decode cX3_isRefusedBy 58 = .ok (.if_acmp .ne 35, 3) := by decide +kernel
theorem dX3_isRefusedBy_61 : decode cX3_isRefusedBy 61 = .ok (.aload_n 1, 1) := by decide +kernel
theorem dX3_isRefusedBy_62 : decode cX3_isRefusedBy 62 = .ok (.aload_n 0, 1) := by decide +kernel
theorem dX3_isRefusedBy_63 : decode cX3_isRefusedBy 63 = .ok (.getfield 55, 3) := by decide +kernel
theorem dX3_isRefusedBy_66 : decode cX3_isRefusedBy 66 = .ok (.invokevirtual 180, 3) := by decide +kernel
theorem dX3_isRefusedBy_69 : decode cX3_isRefusedBy 69 = .ok (.ifCond .eq 22, 3) := by decide +kernel
theorem dX3_isRefusedBy_72 : decode cX3_isRefusedBy 72 = .ok (.aload_n 1, 1) := by decide +kernel
theorem dX3_isRefusedBy_73 : decode cX3_isRefusedBy 73 = .ok (.getfield 183, 3) := by decide +kernel
theorem dX3_isRefusedBy_76 : decode cX3_isRefusedBy 76 = .ok (.aload_n 0, 1) := by decide +kernel
theorem dX3_isRefusedBy_77 : decode cX3_isRefusedBy 77 = .ok (.getfield 55, 3) := by decide +kernel
theorem dX3_isRefusedBy_80 : decode cX3_isRefusedBy 80 = .ok (.aaload, 1) := by decide +kernel
theorem dX3_isRefusedBy_81 : decode cX3_isRefusedBy 81 = .ok (.invokevirtual 187, 3) := by decide +kernel
theorem dX3_isRefusedBy_84 : decode cX3_isRefusedBy 84 = .ok (.ifCond .ne 7, 3) := by decide +kernel
theorem dX3_isRefusedBy_87 : decode cX3_isRefusedBy 87 = .ok (.iconst 1, 1) := by decide +kernel
theorem dX3_isRefusedBy_88 : decode cX3_isRefusedBy 88 = .ok (.goto 4, 3) := by decide +kernel
theorem dX3_isRefusedBy_91 : decode cX3_isRefusedBy 91 = .ok (.iconst 0, 1) := by decide +kernel
theorem dX3_isRefusedBy_92 : decode cX3_isRefusedBy 92 = .ok (.ireturn, 1) := by decide +kernel
theorem dX3_isRefusedBy_93 : decode cX3_isRefusedBy 93 = .ok (.iconst 0, 1) := by decide +kernel
theorem dX3_isRefusedBy_94 : decode cX3_isRefusedBy 94 = .ok (.ireturn, 1) := by decide +kernel
theorem hd_X3_isRefusedBy : yX3_isRefusedBy.cls = RX3 ∧ yX3_isRefusedBy.cls ≠ "java/lang/invoke/MethodHandle" ∧ yX3_isRefusedBy.cls ≠ "java/lang/invoke/VarHandle" ∧ (parseMethodDescriptor yX3_isRefusedBy.desc).map (fun d => d.parameters.length) = some 2 := by decide +kernel
set_option maxRecDepth 100000 in
set_option maxHeartbeats 4000000 in
theorem c_X3_isRefusedBy (l : Launch) (D : va_G) (g : xG) (tb : List xQ) (hT : x_T g tb) {a1 : Nat} {a2 : Int32} (h0 : x_rd tb) (h1 : x_mk tb a1) {M : xM} {r : Int32} {M' : xM} (hf : f_X3_isRefusedBy a1 a2 M = some (r, M')) :
    cI l D g tb yX3_isRefusedBy cX3_isRefusedBy 4 .boolean ({ frames := 1, cells := 0, slots := 0, locals := 21 } : Room) [.ref (g.1 3 1777), .ref (g.1 2 a1), .int a2] M r M' := by
  refine x_startZ (own := RX3) (by decide +kernel) rfl rfl (Nat.le_of_ble_eq_true rfl) hT ?_
  intro p e s m args below meth c Q C0 hend
  have B51 : ∀ (M : xM), f_X3_isRefusedBy_c51  a1 a2 M = some (r, M') → WW p l e ({ frames := 1, cells := 0, slots := 0, locals := 21 } : Room) s m args below meth c 0 0 Q 4 D g tb 51 [(0, .ref (g.1 3 1777)), (1, .ref (g.1 2 a1))] [] M := by
    intro     M hf
    unfold f_X3_isRefusedBy_c51 at hf
    refine r_aload_n C0 (kk := 0) 0 rfl dX3_isRefusedBy_51 ?_
    refine r_get3 C0 h0.1 4 (by decide) (v := va_re g.2.2 (x_en (M 1781))) rfl rfl w1_210 dX3_isRefusedBy_52 ?_
    refine r_gverb C0 (i := 7) (x := 8) (by decide) (by decide) w2_195 dX3_isRefusedBy_55 ?_
    obtain ⟨q18, hf⟩ := gd_e hf
    refine r_acmpne C0 q18 (by decide) (tgt := 93) (by decide) dX3_isRefusedBy_58 (fun q17 => ?_) (fun q17 => ?_)
    · have hf := ie_f hf q17
      refine r_iconst C0 (v := 0) dX3_isRefusedBy_93 rfl ?_
      exact hend (by decide) hf dX3_isRefusedBy_94
    · have hf := ie_t hf q17
      refine r_aload_n C0 (kk := 1) 1 rfl dX3_isRefusedBy_61 ?_
      refine r_aload_n C0 (kk := 0) 0 rfl dX3_isRefusedBy_62 ?_
      refine r_get3 C0 h0.1 9 (by decide) (v := .int (M 1786)) rfl rfl w1_216 dX3_isRefusedBy_63 ?_
      obtain ⟨r21, M20, hc19, hf⟩ := bd2_e hf
      refine r_callVi C0 (As := [.int (M 1786)]) (rest := []) (c_X2_isBuyer l D g tb hT h1 hc19) w2_197 w2_198 w2_199 w1_2 w2_200 (x_rec2 C0 h1.1) hd_X2_isBuyer rfl ⟨rfl, rfl⟩ ⟨Nat.le_of_ble_eq_true rfl, Nat.le_of_ble_eq_true rfl⟩ (by decide) (by decide) rfl (Nat.le_of_ble_eq_true rfl) dX3_isRefusedBy_66 ?_
      refine r_if_eq C0 (tgt := 91) (by decide) dX3_isRefusedBy_69 (fun q22 => ?_) (fun q22 => ?_)
      · have hf := ie_t hf q22
        refine r_iconst C0 (v := 0) dX3_isRefusedBy_91 rfl ?_
        exact hend (by decide) hf dX3_isRefusedBy_92
      · have hf := ie_f hf q22
        refine r_aload_n C0 (kk := 1) 1 rfl dX3_isRefusedBy_72 ?_
        refine r_get2 C0 h1.1 2 (by decide) (v := .ref (g.1 11 (a1 + 77))) rfl rfl w1_142 dX3_isRefusedBy_73 ?_
        refine r_aload_n C0 (kk := 0) 0 rfl dX3_isRefusedBy_76 ?_
        refine r_get3 C0 h0.1 9 (by decide) (v := .int (M20 1786)) rfl rfl w1_216 dX3_isRefusedBy_77 ?_
        obtain ⟨q23, hf⟩ := gd_e hf
        have hm24 : ((1, ((a1 + 77) + 8 * (M20 1786).toNatClampNeg), 0) : xQ) ∈ tb := h1.2.2.2.2.2 _ (inb_lt q23)
        refine r_aald11 C0 h1.2.2.1 (inb_in q23) dX3_isRefusedBy_80 ?_
        obtain ⟨r27, M26, hc25, hf⟩ := bd2_e hf
        refine r_callVi C0 (As := []) (rest := []) (c_X1_holds l D g tb hT hm24 hc25) w2_201 w2_202 w2_203 w1_4 w2_204 (x_rec1 C0 hm24) hd_X1_holds rfl ⟨rfl, rfl⟩ ⟨Nat.le_of_ble_eq_true rfl, Nat.le_of_ble_eq_true rfl⟩ (by decide) (by decide) rfl (Nat.le_of_ble_eq_true rfl) dX3_isRefusedBy_81 ?_
        refine r_if_ne C0 (tgt := 91) (by decide) dX3_isRefusedBy_84 (fun q28 => ?_) (fun q28 => ?_)
        · have hf := ie_f hf q28
          refine r_iconst C0 (v := 0) dX3_isRefusedBy_91 rfl ?_
          exact hend (by decide) hf dX3_isRefusedBy_92
        · have hf := ie_t hf q28
          refine r_iconst C0 (v := 1) dX3_isRefusedBy_87 rfl ?_
          refine r_goto C0 (tgt := 92) (by decide) dX3_isRefusedBy_88 ?_
          exact hend (by decide) hf dX3_isRefusedBy_92
  unfold f_X3_isRefusedBy at hf
  refine r_aload_n C0 (kk := 0) 0 rfl dX3_isRefusedBy_0 ?_
  refine r_get3 C0 h0.1 4 (by decide) (v := va_re g.2.2 (x_en (M 1781))) rfl rfl w1_210 dX3_isRefusedBy_1 ?_
  refine r_gverb C0 (i := 3) (x := 4) (by decide) (by decide) w2_181 dX3_isRefusedBy_4 ?_
  obtain ⟨q2, hf⟩ := gd_e hf
  refine r_acmpne C0 q2 (by decide) (tgt := 51) (by decide) dX3_isRefusedBy_7 (fun q1 => ?_) (fun q1 => ?_)
  · have hf := ie_f hf q1
    refine WW.sub [0, 1] rfl ?_
    exact B51     _ hf
  · have hf := ie_t hf q1
    refine r_iload_n C0 (kk := 2) 2 rfl dX3_isRefusedBy_10 ?_
    refine r_iconst C0 (v := 1) dX3_isRefusedBy_11 rfl ?_
    refine r_icmp_ne C0 (tgt := 51) (by decide) dX3_isRefusedBy_12 (fun q3 => ?_) (fun q3 => ?_)
    · have hf := ie_f hf q3
      refine WW.sub [0, 1] rfl ?_
      exact B51     _ hf
    · have hf := ie_t hf q3
      refine r_aload_n C0 (kk := 0) 0 rfl dX3_isRefusedBy_15 ?_
      refine r_iconst C0 (v := 0) dX3_isRefusedBy_16 rfl ?_
      obtain ⟨r6, M5, hc4, hf⟩ := bd2_e hf
      refine r_callVi C0 (As := [.int 0]) (rest := []) (c_X3_argument l D g tb hT h0 hc4) w2_183 w2_184 w2_185 w1_5 w2_186 (x_rec3 C0 h0.1) hd_X3_argument rfl ⟨rfl, rfl⟩ ⟨Nat.le_of_ble_eq_true rfl, Nat.le_of_ble_eq_true rfl⟩ (by decide) (by decide) rfl (Nat.le_of_ble_eq_true rfl) dX3_isRefusedBy_17 ?_
      refine r_istore_n C0 (kk := 3) (lv2 := [(3, .int r6), (0, .ref (g.1 3 1777)), (1, .ref (g.1 2 a1)), (2, .int a2)]) (by decide) rfl dX3_isRefusedBy_20 ?_
      refine r_aload_n C0 (kk := 1) 2 rfl dX3_isRefusedBy_21 ?_
      refine r_iload_n C0 (kk := 3) 0 rfl dX3_isRefusedBy_22 ?_
      obtain ⟨r9, M8, hc7, hf⟩ := bd2_e hf
      refine r_callVi C0 (As := [.int r6]) (rest := []) (c_X2_isStall l D g tb hT h1 hc7) w2_187 w2_188 w2_189 w1_2 w2_190 (x_rec2 C0 h1.1) hd_X2_isStall rfl ⟨rfl, rfl⟩ ⟨Nat.le_of_ble_eq_true rfl, Nat.le_of_ble_eq_true rfl⟩ (by decide) (by decide) rfl (Nat.le_of_ble_eq_true rfl) dX3_isRefusedBy_23 ?_
      refine r_if_eq C0 (tgt := 49) (by decide) dX3_isRefusedBy_26 (fun q10 => ?_) (fun q10 => ?_)
      · have hf := ie_t hf q10
        refine r_iconst C0 (v := 0) dX3_isRefusedBy_49 rfl ?_
        exact hend (by decide) hf dX3_isRefusedBy_50
      · have hf := ie_f hf q10
        refine r_aload_n C0 (kk := 1) 2 rfl dX3_isRefusedBy_29 ?_
        refine r_get2 C0 h1.1 0 (by decide) (v := .ref (g.1 10 (a1 + 23))) rfl rfl w1_136 dX3_isRefusedBy_30 ?_
        refine r_iload_n C0 (kk := 3) 0 rfl dX3_isRefusedBy_33 ?_
        obtain ⟨q11, hf⟩ := gd_e hf
        have hm12 : ((0, ((a1 + 23) + 9 * r6.toNatClampNeg), 0) : xQ) ∈ tb := h1.2.2.2.2.1 _ (inb_lt q11)
        refine r_aald10 C0 h1.2.1 (inb_in q11) dX3_isRefusedBy_34 ?_
        refine r_aload_n C0 (kk := 0) 1 rfl dX3_isRefusedBy_35 ?_
        refine r_get3 C0 h0.1 9 (by decide) (v := .int (M8 1786)) rfl rfl w1_216 dX3_isRefusedBy_36 ?_
        obtain ⟨r15, M14, hc13, hf⟩ := bd2_e hf
        refine r_callVi C0 (As := [.int (M8 1786)]) (rest := []) (c_X4_hasRoomFor l D g tb hT hm12 hc13) w2_191 w2_192 w2_193 w1_3 w2_194 (x_rec0 C0 hm12) hd_X4_hasRoomFor rfl ⟨rfl, rfl⟩ ⟨Nat.le_of_ble_eq_true rfl, Nat.le_of_ble_eq_true rfl⟩ (by decide) (by decide) rfl (Nat.le_of_ble_eq_true rfl) dX3_isRefusedBy_39 ?_
        refine r_if_ne C0 (tgt := 49) (by decide) dX3_isRefusedBy_42 (fun q16 => ?_) (fun q16 => ?_)
        · have hf := ie_f hf q16
          refine r_iconst C0 (v := 0) dX3_isRefusedBy_49 rfl ?_
          exact hend (by decide) hf dX3_isRefusedBy_50
        · have hf := ie_t hf q16
          refine r_iconst C0 (v := 1) dX3_isRefusedBy_45 rfl ?_
          refine r_goto C0 (tgt := 50) (by decide) dX3_isRefusedBy_46 ?_
          exact hend (by decide) hf dX3_isRefusedBy_50
theorem dJ1_charAt_3b067_0 : decode cJ1_charAt_3b067 0 = .ok (.iload_n 1, 1) := by decide +kernel
theorem dJ1_charAt_3b067_1 : decode cJ1_charAt_3b067 1 = .ok (.aload_n 0, 1) := by decide +kernel
theorem dJ1_charAt_3b067_2 : decode cJ1_charAt_3b067 2 = .ok (.arraylength, 1) := by decide +kernel
theorem dJ1_charAt_3b067_3 : decode cJ1_charAt_3b067 3 = .ok (.invokestatic 9, 3) := by decide +kernel
theorem dJ1_charAt_3b067_6 : decode cJ1_charAt_3b067 6 = .ok (.aload_n 0, 1) := by decide +kernel
theorem dJ1_charAt_3b067_7 : decode cJ1_charAt_3b067 7 = .ok (.iload_n 1, 1) := by decide +kernel
theorem dJ1_charAt_3b067_8 : decode cJ1_charAt_3b067 8 = .ok (.baload, 1) := by decide +kernel
theorem dJ1_charAt_3b067_9 : decode cJ1_charAt_3b067 9 = .ok (.sipush 255, 3) := by decide +kernel
theorem dJ1_charAt_3b067_12 : decode cJ1_charAt_3b067 12 = .ok (.iand, 1) := by decide +kernel
theorem dJ1_charAt_3b067_13 : decode cJ1_charAt_3b067 13 = .ok (.i2c, 1) := by decide +kernel
theorem dJ1_charAt_3b067_14 : decode cJ1_charAt_3b067 14 = .ok (.ireturn, 1) := by decide +kernel
theorem hd_J1_charAt_3b067 : yJ1_charAt_3b067.cls ≠ "java/lang/invoke/MethodHandle" ∧ yJ1_charAt_3b067.cls ≠ "java/lang/invoke/VarHandle" ∧ (parseMethodDescriptor yJ1_charAt_3b067.desc).map (fun d => d.parameters.length) = some 2 := by decide +kernel
set_option maxRecDepth 100000 in
set_option maxHeartbeats 4000000 in
theorem c_J1_charAt_3b067 (l : Launch) (D : va_G) (g : xG) (tb : List xQ) (hT : x_T g tb) {a0 : Nat} {a1 : Int32} (h0 : a0 < 56) {M : xM} {r : Int32} {M' : xM} (hf : f_J1_charAt_3b067 a0 a1 M = some (r, M')) :
    cI l D g tb yJ1_charAt_3b067 cJ1_charAt_3b067 2 .char ({ frames := 2, cells := 0, slots := 0, locals := 43 } : Room) [.ref (g.1 21 a0), .int a1] M r M' := by
  refine x_startN (own := RJ1) (by decide +kernel) rfl rfl (Nat.le_of_ble_eq_true rfl) hT ?_
  intro p e s m args below meth c Q C0 hend
  unfold f_J1_charAt_3b067 at hf
  refine r_iload_n C0 (kk := 1) 1 rfl dJ1_charAt_3b067_0 ?_
  refine r_aload_n C0 (kk := 0) 0 rfl dJ1_charAt_3b067_1 ?_
  refine r_slen C0 h0 dJ1_charAt_3b067_2 ?_
  obtain ⟨M2, hc1, hf⟩ := bd_e hf
  refine r_callSv C0 (As := [.int a1, .int (nI (x_slen a0))]) (rest := []) (c_J0_checkIndex_df160 l D g tb hT  hc1) w2_26 w2_27 w1_6 w2_28 hd_J0_checkIndex_df160 rfl ⟨rfl, rfl⟩ ⟨Nat.le_of_ble_eq_true rfl, Nat.le_of_ble_eq_true rfl⟩ (by decide) (by decide) rfl (Nat.le_of_ble_eq_true rfl) dJ1_charAt_3b067_3 ?_
  refine r_aload_n C0 (kk := 0) 0 rfl dJ1_charAt_3b067_6 ?_
  refine r_iload_n C0 (kk := 1) 1 rfl dJ1_charAt_3b067_7 ?_
  obtain ⟨q3, hf⟩ := gd_e hf
  refine r_sbyte C0 h0 q3 dJ1_charAt_3b067_8 ?_
  refine r_sipush C0 (v := 255) dJ1_charAt_3b067_9 rfl ?_
  refine r_iand C0 dJ1_charAt_3b067_12 ?_
  refine r_i2c C0 dJ1_charAt_3b067_13 ?_
  obtain ⟨q4, hf⟩ := gd_e hf
  exact hend (isn_e q4) hf dJ1_charAt_3b067_14
theorem dJ0_charAt_5068e_0 : decode cJ0_charAt_5068e 0 = .ok (.aload_n 0, 1) := by decide +kernel
theorem dJ0_charAt_5068e_1 : decode cJ0_charAt_5068e 1 = .ok (.invokevirtual 492, 3) := by decide +kernel
theorem dJ0_charAt_5068e_4 : decode cJ0_charAt_5068e 4 = .ok (.ifCond .eq 12, 3) := by decide +kernel
theorem dJ0_charAt_5068e_7 : decode cJ0_charAt_5068e 7 = .ok (.aload_n 0, 1) := by decide +kernel
theorem dJ0_charAt_5068e_8 : decode cJ0_charAt_5068e 8 = .ok (.getfield 9, 3) := by decide +kernel
theorem dJ0_charAt_5068e_11 : decode cJ0_charAt_5068e 11 = .ok (.iload_n 1, 1) := by decide +kernel
theorem dJ0_charAt_5068e_12 : decode cJ0_charAt_5068e 12 = .ok (.invokestatic 495, 3) := by decide +kernel
theorem dJ0_charAt_5068e_15 : decode cJ0_charAt_5068e 15 = .ok (.ireturn, 1) := by decide +kernel
theorem dJ0_charAt_5068e_16 : decode cJ0_charAt_5068e 16 = .ok (.aload_n 0, 1) := by decide +kernel
theorem dJ0_charAt_5068e_17 : decode cJ0_charAt_5068e 17 = .ok (.getfield 9, 3) := by decide +kernel
theorem dJ0_charAt_5068e_20 : decode cJ0_charAt_5068e 20 = .ok (.iload_n 1, 1) := by decide +kernel
theorem dJ0_charAt_5068e_21 : decode cJ0_charAt_5068e 21 = .ok (.invokestatic 498, 3) := by decide +kernel
theorem dJ0_charAt_5068e_24 : decode cJ0_charAt_5068e 24 = .ok (.ireturn, 1) := by decide +kernel
theorem hd_J0_charAt_5068e : yJ0_charAt_5068e.cls = RJ0 ∧ yJ0_charAt_5068e.cls ≠ "java/lang/invoke/MethodHandle" ∧ yJ0_charAt_5068e.cls ≠ "java/lang/invoke/VarHandle" ∧ (parseMethodDescriptor yJ0_charAt_5068e.desc).map (fun d => d.parameters.length) = some 1 := by decide +kernel
set_option maxRecDepth 100000 in
set_option maxHeartbeats 4000000 in
theorem c_J0_charAt_5068e (l : Launch) (D : va_G) (g : xG) (tb : List xQ) (hT : x_T g tb) {a0 : Nat} {a1 : Int32} (h0 : a0 < 56) {M : xM} {r : Int32} {M' : xM} (hf : f_J0_charAt_5068e a0 a1 M = some (r, M')) :
    cI l D g tb yJ0_charAt_5068e cJ0_charAt_5068e 2 .char ({ frames := 3, cells := 0, slots := 0, locals := 64 } : Room) [.ref (g.1 20 a0), .int a1] M r M' := by
  refine x_startN (own := RJ0) (by decide +kernel) rfl rfl (Nat.le_of_ble_eq_true rfl) hT ?_
  intro p e s m args below meth c Q C0 hend
  unfold f_J0_charAt_5068e at hf
  refine r_aload_n C0 (kk := 0) 0 rfl dJ0_charAt_5068e_0 ?_
  obtain ⟨r3, M2, hc1, hf⟩ := bd2_e hf
  refine r_callVi C0 (As := []) (rest := []) (c_J0_isLatin1_aae02 l D g tb hT h0 hc1) w2_19 w2_20 w2_21 w1_6 w2_22 (x_rec20 C0 h0) hd_J0_isLatin1_aae02 rfl ⟨rfl, rfl⟩ ⟨Nat.le_of_ble_eq_true rfl, Nat.le_of_ble_eq_true rfl⟩ (by decide) (by decide) rfl (Nat.le_of_ble_eq_true rfl) dJ0_charAt_5068e_1 ?_
  refine r_if_eq C0 (tgt := 16) (by decide) dJ0_charAt_5068e_4 (fun q4 => ?_) (fun q4 => ?_)
  · have hf := ie_t hf q4
    refine r_aload_n C0 (kk := 0) 0 rfl dJ0_charAt_5068e_16 ?_
    refine r_sval C0 h0 w8_129 dJ0_charAt_5068e_17 ?_
    refine r_iload_n C0 (kk := 1) 1 rfl dJ0_charAt_5068e_20 ?_
    exact none_ne hf
  · have hf := ie_f hf q4
    refine r_aload_n C0 (kk := 0) 0 rfl dJ0_charAt_5068e_7 ?_
    refine r_sval C0 h0 w8_129 dJ0_charAt_5068e_8 ?_
    refine r_iload_n C0 (kk := 1) 1 rfl dJ0_charAt_5068e_11 ?_
    obtain ⟨r7, M6, hc5, hf⟩ := bd2_e hf
    refine r_callSi C0 (As := [.ref (g.1 21 a0), .int a1]) (rest := []) (c_J1_charAt_3b067 l D g tb hT h0 hc5) w2_23 w2_24 w1_7 w2_25 hd_J1_charAt_3b067 rfl ⟨rfl, rfl⟩ ⟨Nat.le_of_ble_eq_true rfl, Nat.le_of_ble_eq_true rfl⟩ (by decide) (by decide) rfl (Nat.le_of_ble_eq_true rfl) dJ0_charAt_5068e_12 ?_
    obtain ⟨q8, hf⟩ := gd_e hf
    exact hend (isn_e q8) hf dJ0_charAt_5068e_15
theorem dX3_isWord_0 : decode cX3_isWord 0 = .ok (.aload_n 0, 1) := by decide +kernel
theorem dX3_isWord_1 : decode cX3_isWord 1 = .ok (.getfield 77, 3) := by decide +kernel
theorem dX3_isWord_4 : decode cX3_isWord 4 = .ok (.iconst 1, 1) := by decide +kernel
theorem dX3_isWord_5 : decode cX3_isWord 5 = .ok (.if_icmp .ne 19, 3) := by decide +kernel
theorem dX3_isWord_8 : decode cX3_isWord 8 = .ok (.aload_n 0, 1) := by decide +kernel
theorem dX3_isWord_9 : decode cX3_isWord 9 = .ok (.getfield 39, 3) := by decide +kernel
theorem dX3_isWord_12 : decode cX3_isWord 12 = .ok (.aload_n 0, 1) := by decide +kernel
theorem dX3_isWord_13 : decode cX3_isWord 13 = .ok (.getfield 206, 3) := by decide +kernel
theorem dX3_isWord_16 : decode cX3_isWord 16 = .ok (.isub, 1) := by decide +kernel
theorem dX3_isWord_17 : decode cX3_isWord 17 = .ok (.aload_n 1, 1) := by decide +kernel
theorem dX3_isWord_18 : decode cX3_isWord 18 = .ok (.invokevirtual 23, 3) := by decide +kernel
theorem dX3_isWord_21 : decode cX3_isWord 21 = .ok (.if_icmp .eq 5, 3) := by decide +kernel
theorem dX3_isWord_24 : decode cX3_isWord 24 = .ok (.iconst 0, 1) := by decide +kernel
theorem dX3_isWord_25 : decode cX3_isWord 25 = .ok (.ireturn, 1) := by decide +kernel
theorem dX3_isWord_26 : decode cX3_isWord 26 = .ok (.iconst 0, 1) := by decide +kernel
theorem dX3_isWord_27 : decode cX3_isWord 27 = .ok (.istore_n 2, 1) := by decide +kernel
theorem dX3_isWord_28 : decode cX3_isWord 28 = .ok (.iload_n 2, 1) := by decide +kernel
theorem dX3_isWord_29 : decode cX3_isWord 29 = .ok (.aload_n 1, 1) := by decide +kernel
theorem dX3_isWord_30 : decode cX3_isWord 30 = .ok (.invokevirtual 23, 3) := by decide +kernel
theorem dX3_isWord_33 : decode cX3_isWord 33 = .ok (.if_icmp .ge 29, 3) := by decide +kernel
theorem dX3_isWord_36 : decode cX3_isWord 36 = .ok (.aload_n 0, 1) := by decide +kernel
theorem dX3_isWord_37 : decode cX3_isWord 37 = .ok (.aload_n 0, 1) := by decide +kernel
theorem dX3_isWord_38 : decode cX3_isWord 38 = .ok (.getfield 206, 3) := by decide +kernel
theorem dX3_isWord_41 : decode cX3_isWord 41 = .ok (.iload_n 2, 1) := by decide +kernel
theorem dX3_isWord_42 : decode cX3_isWord 42 = .ok (.iadd, 1) := by decide +kernel
theorem dX3_isWord_43 : decode cX3_isWord 43 = .ok (.invokevirtual 209, 3) := by decide +kernel
theorem dX3_isWord_46 : decode cX3_isWord 46 = .ok (.aload_n 1, 1) := by decide +kernel
theorem dX3_isWord_47 : decode cX3_isWord 47 = .ok (.iload_n 2, 1) := by decide +kernel
theorem dX3_isWord_48 : decode cX3_isWord 48 = .ok (.invokevirtual 29, 3) := by decide +kernel
theorem dX3_isWord_51 : decode cX3_isWord 51 = .ok (.if_icmp .eq 5, 3) := by decide +kernel
theorem dX3_isWord_54 : decode cX3_isWord 54 = .ok (.iconst 0, 1) := by decide +kernel
theorem dX3_isWord_55 : decode cX3_isWord 55 = .ok (.ireturn, 1) := by decide +kernel
theorem dX3_isWord_56 : decode cX3_isWord 56 = .ok (.iinc 2 1, 3) := by decide +kernel
theorem dX3_isWord_59 : decode cX3_isWord 59 = .ok (.goto (-31), 3) := by decide +kernel
theorem dX3_isWord_62 : decode cX3_isWord 62 = .ok (.iconst 1, 1) := by decide +kernel
theorem dX3_isWord_63 : decode cX3_isWord 63 = .ok (.ireturn, 1) := by decide +kernel
theorem hd_X3_isWord : yX3_isWord.cls = RX3 ∧ yX3_isWord.cls ≠ "java/lang/invoke/MethodHandle" ∧ yX3_isWord.cls ≠ "java/lang/invoke/VarHandle" ∧ (parseMethodDescriptor yX3_isWord.desc).map (fun d => d.parameters.length) = some 1 := by decide +kernel
set_option maxRecDepth 100000 in
set_option maxHeartbeats 4000000 in
theorem c_X3_isWord (l : Launch) (D : va_G) (g : xG) (tb : List xQ) (hT : x_T g tb) {a1 : Nat} (h0 : x_rd tb) (h1 : a1 < 56) {M : xM} {r : Int32} {M' : xM} (hf : f_X3_isWord a1 M = some (r, M')) :
    cI l D g tb yX3_isWord cX3_isWord 3 .boolean ({ frames := 4, cells := 0, slots := 0, locals := 85 } : Room) [.ref (g.1 3 1777), .ref (g.1 20 a1)] M r M' := by
  refine x_startZ (own := RX3) (by decide +kernel) rfl rfl (Nat.le_of_ble_eq_true rfl) hT ?_
  intro p e s m args below meth c Q C0 hend
  have B28 : ∀ (k28 : Int32 → xM → Option (Int32 × xM)) (hk28 : ∀ (v2 : Int32)  (M : xM), k28 v2 M = some (r, M') → WW p l e ({ frames := 4, cells := 0, slots := 0, locals := 85 } : Room) s m args below meth c 0 0 Q 3 D g tb 28 [(0, .ref (g.1 3 1777)), (1, .ref (g.1 20 a1)), (2, .int v2)] [] M), ∀ (v2 : Int32)  (M : xM), fb_X3_isWord_c28 k28 a1 v2 M = some (r, M') → WW p l e ({ frames := 4, cells := 0, slots := 0, locals := 85 } : Room) s m args below meth c 0 0 Q 3 D g tb 28 [(0, .ref (g.1 3 1777)), (1, .ref (g.1 20 a1)), (2, .int v2)] [] M := by
    intro k28 hk28 v2  M hf
    unfold fb_X3_isWord_c28 at hf
    refine r_iload_n C0 (kk := 2) 2 rfl dX3_isWord_28 ?_
    refine r_aload_n C0 (kk := 1) 1 rfl dX3_isWord_29 ?_
    obtain ⟨r8, M7, hc6, hf⟩ := bd2_e hf
    refine r_callVi C0 (As := []) (rest := [.int v2]) (c_J0_length_8abf5 l D g tb hT h1 hc6) w2_5 w2_6 w2_7 w1_6 w2_8 (x_rec20 C0 h1) hd_J0_length_8abf5 rfl ⟨rfl, rfl⟩ ⟨Nat.le_of_ble_eq_true rfl, Nat.le_of_ble_eq_true rfl⟩ (by decide) (by decide) rfl (Nat.le_of_ble_eq_true rfl) dX3_isWord_30 ?_
    refine r_icmp_ge C0 (tgt := 62) (by decide) dX3_isWord_33 (fun q9 => ?_) (fun q9 => ?_)
    · have hf := ie_t hf q9
      refine r_iconst C0 (v := 1) dX3_isWord_62 rfl ?_
      exact hend (by decide) hf dX3_isWord_63
    · have hf := ie_f hf q9
      refine r_aload_n C0 (kk := 0) 0 rfl dX3_isWord_36 ?_
      refine r_aload_n C0 (kk := 0) 0 rfl dX3_isWord_37 ?_
      refine r_get3 C0 h0.1 8 (by decide) (v := .int (M7 1785)) rfl rfl w1_215 dX3_isWord_38 ?_
      refine r_iload_n C0 (kk := 2) 2 rfl dX3_isWord_41 ?_
      refine r_iadd C0 dX3_isWord_42 ?_
      obtain ⟨r12, M11, hc10, hf⟩ := bd2_e hf
      refine r_callVi C0 (As := [.int ((M7 1785) + v2)]) (rest := []) (c_X3_byteAt l D g tb hT h0 hc10) w2_78 w2_80 wp1_4 w1_5 w2_81 (x_rec3 C0 h0.1) hd_X3_byteAt rfl ⟨rfl, rfl⟩ ⟨Nat.le_of_ble_eq_true rfl, Nat.le_of_ble_eq_true rfl⟩ (by decide) (by decide) rfl (Nat.le_of_ble_eq_true rfl) dX3_isWord_43 ?_
      refine r_aload_n C0 (kk := 1) 1 rfl dX3_isWord_46 ?_
      refine r_iload_n C0 (kk := 2) 2 rfl dX3_isWord_47 ?_
      obtain ⟨r15, M14, hc13, hf⟩ := bd2_e hf
      refine r_callVi C0 (As := [.int v2]) (rest := [.int r12]) (c_J0_charAt_5068e l D g tb hT h1 hc13) w2_15 w2_16 w2_17 w1_6 w2_18 (x_rec20 C0 h1) hd_J0_charAt_5068e rfl ⟨rfl, rfl⟩ ⟨Nat.le_of_ble_eq_true rfl, Nat.le_of_ble_eq_true rfl⟩ (by decide) (by decide) rfl (Nat.le_of_ble_eq_true rfl) dX3_isWord_48 ?_
      refine r_icmp_eq C0 (tgt := 56) (by decide) dX3_isWord_51 (fun q16 => ?_) (fun q16 => ?_)
      · have hf := ie_t hf q16
        refine r_iincc C0 2 rfl (k0 := 1) (by decide) (by decide) (lv2 := [(2, .int (v2 + 1)), (0, .ref (g.1 3 1777)), (1, .ref (g.1 20 a1))]) rfl dX3_isWord_56 ?_
        refine r_goto C0 (tgt := 28) (by decide) dX3_isWord_59 ?_
        refine WW.sub [1, 2, 0] rfl ?_
        exact hk28 _   _ hf
      · have hf := ie_f hf q16
        refine r_iconst C0 (v := 0) dX3_isWord_54 rfl ?_
        exact hend (by decide) hf dX3_isWord_55
  have L28 : ∀ (v2 : Int32)  (M : xM), f_X3_isWord_c28  a1 v2 M = some (r, M') → WW p l e ({ frames := 4, cells := 0, slots := 0, locals := 85 } : Room) s m args below meth c 0 0 Q 3 D g tb 28 [(0, .ref (g.1 3 1777)), (1, .ref (g.1 20 a1)), (2, .int v2)] [] M := lp_ind (P := fun f => ∀ (v2 : Int32)  (M : xM), f v2 M = some (r, M') → WW p l e ({ frames := 4, cells := 0, slots := 0, locals := 85 } : Room) s m args below meth c 0 0 Q 3 D g tb 28 [(0, .ref (g.1 3 1777)), (1, .ref (g.1 20 a1)), (2, .int v2)] [] M) (fun _ _ h => none_ne h) (fun f hf => B28 f hf) FU
  unfold f_X3_isWord at hf
  refine r_aload_n C0 (kk := 0) 0 rfl dX3_isWord_0 ?_
  refine r_get3 C0 h0.1 7 (by decide) (v := .int (M 1784)) rfl rfl w1_214 dX3_isWord_1 ?_
  refine r_iconst C0 (v := 1) dX3_isWord_4 rfl ?_
  refine r_icmp_ne C0 (tgt := 24) (by decide) dX3_isWord_5 (fun q1 => ?_) (fun q1 => ?_)
  · have hf := ie_f hf q1
    refine r_iconst C0 (v := 0) dX3_isWord_24 rfl ?_
    exact hend (by decide) hf dX3_isWord_25
  · have hf := ie_t hf q1
    refine r_aload_n C0 (kk := 0) 0 rfl dX3_isWord_8 ?_
    refine r_get3 C0 h0.1 6 (by decide) (v := .int (M 1783)) rfl rfl w1_213 dX3_isWord_9 ?_
    refine r_aload_n C0 (kk := 0) 0 rfl dX3_isWord_12 ?_
    refine r_get3 C0 h0.1 8 (by decide) (v := .int (M 1785)) rfl rfl w1_215 dX3_isWord_13 ?_
    refine r_isub C0 dX3_isWord_16 ?_
    refine r_aload_n C0 (kk := 1) 1 rfl dX3_isWord_17 ?_
    obtain ⟨r4, M3, hc2, hf⟩ := bd2_e hf
    refine r_callVi C0 (As := []) (rest := [.int ((M 1783) - (M 1785))]) (c_J0_length_8abf5 l D g tb hT h1 hc2) w2_5 w2_6 w2_7 w1_6 w2_8 (x_rec20 C0 h1) hd_J0_length_8abf5 rfl ⟨rfl, rfl⟩ ⟨Nat.le_of_ble_eq_true rfl, Nat.le_of_ble_eq_true rfl⟩ (by decide) (by decide) rfl (Nat.le_of_ble_eq_true rfl) dX3_isWord_18 ?_
    refine r_icmp_eq C0 (tgt := 26) (by decide) dX3_isWord_21 (fun q5 => ?_) (fun q5 => ?_)
    · have hf := ie_t hf q5
      refine r_iconst C0 (v := 0) dX3_isWord_26 rfl ?_
      refine r_istore_n C0 (kk := 2) (lv2 := [(2, .int 0), (0, .ref (g.1 3 1777)), (1, .ref (g.1 20 a1))]) (by decide) rfl dX3_isWord_27 ?_
      refine WW.sub [1, 2, 0] rfl ?_
      exact L28   _   _ hf
    · have hf := ie_f hf q5
      refine r_iconst C0 (v := 0) dX3_isWord_24 rfl ?_
      exact hend (by decide) hf dX3_isWord_25
theorem dX3_verbRead_0 : decode cX3_verbRead 0 = .ok (.iconst 0, 1) := by decide +kernel
theorem dX3_verbRead_1 : decode cX3_verbRead 1 = .ok (.istore_n 1, 1) := by decide +kernel
theorem dX3_verbRead_2 : decode cX3_verbRead 2 = .ok (.iload_n 1, 1) := by decide +kernel
theorem dX3_verbRead_3 : decode cX3_verbRead 3 = .ok (.getstatic 108, 3) := by decide +kernel
theorem dX3_verbRead_6 : decode cX3_verbRead 6 = .ok (.arraylength, 1) := by decide +kernel
theorem dX3_verbRead_7 : decode cX3_verbRead 7 = .ok (.if_icmp .ge 30, 3) := by decide +kernel
theorem dX3_verbRead_10 : decode cX3_verbRead 10 = .ok (.aload_n 0, 1) := by decide +kernel
theorem dX3_verbRead_11 : decode cX3_verbRead 11 = .ok (.getstatic 108, 3) := by decide +kernel
theorem dX3_verbRead_14 : decode cX3_verbRead 14 = .ok (.iload_n 1, 1) := by decide +kernel
theorem dX3_verbRead_15 : decode cX3_verbRead 15 = .ok (.aaload, 1) := by decide +kernel
theorem dX3_verbRead_16 : decode cX3_verbRead 16 = .ok (.getfield 112, 3) := by decide +kernel
theorem dX3_verbRead_19 : decode cX3_verbRead 19 = .ok (.invokevirtual 115, 3) := by decide +kernel
theorem dX3_verbRead_22 : decode cX3_verbRead 22 = .ok (.ifCond .eq 9, 3) := by decide +kernel
theorem dX3_verbRead_25 : decode cX3_verbRead 25 = .ok (.getstatic 108, 3) := by decide +kernel
theorem dX3_verbRead_28 : decode cX3_verbRead 28 = .ok (.iload_n 1, 1) := by decide +kernel
theorem dX3_verbRead_29 : decode cX3_verbRead 29 = .ok (.aaload, 1) := by decide +kernel
theorem dX3_verbRead_30 : decode cX3_verbRead 30 = .ok (.areturn, 1) := by decide +kernel
theorem dX3_verbRead_31 : decode cX3_verbRead 31 = .ok (.iinc 1 1, 3) := by decide +kernel
theorem dX3_verbRead_34 : decode cX3_verbRead 34 = .ok (.goto (-32), 3) := by decide +kernel
theorem dX3_verbRead_37 : decode cX3_verbRead 37 = .ok (.aconst_null, 1) := by decide +kernel
theorem dX3_verbRead_38 : decode cX3_verbRead 38 = .ok (.areturn, 1) := by decide +kernel
theorem hd_X3_verbRead : yX3_verbRead.cls = RX3 ∧ yX3_verbRead.cls ≠ "java/lang/invoke/MethodHandle" ∧ yX3_verbRead.cls ≠ "java/lang/invoke/VarHandle" ∧ (parseMethodDescriptor yX3_verbRead.desc).map (fun d => d.parameters.length) = some 0 := by decide +kernel
set_option maxRecDepth 100000 in
set_option maxHeartbeats 4000000 in
theorem c_X3_verbRead (l : Launch) (D : va_G) (g : xG) (tb : List xQ) (hT : x_T g tb)  (h0 : x_rd tb) {M : xM} {r : Int32} {M' : xM} (hf : f_X3_verbRead  M = some (r, M')) :
    cE l D g tb yX3_verbRead cX3_verbRead 2 (.object "FogBellMarket$Verb") ({ frames := 5, cells := 0, slots := 0, locals := 107 } : Room) [.ref (g.1 3 1777)] M r M' := by
  refine x_startE (own := RX3) (by decide +kernel) rfl rfl (Nat.le_of_ble_eq_true rfl) hT ?_
  intro p e s m args below meth c Q C0 hend
  have B2 : ∀ (k2 : Int32 → xM → Option (Int32 × xM)) (hk2 : ∀ (v1 : Int32)  (M : xM), k2 v1 M = some (r, M') → WW p l e ({ frames := 5, cells := 0, slots := 0, locals := 107 } : Room) s m args below meth c 0 0 Q 2 D g tb 2 [(0, .ref (g.1 3 1777)), (1, .int v1)] [] M), ∀ (v1 : Int32)  (M : xM), fb_X3_verbRead_c2 k2  v1 M = some (r, M') → WW p l e ({ frames := 5, cells := 0, slots := 0, locals := 107 } : Room) s m args below meth c 0 0 Q 2 D g tb 2 [(0, .ref (g.1 3 1777)), (1, .int v1)] [] M := by
    intro k2 hk2 v1  M hf
    unfold fb_X3_verbRead_c2 at hf
    refine r_iload_n C0 (kk := 1) 1 rfl dX3_verbRead_2 ?_
    refine r_gverbs C0 w2_138 dX3_verbRead_3 ?_
    refine r_vslen C0 dX3_verbRead_6 ?_
    refine r_icmp_ge C0 (tgt := 37) (by decide) dX3_verbRead_7 (fun q1 => ?_) (fun q1 => ?_)
    · have hf := ie_t hf q1
      refine r_nullv C0 dX3_verbRead_37 ?_
      exact hend hf dX3_verbRead_38
    · have hf := ie_f hf q1
      refine r_aload_n C0 (kk := 0) 0 rfl dX3_verbRead_10 ?_
      refine r_gverbs C0 w2_138 dX3_verbRead_11 ?_
      refine r_iload_n C0 (kk := 1) 1 rfl dX3_verbRead_14 ?_
      obtain ⟨q2, hf⟩ := gd_e hf
      refine r_vsald C0 q2 dX3_verbRead_15 ?_
      obtain ⟨q3, hf⟩ := gd_e hf
      refine r_vword C0 q3 w8_131 dX3_verbRead_16 ?_
      obtain ⟨r6, M5, hc4, hf⟩ := bd2_e hf
      refine r_callVi C0 (As := [.ref (g.1 20 (x_vw ((v1 + 1) - 1).toNatClampNeg))]) (rest := []) (c_X3_isWord l D g tb hT h0 (x_vw_lt _) hc4) w2_93 w2_95 wp1_6 w1_5 w2_96 (x_rec3 C0 h0.1) hd_X3_isWord rfl ⟨rfl, rfl⟩ ⟨Nat.le_of_ble_eq_true rfl, Nat.le_of_ble_eq_true rfl⟩ (by decide) (by decide) rfl (Nat.le_of_ble_eq_true rfl) dX3_verbRead_19 ?_
      refine r_if_eq C0 (tgt := 31) (by decide) dX3_verbRead_22 (fun q7 => ?_) (fun q7 => ?_)
      · have hf := ie_t hf q7
        refine r_iincc C0 1 rfl (k0 := 1) (by decide) (by decide) (lv2 := [(1, .int (v1 + 1)), (0, .ref (g.1 3 1777))]) rfl dX3_verbRead_31 ?_
        refine r_goto C0 (tgt := 2) (by decide) dX3_verbRead_34 ?_
        refine WW.sub [1, 0] rfl ?_
        exact hk2 _   _ hf
      · have hf := ie_f hf q7
        refine r_gverbs C0 w2_138 dX3_verbRead_25 ?_
        refine r_iload_n C0 (kk := 1) 1 rfl dX3_verbRead_28 ?_
        obtain ⟨q8, hf⟩ := gd_e hf
        refine r_vsald C0 q8 dX3_verbRead_29 ?_
        exact hend hf dX3_verbRead_30
  have L2 : ∀ (v1 : Int32)  (M : xM), f_X3_verbRead_c2   v1 M = some (r, M') → WW p l e ({ frames := 5, cells := 0, slots := 0, locals := 107 } : Room) s m args below meth c 0 0 Q 2 D g tb 2 [(0, .ref (g.1 3 1777)), (1, .int v1)] [] M := lp_ind (P := fun f => ∀ (v1 : Int32)  (M : xM), f v1 M = some (r, M') → WW p l e ({ frames := 5, cells := 0, slots := 0, locals := 107 } : Room) s m args below meth c 0 0 Q 2 D g tb 2 [(0, .ref (g.1 3 1777)), (1, .int v1)] [] M) (fun _ _ h => none_ne h) (fun f hf => B2 f hf) FU
  unfold f_X3_verbRead at hf
  refine r_iconst C0 (v := 0) dX3_verbRead_0 rfl ?_
  refine r_istore_n C0 (kk := 1) (lv2 := [(1, .int 0), (0, .ref (g.1 3 1777))]) (by decide) rfl dX3_verbRead_1 ?_
  refine WW.sub [1, 0] rfl ?_
  exact L2   _   _ hf
theorem dX7_isWord_0 : decode cX7_isWord 0 = .ok (.aload_n 0, 1) := by decide +kernel
theorem dX7_isWord_1 : decode cX7_isWord 1 = .ok (.getfield 156, 3) := by decide +kernel
theorem dX7_isWord_4 : decode cX7_isWord 4 = .ok (.ifCond .ne 19, 3) := by decide +kernel
theorem dX7_isWord_7 : decode cX7_isWord 7 = .ok (.aload_n 0, 1) := by decide +kernel
theorem dX7_isWord_8 : decode cX7_isWord 8 = .ok (.getfield 150, 3) := by decide +kernel
theorem dX7_isWord_11 : decode cX7_isWord 11 = .ok (.aload_n 0, 1) := by decide +kernel
theorem dX7_isWord_12 : decode cX7_isWord 12 = .ok (.getfield 153, 3) := by decide +kernel
theorem dX7_isWord_15 : decode cX7_isWord 15 = .ok (.isub, 1) := by decide +kernel
theorem dX7_isWord_16 : decode cX7_isWord 16 = .ok (.aload_n 1, 1) := by decide +kernel
theorem dX7_isWord_17 : decode cX7_isWord 17 = .ok (.invokevirtual 44, 3) := by decide +kernel
theorem dX7_isWord_20 : decode cX7_isWord 20 = .ok (.if_icmp .eq 5, 3) := by decide +kernel
theorem dX7_isWord_23 : decode cX7_isWord 23 = .ok (.iconst 0, 1) := by decide +kernel
theorem dX7_isWord_24 : decode cX7_isWord 24 = .ok (.ireturn, 1) := by decide +kernel
theorem dX7_isWord_25 : decode cX7_isWord 25 = .ok (.iconst 0, 1) := by decide +kernel
theorem dX7_isWord_26 : decode cX7_isWord 26 = .ok (.istore_n 2, 1) := by decide +kernel
theorem dX7_isWord_27 : decode cX7_isWord 27 = .ok (.iconst 0, 1) := by decide +kernel
theorem dX7_isWord_28 : decode cX7_isWord 28 = .ok (.istore_n 3, 1) := by decide +kernel
theorem dX7_isWord_29 : decode cX7_isWord 29 = .ok (.iload_n 3, 1) := by decide +kernel
theorem dX7_isWord_30 : decode cX7_isWord 30 = .ok (.aload_n 1, 1) := by decide +kernel
theorem dX7_isWord_31 : decode cX7_isWord 31 = .ok (.invokevirtual 44, 3) := by decide +kernel
theorem dX7_isWord_34 : decode cX7_isWord 34 = .ok (.if_icmp .ge 39, 3) := by decide +kernel
theorem dX7_isWord_37 : decode cX7_isWord 37 = .ok (.iload_n 2, 1) := by decide +kernel
theorem dX7_isWord_38 : decode cX7_isWord 38 = .ok (.aload_n 0, 1) := by decide +kernel
theorem dX7_isWord_39 : decode cX7_isWord 39 = .ok (.getfield 7, 3) := by decide +kernel
theorem dX7_isWord_42 : decode cX7_isWord 42 = .ok (.aload_n 0, 1) := by decide +kernel
theorem dX7_isWord_43 : decode cX7_isWord 43 = .ok (.getfield 153, 3) := by decide +kernel
theorem dX7_isWord_46 : decode cX7_isWord 46 = .ok (.iload_n 3, 1) := by decide +kernel
theorem dX7_isWord_47 : decode cX7_isWord 47 = .ok (.iadd, 1) := by decide +kernel
theorem dX7_isWord_48 : decode cX7_isWord 48 = .ok (.iaload, 1) := by decide +kernel
theorem dX7_isWord_49 : decode cX7_isWord 49 = .ok (.aload_n 1, 1) := by decide +kernel
theorem dX7_isWord_50 : decode cX7_isWord 50 = .ok (.iload_n 3, 1) := by decide +kernel
theorem dX7_isWord_51 : decode cX7_isWord 51 = .ok (.invokevirtual 50, 3) := by decide +kernel
theorem dX7_isWord_54 : decode cX7_isWord 54 = .ok (.if_icmp .ne 7, 3) := by decide +kernel
theorem dX7_isWord_57 : decode cX7_isWord 57 = .ok (.iconst 1, 1) := by decide +kernel
theorem dX7_isWord_58 : decode cX7_isWord 58 = .ok (.goto 4, 3) := by decide +kernel
theorem dX7_isWord_61 : decode cX7_isWord 61 = .ok (.iconst 0, 1) := by decide +kernel
theorem dX7_isWord_62 : decode cX7_isWord 62 = .ok (.invokestatic 143, 3) := by decide +kernel
theorem dX7_isWord_65 : decode cX7_isWord 65 = .ok (.iadd, 1) := by decide +kernel
theorem dX7_isWord_66 : decode cX7_isWord 66 = .ok (.istore_n 2, 1) := by decide +kernel
theorem dX7_isWord_67 : decode cX7_isWord 67 = .ok (.iinc 3 1, 3) := by decide +kernel
theorem dX7_isWord_70 : decode cX7_isWord 70 = .ok (.goto (-41), 3) := by decide +kernel
theorem dX7_isWord_73 : decode cX7_isWord 73 = .ok (.iload_n 2, 1) := by decide +kernel
theorem dX7_isWord_74 : decode cX7_isWord 74 = .ok (.aload_n 1, 1) := by decide +kernel
theorem dX7_isWord_75 : decode cX7_isWord 75 = .ok (.invokevirtual 44, 3) := by decide +kernel
theorem dX7_isWord_78 : decode cX7_isWord 78 = .ok (.if_icmp .ne 7, 3) := by decide +kernel
theorem dX7_isWord_81 : decode cX7_isWord 81 = .ok (.iconst 1, 1) := by decide +kernel
theorem dX7_isWord_82 : decode cX7_isWord 82 = .ok (.goto 4, 3) := by decide +kernel
theorem dX7_isWord_85 : decode cX7_isWord 85 = .ok (.iconst 0, 1) := by decide +kernel
theorem dX7_isWord_86 : decode cX7_isWord 86 = .ok (.ireturn, 1) := by decide +kernel
theorem hd_X7_isWord : yX7_isWord.cls = RX7 ∧ yX7_isWord.cls ≠ "java/lang/invoke/MethodHandle" ∧ yX7_isWord.cls ≠ "java/lang/invoke/VarHandle" ∧ (parseMethodDescriptor yX7_isWord.desc).map (fun d => d.parameters.length) = some 1 := by decide +kernel
set_option maxRecDepth 100000 in
set_option maxHeartbeats 4000000 in
theorem c_X7_isWord (l : Launch) (D : va_G) (g : xG) (tb : List xQ) (hT : x_T g tb) {a1 : Nat} (h0 : x_md tb) (h1 : a1 < 56) {M : xM} {r : Int32} {M' : xM} (hf : f_X7_isWord a1 M = some (r, M')) :
    cI l D g tb yX7_isWord cX7_isWord 4 .boolean ({ frames := 4, cells := 0, slots := 0, locals := 85 } : Room) [.ref (g.1 5 2500), .ref (g.1 20 a1)] M r M' := by
  refine x_startZ (own := RX7) (by decide +kernel) rfl rfl (Nat.le_of_ble_eq_true rfl) hT ?_
  intro p e s m args below meth c Q C0 hend
  have B62 : ∀ (k29 : Int32 → Int32 → xM → Option (Int32 × xM)) (hk29 : ∀ (v2 : Int32) (v3 : Int32)  (M : xM), k29 v2 v3 M = some (r, M') → WW p l e ({ frames := 4, cells := 0, slots := 0, locals := 85 } : Room) s m args below meth c 0 0 Q 4 D g tb 29 [(0, .ref (g.1 5 2500)), (1, .ref (g.1 20 a1)), (2, .int v2), (3, .int v3)] [] M), ∀ (v3 : Int32) (s0 : Int32) (s1 : Int32)  (M : xM), f_X7_isWord_c62 k29 a1 v3 s0 s1 M = some (r, M') → WW p l e ({ frames := 4, cells := 0, slots := 0, locals := 85 } : Room) s m args below meth c 0 0 Q 4 D g tb 62 [(0, .ref (g.1 5 2500)), (1, .ref (g.1 20 a1)), (3, .int v3)] [.int s0, .int s1] M := by
    intro k29 hk29 v3 s0 s1  M hf
    unfold f_X7_isWord_c62 at hf
    obtain ⟨r21, M20, hc19, hf⟩ := bd2_e hf
    refine r_callSi C0 (As := [.int s0]) (rest := [.int s1]) (c_X7_flag l D g tb hT  hc19) w6_32 w6_33 w1_14 w6_34 hd_X7_flag rfl ⟨rfl, rfl⟩ ⟨Nat.le_of_ble_eq_true rfl, Nat.le_of_ble_eq_true rfl⟩ (by decide) (by decide) rfl (Nat.le_of_ble_eq_true rfl) dX7_isWord_62 ?_
    refine r_iadd C0 dX7_isWord_65 ?_
    refine r_istore_n C0 (kk := 2) (lv2 := [(2, .int (s1 + r21)), (0, .ref (g.1 5 2500)), (1, .ref (g.1 20 a1)), (3, .int v3)]) (by decide) rfl dX7_isWord_66 ?_
    refine r_iincc C0 3 rfl (k0 := 1) (by decide) (by decide) (lv2 := [(3, .int (v3 + 1)), (2, .int (s1 + r21)), (0, .ref (g.1 5 2500)), (1, .ref (g.1 20 a1))]) rfl dX7_isWord_67 ?_
    refine r_goto C0 (tgt := 29) (by decide) dX7_isWord_70 ?_
    refine WW.sub [2, 3, 1, 0] rfl ?_
    exact hk29 _ _   _ hf
  have B29 : ∀ (k29 : Int32 → Int32 → xM → Option (Int32 × xM)) (hk29 : ∀ (v2 : Int32) (v3 : Int32)  (M : xM), k29 v2 v3 M = some (r, M') → WW p l e ({ frames := 4, cells := 0, slots := 0, locals := 85 } : Room) s m args below meth c 0 0 Q 4 D g tb 29 [(0, .ref (g.1 5 2500)), (1, .ref (g.1 20 a1)), (2, .int v2), (3, .int v3)] [] M), ∀ (v2 : Int32) (v3 : Int32)  (M : xM), fb_X7_isWord_c29 k29 a1 v2 v3 M = some (r, M') → WW p l e ({ frames := 4, cells := 0, slots := 0, locals := 85 } : Room) s m args below meth c 0 0 Q 4 D g tb 29 [(0, .ref (g.1 5 2500)), (1, .ref (g.1 20 a1)), (2, .int v2), (3, .int v3)] [] M := by
    intro k29 hk29 v2 v3  M hf
    unfold fb_X7_isWord_c29 at hf
    refine r_iload_n C0 (kk := 3) 3 rfl dX7_isWord_29 ?_
    refine r_aload_n C0 (kk := 1) 1 rfl dX7_isWord_30 ?_
    obtain ⟨r8, M7, hc6, hf⟩ := bd2_e hf
    refine r_callVi C0 (As := []) (rest := [.int v3]) (c_J0_length_8abf5 l D g tb hT h1 hc6) w5_231 w2_6 w2_7 w1_6 w2_8 (x_rec20 C0 h1) hd_J0_length_8abf5 rfl ⟨rfl, rfl⟩ ⟨Nat.le_of_ble_eq_true rfl, Nat.le_of_ble_eq_true rfl⟩ (by decide) (by decide) rfl (Nat.le_of_ble_eq_true rfl) dX7_isWord_31 ?_
    refine r_icmp_ge C0 (tgt := 73) (by decide) dX7_isWord_34 (fun q9 => ?_) (fun q9 => ?_)
    · have hf := ie_t hf q9
      refine r_iload_n C0 (kk := 2) 2 rfl dX7_isWord_73 ?_
      refine r_aload_n C0 (kk := 1) 1 rfl dX7_isWord_74 ?_
      obtain ⟨r12, M11, hc10, hf⟩ := bd2_e hf
      refine r_callVi C0 (As := []) (rest := [.int v2]) (c_J0_length_8abf5 l D g tb hT h1 hc10) w5_231 w2_6 w2_7 w1_6 w2_8 (x_rec20 C0 h1) hd_J0_length_8abf5 rfl ⟨rfl, rfl⟩ ⟨Nat.le_of_ble_eq_true rfl, Nat.le_of_ble_eq_true rfl⟩ (by decide) (by decide) rfl (Nat.le_of_ble_eq_true rfl) dX7_isWord_75 ?_
      refine r_icmp_ne C0 (tgt := 85) (by decide) dX7_isWord_78 (fun q13 => ?_) (fun q13 => ?_)
      · have hf := ie_f hf q13
        refine r_iconst C0 (v := 0) dX7_isWord_85 rfl ?_
        exact hend (by decide) hf dX7_isWord_86
      · have hf := ie_t hf q13
        refine r_iconst C0 (v := 1) dX7_isWord_81 rfl ?_
        refine r_goto C0 (tgt := 86) (by decide) dX7_isWord_82 ?_
        exact hend (by decide) hf dX7_isWord_86
    · have hf := ie_f hf q9
      refine r_iload_n C0 (kk := 2) 2 rfl dX7_isWord_37 ?_
      refine r_aload_n C0 (kk := 0) 0 rfl dX7_isWord_38 ?_
      refine r_get5 C0 h0.1 0 (by decide) (v := .ref (g.1 6 4252)) rfl rfl w6_216 dX7_isWord_39 ?_
      refine r_aload_n C0 (kk := 0) 0 rfl dX7_isWord_42 ?_
      refine r_get5 C0 h0.1 17 (by decide) (v := .int (M7 2517)) rfl rfl w6_233 dX7_isWord_43 ?_
      refine r_iload_n C0 (kk := 3) 3 rfl dX7_isWord_46 ?_
      refine r_iadd C0 dX7_isWord_47 ?_
      obtain ⟨q14, hf⟩ := gd_e hf
      refine r_ialdc C0 h0.2.2.2.2.2.2.2.2.2 q14 rfl dX7_isWord_48 ?_
      refine r_aload_n C0 (kk := 1) 1 rfl dX7_isWord_49 ?_
      refine r_iload_n C0 (kk := 3) 3 rfl dX7_isWord_50 ?_
      obtain ⟨r17, M16, hc15, hf⟩ := bd2_e hf
      refine r_callVi C0 (As := [.int v3]) (rest := [.int (M7 (4252 + ((M7 2517) + v3).toNatClampNeg)), .int v2]) (c_J0_charAt_5068e l D g tb hT h1 hc15) w5_232 w2_16 w2_17 w1_6 w2_18 (x_rec20 C0 h1) hd_J0_charAt_5068e rfl ⟨rfl, rfl⟩ ⟨Nat.le_of_ble_eq_true rfl, Nat.le_of_ble_eq_true rfl⟩ (by decide) (by decide) rfl (Nat.le_of_ble_eq_true rfl) dX7_isWord_51 ?_
      refine r_icmp_ne C0 (tgt := 61) (by decide) dX7_isWord_54 (fun q18 => ?_) (fun q18 => ?_)
      · have hf := ie_f hf q18
        refine r_iconst C0 (v := 0) dX7_isWord_61 rfl ?_
        refine WW.sub [0, 1, 3] rfl ?_
        exact B62 k29 hk29 _ _ _   _ hf
      · have hf := ie_t hf q18
        refine r_iconst C0 (v := 1) dX7_isWord_57 rfl ?_
        refine r_goto C0 (tgt := 62) (by decide) dX7_isWord_58 ?_
        refine WW.sub [0, 1, 3] rfl ?_
        exact B62 k29 hk29 _ _ _   _ hf
  have L29 : ∀ (v2 : Int32) (v3 : Int32)  (M : xM), f_X7_isWord_c29  a1 v2 v3 M = some (r, M') → WW p l e ({ frames := 4, cells := 0, slots := 0, locals := 85 } : Room) s m args below meth c 0 0 Q 4 D g tb 29 [(0, .ref (g.1 5 2500)), (1, .ref (g.1 20 a1)), (2, .int v2), (3, .int v3)] [] M := lp_ind (P := fun f => ∀ (v2 : Int32) (v3 : Int32)  (M : xM), f v2 v3 M = some (r, M') → WW p l e ({ frames := 4, cells := 0, slots := 0, locals := 85 } : Room) s m args below meth c 0 0 Q 4 D g tb 29 [(0, .ref (g.1 5 2500)), (1, .ref (g.1 20 a1)), (2, .int v2), (3, .int v3)] [] M) (fun _ _ _ h => none_ne h) (fun f hf => B29 f hf) FU
  unfold f_X7_isWord at hf
  refine r_aload_n C0 (kk := 0) 0 rfl dX7_isWord_0 ?_
  refine r_get5 C0 h0.1 16 (by decide) (v := .int (M 2516)) rfl rfl w6_232 dX7_isWord_1 ?_
  refine r_if_ne C0 (tgt := 23) (by decide) dX7_isWord_4 (fun q1 => ?_) (fun q1 => ?_)
  · have hf := ie_f hf q1
    refine r_iconst C0 (v := 0) dX7_isWord_23 rfl ?_
    exact hend (by decide) hf dX7_isWord_24
  · have hf := ie_t hf q1
    refine r_aload_n C0 (kk := 0) 0 rfl dX7_isWord_7 ?_
    refine r_get5 C0 h0.1 15 (by decide) (v := .int (M 2515)) rfl rfl w6_231 dX7_isWord_8 ?_
    refine r_aload_n C0 (kk := 0) 0 rfl dX7_isWord_11 ?_
    refine r_get5 C0 h0.1 17 (by decide) (v := .int (M 2517)) rfl rfl w6_233 dX7_isWord_12 ?_
    refine r_isub C0 dX7_isWord_15 ?_
    refine r_aload_n C0 (kk := 1) 1 rfl dX7_isWord_16 ?_
    obtain ⟨r4, M3, hc2, hf⟩ := bd2_e hf
    refine r_callVi C0 (As := []) (rest := [.int ((M 2515) - (M 2517))]) (c_J0_length_8abf5 l D g tb hT h1 hc2) w5_231 w2_6 w2_7 w1_6 w2_8 (x_rec20 C0 h1) hd_J0_length_8abf5 rfl ⟨rfl, rfl⟩ ⟨Nat.le_of_ble_eq_true rfl, Nat.le_of_ble_eq_true rfl⟩ (by decide) (by decide) rfl (Nat.le_of_ble_eq_true rfl) dX7_isWord_17 ?_
    refine r_icmp_eq C0 (tgt := 25) (by decide) dX7_isWord_20 (fun q5 => ?_) (fun q5 => ?_)
    · have hf := ie_t hf q5
      refine r_iconst C0 (v := 0) dX7_isWord_25 rfl ?_
      refine r_istore_n C0 (kk := 2) (lv2 := [(2, .int 0), (0, .ref (g.1 5 2500)), (1, .ref (g.1 20 a1))]) (by decide) rfl dX7_isWord_26 ?_
      refine r_iconst C0 (v := 0) dX7_isWord_27 rfl ?_
      refine r_istore_n C0 (kk := 3) (lv2 := [(3, .int 0), (2, .int 0), (0, .ref (g.1 5 2500)), (1, .ref (g.1 20 a1))]) (by decide) rfl dX7_isWord_28 ?_
      refine WW.sub [2, 3, 1, 0] rfl ?_
      exact L29   _ _   _ hf
    · have hf := ie_f hf q5
      refine r_iconst C0 (v := 0) dX7_isWord_23 rfl ?_
      exact hend (by decide) hf dX7_isWord_24
theorem dX3_appendText_0 : decode cX3_appendText 0 = .ok (.iconst 0, 1) := by decide +kernel
theorem dX3_appendText_1 : decode cX3_appendText 1 = .ok (.istore_n 2, 1) := by decide +kernel
theorem dX3_appendText_2 : decode cX3_appendText 2 = .ok (.iload_n 2, 1) := by decide +kernel
theorem dX3_appendText_3 : decode cX3_appendText 3 = .ok (.aload_n 1, 1) := by decide +kernel
theorem dX3_appendText_4 : decode cX3_appendText 4 = .ok (.invokevirtual 23, 3) := by decide +kernel
theorem dX3_appendText_7 : decode cX3_appendText 7 = .ok (.if_icmp .ge 18, 3) := by decide +kernel
theorem dX3_appendText_10 : decode cX3_appendText 10 = .ok (.aload_n 0, 1) := by decide +kernel
theorem dX3_appendText_11 : decode cX3_appendText 11 = .ok (.aload_n 1, 1) := by decide +kernel
theorem dX3_appendText_12 : decode cX3_appendText 12 = .ok (.iload_n 2, 1) := by decide +kernel
theorem dX3_appendText_13 : decode cX3_appendText 13 = .ok (.invokevirtual 29, 3) := by decide +kernel
theorem dX3_appendText_16 : decode cX3_appendText 16 = .ok (.invokevirtual 33, 3) := by decide +kernel
theorem dX3_appendText_19 : decode cX3_appendText 19 = .ok (.iinc 2 1, 3) := by decide +kernel
theorem dX3_appendText_22 : decode cX3_appendText 22 = .ok (.goto (-20), 3) := by decide +kernel
theorem dX3_appendText_25 : decode cX3_appendText 25 = .ok (.return_, 1) := by decide +kernel
theorem hd_X3_appendText : yX3_appendText.cls = RX3 ∧ yX3_appendText.cls ≠ "java/lang/invoke/MethodHandle" ∧ yX3_appendText.cls ≠ "java/lang/invoke/VarHandle" ∧ (parseMethodDescriptor yX3_appendText.desc).map (fun d => d.parameters.length) = some 1 := by decide +kernel
set_option maxRecDepth 100000 in
set_option maxHeartbeats 4000000 in
theorem c_X3_appendText (l : Launch) (D : va_G) (g : xG) (tb : List xQ) (hT : x_T g tb) {a1 : Nat} (h0 : x_rd tb) (h1 : a1 < 56) {M M' : xM} (hf : f_X3_appendText a1 M = some M') :
    cV l D g tb yX3_appendText cX3_appendText 3 ({ frames := 4, cells := 0, slots := 0, locals := 85 } : Room) [.ref (g.1 3 1777), .ref (g.1 20 a1)] M M' := by
  refine x_startV (own := RX3) (by decide +kernel) rfl rfl (Nat.le_of_ble_eq_true rfl) hT ?_
  intro p e s m args below meth c Q C0 hend
  have B2 : ∀ (k2 : Int32 → xM → Option xM) (hk2 : ∀ (v2 : Int32)  (M : xM), k2 v2 M = some M' → WW p l e ({ frames := 4, cells := 0, slots := 0, locals := 85 } : Room) s m args below meth c 0 0 Q 3 D g tb 2 [(0, .ref (g.1 3 1777)), (1, .ref (g.1 20 a1)), (2, .int v2)] [] M), ∀ (v2 : Int32)  (M : xM), fb_X3_appendText_c2 k2 a1 v2 M = some M' → WW p l e ({ frames := 4, cells := 0, slots := 0, locals := 85 } : Room) s m args below meth c 0 0 Q 3 D g tb 2 [(0, .ref (g.1 3 1777)), (1, .ref (g.1 20 a1)), (2, .int v2)] [] M := by
    intro k2 hk2 v2  M hf
    unfold fb_X3_appendText_c2 at hf
    refine r_iload_n C0 (kk := 2) 2 rfl dX3_appendText_2 ?_
    refine r_aload_n C0 (kk := 1) 1 rfl dX3_appendText_3 ?_
    obtain ⟨r3, M2, hc1, hf⟩ := bd2_e hf
    refine r_callVi C0 (As := []) (rest := [.int v2]) (c_J0_length_8abf5 l D g tb hT h1 hc1) w2_5 w2_6 w2_7 w1_6 w2_8 (x_rec20 C0 h1) hd_J0_length_8abf5 rfl ⟨rfl, rfl⟩ ⟨Nat.le_of_ble_eq_true rfl, Nat.le_of_ble_eq_true rfl⟩ (by decide) (by decide) rfl (Nat.le_of_ble_eq_true rfl) dX3_appendText_4 ?_
    refine r_icmp_ge C0 (tgt := 25) (by decide) dX3_appendText_7 (fun q4 => ?_) (fun q4 => ?_)
    · have hf := ie_t hf q4
      exact hend hf dX3_appendText_25
    · have hf := ie_f hf q4
      refine r_aload_n C0 (kk := 0) 0 rfl dX3_appendText_10 ?_
      refine r_aload_n C0 (kk := 1) 1 rfl dX3_appendText_11 ?_
      refine r_iload_n C0 (kk := 2) 2 rfl dX3_appendText_12 ?_
      obtain ⟨r7, M6, hc5, hf⟩ := bd2_e hf
      refine r_callVi C0 (As := [.int v2]) (rest := [.ref (g.1 3 1777)]) (c_J0_charAt_5068e l D g tb hT h1 hc5) w2_15 w2_16 w2_17 w1_6 w2_18 (x_rec20 C0 h1) hd_J0_charAt_5068e rfl ⟨rfl, rfl⟩ ⟨Nat.le_of_ble_eq_true rfl, Nat.le_of_ble_eq_true rfl⟩ (by decide) (by decide) rfl (Nat.le_of_ble_eq_true rfl) dX3_appendText_13 ?_
      obtain ⟨M9, hc8, hf⟩ := bd_e hf
      refine r_callVv C0 (As := [.int r7]) (rest := []) (c_X3_appendByte l D g tb hT h0 hc8) w2_53 w2_55 wp1_0 w1_5 w2_56 (x_rec3 C0 h0.1) hd_X3_appendByte rfl ⟨rfl, rfl⟩ ⟨Nat.le_of_ble_eq_true rfl, Nat.le_of_ble_eq_true rfl⟩ (by decide) (by decide) rfl (Nat.le_of_ble_eq_true rfl) dX3_appendText_16 ?_
      refine r_iincc C0 2 rfl (k0 := 1) (by decide) (by decide) (lv2 := [(2, .int (v2 + 1)), (0, .ref (g.1 3 1777)), (1, .ref (g.1 20 a1))]) rfl dX3_appendText_19 ?_
      refine r_goto C0 (tgt := 2) (by decide) dX3_appendText_22 ?_
      refine WW.sub [1, 2, 0] rfl ?_
      exact hk2 _   _ hf
  have L2 : ∀ (v2 : Int32)  (M : xM), f_X3_appendText_c2  a1 v2 M = some M' → WW p l e ({ frames := 4, cells := 0, slots := 0, locals := 85 } : Room) s m args below meth c 0 0 Q 3 D g tb 2 [(0, .ref (g.1 3 1777)), (1, .ref (g.1 20 a1)), (2, .int v2)] [] M := lp_ind (P := fun f => ∀ (v2 : Int32)  (M : xM), f v2 M = some M' → WW p l e ({ frames := 4, cells := 0, slots := 0, locals := 85 } : Room) s m args below meth c 0 0 Q 3 D g tb 2 [(0, .ref (g.1 3 1777)), (1, .ref (g.1 20 a1)), (2, .int v2)] [] M) (fun _ _ h => none_ne h) (fun f hf => B2 f hf) FU
  unfold f_X3_appendText at hf
  refine r_iconst C0 (v := 0) dX3_appendText_0 rfl ?_
  refine r_istore_n C0 (kk := 2) (lv2 := [(2, .int 0), (0, .ref (g.1 3 1777)), (1, .ref (g.1 20 a1))]) (by decide) rfl dX3_appendText_1 ?_
  refine WW.sub [1, 2, 0] rfl ?_
  exact L2   _   _ hf
theorem dX3_readWord_0 : decode cX3_readWord 0 = .ok (.aload_n 0, 1) := by decide +kernel
theorem dX3_readWord_1 : decode cX3_readWord 1 = .ok (.invokevirtual 74, 3) := by decide +kernel
theorem dX3_readWord_4 : decode cX3_readWord 4 = .ok (.aload_n 0, 1) := by decide +kernel
theorem dX3_readWord_5 : decode cX3_readWord 5 = .ok (.aload_n 1, 1) := by decide +kernel
theorem dX3_readWord_6 : decode cX3_readWord 6 = .ok (.invokevirtual 115, 3) := by decide +kernel
theorem dX3_readWord_9 : decode cX3_readWord 9 = .ok (.ifCond .ne 11, 3) := by decide +kernel
theorem dX3_readWord_12 : decode cX3_readWord 12 = .ok (.aload_n 0, 1) := by decide +kernel
theorem dX3_readWord_13 : decode cX3_readWord 13 = .ok (.iconst 1, 1) := by decide +kernel
theorem dX3_readWord_14 : decode cX3_readWord 14 = .ok (.invokevirtual 80, 3) := by decide +kernel
theorem dX3_readWord_17 : decode cX3_readWord 17 = .ok (.ifCond .eq 7, 3) := by decide +kernel
theorem dX3_readWord_20 : decode cX3_readWord 20 = .ok (.iconst 1, 1) := by decide +kernel
theorem dX3_readWord_21 : decode cX3_readWord 21 = .ok (.goto 4, 3) := by decide +kernel
theorem dX3_readWord_24 : decode cX3_readWord 24 = .ok (.iconst 0, 1) := by decide +kernel
theorem dX3_readWord_25 : decode cX3_readWord 25 = .ok (.ireturn, 1) := by decide +kernel
theorem hd_X3_readWord : yX3_readWord.cls = RX3 ∧ yX3_readWord.cls ≠ "java/lang/invoke/MethodHandle" ∧ yX3_readWord.cls ≠ "java/lang/invoke/VarHandle" ∧ (parseMethodDescriptor yX3_readWord.desc).map (fun d => d.parameters.length) = some 1 := by decide +kernel
set_option maxRecDepth 100000 in
set_option maxHeartbeats 4000000 in
theorem c_X3_readWord (l : Launch) (D : va_G) (g : xG) (tb : List xQ) (hT : x_T g tb) {a1 : Nat} (h0 : x_rd tb) (h1 : a1 < 56) {M : xM} {r : Int32} {M' : xM} (hf : f_X3_readWord a1 M = some (r, M')) :
    cI l D g tb yX3_readWord cX3_readWord 2 .boolean ({ frames := 5, cells := 0, slots := 0, locals := 107 } : Room) [.ref (g.1 3 1777), .ref (g.1 20 a1)] M r M' := by
  refine x_startZ (own := RX3) (by decide +kernel) rfl rfl (Nat.le_of_ble_eq_true rfl) hT ?_
  intro p e s m args below meth c Q C0 hend
  unfold f_X3_readWord at hf
  refine r_aload_n C0 (kk := 0) 0 rfl dX3_readWord_0 ?_
  obtain ⟨M2, hc1, hf⟩ := bd_e hf
  refine r_callVv C0 (As := []) (rest := []) (c_X3_readToken l D g tb hT h0 hc1) w2_74 w2_76 wp1_3 w1_5 w2_77 (x_rec3 C0 h0.1) hd_X3_readToken rfl ⟨rfl, rfl⟩ ⟨Nat.le_of_ble_eq_true rfl, Nat.le_of_ble_eq_true rfl⟩ (by decide) (by decide) rfl (Nat.le_of_ble_eq_true rfl) dX3_readWord_1 ?_
  refine r_aload_n C0 (kk := 0) 0 rfl dX3_readWord_4 ?_
  refine r_aload_n C0 (kk := 1) 1 rfl dX3_readWord_5 ?_
  obtain ⟨r5, M4, hc3, hf⟩ := bd2_e hf
  refine r_callVi C0 (As := [.ref (g.1 20 a1)]) (rest := []) (c_X3_isWord l D g tb hT h0 h1 hc3) w2_93 w2_95 wp1_6 w1_5 w2_96 (x_rec3 C0 h0.1) hd_X3_isWord rfl ⟨rfl, rfl⟩ ⟨Nat.le_of_ble_eq_true rfl, Nat.le_of_ble_eq_true rfl⟩ (by decide) (by decide) rfl (Nat.le_of_ble_eq_true rfl) dX3_readWord_6 ?_
  refine r_if_ne C0 (tgt := 20) (by decide) dX3_readWord_9 (fun q6 => ?_) (fun q6 => ?_)
  · have hf := ie_f hf q6
    refine r_iconst C0 (v := 1) dX3_readWord_20 rfl ?_
    refine r_goto C0 (tgt := 25) (by decide) dX3_readWord_21 ?_
    exact hend (by decide) hf dX3_readWord_25
  · have hf := ie_t hf q6
    refine r_aload_n C0 (kk := 0) 0 rfl dX3_readWord_12 ?_
    refine r_iconst C0 (v := 1) dX3_readWord_13 rfl ?_
    obtain ⟨r9, M8, hc7, hf⟩ := bd2_e hf
    refine r_callVi C0 (As := [.int 1]) (rest := []) (c_X3_fail l D g tb hT h0 hc7) w2_97 w2_99 wp1_7 w1_5 w2_100 (x_rec3 C0 h0.1) hd_X3_fail rfl ⟨rfl, rfl⟩ ⟨Nat.le_of_ble_eq_true rfl, Nat.le_of_ble_eq_true rfl⟩ (by decide) (by decide) rfl (Nat.le_of_ble_eq_true rfl) dX3_readWord_14 ?_
    refine r_if_eq C0 (tgt := 24) (by decide) dX3_readWord_17 (fun q10 => ?_) (fun q10 => ?_)
    · have hf := ie_t hf q10
      refine r_iconst C0 (v := 0) dX3_readWord_24 rfl ?_
      exact hend (by decide) hf dX3_readWord_25
    · have hf := ie_f hf q10
      refine r_iconst C0 (v := 1) dX3_readWord_20 rfl ?_
      refine r_goto C0 (tgt := 25) (by decide) dX3_readWord_21 ?_
      exact hend (by decide) hf dX3_readWord_25
theorem dX2_perform_0 : decode cX2_perform 0 = .ok (.aload_n 1, 1) := by decide +kernel
theorem dX2_perform_1 : decode cX2_perform 1 = .ok (.getfield 166, 3) := by decide +kernel
theorem dX2_perform_4 : decode cX2_perform 4 = .ok (.ifnonnull 4, 3) := by decide +kernel
theorem dX2_perform_7 : decode cX2_perform 7 = .ok (.return_, 1) := by decide +kernel
theorem dX2_perform_8 : decode cX2_perform 8 = .ok (.aload_n 1, 1) := by decide +kernel
theorem dX2_perform_9 : decode cX2_perform 9 = .ok (.iconst 0, 1) := by decide +kernel
theorem dX2_perform_10 : decode cX2_perform 10 = .ok (.invokevirtual 172, 3) := by decide +kernel
theorem dX2_perform_13 : decode cX2_perform 13 = .ok (.istore_n 2, 1) := by decide +kernel
theorem dX2_perform_14 : decode cX2_perform 14 = .ok (.aload_n 1, 1) := by decide +kernel
theorem dX2_perform_15 : decode cX2_perform 15 = .ok (.iconst 1, 1) := by decide +kernel
theorem dX2_perform_16 : decode cX2_perform 16 = .ok (.invokevirtual 172, 3) := by decide +kernel
theorem dX2_perform_19 : decode cX2_perform 19 = .ok (.istore_n 3, 1) := by decide +kernel
theorem dX2_perform_20 : decode cX2_perform 20 = .ok (.getstatic 175, 3) := by decide +kernel
theorem dX2_perform_23 : decode cX2_perform 23 = .ok (.aload_n 1, 1) := by decide +kernel
theorem dX2_perform_24 : decode cX2_perform 24 = .ok (.getfield 166, 3) := by decide +kernel
theorem dX2_perform_27 : decode cX2_perform 27 = .ok (.invokevirtual 180, 3) := by decide +kernel
theorem dX2_perform_30 : decode cX2_perform 30 = .ok (.iaload, 1) := by decide +kernel
theorem dX2_perform_31 : decode cX2_perform 31 = .ok (.tableswitch 129 1 5 #[33, 58, 78, 100, 121], 33) := by decide +kernel
theorem dX2_perform_64 : decode cX2_perform 64 = .ok (.aload_n 0, 1) := by decide +kernel
theorem dX2_perform_65 : decode cX2_perform 65 = .ok (.iload_n 2, 1) := by decide +kernel
theorem dX2_perform_66 : decode cX2_perform 66 = .ok (.iload_n 3, 1) := by decide +kernel
theorem dX2_perform_67 : decode cX2_perform 67 = .ok (.aload_n 1, 1) := by decide +kernel
theorem dX2_perform_68 : decode cX2_perform 68 = .ok (.iconst 2, 1) := by decide +kernel
theorem dX2_perform_69 : decode cX2_perform 69 = .ok (.invokevirtual 172, 3) := by decide +kernel
theorem dX2_perform_72 : decode cX2_perform 72 = .ok (.aload_n 1, 1) := by decide +kernel
theorem dX2_perform_73 : decode cX2_perform 73 = .ok (.iconst 3, 1) := by decide +kernel
theorem dX2_perform_74 : decode cX2_perform 74 = .ok (.invokevirtual 172, 3) := by decide +kernel
theorem dX2_perform_77 : decode cX2_perform 77 = .ok (.aload_n 1, 1) := by decide +kernel
theorem dX2_perform_78 : decode cX2_perform 78 = .ok (.iconst 4, 1) := by decide +kernel
theorem dX2_perform_79 : decode cX2_perform 79 = .ok (.invokevirtual 172, 3) := by decide +kernel
theorem dX2_perform_82 : decode cX2_perform 82 = .ok (.invokevirtual 185, 3) := by decide +kernel
theorem dX2_perform_85 : decode cX2_perform 85 = .ok (.pop, 1) := by decide +kernel
theorem dX2_perform_86 : decode cX2_perform 86 = .ok (.goto 96, 3) := by decide +kernel
theorem dX2_perform_89 : decode cX2_perform 89 = .ok (.aload_n 0, 1) := by decide +kernel
theorem dX2_perform_90 : decode cX2_perform 90 = .ok (.iload_n 2, 1) := by decide +kernel
theorem dX2_perform_91 : decode cX2_perform 91 = .ok (.iload_n 3, 1) := by decide +kernel
theorem dX2_perform_92 : decode cX2_perform 92 = .ok (.aload_n 1, 1) := by decide +kernel
theorem dX2_perform_93 : decode cX2_perform 93 = .ok (.iconst 2, 1) := by decide +kernel
theorem dX2_perform_94 : decode cX2_perform 94 = .ok (.invokevirtual 172, 3) := by decide +kernel
theorem dX2_perform_97 : decode cX2_perform 97 = .ok (.aload_n 1, 1) := by decide +kernel
theorem dX2_perform_98 : decode cX2_perform 98 = .ok (.iconst 3, 1) := by decide +kernel
theorem dX2_perform_99 : decode cX2_perform 99 = .ok (.invokevirtual 172, 3) := by decide +kernel
theorem dX2_perform_102 : decode cX2_perform 102 = .ok (.invokevirtual 189, 3) := by decide +kernel
theorem dX2_perform_105 : decode cX2_perform 105 = .ok (.pop, 1) := by decide +kernel
theorem dX2_perform_106 : decode cX2_perform 106 = .ok (.goto 76, 3) := by decide +kernel
theorem dX2_perform_109 : decode cX2_perform 109 = .ok (.iload_n 2, 1) := by decide +kernel
theorem dX2_perform_110 : decode cX2_perform 110 = .ok (.ifCond .lt 72, 3) := by decide +kernel
theorem dX2_perform_113 : decode cX2_perform 113 = .ok (.iload_n 2, 1) := by decide +kernel
theorem dX2_perform_114 : decode cX2_perform 114 = .ok (.aload_n 0, 1) := by decide +kernel
theorem dX2_perform_115 : decode cX2_perform 115 = .ok (.getfield 36, 3) := by decide +kernel
theorem dX2_perform_118 : decode cX2_perform 118 = .ok (.if_icmp .ge 64, 3) := by decide +kernel
theorem dX2_perform_121 : decode cX2_perform 121 = .ok (.aload_n 0, 1) := by decide +kernel
theorem dX2_perform_122 : decode cX2_perform 122 = .ok (.getfield 23, 3) := by decide +kernel
theorem dX2_perform_125 : decode cX2_perform 125 = .ok (.iload_n 2, 1) := by decide +kernel
theorem dX2_perform_126 : decode cX2_perform 126 = .ok (.iload_n 3, 1) := by decide +kernel
theorem dX2_perform_127 : decode cX2_perform 127 = .ok (.iastore, 1) := by decide +kernel
theorem dX2_perform_128 : decode cX2_perform 128 = .ok (.goto 54, 3) := by decide +kernel
theorem dX2_perform_131 : decode cX2_perform 131 = .ok (.aload_n 0, 1) := by decide +kernel
theorem dX2_perform_132 : decode cX2_perform 132 = .ok (.iload_n 2, 1) := by decide +kernel
theorem dX2_perform_133 : decode cX2_perform 133 = .ok (.invokevirtual 193, 3) := by decide +kernel
theorem dX2_perform_136 : decode cX2_perform 136 = .ok (.ifCond .eq 46, 3) := by decide +kernel
theorem dX2_perform_139 : decode cX2_perform 139 = .ok (.aload_n 0, 1) := by decide +kernel
theorem dX2_perform_140 : decode cX2_perform 140 = .ok (.aload_n 0, 1) := by decide +kernel
theorem dX2_perform_141 : decode cX2_perform 141 = .ok (.getfield 19, 3) := by decide +kernel
theorem dX2_perform_144 : decode cX2_perform 144 = .ok (.iload_n 2, 1) := by decide +kernel
theorem dX2_perform_145 : decode cX2_perform 145 = .ok (.aaload, 1) := by decide +kernel
theorem dX2_perform_146 : decode cX2_perform 146 = .ok (.invokevirtual 196, 3) := by decide +kernel
theorem dX2_perform_149 : decode cX2_perform 149 = .ok (.goto 33, 3) := by decide +kernel
theorem dX2_perform_152 : decode cX2_perform 152 = .ok (.aload_n 0, 1) := by decide +kernel
theorem dX2_perform_153 : decode cX2_perform 153 = .ok (.iload_n 2, 1) := by decide +kernel
theorem dX2_perform_154 : decode cX2_perform 154 = .ok (.invokevirtual 199, 3) := by decide +kernel
theorem dX2_perform_157 : decode cX2_perform 157 = .ok (.goto 25, 3) := by decide +kernel
theorem dX2_perform_160 : decode cX2_perform 160 = .ok (.aload_n 0, 1) := by decide +kernel
theorem dX2_perform_161 : decode cX2_perform 161 = .ok (.iload_n 2, 1) := by decide +kernel
theorem dX2_perform_162 : decode cX2_perform 162 = .ok (.invokevirtual 113, 3) := by decide +kernel
theorem dX2_perform_165 : decode cX2_perform 165 = .ok (.ifCond .eq 17, 3) := by decide +kernel
theorem dX2_perform_168 : decode cX2_perform 168 = .ok (.aload_n 1, 1) := by decide +kernel
theorem dX2_perform_169 : decode cX2_perform 169 = .ok (.getfield 166, 3) := by decide +kernel
theorem dX2_perform_172 : decode cX2_perform 172 = .ok (.aload_n 0, 1) := by decide +kernel
theorem dX2_perform_173 : decode cX2_perform 173 = .ok (.getfield 11, 3) := by decide +kernel
theorem dX2_perform_176 : decode cX2_perform 176 = .ok (.iload_n 2, 1) := by decide +kernel
theorem dX2_perform_177 : decode cX2_perform 177 = .ok (.aaload, 1) := by decide +kernel
theorem dX2_perform_178 : decode cX2_perform 178 = .ok (.iload_n 3, 1) := by decide +kernel
theorem dX2_perform_179 : decode cX2_perform 179 = .ok (.invokestatic 202, 3) := by decide +kernel
theorem dX2_perform_182 : decode cX2_perform 182 = .ok (.return_, 1) := by decide +kernel
theorem hd_X2_perform : yX2_perform.cls = RX2 ∧ yX2_perform.cls ≠ "java/lang/invoke/MethodHandle" ∧ yX2_perform.cls ≠ "java/lang/invoke/VarHandle" ∧ (parseMethodDescriptor yX2_perform.desc).map (fun d => d.parameters.length) = some 1 := by decide +kernel
set_option maxRecDepth 100000 in
set_option maxHeartbeats 4000000 in
theorem c_X2_perform (l : Launch) (D : va_G) (g : xG) (tb : List xQ) (hT : x_T g tb) {a0 : Nat} (h0 : x_mk tb a0) (h1 : x_rd tb) {M M' : xM} (hf : f_X2_perform a0 M = some M') :
    cV l D g tb yX2_perform cX2_perform 4 ({ frames := 4, cells := 0, slots := 0, locals := 96 } : Room) [.ref (g.1 2 a0), .ref (g.1 3 1777)] M M' := by
  refine x_startV (own := RX2) (by decide +kernel) rfl rfl (Nat.le_of_ble_eq_true rfl) hT ?_
  intro p e s m args below meth c Q C0 hend
  unfold f_X2_perform at hf
  refine r_aload_n C0 (kk := 1) 1 rfl dX2_perform_0 ?_
  refine r_get3 C0 h1.1 4 (by decide) (v := va_re g.2.2 (x_en (M 1781))) rfl rfl w1_211 dX2_perform_1 ?_
  refine r_ifnnv C0 (tgt := 8) (by decide) dX2_perform_4 (fun q1 => ?_) (fun q1 => ?_)
  · have hf := ie_f hf q1
    refine r_aload_n C0 (kk := 1) 1 rfl dX2_perform_8 ?_
    refine r_iconst C0 (v := 0) dX2_perform_9 rfl ?_
    obtain ⟨r4, M3, hc2, hf⟩ := bd2_e hf
    refine r_callVi C0 (As := [.int 0]) (rest := []) (c_X3_argument l D g tb hT h1 hc2) w2_209 w2_184 w2_185 w1_5 w2_186 (x_rec3 C0 h1.1) hd_X3_argument rfl ⟨rfl, rfl⟩ ⟨Nat.le_of_ble_eq_true rfl, Nat.le_of_ble_eq_true rfl⟩ (by decide) (by decide) rfl (Nat.le_of_ble_eq_true rfl) dX2_perform_10 ?_
    refine r_istore_n C0 (kk := 2) (lv2 := [(2, .int r4), (0, .ref (g.1 2 a0)), (1, .ref (g.1 3 1777))]) (by decide) rfl dX2_perform_13 ?_
    refine r_aload_n C0 (kk := 1) 2 rfl dX2_perform_14 ?_
    refine r_iconst C0 (v := 1) dX2_perform_15 rfl ?_
    obtain ⟨r7, M6, hc5, hf⟩ := bd2_e hf
    refine r_callVi C0 (As := [.int 1]) (rest := []) (c_X3_argument l D g tb hT h1 hc5) w2_209 w2_184 w2_185 w1_5 w2_186 (x_rec3 C0 h1.1) hd_X3_argument rfl ⟨rfl, rfl⟩ ⟨Nat.le_of_ble_eq_true rfl, Nat.le_of_ble_eq_true rfl⟩ (by decide) (by decide) rfl (Nat.le_of_ble_eq_true rfl) dX2_perform_16 ?_
    refine r_istore_n C0 (kk := 3) (lv2 := [(3, .int r7), (2, .int r4), (0, .ref (g.1 2 a0)), (1, .ref (g.1 3 1777))]) (by decide) rfl dX2_perform_19 ?_
    refine r_gsm C0 w2_210 dX2_perform_20 ?_
    refine r_aload_n C0 (kk := 1) 3 rfl dX2_perform_23 ?_
    refine r_get3 C0 h1.1 4 (by decide) (v := va_re g.2.2 (x_en (M6 1781))) rfl rfl w1_211 dX2_perform_24 ?_
    obtain ⟨q8, hf⟩ := gd_e hf
    refine WW.stk (st2 := [.ref (g.2.2 ((M6 1781) - 1).toNatClampNeg), .ref (g.1 23 0)]) (by rw [x_en_s q8 (by decide)]; rfl) ?_
    refine r_ordinal C0 (inb_lt q8) w2_212 (by decide) (by decide) (by decide) (by decide) (Nat.le_of_ble_eq_true rfl) dX2_perform_27 ?_
    obtain ⟨q9, hf⟩ := gd_e hf
    refine r_smald C0 q9 dX2_perform_30 ?_
    rcases Decidable.em ((x_smap (nI ((M6 1781) - 1).toNatClampNeg).toNatClampNeg) = 1) with q10 | q10
    · have hf := ie_t hf q10
      refine r_tsc C0 (cst := 1) q10 (by decide) (by decide) rfl (tgt := 64) (by decide) dX2_perform_31 ?_
      refine r_aload_n C0 (kk := 0) 2 rfl dX2_perform_64 ?_
      refine r_iload_n C0 (kk := 2) 1 rfl dX2_perform_65 ?_
      refine r_iload_n C0 (kk := 3) 0 rfl dX2_perform_66 ?_
      refine r_aload_n C0 (kk := 1) 3 rfl dX2_perform_67 ?_
      refine r_iconst C0 (v := 2) dX2_perform_68 rfl ?_
      obtain ⟨r13, M12, hc11, hf⟩ := bd2_e hf
      refine r_callVi C0 (As := [.int 2]) (rest := [.int r7, .int r4, .ref (g.1 2 a0)]) (c_X3_argument l D g tb hT h1 hc11) w2_209 w2_184 w2_185 w1_5 w2_186 (x_rec3 C0 h1.1) hd_X3_argument rfl ⟨rfl, rfl⟩ ⟨Nat.le_of_ble_eq_true rfl, Nat.le_of_ble_eq_true rfl⟩ (by decide) (by decide) rfl (Nat.le_of_ble_eq_true rfl) dX2_perform_69 ?_
      refine r_aload_n C0 (kk := 1) 3 rfl dX2_perform_72 ?_
      refine r_iconst C0 (v := 3) dX2_perform_73 rfl ?_
      obtain ⟨r16, M15, hc14, hf⟩ := bd2_e hf
      refine r_callVi C0 (As := [.int 3]) (rest := [.int r13, .int r7, .int r4, .ref (g.1 2 a0)]) (c_X3_argument l D g tb hT h1 hc14) w2_209 w2_184 w2_185 w1_5 w2_186 (x_rec3 C0 h1.1) hd_X3_argument rfl ⟨rfl, rfl⟩ ⟨Nat.le_of_ble_eq_true rfl, Nat.le_of_ble_eq_true rfl⟩ (by decide) (by decide) rfl (Nat.le_of_ble_eq_true rfl) dX2_perform_74 ?_
      refine r_aload_n C0 (kk := 1) 3 rfl dX2_perform_77 ?_
      refine r_iconst C0 (v := 4) dX2_perform_78 rfl ?_
      obtain ⟨r19, M18, hc17, hf⟩ := bd2_e hf
      refine r_callVi C0 (As := [.int 4]) (rest := [.int r16, .int r13, .int r7, .int r4, .ref (g.1 2 a0)]) (c_X3_argument l D g tb hT h1 hc17) w2_209 w2_184 w2_185 w1_5 w2_186 (x_rec3 C0 h1.1) hd_X3_argument rfl ⟨rfl, rfl⟩ ⟨Nat.le_of_ble_eq_true rfl, Nat.le_of_ble_eq_true rfl⟩ (by decide) (by decide) rfl (Nat.le_of_ble_eq_true rfl) dX2_perform_79 ?_
      obtain ⟨r22, M21, hc20, hf⟩ := bd2_e hf
      refine r_callVi C0 (As := [.int r4, .int r7, .int r13, .int r16, .int r19]) (rest := []) (c_X2_placeStall l D g tb hT h0 hc20) w2_218 w2_219 w2_220 w1_2 w2_221 (x_rec2 C0 h0.1) hd_X2_placeStall rfl ⟨rfl, rfl⟩ ⟨Nat.le_of_ble_eq_true rfl, Nat.le_of_ble_eq_true rfl⟩ (by decide) (by decide) rfl (Nat.le_of_ble_eq_true rfl) dX2_perform_82 ?_
      refine r_pop C0 rfl dX2_perform_85 ?_
      refine r_goto C0 (tgt := 182) (by decide) dX2_perform_86 ?_
      exact hend hf dX2_perform_182
    have hf := ie_f hf q10
    have nq10 : Int32.toInt (x_smap (nI ((M6 1781) - 1).toNatClampNeg).toNatClampNeg) ≠ 1 := fun h => q10 (Int32.toInt_inj.mp h)
    rcases Decidable.em ((x_smap (nI ((M6 1781) - 1).toNatClampNeg).toNatClampNeg) = 2) with q23 | q23
    · have hf := ie_t hf q23
      refine r_tsc C0 (cst := 2) q23 (by decide) (by decide) rfl (tgt := 89) (by decide) dX2_perform_31 ?_
      refine r_aload_n C0 (kk := 0) 2 rfl dX2_perform_89 ?_
      refine r_iload_n C0 (kk := 2) 1 rfl dX2_perform_90 ?_
      refine r_iload_n C0 (kk := 3) 0 rfl dX2_perform_91 ?_
      refine r_aload_n C0 (kk := 1) 3 rfl dX2_perform_92 ?_
      refine r_iconst C0 (v := 2) dX2_perform_93 rfl ?_
      obtain ⟨r26, M25, hc24, hf⟩ := bd2_e hf
      refine r_callVi C0 (As := [.int 2]) (rest := [.int r7, .int r4, .ref (g.1 2 a0)]) (c_X3_argument l D g tb hT h1 hc24) w2_209 w2_184 w2_185 w1_5 w2_186 (x_rec3 C0 h1.1) hd_X3_argument rfl ⟨rfl, rfl⟩ ⟨Nat.le_of_ble_eq_true rfl, Nat.le_of_ble_eq_true rfl⟩ (by decide) (by decide) rfl (Nat.le_of_ble_eq_true rfl) dX2_perform_94 ?_
      refine r_aload_n C0 (kk := 1) 3 rfl dX2_perform_97 ?_
      refine r_iconst C0 (v := 3) dX2_perform_98 rfl ?_
      obtain ⟨r29, M28, hc27, hf⟩ := bd2_e hf
      refine r_callVi C0 (As := [.int 3]) (rest := [.int r26, .int r7, .int r4, .ref (g.1 2 a0)]) (c_X3_argument l D g tb hT h1 hc27) w2_209 w2_184 w2_185 w1_5 w2_186 (x_rec3 C0 h1.1) hd_X3_argument rfl ⟨rfl, rfl⟩ ⟨Nat.le_of_ble_eq_true rfl, Nat.le_of_ble_eq_true rfl⟩ (by decide) (by decide) rfl (Nat.le_of_ble_eq_true rfl) dX2_perform_99 ?_
      obtain ⟨r32, M31, hc30, hf⟩ := bd2_e hf
      refine r_callVi C0 (As := [.int r4, .int r7, .int r26, .int r29]) (rest := []) (c_X2_placeBuyer l D g tb hT h0 hc30) w2_230 w2_231 w2_232 w1_2 w2_233 (x_rec2 C0 h0.1) hd_X2_placeBuyer rfl ⟨rfl, rfl⟩ ⟨Nat.le_of_ble_eq_true rfl, Nat.le_of_ble_eq_true rfl⟩ (by decide) (by decide) rfl (Nat.le_of_ble_eq_true rfl) dX2_perform_102 ?_
      refine r_pop C0 rfl dX2_perform_105 ?_
      refine r_goto C0 (tgt := 182) (by decide) dX2_perform_106 ?_
      exact hend hf dX2_perform_182
    have hf := ie_f hf q23
    have nq23 : Int32.toInt (x_smap (nI ((M6 1781) - 1).toNatClampNeg).toNatClampNeg) ≠ 2 := fun h => q23 (Int32.toInt_inj.mp h)
    rcases Decidable.em ((x_smap (nI ((M6 1781) - 1).toNatClampNeg).toNatClampNeg) = 3) with q33 | q33
    · have hf := ie_t hf q33
      refine r_tsc C0 (cst := 3) q33 (by decide) (by decide) rfl (tgt := 109) (by decide) dX2_perform_31 ?_
      refine r_iload_n C0 (kk := 2) 1 rfl dX2_perform_109 ?_
      refine r_if_lt C0 (tgt := 182) (by decide) dX2_perform_110 (fun q34 => ?_) (fun q34 => ?_)
      · have hf := ie_t hf q34
        exact hend hf dX2_perform_182
      · have hf := ie_f hf q34
        refine r_iload_n C0 (kk := 2) 1 rfl dX2_perform_113 ?_
        refine r_aload_n C0 (kk := 0) 2 rfl dX2_perform_114 ?_
        refine r_get2 C0 h0.1 5 (by decide) (v := .int (M6 (a0 + 8))) rfl rfl w1_149 dX2_perform_115 ?_
        refine r_icmp_ge C0 (tgt := 182) (by decide) dX2_perform_118 (fun q35 => ?_) (fun q35 => ?_)
        · have hf := ie_t hf q35
          exact hend hf dX2_perform_182
        · have hf := ie_f hf q35
          refine r_aload_n C0 (kk := 0) 2 rfl dX2_perform_121 ?_
          refine r_get2 C0 h0.1 4 (by decide) (v := .ref (g.1 6 (a0 + 11))) rfl rfl w1_147 dX2_perform_122 ?_
          refine r_iload_n C0 (kk := 2) 1 rfl dX2_perform_125 ?_
          refine r_iload_n C0 (kk := 3) 0 rfl dX2_perform_126 ?_
          obtain ⟨q36, hf⟩ := gd_e hf
          refine r_iastc C0 h0.2.2.2.1 q36 rfl dX2_perform_127 ?_
          refine r_goto C0 (tgt := 182) (by decide) dX2_perform_128 ?_
          exact hend hf dX2_perform_182
    have hf := ie_f hf q33
    have nq33 : Int32.toInt (x_smap (nI ((M6 1781) - 1).toNatClampNeg).toNatClampNeg) ≠ 3 := fun h => q33 (Int32.toInt_inj.mp h)
    rcases Decidable.em ((x_smap (nI ((M6 1781) - 1).toNatClampNeg).toNatClampNeg) = 4) with q37 | q37
    · have hf := ie_t hf q37
      refine r_tsc C0 (cst := 4) q37 (by decide) (by decide) rfl (tgt := 131) (by decide) dX2_perform_31 ?_
      refine r_aload_n C0 (kk := 0) 2 rfl dX2_perform_131 ?_
      refine r_iload_n C0 (kk := 2) 1 rfl dX2_perform_132 ?_
      obtain ⟨r40, M39, hc38, hf⟩ := bd2_e hf
      refine r_callVi C0 (As := [.int r4]) (rest := []) (c_X2_isBuyer l D g tb hT h0 hc38) w2_238 w2_198 w2_199 w1_2 w2_200 (x_rec2 C0 h0.1) hd_X2_isBuyer rfl ⟨rfl, rfl⟩ ⟨Nat.le_of_ble_eq_true rfl, Nat.le_of_ble_eq_true rfl⟩ (by decide) (by decide) rfl (Nat.le_of_ble_eq_true rfl) dX2_perform_133 ?_
      refine r_if_eq C0 (tgt := 182) (by decide) dX2_perform_136 (fun q41 => ?_) (fun q41 => ?_)
      · have hf := ie_t hf q41
        exact hend hf dX2_perform_182
      · have hf := ie_f hf q41
        refine r_aload_n C0 (kk := 0) 2 rfl dX2_perform_139 ?_
        refine r_aload_n C0 (kk := 0) 2 rfl dX2_perform_140 ?_
        refine r_get2 C0 h0.1 2 (by decide) (v := .ref (g.1 11 (a0 + 77))) rfl rfl w1_141 dX2_perform_141 ?_
        refine r_iload_n C0 (kk := 2) 1 rfl dX2_perform_144 ?_
        obtain ⟨q42, hf⟩ := gd_e hf
        have hm43 : ((1, ((a0 + 77) + 8 * r4.toNatClampNeg), 0) : xQ) ∈ tb := h0.2.2.2.2.2 _ (inb_lt q42)
        refine r_aald11 C0 h0.2.2.1 (inb_in q42) dX2_perform_145 ?_
        obtain ⟨M45, hc44, hf⟩ := bd_e hf
        refine r_callVv C0 (As := [.ref (g.1 1 ((a0 + 77) + 8 * r4.toNatClampNeg))]) (rest := []) (c_X2_returnAndAvoid l D g tb hT h0 hm43 hc44) w2_239 w3_0 w3_1 w1_2 w3_2 (x_rec2 C0 h0.1) hd_X2_returnAndAvoid rfl ⟨rfl, rfl⟩ ⟨Nat.le_of_ble_eq_true rfl, Nat.le_of_ble_eq_true rfl⟩ (by decide) (by decide) rfl (Nat.le_of_ble_eq_true rfl) dX2_perform_146 ?_
        refine r_goto C0 (tgt := 182) (by decide) dX2_perform_149 ?_
        exact hend hf dX2_perform_182
    have hf := ie_f hf q37
    have nq37 : Int32.toInt (x_smap (nI ((M6 1781) - 1).toNatClampNeg).toNatClampNeg) ≠ 4 := fun h => q37 (Int32.toInt_inj.mp h)
    rcases Decidable.em ((x_smap (nI ((M6 1781) - 1).toNatClampNeg).toNatClampNeg) = 5) with q46 | q46
    · have hf := ie_t hf q46
      refine r_tsc C0 (cst := 5) q46 (by decide) (by decide) rfl (tgt := 152) (by decide) dX2_perform_31 ?_
      refine r_aload_n C0 (kk := 0) 2 rfl dX2_perform_152 ?_
      refine r_iload_n C0 (kk := 2) 1 rfl dX2_perform_153 ?_
      obtain ⟨M48, hc47, hf⟩ := bd_e hf
      refine r_callVv C0 (As := [.int r4]) (rest := []) (c_X2_pass l D g tb hT h0 hc47) w3_16 w3_17 w3_18 w1_2 w3_19 (x_rec2 C0 h0.1) hd_X2_pass rfl ⟨rfl, rfl⟩ ⟨Nat.le_of_ble_eq_true rfl, Nat.le_of_ble_eq_true rfl⟩ (by decide) (by decide) rfl (Nat.le_of_ble_eq_true rfl) dX2_perform_154 ?_
      refine r_goto C0 (tgt := 182) (by decide) dX2_perform_157 ?_
      exact hend hf dX2_perform_182
    have hf := ie_f hf q46
    have nq46 : Int32.toInt (x_smap (nI ((M6 1781) - 1).toNatClampNeg).toNatClampNeg) ≠ 5 := fun h => q46 (Int32.toInt_inj.mp h)
    refine r_tsd C0 (by omega) (tgt := 160) (by decide) dX2_perform_31 ?_
    refine r_aload_n C0 (kk := 0) 2 rfl dX2_perform_160 ?_
    refine r_iload_n C0 (kk := 2) 1 rfl dX2_perform_161 ?_
    obtain ⟨r51, M50, hc49, hf⟩ := bd2_e hf
    refine r_callVi C0 (As := [.int r4]) (rest := []) (c_X2_isStall l D g tb hT h0 hc49) w3_7 w2_188 w2_189 w1_2 w2_190 (x_rec2 C0 h0.1) hd_X2_isStall rfl ⟨rfl, rfl⟩ ⟨Nat.le_of_ble_eq_true rfl, Nat.le_of_ble_eq_true rfl⟩ (by decide) (by decide) rfl (Nat.le_of_ble_eq_true rfl) dX2_perform_162 ?_
    refine r_if_eq C0 (tgt := 182) (by decide) dX2_perform_165 (fun q52 => ?_) (fun q52 => ?_)
    · have hf := ie_t hf q52
      exact hend hf dX2_perform_182
    · have hf := ie_f hf q52
      refine r_aload_n C0 (kk := 1) 3 rfl dX2_perform_168 ?_
      refine r_get3 C0 h1.1 4 (by decide) (v := va_re g.2.2 (x_en (M50 1781))) rfl rfl w1_211 dX2_perform_169 ?_
      refine r_aload_n C0 (kk := 0) 2 rfl dX2_perform_172 ?_
      refine r_get2 C0 h0.1 0 (by decide) (v := .ref (g.1 10 (a0 + 23))) rfl rfl w1_135 dX2_perform_173 ?_
      refine r_iload_n C0 (kk := 2) 1 rfl dX2_perform_176 ?_
      obtain ⟨q53, hf⟩ := gd_e hf
      have hm54 : ((0, ((a0 + 23) + 9 * r4.toNatClampNeg), 0) : xQ) ∈ tb := h0.2.2.2.2.1 _ (inb_lt q53)
      refine r_aald10 C0 h0.2.1 (inb_in q53) dX2_perform_177 ?_
      refine r_iload_n C0 (kk := 3) 0 rfl dX2_perform_178 ?_
      obtain ⟨q55, hf⟩ := gd_e hf
      refine WW.stk (st2 := [.int r7, .ref (g.1 0 ((a0 + 23) + 9 * r4.toNatClampNeg)), .ref (g.2.2 ((M50 1781) - 1).toNatClampNeg)]) (by rw [x_en_s q55 (by decide)]; rfl) ?_
      obtain ⟨M57, hc56, hf⟩ := bd_e hf
      refine r_callSv C0 (As := [.ref (g.2.2 ((M50 1781) - 1).toNatClampNeg), .ref (g.1 0 ((a0 + 23) + 9 * r4.toNatClampNeg)), .int r7]) (rest := []) (c_X2_changeStall l D g tb hT q55 hm54 hc56) w3_79 w3_80 w1_2 w3_81 hd_X2_changeStall rfl ⟨rfl, rfl⟩ ⟨Nat.le_of_ble_eq_true rfl, Nat.le_of_ble_eq_true rfl⟩ (by decide) (by decide) rfl (Nat.le_of_ble_eq_true rfl) dX2_perform_179 ?_
      exact hend hf dX2_perform_182
  · have hf := ie_t hf q1
    exact hend hf dX2_perform_7
theorem dX7_expects_0 : decode cX7_expects 0 = .ok (.aload_n 0, 1) := by decide +kernel
theorem dX7_expects_1 : decode cX7_expects 1 = .ok (.aload_n 1, 1) := by decide +kernel
theorem dX7_expects_2 : decode cX7_expects 2 = .ok (.invokevirtual 173, 3) := by decide +kernel
theorem dX7_expects_5 : decode cX7_expects 5 = .ok (.ifCond .ne 9, 3) := by decide +kernel
theorem dX7_expects_8 : decode cX7_expects 8 = .ok (.aload_n 0, 1) := by decide +kernel
theorem dX7_expects_9 : decode cX7_expects 9 = .ok (.iconst 1, 1) := by decide +kernel
theorem dX7_expects_10 : decode cX7_expects 10 = .ok (.invokevirtual 177, 3) := by decide +kernel
theorem dX7_expects_13 : decode cX7_expects 13 = .ok (.ireturn, 1) := by decide +kernel
theorem dX7_expects_14 : decode cX7_expects 14 = .ok (.aload_n 0, 1) := by decide +kernel
theorem dX7_expects_15 : decode cX7_expects 15 = .ok (.invokevirtual 180, 3) := by decide +kernel
theorem dX7_expects_18 : decode cX7_expects 18 = .ok (.iconst 1, 1) := by decide +kernel
theorem dX7_expects_19 : decode cX7_expects 19 = .ok (.ireturn, 1) := by decide +kernel
theorem hd_X7_expects : yX7_expects.cls = RX7 ∧ yX7_expects.cls ≠ "java/lang/invoke/MethodHandle" ∧ yX7_expects.cls ≠ "java/lang/invoke/VarHandle" ∧ (parseMethodDescriptor yX7_expects.desc).map (fun d => d.parameters.length) = some 1 := by decide +kernel
set_option maxRecDepth 100000 in
set_option maxHeartbeats 4000000 in
theorem c_X7_expects (l : Launch) (D : va_G) (g : xG) (tb : List xQ) (hT : x_T g tb) {a1 : Nat} (h0 : x_md tb) (h1 : a1 < 56) {M : xM} {r : Int32} {M' : xM} (hf : f_X7_expects a1 M = some (r, M')) :
    cI l D g tb yX7_expects cX7_expects 2 .boolean ({ frames := 5, cells := 0, slots := 0, locals := 108 } : Room) [.ref (g.1 5 2500), .ref (g.1 20 a1)] M r M' := by
  refine x_startZ (own := RX7) (by decide +kernel) rfl rfl (Nat.le_of_ble_eq_true rfl) hT ?_
  intro p e s m args below meth c Q C0 hend
  unfold f_X7_expects at hf
  refine r_aload_n C0 (kk := 0) 0 rfl dX7_expects_0 ?_
  refine r_aload_n C0 (kk := 1) 1 rfl dX7_expects_1 ?_
  obtain ⟨r3, M2, hc1, hf⟩ := bd2_e hf
  refine r_callVi C0 (As := [.ref (g.1 20 a1)]) (rest := []) (c_X7_isWord l D g tb hT h0 h1 hc1) w6_28 w6_30 wp3_3 w1_14 w6_31 (x_rec5 C0 h0.1) hd_X7_isWord rfl ⟨rfl, rfl⟩ ⟨Nat.le_of_ble_eq_true rfl, Nat.le_of_ble_eq_true rfl⟩ (by decide) (by decide) rfl (Nat.le_of_ble_eq_true rfl) dX7_expects_2 ?_
  refine r_if_ne C0 (tgt := 14) (by decide) dX7_expects_5 (fun q4 => ?_) (fun q4 => ?_)
  · have hf := ie_f hf q4
    refine r_aload_n C0 (kk := 0) 0 rfl dX7_expects_14 ?_
    obtain ⟨M6, hc5, hf⟩ := bd_e hf
    refine r_callVv C0 (As := []) (rest := []) (c_X7_next l D g tb hT h0 hc5) w6_5 w6_7 wp3_0 w1_14 w6_8 (x_rec5 C0 h0.1) hd_X7_next rfl ⟨rfl, rfl⟩ ⟨Nat.le_of_ble_eq_true rfl, Nat.le_of_ble_eq_true rfl⟩ (by decide) (by decide) rfl (Nat.le_of_ble_eq_true rfl) dX7_expects_15 ?_
    refine r_iconst C0 (v := 1) dX7_expects_18 rfl ?_
    exact hend (by decide) hf dX7_expects_19
  · have hf := ie_t hf q4
    refine r_aload_n C0 (kk := 0) 0 rfl dX7_expects_8 ?_
    refine r_iconst C0 (v := 1) dX7_expects_9 rfl ?_
    obtain ⟨r9, M8, hc7, hf⟩ := bd2_e hf
    refine r_callVi C0 (As := [.int 1]) (rest := []) (c_X7_wrong l D g tb hT h0 hc7) w6_35 w6_37 wp3_4 w1_14 w6_38 (x_rec5 C0 h0.1) hd_X7_wrong rfl ⟨rfl, rfl⟩ ⟨Nat.le_of_ble_eq_true rfl, Nat.le_of_ble_eq_true rfl⟩ (by decide) (by decide) rfl (Nat.le_of_ble_eq_true rfl) dX7_expects_10 ?_
    obtain ⟨q10, hf⟩ := gd_e hf
    exact hend q10 hf dX7_expects_13
