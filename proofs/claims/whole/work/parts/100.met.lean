theorem dX3_appendByte_0 : decode cX3_appendByte 0 = .ok (.aload_n 0, 1) := by decide +kernel
theorem dX3_appendByte_1 : decode cX3_appendByte 1 = .ok (.getfield 37, 3) := by decide +kernel
theorem dX3_appendByte_4 : decode cX3_appendByte 4 = .ok (.aload_n 0, 1) := by decide +kernel
theorem dX3_appendByte_5 : decode cX3_appendByte 5 = .ok (.getfield 9, 3) := by decide +kernel
theorem dX3_appendByte_8 : decode cX3_appendByte 8 = .ok (.arraylength, 1) := by decide +kernel
theorem dX3_appendByte_9 : decode cX3_appendByte 9 = .ok (.if_icmp .ge 24, 3) := by decide +kernel
theorem dX3_appendByte_12 : decode cX3_appendByte 12 = .ok (.aload_n 0, 1) := by decide +kernel
theorem dX3_appendByte_13 : decode cX3_appendByte 13 = .ok (.getfield 9, 3) := by decide +kernel
theorem dX3_appendByte_16 : decode cX3_appendByte 16 = .ok (.aload_n 0, 1) := by decide +kernel
theorem dX3_appendByte_17 : decode cX3_appendByte 17 = .ok (.getfield 37, 3) := by decide +kernel
theorem dX3_appendByte_20 : decode cX3_appendByte 20 = .ok (.iload_n 1, 1) := by decide +kernel
theorem dX3_appendByte_21 : decode cX3_appendByte 21 = .ok (.i2b, 1) := by decide +kernel
theorem dX3_appendByte_22 : decode cX3_appendByte 22 = .ok (.bastore, 1) := by decide +kernel
theorem dX3_appendByte_23 : decode cX3_appendByte 23 = .ok (.aload_n 0, 1) := by decide +kernel
theorem dX3_appendByte_24 : decode cX3_appendByte 24 = .ok (.dup, 1) := by decide +kernel
theorem dX3_appendByte_25 : decode cX3_appendByte 25 = .ok (.getfield 37, 3) := by decide +kernel
theorem dX3_appendByte_28 : decode cX3_appendByte 28 = .ok (.iconst 1, 1) := by decide +kernel
theorem dX3_appendByte_29 : decode cX3_appendByte 29 = .ok (.iadd, 1) := by decide +kernel
theorem dX3_appendByte_30 : decode cX3_appendByte 30 = .ok (.putfield 37, 3) := by decide +kernel
theorem dX3_appendByte_33 : decode cX3_appendByte 33 = .ok (.return_, 1) := by decide +kernel
theorem hd_X3_appendByte : yX3_appendByte.cls = RX3 ∧ yX3_appendByte.cls ≠ "java/lang/invoke/MethodHandle" ∧ yX3_appendByte.cls ≠ "java/lang/invoke/VarHandle" ∧ (parseMethodDescriptor yX3_appendByte.desc).map (fun d => d.parameters.length) = some 1 := by decide +kernel
set_option maxRecDepth 100000 in
set_option maxHeartbeats 4000000 in
theorem c_X3_appendByte (l : Launch) (D : va_G) (g : xG) (tb : List xQ) (hT : x_T g tb) {a1 : Int32} (h0 : x_rd tb) {M M' : xM} (hf : f_X3_appendByte a1 M = some M') :
    cV l D g tb yX3_appendByte cX3_appendByte 2 ({ frames := 0, cells := 0, slots := 0, locals := 0 } : Room) [.ref (g.1 3 1777), .int a1] M M' := by
  refine x_startV (own := RX3) (by decide +kernel) rfl rfl (Nat.le_of_ble_eq_true rfl) hT ?_
  intro p e s m args below meth c Q C0 hend
  unfold f_X3_appendByte at hf
  refine r_aload_n C0 (kk := 0) 0 rfl dX3_appendByte_0 ?_
  refine r_get3 C0 h0.1 1 (by decide) (v := .int (M 1778)) rfl rfl w1_205 dX3_appendByte_1 ?_
  refine r_aload_n C0 (kk := 0) 0 rfl dX3_appendByte_4 ?_
  refine r_get3 C0 h0.1 0 (by decide) (v := .ref (g.1 7 1792)) rfl rfl w1_203 dX3_appendByte_5 ?_
  refine r_alen7 C0 h0.2.1 (v := 700) rfl dX3_appendByte_8 ?_
  refine r_icmp_ge C0 (tgt := 33) (by decide) dX3_appendByte_9 (fun q1 => ?_) (fun q1 => ?_)
  · have hf := ie_t hf q1
    exact hend hf dX3_appendByte_33
  · have hf := ie_f hf q1
    refine r_aload_n C0 (kk := 0) 0 rfl dX3_appendByte_12 ?_
    refine r_get3 C0 h0.1 0 (by decide) (v := .ref (g.1 7 1792)) rfl rfl w1_203 dX3_appendByte_13 ?_
    refine r_aload_n C0 (kk := 0) 0 rfl dX3_appendByte_16 ?_
    refine r_get3 C0 h0.1 1 (by decide) (v := .int (M 1778)) rfl rfl w1_205 dX3_appendByte_17 ?_
    refine r_iload_n C0 (kk := 1) 1 rfl dX3_appendByte_20 ?_
    refine r_i2b C0 dX3_appendByte_21 ?_
    obtain ⟨q2, hf⟩ := gd_e hf
    refine r_bastc C0 h0.2.1 q2 rfl dX3_appendByte_22 ?_
    refine r_aload_n C0 (kk := 0) 0 rfl dX3_appendByte_23 ?_
    refine r_dup C0 rfl dX3_appendByte_24 ?_
    refine r_get3 C0 h0.1 1 (by decide) (v := .int ((upd M (1792 + (M 1778).toNatClampNeg) (vp_nar .byte a1.toInt8.toInt32)) 1778)) rfl rfl w1_205 dX3_appendByte_25 ?_
    refine r_iconst C0 (v := 1) dX3_appendByte_28 rfl ?_
    refine r_iadd C0 dX3_appendByte_29 ?_
    refine r_put3 C0 h0.1 1 rfl rfl w1_205 rfl rfl rfl dX3_appendByte_30 ?_
    exact hend hf dX3_appendByte_33
theorem dX3_begin_0 : decode cX3_begin 0 = .ok (.aload_n 0, 1) := by decide +kernel
theorem dX3_begin_1 : decode cX3_begin 1 = .ok (.iconst 0, 1) := by decide +kernel
theorem dX3_begin_2 : decode cX3_begin 2 = .ok (.putfield 39, 3) := by decide +kernel
theorem dX3_begin_5 : decode cX3_begin 5 = .ok (.aload_n 0, 1) := by decide +kernel
theorem dX3_begin_6 : decode cX3_begin 6 = .ok (.iconst 0, 1) := by decide +kernel
theorem dX3_begin_7 : decode cX3_begin 7 = .ok (.putfield 42, 3) := by decide +kernel
theorem dX3_begin_10 : decode cX3_begin 10 = .ok (.aload_n 0, 1) := by decide +kernel
theorem dX3_begin_11 : decode cX3_begin 11 = .ok (.iconst (-1), 1) := by decide +kernel
theorem dX3_begin_12 : decode cX3_begin 12 = .ok (.putfield 15, 3) := by decide +kernel
theorem dX3_begin_15 : decode cX3_begin 15 = .ok (.return_, 1) := by decide +kernel
theorem hd_X3_begin : yX3_begin.cls = RX3 ∧ yX3_begin.cls ≠ "java/lang/invoke/MethodHandle" ∧ yX3_begin.cls ≠ "java/lang/invoke/VarHandle" ∧ (parseMethodDescriptor yX3_begin.desc).map (fun d => d.parameters.length) = some 0 := by decide +kernel
set_option maxRecDepth 100000 in
set_option maxHeartbeats 4000000 in
theorem c_X3_begin (l : Launch) (D : va_G) (g : xG) (tb : List xQ) (hT : x_T g tb)  (h0 : x_rd tb) {M M' : xM} (hf : f_X3_begin  M = some M') :
    cV l D g tb yX3_begin cX3_begin 1 ({ frames := 0, cells := 0, slots := 0, locals := 0 } : Room) [.ref (g.1 3 1777)] M M' := by
  refine x_startV (own := RX3) (by decide +kernel) rfl rfl (Nat.le_of_ble_eq_true rfl) hT ?_
  intro p e s m args below meth c Q C0 hend
  unfold f_X3_begin at hf
  refine r_aload_n C0 (kk := 0) 0 rfl dX3_begin_0 ?_
  refine r_iconst C0 (v := 0) dX3_begin_1 rfl ?_
  refine r_put3 C0 h0.1 6 rfl rfl w1_213 rfl rfl rfl dX3_begin_2 ?_
  refine r_aload_n C0 (kk := 0) 0 rfl dX3_begin_5 ?_
  refine r_iconst C0 (v := 0) dX3_begin_6 rfl ?_
  refine r_put3 C0 h0.1 2 rfl rfl w1_207 rfl rfl rfl dX3_begin_7 ?_
  refine r_aload_n C0 (kk := 0) 0 rfl dX3_begin_10 ?_
  refine r_iconst C0 (v := (-1)) dX3_begin_11 rfl ?_
  refine r_put3 C0 h0.1 3 rfl rfl w1_208 rfl rfl rfl dX3_begin_12 ?_
  exact hend hf dX3_begin_15
theorem dX3_byteAt_0 : decode cX3_byteAt 0 = .ok (.iload_n 1, 1) := by decide +kernel
theorem dX3_byteAt_1 : decode cX3_byteAt 1 = .ok (.ifCond .lt 29, 3) := by decide +kernel
theorem dX3_byteAt_4 : decode cX3_byteAt 4 = .ok (.iload_n 1, 1) := by decide +kernel
theorem dX3_byteAt_5 : decode cX3_byteAt 5 = .ok (.aload_n 0, 1) := by decide +kernel
theorem dX3_byteAt_6 : decode cX3_byteAt 6 = .ok (.getfield 37, 3) := by decide +kernel
theorem dX3_byteAt_9 : decode cX3_byteAt 9 = .ok (.if_icmp .ge 21, 3) := by decide +kernel
theorem dX3_byteAt_12 : decode cX3_byteAt 12 = .ok (.iload_n 1, 1) := by decide +kernel
theorem dX3_byteAt_13 : decode cX3_byteAt 13 = .ok (.aload_n 0, 1) := by decide +kernel
theorem dX3_byteAt_14 : decode cX3_byteAt 14 = .ok (.getfield 9, 3) := by decide +kernel
theorem dX3_byteAt_17 : decode cX3_byteAt 17 = .ok (.arraylength, 1) := by decide +kernel
theorem dX3_byteAt_18 : decode cX3_byteAt 18 = .ok (.if_icmp .ge 12, 3) := by decide +kernel
theorem dX3_byteAt_21 : decode cX3_byteAt 21 = .ok (.aload_n 0, 1) := by decide +kernel
theorem dX3_byteAt_22 : decode cX3_byteAt 22 = .ok (.getfield 9, 3) := by decide +kernel
theorem dX3_byteAt_25 : decode cX3_byteAt 25 = .ok (.iload_n 1, 1) := by decide +kernel
theorem dX3_byteAt_26 : decode cX3_byteAt 26 = .ok (.baload, 1) := by decide +kernel
theorem dX3_byteAt_27 : decode cX3_byteAt 27 = .ok (.goto 4, 3) := by decide +kernel
theorem dX3_byteAt_30 : decode cX3_byteAt 30 = .ok (.iconst (-1), 1) := by decide +kernel
theorem dX3_byteAt_31 : decode cX3_byteAt 31 = .ok (.ireturn, 1) := by decide +kernel
theorem hd_X3_byteAt : yX3_byteAt.cls = RX3 ∧ yX3_byteAt.cls ≠ "java/lang/invoke/MethodHandle" ∧ yX3_byteAt.cls ≠ "java/lang/invoke/VarHandle" ∧ (parseMethodDescriptor yX3_byteAt.desc).map (fun d => d.parameters.length) = some 1 := by decide +kernel
set_option maxRecDepth 100000 in
set_option maxHeartbeats 4000000 in
theorem c_X3_byteAt (l : Launch) (D : va_G) (g : xG) (tb : List xQ) (hT : x_T g tb) {a1 : Int32} (h0 : x_rd tb) {M : xM} {r : Int32} {M' : xM} (hf : f_X3_byteAt a1 M = some (r, M')) :
    cI l D g tb yX3_byteAt cX3_byteAt 2 .int ({ frames := 0, cells := 0, slots := 0, locals := 0 } : Room) [.ref (g.1 3 1777), .int a1] M r M' := by
  refine x_startI (own := RX3) (by decide +kernel) rfl rfl (Nat.le_of_ble_eq_true rfl) hT ?_
  intro p e s m args below meth c Q C0 hend
  unfold f_X3_byteAt at hf
  refine r_iload_n C0 (kk := 1) 1 rfl dX3_byteAt_0 ?_
  refine r_if_lt C0 (tgt := 30) (by decide) dX3_byteAt_1 (fun q1 => ?_) (fun q1 => ?_)
  · have hf := ie_t hf q1
    refine r_iconst C0 (v := (-1)) dX3_byteAt_30 rfl ?_
    exact hend hf dX3_byteAt_31
  · have hf := ie_f hf q1
    refine r_iload_n C0 (kk := 1) 1 rfl dX3_byteAt_4 ?_
    refine r_aload_n C0 (kk := 0) 0 rfl dX3_byteAt_5 ?_
    refine r_get3 C0 h0.1 1 (by decide) (v := .int (M 1778)) rfl rfl w1_205 dX3_byteAt_6 ?_
    refine r_icmp_ge C0 (tgt := 30) (by decide) dX3_byteAt_9 (fun q2 => ?_) (fun q2 => ?_)
    · have hf := ie_t hf q2
      refine r_iconst C0 (v := (-1)) dX3_byteAt_30 rfl ?_
      exact hend hf dX3_byteAt_31
    · have hf := ie_f hf q2
      refine r_iload_n C0 (kk := 1) 1 rfl dX3_byteAt_12 ?_
      refine r_aload_n C0 (kk := 0) 0 rfl dX3_byteAt_13 ?_
      refine r_get3 C0 h0.1 0 (by decide) (v := .ref (g.1 7 1792)) rfl rfl w1_203 dX3_byteAt_14 ?_
      refine r_alen7 C0 h0.2.1 (v := 700) rfl dX3_byteAt_17 ?_
      refine r_icmp_ge C0 (tgt := 30) (by decide) dX3_byteAt_18 (fun q3 => ?_) (fun q3 => ?_)
      · have hf := ie_t hf q3
        refine r_iconst C0 (v := (-1)) dX3_byteAt_30 rfl ?_
        exact hend hf dX3_byteAt_31
      · have hf := ie_f hf q3
        refine r_aload_n C0 (kk := 0) 0 rfl dX3_byteAt_21 ?_
        refine r_get3 C0 h0.1 0 (by decide) (v := .ref (g.1 7 1792)) rfl rfl w1_203 dX3_byteAt_22 ?_
        refine r_iload_n C0 (kk := 1) 1 rfl dX3_byteAt_25 ?_
        obtain ⟨q4, hf⟩ := gd_e hf
        refine r_baldc C0 h0.2.1 q4 rfl dX3_byteAt_26 ?_
        refine r_goto C0 (tgt := 31) (by decide) dX3_byteAt_27 ?_
        exact hend hf dX3_byteAt_31
theorem dX3_isLetter_0 : decode cX3_isLetter 0 = .ok (.iload_n 0, 1) := by decide +kernel
theorem dX3_isLetter_1 : decode cX3_isLetter 1 = .ok (.bipush 97, 2) := by decide +kernel
theorem dX3_isLetter_3 : decode cX3_isLetter 3 = .ok (.if_icmp .lt 13, 3) := by decide +kernel
theorem dX3_isLetter_6 : decode cX3_isLetter 6 = .ok (.iload_n 0, 1) := by decide +kernel
theorem dX3_isLetter_7 : decode cX3_isLetter 7 = .ok (.bipush 122, 2) := by decide +kernel
theorem dX3_isLetter_9 : decode cX3_isLetter 9 = .ok (.if_icmp .gt 7, 3) := by decide +kernel
theorem dX3_isLetter_12 : decode cX3_isLetter 12 = .ok (.iconst 1, 1) := by decide +kernel
theorem dX3_isLetter_13 : decode cX3_isLetter 13 = .ok (.goto 4, 3) := by decide +kernel
theorem dX3_isLetter_16 : decode cX3_isLetter 16 = .ok (.iconst 0, 1) := by decide +kernel
theorem dX3_isLetter_17 : decode cX3_isLetter 17 = .ok (.ireturn, 1) := by decide +kernel
theorem hd_X3_isLetter : yX3_isLetter.cls ≠ "java/lang/invoke/MethodHandle" ∧ yX3_isLetter.cls ≠ "java/lang/invoke/VarHandle" ∧ (parseMethodDescriptor yX3_isLetter.desc).map (fun d => d.parameters.length) = some 1 := by decide +kernel
set_option maxRecDepth 100000 in
set_option maxHeartbeats 4000000 in
theorem c_X3_isLetter (l : Launch) (D : va_G) (g : xG) (tb : List xQ) (hT : x_T g tb) {a0 : Int32}  {M : xM} {r : Int32} {M' : xM} (hf : f_X3_isLetter a0 M = some (r, M')) :
    cI l D g tb yX3_isLetter cX3_isLetter 1 .boolean ({ frames := 0, cells := 0, slots := 0, locals := 0 } : Room) [.int a0] M r M' := by
  refine x_startZ (own := RX3) (by decide +kernel) rfl rfl (Nat.le_of_ble_eq_true rfl) hT ?_
  intro p e s m args below meth c Q C0 hend
  unfold f_X3_isLetter at hf
  refine r_iload_n C0 (kk := 0) 0 rfl dX3_isLetter_0 ?_
  refine r_bipush C0 (v := 97) dX3_isLetter_1 rfl ?_
  refine r_icmp_lt C0 (tgt := 16) (by decide) dX3_isLetter_3 (fun q1 => ?_) (fun q1 => ?_)
  · have hf := ie_t hf q1
    refine r_iconst C0 (v := 0) dX3_isLetter_16 rfl ?_
    exact hend (by decide) hf dX3_isLetter_17
  · have hf := ie_f hf q1
    refine r_iload_n C0 (kk := 0) 0 rfl dX3_isLetter_6 ?_
    refine r_bipush C0 (v := 122) dX3_isLetter_7 rfl ?_
    refine r_icmp_gt C0 (tgt := 16) (by decide) dX3_isLetter_9 (fun q2 => ?_) (fun q2 => ?_)
    · have hf := ie_t hf q2
      refine r_iconst C0 (v := 0) dX3_isLetter_16 rfl ?_
      exact hend (by decide) hf dX3_isLetter_17
    · have hf := ie_f hf q2
      refine r_iconst C0 (v := 1) dX3_isLetter_12 rfl ?_
      refine r_goto C0 (tgt := 17) (by decide) dX3_isLetter_13 ?_
      exact hend (by decide) hf dX3_isLetter_17
theorem dX3_isDigit_0 : decode cX3_isDigit 0 = .ok (.iload_n 0, 1) := by decide +kernel
theorem dX3_isDigit_1 : decode cX3_isDigit 1 = .ok (.bipush 48, 2) := by decide +kernel
theorem dX3_isDigit_3 : decode cX3_isDigit 3 = .ok (.if_icmp .lt 13, 3) := by decide +kernel
theorem dX3_isDigit_6 : decode cX3_isDigit 6 = .ok (.iload_n 0, 1) := by decide +kernel
theorem dX3_isDigit_7 : decode cX3_isDigit 7 = .ok (.bipush 57, 2) := by decide +kernel
theorem dX3_isDigit_9 : decode cX3_isDigit 9 = .ok (.if_icmp .gt 7, 3) := by decide +kernel
theorem dX3_isDigit_12 : decode cX3_isDigit 12 = .ok (.iconst 1, 1) := by decide +kernel
theorem dX3_isDigit_13 : decode cX3_isDigit 13 = .ok (.goto 4, 3) := by decide +kernel
theorem dX3_isDigit_16 : decode cX3_isDigit 16 = .ok (.iconst 0, 1) := by decide +kernel
theorem dX3_isDigit_17 : decode cX3_isDigit 17 = .ok (.ireturn, 1) := by decide +kernel
theorem hd_X3_isDigit : yX3_isDigit.cls ≠ "java/lang/invoke/MethodHandle" ∧ yX3_isDigit.cls ≠ "java/lang/invoke/VarHandle" ∧ (parseMethodDescriptor yX3_isDigit.desc).map (fun d => d.parameters.length) = some 1 := by decide +kernel
set_option maxRecDepth 100000 in
set_option maxHeartbeats 4000000 in
theorem c_X3_isDigit (l : Launch) (D : va_G) (g : xG) (tb : List xQ) (hT : x_T g tb) {a0 : Int32}  {M : xM} {r : Int32} {M' : xM} (hf : f_X3_isDigit a0 M = some (r, M')) :
    cI l D g tb yX3_isDigit cX3_isDigit 1 .boolean ({ frames := 0, cells := 0, slots := 0, locals := 0 } : Room) [.int a0] M r M' := by
  refine x_startZ (own := RX3) (by decide +kernel) rfl rfl (Nat.le_of_ble_eq_true rfl) hT ?_
  intro p e s m args below meth c Q C0 hend
  unfold f_X3_isDigit at hf
  refine r_iload_n C0 (kk := 0) 0 rfl dX3_isDigit_0 ?_
  refine r_bipush C0 (v := 48) dX3_isDigit_1 rfl ?_
  refine r_icmp_lt C0 (tgt := 16) (by decide) dX3_isDigit_3 (fun q1 => ?_) (fun q1 => ?_)
  · have hf := ie_t hf q1
    refine r_iconst C0 (v := 0) dX3_isDigit_16 rfl ?_
    exact hend (by decide) hf dX3_isDigit_17
  · have hf := ie_f hf q1
    refine r_iload_n C0 (kk := 0) 0 rfl dX3_isDigit_6 ?_
    refine r_bipush C0 (v := 57) dX3_isDigit_7 rfl ?_
    refine r_icmp_gt C0 (tgt := 16) (by decide) dX3_isDigit_9 (fun q2 => ?_) (fun q2 => ?_)
    · have hf := ie_t hf q2
      refine r_iconst C0 (v := 0) dX3_isDigit_16 rfl ?_
      exact hend (by decide) hf dX3_isDigit_17
    · have hf := ie_f hf q2
      refine r_iconst C0 (v := 1) dX3_isDigit_12 rfl ?_
      refine r_goto C0 (tgt := 17) (by decide) dX3_isDigit_13 ?_
      exact hend (by decide) hf dX3_isDigit_17
theorem dX3_readDigits_0 : decode cX3_readDigits 0 = .ok (.aload_n 0, 1) := by decide +kernel
theorem dX3_readDigits_1 : decode cX3_readDigits 1 = .ok (.iconst 0, 1) := by decide +kernel
theorem dX3_readDigits_2 : decode cX3_readDigits 2 = .ok (.putfield 55, 3) := by decide +kernel
theorem dX3_readDigits_5 : decode cX3_readDigits 5 = .ok (.aload_n 0, 1) := by decide +kernel
theorem dX3_readDigits_6 : decode cX3_readDigits 6 = .ok (.getfield 39, 3) := by decide +kernel
theorem dX3_readDigits_9 : decode cX3_readDigits 9 = .ok (.aload_n 0, 1) := by decide +kernel
theorem dX3_readDigits_10 : decode cX3_readDigits 10 = .ok (.getfield 37, 3) := by decide +kernel
theorem dX3_readDigits_13 : decode cX3_readDigits 13 = .ok (.if_icmp .ge 62, 3) := by decide +kernel
theorem dX3_readDigits_16 : decode cX3_readDigits 16 = .ok (.aload_n 0, 1) := by decide +kernel
theorem dX3_readDigits_17 : decode cX3_readDigits 17 = .ok (.aload_n 0, 1) := by decide +kernel
theorem dX3_readDigits_18 : decode cX3_readDigits 18 = .ok (.getfield 39, 3) := by decide +kernel
theorem dX3_readDigits_21 : decode cX3_readDigits 21 = .ok (.invokevirtual 209, 3) := by decide +kernel
theorem dX3_readDigits_24 : decode cX3_readDigits 24 = .ok (.invokestatic 215, 3) := by decide +kernel
theorem dX3_readDigits_27 : decode cX3_readDigits 27 = .ok (.ifCond .eq 48, 3) := by decide +kernel
theorem dX3_readDigits_30 : decode cX3_readDigits 30 = .ok (.aload_n 0, 1) := by decide +kernel
theorem dX3_readDigits_31 : decode cX3_readDigits 31 = .ok (.getfield 55, 3) := by decide +kernel
theorem dX3_readDigits_34 : decode cX3_readDigits 34 = .ok (.ldc 221, 2) := by decide +kernel
theorem dX3_readDigits_36 : decode cX3_readDigits 36 = .ok (.if_icmp .ge 26, 3) := by decide +kernel
theorem dX3_readDigits_39 : decode cX3_readDigits 39 = .ok (.aload_n 0, 1) := by decide +kernel
theorem dX3_readDigits_40 : decode cX3_readDigits 40 = .ok (.aload_n 0, 1) := by decide +kernel
theorem dX3_readDigits_41 : decode cX3_readDigits 41 = .ok (.getfield 55, 3) := by decide +kernel
theorem dX3_readDigits_44 : decode cX3_readDigits 44 = .ok (.bipush 10, 2) := by decide +kernel
theorem dX3_readDigits_46 : decode cX3_readDigits 46 = .ok (.imul, 1) := by decide +kernel
theorem dX3_readDigits_47 : decode cX3_readDigits 47 = .ok (.aload_n 0, 1) := by decide +kernel
theorem dX3_readDigits_48 : decode cX3_readDigits 48 = .ok (.aload_n 0, 1) := by decide +kernel
theorem dX3_readDigits_49 : decode cX3_readDigits 49 = .ok (.getfield 39, 3) := by decide +kernel
theorem dX3_readDigits_52 : decode cX3_readDigits 52 = .ok (.invokevirtual 209, 3) := by decide +kernel
theorem dX3_readDigits_55 : decode cX3_readDigits 55 = .ok (.iadd, 1) := by decide +kernel
theorem dX3_readDigits_56 : decode cX3_readDigits 56 = .ok (.bipush 48, 2) := by decide +kernel
theorem dX3_readDigits_58 : decode cX3_readDigits 58 = .ok (.isub, 1) := by decide +kernel
theorem dX3_readDigits_59 : decode cX3_readDigits 59 = .ok (.putfield 55, 3) := by decide +kernel
theorem dX3_readDigits_62 : decode cX3_readDigits 62 = .ok (.aload_n 0, 1) := by decide +kernel
theorem dX3_readDigits_63 : decode cX3_readDigits 63 = .ok (.dup, 1) := by decide +kernel
theorem dX3_readDigits_64 : decode cX3_readDigits 64 = .ok (.getfield 39, 3) := by decide +kernel
theorem dX3_readDigits_67 : decode cX3_readDigits 67 = .ok (.iconst 1, 1) := by decide +kernel
theorem dX3_readDigits_68 : decode cX3_readDigits 68 = .ok (.iadd, 1) := by decide +kernel
theorem dX3_readDigits_69 : decode cX3_readDigits 69 = .ok (.putfield 39, 3) := by decide +kernel
theorem dX3_readDigits_72 : decode cX3_readDigits 72 = .ok (.goto (-67), 3) := by decide +kernel
theorem dX3_readDigits_75 : decode cX3_readDigits 75 = .ok (.return_, 1) := by decide +kernel
theorem hd_X3_readDigits : yX3_readDigits.cls = RX3 ∧ yX3_readDigits.cls ≠ "java/lang/invoke/MethodHandle" ∧ yX3_readDigits.cls ≠ "java/lang/invoke/VarHandle" ∧ (parseMethodDescriptor yX3_readDigits.desc).map (fun d => d.parameters.length) = some 0 := by decide +kernel
set_option maxRecDepth 100000 in
set_option maxHeartbeats 4000000 in
theorem c_X3_readDigits (l : Launch) (D : va_G) (g : xG) (tb : List xQ) (hT : x_T g tb)  (h0 : x_rd tb) {M M' : xM} (hf : f_X3_readDigits  M = some M') :
    cV l D g tb yX3_readDigits cX3_readDigits 1 ({ frames := 1, cells := 0, slots := 0, locals := 21 } : Room) [.ref (g.1 3 1777)] M M' := by
  refine x_startV (own := RX3) (by decide +kernel) rfl rfl (Nat.le_of_ble_eq_true rfl) hT ?_
  intro p e s m args below meth c Q C0 hend
  have B62 : ∀ (k5 : xM → Option xM) (hk5 : ∀ (M : xM), k5 M = some M' → WW p l e ({ frames := 1, cells := 0, slots := 0, locals := 21 } : Room) s m args below meth c 0 0 Q 1 D g tb 5 [(0, .ref (g.1 3 1777))] [] M), ∀ (M : xM), f_X3_readDigits_c62 k5  M = some M' → WW p l e ({ frames := 1, cells := 0, slots := 0, locals := 21 } : Room) s m args below meth c 0 0 Q 1 D g tb 62 [(0, .ref (g.1 3 1777))] [] M := by
    intro k5 hk5   M hf
    unfold f_X3_readDigits_c62 at hf
    refine r_aload_n C0 (kk := 0) 0 rfl dX3_readDigits_62 ?_
    refine r_dup C0 rfl dX3_readDigits_63 ?_
    refine r_get3 C0 h0.1 6 (by decide) (v := .int (M 1783)) rfl rfl w1_213 dX3_readDigits_64 ?_
    refine r_iconst C0 (v := 1) dX3_readDigits_67 rfl ?_
    refine r_iadd C0 dX3_readDigits_68 ?_
    refine r_put3 C0 h0.1 6 rfl rfl w1_213 rfl rfl rfl dX3_readDigits_69 ?_
    refine r_goto C0 (tgt := 5) (by decide) dX3_readDigits_72 ?_
    exact hk5   _ hf
  have B5 : ∀ (k5 : xM → Option xM) (hk5 : ∀ (M : xM), k5 M = some M' → WW p l e ({ frames := 1, cells := 0, slots := 0, locals := 21 } : Room) s m args below meth c 0 0 Q 1 D g tb 5 [(0, .ref (g.1 3 1777))] [] M), ∀ (M : xM), fb_X3_readDigits_c5 k5  M = some M' → WW p l e ({ frames := 1, cells := 0, slots := 0, locals := 21 } : Room) s m args below meth c 0 0 Q 1 D g tb 5 [(0, .ref (g.1 3 1777))] [] M := by
    intro k5 hk5   M hf
    unfold fb_X3_readDigits_c5 at hf
    refine r_aload_n C0 (kk := 0) 0 rfl dX3_readDigits_5 ?_
    refine r_get3 C0 h0.1 6 (by decide) (v := .int (M 1783)) rfl rfl w1_213 dX3_readDigits_6 ?_
    refine r_aload_n C0 (kk := 0) 0 rfl dX3_readDigits_9 ?_
    refine r_get3 C0 h0.1 1 (by decide) (v := .int (M 1778)) rfl rfl w1_205 dX3_readDigits_10 ?_
    refine r_icmp_ge C0 (tgt := 75) (by decide) dX3_readDigits_13 (fun q1 => ?_) (fun q1 => ?_)
    · have hf := ie_t hf q1
      exact hend hf dX3_readDigits_75
    · have hf := ie_f hf q1
      refine r_aload_n C0 (kk := 0) 0 rfl dX3_readDigits_16 ?_
      refine r_aload_n C0 (kk := 0) 0 rfl dX3_readDigits_17 ?_
      refine r_get3 C0 h0.1 6 (by decide) (v := .int (M 1783)) rfl rfl w1_213 dX3_readDigits_18 ?_
      obtain ⟨r4, M3, hc2, hf⟩ := bd2_e hf
      refine r_callVi C0 (As := [.int (M 1783)]) (rest := []) (c_X3_byteAt l D g tb hT h0 hc2) w2_78 w2_80 wp1_4 w1_5 w2_81 (x_rec3 C0 h0.1) hd_X3_byteAt rfl ⟨rfl, rfl⟩ ⟨Nat.le_of_ble_eq_true rfl, Nat.le_of_ble_eq_true rfl⟩ (by decide) (by decide) rfl (Nat.le_of_ble_eq_true rfl) dX3_readDigits_21 ?_
      obtain ⟨r7, M6, hc5, hf⟩ := bd2_e hf
      refine r_callSi C0 (As := [.int r4]) (rest := []) (c_X3_isDigit l D g tb hT  hc5) w2_85 w2_86 w1_5 w2_87 hd_X3_isDigit rfl ⟨rfl, rfl⟩ ⟨Nat.le_of_ble_eq_true rfl, Nat.le_of_ble_eq_true rfl⟩ (by decide) (by decide) rfl (Nat.le_of_ble_eq_true rfl) dX3_readDigits_24 ?_
      refine r_if_eq C0 (tgt := 75) (by decide) dX3_readDigits_27 (fun q8 => ?_) (fun q8 => ?_)
      · have hf := ie_t hf q8
        exact hend hf dX3_readDigits_75
      · have hf := ie_f hf q8
        refine r_aload_n C0 (kk := 0) 0 rfl dX3_readDigits_30 ?_
        refine r_get3 C0 h0.1 9 (by decide) (v := .int (M6 1786)) rfl rfl w1_216 dX3_readDigits_31 ?_
        refine r_ldc C0 w2_92 dX3_readDigits_34 ?_
        refine r_icmp_ge C0 (tgt := 62) (by decide) dX3_readDigits_36 (fun q9 => ?_) (fun q9 => ?_)
        · have hf := ie_t hf q9
          exact B62 k5 hk5   _ hf
        · have hf := ie_f hf q9
          refine r_aload_n C0 (kk := 0) 0 rfl dX3_readDigits_39 ?_
          refine r_aload_n C0 (kk := 0) 0 rfl dX3_readDigits_40 ?_
          refine r_get3 C0 h0.1 9 (by decide) (v := .int (M6 1786)) rfl rfl w1_216 dX3_readDigits_41 ?_
          refine r_bipush C0 (v := 10) dX3_readDigits_44 rfl ?_
          refine r_imul C0 dX3_readDigits_46 ?_
          refine r_aload_n C0 (kk := 0) 0 rfl dX3_readDigits_47 ?_
          refine r_aload_n C0 (kk := 0) 0 rfl dX3_readDigits_48 ?_
          refine r_get3 C0 h0.1 6 (by decide) (v := .int (M6 1783)) rfl rfl w1_213 dX3_readDigits_49 ?_
          obtain ⟨r12, M11, hc10, hf⟩ := bd2_e hf
          refine r_callVi C0 (As := [.int (M6 1783)]) (rest := [.int ((M6 1786) * 10), .ref (g.1 3 1777)]) (c_X3_byteAt l D g tb hT h0 hc10) w2_78 w2_80 wp1_4 w1_5 w2_81 (x_rec3 C0 h0.1) hd_X3_byteAt rfl ⟨rfl, rfl⟩ ⟨Nat.le_of_ble_eq_true rfl, Nat.le_of_ble_eq_true rfl⟩ (by decide) (by decide) rfl (Nat.le_of_ble_eq_true rfl) dX3_readDigits_52 ?_
          refine r_iadd C0 dX3_readDigits_55 ?_
          refine r_bipush C0 (v := 48) dX3_readDigits_56 rfl ?_
          refine r_isub C0 dX3_readDigits_58 ?_
          refine r_put3 C0 h0.1 9 rfl rfl w1_216 rfl rfl rfl dX3_readDigits_59 ?_
          exact B62 k5 hk5   _ hf
  have L5 : ∀ (M : xM), f_X3_readDigits_c5   M = some M' → WW p l e ({ frames := 1, cells := 0, slots := 0, locals := 21 } : Room) s m args below meth c 0 0 Q 1 D g tb 5 [(0, .ref (g.1 3 1777))] [] M := lp_ind (P := fun f => ∀ (M : xM), f M = some M' → WW p l e ({ frames := 1, cells := 0, slots := 0, locals := 21 } : Room) s m args below meth c 0 0 Q 1 D g tb 5 [(0, .ref (g.1 3 1777))] [] M) (fun  _ h => none_ne h) (fun f hf => B5 f hf) FU
  unfold f_X3_readDigits at hf
  refine r_aload_n C0 (kk := 0) 0 rfl dX3_readDigits_0 ?_
  refine r_iconst C0 (v := 0) dX3_readDigits_1 rfl ?_
  refine r_put3 C0 h0.1 9 rfl rfl w1_216 rfl rfl rfl dX3_readDigits_2 ?_
  exact L5     _ hf
theorem dX3_fail_0 : decode cX3_fail 0 = .ok (.aload_n 0, 1) := by decide +kernel
theorem dX3_fail_1 : decode cX3_fail 1 = .ok (.iload_n 1, 1) := by decide +kernel
theorem dX3_fail_2 : decode cX3_fail 2 = .ok (.putfield 42, 3) := by decide +kernel
theorem dX3_fail_5 : decode cX3_fail 5 = .ok (.aload_n 0, 1) := by decide +kernel
theorem dX3_fail_6 : decode cX3_fail 6 = .ok (.aload_n 0, 1) := by decide +kernel
theorem dX3_fail_7 : decode cX3_fail 7 = .ok (.getfield 206, 3) := by decide +kernel
theorem dX3_fail_10 : decode cX3_fail 10 = .ok (.putfield 15, 3) := by decide +kernel
theorem dX3_fail_13 : decode cX3_fail 13 = .ok (.iconst 0, 1) := by decide +kernel
theorem dX3_fail_14 : decode cX3_fail 14 = .ok (.ireturn, 1) := by decide +kernel
theorem hd_X3_fail : yX3_fail.cls = RX3 ∧ yX3_fail.cls ≠ "java/lang/invoke/MethodHandle" ∧ yX3_fail.cls ≠ "java/lang/invoke/VarHandle" ∧ (parseMethodDescriptor yX3_fail.desc).map (fun d => d.parameters.length) = some 1 := by decide +kernel
set_option maxRecDepth 100000 in
set_option maxHeartbeats 4000000 in
theorem c_X3_fail (l : Launch) (D : va_G) (g : xG) (tb : List xQ) (hT : x_T g tb) {a1 : Int32} (h0 : x_rd tb) {M : xM} {r : Int32} {M' : xM} (hf : f_X3_fail a1 M = some (r, M')) :
    cI l D g tb yX3_fail cX3_fail 2 .boolean ({ frames := 0, cells := 0, slots := 0, locals := 0 } : Room) [.ref (g.1 3 1777), .int a1] M r M' := by
  refine x_startZ (own := RX3) (by decide +kernel) rfl rfl (Nat.le_of_ble_eq_true rfl) hT ?_
  intro p e s m args below meth c Q C0 hend
  unfold f_X3_fail at hf
  refine r_aload_n C0 (kk := 0) 0 rfl dX3_fail_0 ?_
  refine r_iload_n C0 (kk := 1) 1 rfl dX3_fail_1 ?_
  refine r_put3 C0 h0.1 2 rfl rfl w1_207 rfl rfl rfl dX3_fail_2 ?_
  refine r_aload_n C0 (kk := 0) 0 rfl dX3_fail_5 ?_
  refine r_aload_n C0 (kk := 0) 0 rfl dX3_fail_6 ?_
  refine r_get3 C0 h0.1 8 (by decide) (v := .int ((upd M 1779 a1) 1785)) rfl rfl w1_215 dX3_fail_7 ?_
  refine r_put3 C0 h0.1 3 rfl rfl w1_208 rfl rfl rfl dX3_fail_10 ?_
  refine r_iconst C0 (v := 0) dX3_fail_13 rfl ?_
  exact hend (by decide) hf dX3_fail_14
theorem dX3_isNumberFrom_0 : decode cX3_isNumberFrom 0 = .ok (.aload_n 0, 1) := by decide +kernel
theorem dX3_isNumberFrom_1 : decode cX3_isNumberFrom 1 = .ok (.getfield 77, 3) := by decide +kernel
theorem dX3_isNumberFrom_4 : decode cX3_isNumberFrom 4 = .ok (.iconst 2, 1) := by decide +kernel
theorem dX3_isNumberFrom_5 : decode cX3_isNumberFrom 5 = .ok (.if_icmp .eq 9, 3) := by decide +kernel
theorem dX3_isNumberFrom_8 : decode cX3_isNumberFrom 8 = .ok (.aload_n 0, 1) := by decide +kernel
theorem dX3_isNumberFrom_9 : decode cX3_isNumberFrom 9 = .ok (.iconst 1, 1) := by decide +kernel
theorem dX3_isNumberFrom_10 : decode cX3_isNumberFrom 10 = .ok (.invokevirtual 80, 3) := by decide +kernel
theorem dX3_isNumberFrom_13 : decode cX3_isNumberFrom 13 = .ok (.ireturn, 1) := by decide +kernel
theorem dX3_isNumberFrom_14 : decode cX3_isNumberFrom 14 = .ok (.aload_n 0, 1) := by decide +kernel
theorem dX3_isNumberFrom_15 : decode cX3_isNumberFrom 15 = .ok (.getfield 55, 3) := by decide +kernel
theorem dX3_isNumberFrom_18 : decode cX3_isNumberFrom 18 = .ok (.iload_n 1, 1) := by decide +kernel
theorem dX3_isNumberFrom_19 : decode cX3_isNumberFrom 19 = .ok (.if_icmp .lt 11, 3) := by decide +kernel
theorem dX3_isNumberFrom_22 : decode cX3_isNumberFrom 22 = .ok (.aload_n 0, 1) := by decide +kernel
theorem dX3_isNumberFrom_23 : decode cX3_isNumberFrom 23 = .ok (.getfield 55, 3) := by decide +kernel
theorem dX3_isNumberFrom_26 : decode cX3_isNumberFrom 26 = .ok (.iload_n 2, 1) := by decide +kernel
theorem dX3_isNumberFrom_27 : decode cX3_isNumberFrom 27 = .ok (.if_icmp .le 11, 3) := by decide +kernel
theorem dX3_isNumberFrom_30 : decode cX3_isNumberFrom 30 = .ok (.aload_n 0, 1) := by decide +kernel
theorem dX3_isNumberFrom_31 : decode cX3_isNumberFrom 31 = .ok (.iconst 2, 1) := by decide +kernel
theorem dX3_isNumberFrom_32 : decode cX3_isNumberFrom 32 = .ok (.invokevirtual 80, 3) := by decide +kernel
theorem dX3_isNumberFrom_35 : decode cX3_isNumberFrom 35 = .ok (.ifCond .eq 7, 3) := by decide +kernel
theorem dX3_isNumberFrom_38 : decode cX3_isNumberFrom 38 = .ok (.iconst 1, 1) := by decide +kernel
theorem dX3_isNumberFrom_39 : decode cX3_isNumberFrom 39 = .ok (.goto 4, 3) := by decide +kernel
theorem dX3_isNumberFrom_42 : decode cX3_isNumberFrom 42 = .ok (.iconst 0, 1) := by decide +kernel
theorem dX3_isNumberFrom_43 : decode cX3_isNumberFrom 43 = .ok (.ireturn, 1) := by decide +kernel
theorem hd_X3_isNumberFrom : yX3_isNumberFrom.cls = RX3 ∧ yX3_isNumberFrom.cls ≠ "java/lang/invoke/MethodHandle" ∧ yX3_isNumberFrom.cls ≠ "java/lang/invoke/VarHandle" ∧ (parseMethodDescriptor yX3_isNumberFrom.desc).map (fun d => d.parameters.length) = some 2 := by decide +kernel
set_option maxRecDepth 100000 in
set_option maxHeartbeats 4000000 in
theorem c_X3_isNumberFrom (l : Launch) (D : va_G) (g : xG) (tb : List xQ) (hT : x_T g tb) {a1 : Int32} {a2 : Int32} (h0 : x_rd tb) {M : xM} {r : Int32} {M' : xM} (hf : f_X3_isNumberFrom a1 a2 M = some (r, M')) :
    cI l D g tb yX3_isNumberFrom cX3_isNumberFrom 3 .boolean ({ frames := 1, cells := 0, slots := 0, locals := 21 } : Room) [.ref (g.1 3 1777), .int a1, .int a2] M r M' := by
  refine x_startZ (own := RX3) (by decide +kernel) rfl rfl (Nat.le_of_ble_eq_true rfl) hT ?_
  intro p e s m args below meth c Q C0 hend
  have B30 : ∀ (M : xM), f_X3_isNumberFrom_c30  a1 a2 M = some (r, M') → WW p l e ({ frames := 1, cells := 0, slots := 0, locals := 21 } : Room) s m args below meth c 0 0 Q 3 D g tb 30 [(0, .ref (g.1 3 1777))] [] M := by
    intro     M hf
    unfold f_X3_isNumberFrom_c30 at hf
    refine r_aload_n C0 (kk := 0) 0 rfl dX3_isNumberFrom_30 ?_
    refine r_iconst C0 (v := 2) dX3_isNumberFrom_31 rfl ?_
    obtain ⟨r10, M9, hc8, hf⟩ := bd2_e hf
    refine r_callVi C0 (As := [.int 2]) (rest := []) (c_X3_fail l D g tb hT h0 hc8) w2_97 w2_99 wp1_7 w1_5 w2_100 (x_rec3 C0 h0.1) hd_X3_fail rfl ⟨rfl, rfl⟩ ⟨Nat.le_of_ble_eq_true rfl, Nat.le_of_ble_eq_true rfl⟩ (by decide) (by decide) rfl (Nat.le_of_ble_eq_true rfl) dX3_isNumberFrom_32 ?_
    refine r_if_eq C0 (tgt := 42) (by decide) dX3_isNumberFrom_35 (fun q11 => ?_) (fun q11 => ?_)
    · have hf := ie_t hf q11
      refine r_iconst C0 (v := 0) dX3_isNumberFrom_42 rfl ?_
      exact hend (by decide) hf dX3_isNumberFrom_43
    · have hf := ie_f hf q11
      refine r_iconst C0 (v := 1) dX3_isNumberFrom_38 rfl ?_
      refine r_goto C0 (tgt := 43) (by decide) dX3_isNumberFrom_39 ?_
      exact hend (by decide) hf dX3_isNumberFrom_43
  unfold f_X3_isNumberFrom at hf
  refine r_aload_n C0 (kk := 0) 0 rfl dX3_isNumberFrom_0 ?_
  refine r_get3 C0 h0.1 7 (by decide) (v := .int (M 1784)) rfl rfl w1_214 dX3_isNumberFrom_1 ?_
  refine r_iconst C0 (v := 2) dX3_isNumberFrom_4 rfl ?_
  refine r_icmp_eq C0 (tgt := 14) (by decide) dX3_isNumberFrom_5 (fun q1 => ?_) (fun q1 => ?_)
  · have hf := ie_t hf q1
    refine r_aload_n C0 (kk := 0) 0 rfl dX3_isNumberFrom_14 ?_
    refine r_get3 C0 h0.1 9 (by decide) (v := .int (M 1786)) rfl rfl w1_216 dX3_isNumberFrom_15 ?_
    refine r_iload_n C0 (kk := 1) 1 rfl dX3_isNumberFrom_18 ?_
    refine r_icmp_lt C0 (tgt := 30) (by decide) dX3_isNumberFrom_19 (fun q2 => ?_) (fun q2 => ?_)
    · have hf := ie_t hf q2
      refine WW.sub [0] rfl ?_
      exact B30     _ hf
    · have hf := ie_f hf q2
      refine r_aload_n C0 (kk := 0) 0 rfl dX3_isNumberFrom_22 ?_
      refine r_get3 C0 h0.1 9 (by decide) (v := .int (M 1786)) rfl rfl w1_216 dX3_isNumberFrom_23 ?_
      refine r_iload_n C0 (kk := 2) 2 rfl dX3_isNumberFrom_26 ?_
      refine r_icmp_le C0 (tgt := 38) (by decide) dX3_isNumberFrom_27 (fun q3 => ?_) (fun q3 => ?_)
      · have hf := ie_t hf q3
        refine r_iconst C0 (v := 1) dX3_isNumberFrom_38 rfl ?_
        refine r_goto C0 (tgt := 43) (by decide) dX3_isNumberFrom_39 ?_
        exact hend (by decide) hf dX3_isNumberFrom_43
      · have hf := ie_f hf q3
        refine WW.sub [0] rfl ?_
        exact B30     _ hf
  · have hf := ie_f hf q1
    refine r_aload_n C0 (kk := 0) 0 rfl dX3_isNumberFrom_8 ?_
    refine r_iconst C0 (v := 1) dX3_isNumberFrom_9 rfl ?_
    obtain ⟨r6, M5, hc4, hf⟩ := bd2_e hf
    refine r_callVi C0 (As := [.int 1]) (rest := []) (c_X3_fail l D g tb hT h0 hc4) w2_97 w2_99 wp1_7 w1_5 w2_100 (x_rec3 C0 h0.1) hd_X3_fail rfl ⟨rfl, rfl⟩ ⟨Nat.le_of_ble_eq_true rfl, Nat.le_of_ble_eq_true rfl⟩ (by decide) (by decide) rfl (Nat.le_of_ble_eq_true rfl) dX3_isNumberFrom_10 ?_
    obtain ⟨q7, hf⟩ := gd_e hf
    exact hend q7 hf dX3_isNumberFrom_13
theorem dX2_reset_0 : decode cX2_reset 0 = .ok (.aload_n 0, 1) := by decide +kernel
theorem dX2_reset_1 : decode cX2_reset 1 = .ok (.iconst 0, 1) := by decide +kernel
theorem dX2_reset_2 : decode cX2_reset 2 = .ok (.putfield 29, 3) := by decide +kernel
theorem dX2_reset_5 : decode cX2_reset 5 = .ok (.aload_n 0, 1) := by decide +kernel
theorem dX2_reset_6 : decode cX2_reset 6 = .ok (.iconst 0, 1) := by decide +kernel
theorem dX2_reset_7 : decode cX2_reset 7 = .ok (.putfield 33, 3) := by decide +kernel
theorem dX2_reset_10 : decode cX2_reset 10 = .ok (.aload_n 0, 1) := by decide +kernel
theorem dX2_reset_11 : decode cX2_reset 11 = .ok (.iconst 0, 1) := by decide +kernel
theorem dX2_reset_12 : decode cX2_reset 12 = .ok (.putfield 36, 3) := by decide +kernel
theorem dX2_reset_15 : decode cX2_reset 15 = .ok (.aload_n 0, 1) := by decide +kernel
theorem dX2_reset_16 : decode cX2_reset 16 = .ok (.iconst 0, 1) := by decide +kernel
theorem dX2_reset_17 : decode cX2_reset 17 = .ok (.putfield 39, 3) := by decide +kernel
theorem dX2_reset_20 : decode cX2_reset 20 = .ok (.aload_n 0, 1) := by decide +kernel
theorem dX2_reset_21 : decode cX2_reset 21 = .ok (.iload_n 3, 1) := by decide +kernel
theorem dX2_reset_22 : decode cX2_reset 22 = .ok (.putfield 42, 3) := by decide +kernel
theorem dX2_reset_25 : decode cX2_reset 25 = .ok (.aload_n 0, 1) := by decide +kernel
theorem dX2_reset_26 : decode cX2_reset 26 = .ok (.iload_n 1, 1) := by decide +kernel
theorem dX2_reset_27 : decode cX2_reset 27 = .ok (.putfield 45, 3) := by decide +kernel
theorem dX2_reset_30 : decode cX2_reset 30 = .ok (.aload_n 0, 1) := by decide +kernel
theorem dX2_reset_31 : decode cX2_reset 31 = .ok (.iload_n 2, 1) := by decide +kernel
theorem dX2_reset_32 : decode cX2_reset 32 = .ok (.putfield 48, 3) := by decide +kernel
theorem dX2_reset_35 : decode cX2_reset 35 = .ok (.aload_n 0, 1) := by decide +kernel
theorem dX2_reset_36 : decode cX2_reset 36 = .ok (.iconst 0, 1) := by decide +kernel
theorem dX2_reset_37 : decode cX2_reset 37 = .ok (.putfield 51, 3) := by decide +kernel
theorem dX2_reset_40 : decode cX2_reset 40 = .ok (.aload_n 0, 1) := by decide +kernel
theorem dX2_reset_41 : decode cX2_reset 41 = .ok (.iconst 1, 1) := by decide +kernel
theorem dX2_reset_42 : decode cX2_reset 42 = .ok (.putfield 55, 3) := by decide +kernel
theorem dX2_reset_45 : decode cX2_reset 45 = .ok (.aload_n 0, 1) := by decide +kernel
theorem dX2_reset_46 : decode cX2_reset 46 = .ok (.iconst 0, 1) := by decide +kernel
theorem dX2_reset_47 : decode cX2_reset 47 = .ok (.putfield 58, 3) := by decide +kernel
theorem dX2_reset_50 : decode cX2_reset 50 = .ok (.aload_n 0, 1) := by decide +kernel
theorem dX2_reset_51 : decode cX2_reset 51 = .ok (.iconst 0, 1) := by decide +kernel
theorem dX2_reset_52 : decode cX2_reset 52 = .ok (.putfield 61, 3) := by decide +kernel
theorem dX2_reset_55 : decode cX2_reset 55 = .ok (.return_, 1) := by decide +kernel
theorem hd_X2_reset : yX2_reset.cls = RX2 ∧ yX2_reset.cls ≠ "java/lang/invoke/MethodHandle" ∧ yX2_reset.cls ≠ "java/lang/invoke/VarHandle" ∧ (parseMethodDescriptor yX2_reset.desc).map (fun d => d.parameters.length) = some 3 := by decide +kernel
set_option maxRecDepth 100000 in
set_option maxHeartbeats 4000000 in
theorem c_X2_reset (l : Launch) (D : va_G) (g : xG) (tb : List xQ) (hT : x_T g tb) {a0 : Nat} {a1 : Int32} {a2 : Int32} {a3 : Int32} (h0 : x_mk tb a0) {M M' : xM} (hf : f_X2_reset a0 a1 a2 a3 M = some M') :
    cV l D g tb yX2_reset cX2_reset 4 ({ frames := 0, cells := 0, slots := 0, locals := 0 } : Room) [.ref (g.1 2 a0), .int a1, .int a2, .int a3] M M' := by
  refine x_startV (own := RX2) (by decide +kernel) rfl rfl (Nat.le_of_ble_eq_true rfl) hT ?_
  intro p e s m args below meth c Q C0 hend
  unfold f_X2_reset at hf
  refine r_aload_n C0 (kk := 0) 0 rfl dX2_reset_0 ?_
  refine r_iconst C0 (v := 0) dX2_reset_1 rfl ?_
  refine r_put2 C0 h0.1 1 rfl rfl w1_138 rfl rfl rfl dX2_reset_2 ?_
  refine r_aload_n C0 (kk := 0) 0 rfl dX2_reset_5 ?_
  refine r_iconst C0 (v := 0) dX2_reset_6 rfl ?_
  refine r_put2 C0 h0.1 3 rfl rfl w1_144 rfl rfl rfl dX2_reset_7 ?_
  refine r_aload_n C0 (kk := 0) 0 rfl dX2_reset_10 ?_
  refine r_iconst C0 (v := 0) dX2_reset_11 rfl ?_
  refine r_put2 C0 h0.1 5 rfl rfl w1_149 rfl rfl rfl dX2_reset_12 ?_
  refine r_aload_n C0 (kk := 0) 0 rfl dX2_reset_15 ?_
  refine r_iconst C0 (v := 0) dX2_reset_16 rfl ?_
  refine r_put2 C0 h0.1 6 rfl rfl w1_152 rfl rfl rfl dX2_reset_17 ?_
  refine r_aload_n C0 (kk := 0) 0 rfl dX2_reset_20 ?_
  refine r_iload_n C0 (kk := 3) 3 rfl dX2_reset_21 ?_
  refine r_put2 C0 h0.1 7 rfl rfl w1_154 rfl rfl rfl dX2_reset_22 ?_
  refine r_aload_n C0 (kk := 0) 0 rfl dX2_reset_25 ?_
  refine r_iload_n C0 (kk := 1) 1 rfl dX2_reset_26 ?_
  refine r_put2 C0 h0.1 8 rfl rfl w1_156 rfl rfl rfl dX2_reset_27 ?_
  refine r_aload_n C0 (kk := 0) 0 rfl dX2_reset_30 ?_
  refine r_iload_n C0 (kk := 2) 2 rfl dX2_reset_31 ?_
  refine r_put2 C0 h0.1 9 rfl rfl w1_158 rfl rfl rfl dX2_reset_32 ?_
  refine r_aload_n C0 (kk := 0) 0 rfl dX2_reset_35 ?_
  refine r_iconst C0 (v := 0) dX2_reset_36 rfl ?_
  refine r_put2 C0 h0.1 10 rfl rfl w1_160 rfl rfl rfl dX2_reset_37 ?_
  refine r_aload_n C0 (kk := 0) 0 rfl dX2_reset_40 ?_
  refine r_iconst C0 (v := 1) dX2_reset_41 rfl ?_
  refine r_put2 C0 h0.1 11 rfl rfl w1_162 rfl rfl rfl dX2_reset_42 ?_
  refine r_aload_n C0 (kk := 0) 0 rfl dX2_reset_45 ?_
  refine r_iconst C0 (v := 0) dX2_reset_46 rfl ?_
  refine r_put2 C0 h0.1 12 rfl rfl w1_164 rfl rfl rfl dX2_reset_47 ?_
  refine r_aload_n C0 (kk := 0) 0 rfl dX2_reset_50 ?_
  refine r_iconst C0 (v := 0) dX2_reset_51 rfl ?_
  refine r_put2 C0 h0.1 13 rfl rfl w1_166 rfl rfl rfl dX2_reset_52 ?_
  exact hend hf dX2_reset_55
theorem dX2_addDensity_0 : decode cX2_addDensity 0 = .ok (.aload_n 0, 1) := by decide +kernel
theorem dX2_addDensity_1 : decode cX2_addDensity 1 = .ok (.getfield 36, 3) := by decide +kernel
theorem dX2_addDensity_4 : decode cX2_addDensity 4 = .ok (.aload_n 0, 1) := by decide +kernel
theorem dX2_addDensity_5 : decode cX2_addDensity 5 = .ok (.getfield 23, 3) := by decide +kernel
theorem dX2_addDensity_8 : decode cX2_addDensity 8 = .ok (.arraylength, 1) := by decide +kernel
theorem dX2_addDensity_9 : decode cX2_addDensity 9 = .ok (.if_icmp .ge 23, 3) := by decide +kernel
theorem dX2_addDensity_12 : decode cX2_addDensity 12 = .ok (.aload_n 0, 1) := by decide +kernel
theorem dX2_addDensity_13 : decode cX2_addDensity 13 = .ok (.getfield 23, 3) := by decide +kernel
theorem dX2_addDensity_16 : decode cX2_addDensity 16 = .ok (.aload_n 0, 1) := by decide +kernel
theorem dX2_addDensity_17 : decode cX2_addDensity 17 = .ok (.getfield 36, 3) := by decide +kernel
theorem dX2_addDensity_20 : decode cX2_addDensity 20 = .ok (.iload_n 1, 1) := by decide +kernel
theorem dX2_addDensity_21 : decode cX2_addDensity 21 = .ok (.iastore, 1) := by decide +kernel
theorem dX2_addDensity_22 : decode cX2_addDensity 22 = .ok (.aload_n 0, 1) := by decide +kernel
theorem dX2_addDensity_23 : decode cX2_addDensity 23 = .ok (.dup, 1) := by decide +kernel
theorem dX2_addDensity_24 : decode cX2_addDensity 24 = .ok (.getfield 36, 3) := by decide +kernel
theorem dX2_addDensity_27 : decode cX2_addDensity 27 = .ok (.iconst 1, 1) := by decide +kernel
theorem dX2_addDensity_28 : decode cX2_addDensity 28 = .ok (.iadd, 1) := by decide +kernel
theorem dX2_addDensity_29 : decode cX2_addDensity 29 = .ok (.putfield 36, 3) := by decide +kernel
theorem dX2_addDensity_32 : decode cX2_addDensity 32 = .ok (.return_, 1) := by decide +kernel
theorem hd_X2_addDensity : yX2_addDensity.cls = RX2 ∧ yX2_addDensity.cls ≠ "java/lang/invoke/MethodHandle" ∧ yX2_addDensity.cls ≠ "java/lang/invoke/VarHandle" ∧ (parseMethodDescriptor yX2_addDensity.desc).map (fun d => d.parameters.length) = some 1 := by decide +kernel
set_option maxRecDepth 100000 in
set_option maxHeartbeats 4000000 in
theorem c_X2_addDensity (l : Launch) (D : va_G) (g : xG) (tb : List xQ) (hT : x_T g tb) {a0 : Nat} {a1 : Int32} (h0 : x_mk tb a0) {M M' : xM} (hf : f_X2_addDensity a0 a1 M = some M') :
    cV l D g tb yX2_addDensity cX2_addDensity 2 ({ frames := 0, cells := 0, slots := 0, locals := 0 } : Room) [.ref (g.1 2 a0), .int a1] M M' := by
  refine x_startV (own := RX2) (by decide +kernel) rfl rfl (Nat.le_of_ble_eq_true rfl) hT ?_
  intro p e s m args below meth c Q C0 hend
  unfold f_X2_addDensity at hf
  refine r_aload_n C0 (kk := 0) 0 rfl dX2_addDensity_0 ?_
  refine r_get2 C0 h0.1 5 (by decide) (v := .int (M (a0 + 8))) rfl rfl w1_149 dX2_addDensity_1 ?_
  refine r_aload_n C0 (kk := 0) 0 rfl dX2_addDensity_4 ?_
  refine r_get2 C0 h0.1 4 (by decide) (v := .ref (g.1 6 (a0 + 11))) rfl rfl w1_147 dX2_addDensity_5 ?_
  refine r_alen6 C0 h0.2.2.2.1 (v := 12) rfl dX2_addDensity_8 ?_
  refine r_icmp_ge C0 (tgt := 32) (by decide) dX2_addDensity_9 (fun q1 => ?_) (fun q1 => ?_)
  · have hf := ie_t hf q1
    exact hend hf dX2_addDensity_32
  · have hf := ie_f hf q1
    refine r_aload_n C0 (kk := 0) 0 rfl dX2_addDensity_12 ?_
    refine r_get2 C0 h0.1 4 (by decide) (v := .ref (g.1 6 (a0 + 11))) rfl rfl w1_147 dX2_addDensity_13 ?_
    refine r_aload_n C0 (kk := 0) 0 rfl dX2_addDensity_16 ?_
    refine r_get2 C0 h0.1 5 (by decide) (v := .int (M (a0 + 8))) rfl rfl w1_149 dX2_addDensity_17 ?_
    refine r_iload_n C0 (kk := 1) 1 rfl dX2_addDensity_20 ?_
    obtain ⟨q2, hf⟩ := gd_e hf
    refine r_iastc C0 h0.2.2.2.1 q2 rfl dX2_addDensity_21 ?_
    refine r_aload_n C0 (kk := 0) 0 rfl dX2_addDensity_22 ?_
    refine r_dup C0 rfl dX2_addDensity_23 ?_
    refine r_get2 C0 h0.1 5 (by decide) (v := .int ((upd M ((a0 + 11) + (M (a0 + 8)).toNatClampNeg) a1) (a0 + 8))) rfl rfl w1_149 dX2_addDensity_24 ?_
    refine r_iconst C0 (v := 1) dX2_addDensity_27 rfl ?_
    refine r_iadd C0 dX2_addDensity_28 ?_
    refine r_put2 C0 h0.1 5 rfl rfl w1_149 rfl rfl rfl dX2_addDensity_29 ?_
    exact hend hf dX2_addDensity_32
theorem dX3_keepArgument_0 : decode cX3_keepArgument 0 = .ok (.iload_n 1, 1) := by decide +kernel
theorem dX3_keepArgument_1 : decode cX3_keepArgument 1 = .ok (.ifCond .lt 19, 3) := by decide +kernel
theorem dX3_keepArgument_4 : decode cX3_keepArgument 4 = .ok (.iload_n 1, 1) := by decide +kernel
theorem dX3_keepArgument_5 : decode cX3_keepArgument 5 = .ok (.aload_n 0, 1) := by decide +kernel
theorem dX3_keepArgument_6 : decode cX3_keepArgument 6 = .ok (.getfield 19, 3) := by decide +kernel
theorem dX3_keepArgument_9 : decode cX3_keepArgument 9 = .ok (.arraylength, 1) := by decide +kernel
theorem dX3_keepArgument_10 : decode cX3_keepArgument 10 = .ok (.if_icmp .ge 10, 3) := by decide +kernel
theorem dX3_keepArgument_13 : decode cX3_keepArgument 13 = .ok (.aload_n 0, 1) := by decide +kernel
theorem dX3_keepArgument_14 : decode cX3_keepArgument 14 = .ok (.getfield 19, 3) := by decide +kernel
theorem dX3_keepArgument_17 : decode cX3_keepArgument 17 = .ok (.iload_n 1, 1) := by decide +kernel
theorem dX3_keepArgument_18 : decode cX3_keepArgument 18 = .ok (.iload_n 2, 1) := by decide +kernel
theorem dX3_keepArgument_19 : decode cX3_keepArgument 19 = .ok (.iastore, 1) := by decide +kernel
theorem dX3_keepArgument_20 : decode cX3_keepArgument 20 = .ok (.return_, 1) := by decide +kernel
theorem hd_X3_keepArgument : yX3_keepArgument.cls = RX3 ∧ yX3_keepArgument.cls ≠ "java/lang/invoke/MethodHandle" ∧ yX3_keepArgument.cls ≠ "java/lang/invoke/VarHandle" ∧ (parseMethodDescriptor yX3_keepArgument.desc).map (fun d => d.parameters.length) = some 2 := by decide +kernel
set_option maxRecDepth 100000 in
set_option maxHeartbeats 4000000 in
theorem c_X3_keepArgument (l : Launch) (D : va_G) (g : xG) (tb : List xQ) (hT : x_T g tb) {a1 : Int32} {a2 : Int32} (h0 : x_rd tb) {M M' : xM} (hf : f_X3_keepArgument a1 a2 M = some M') :
    cV l D g tb yX3_keepArgument cX3_keepArgument 3 ({ frames := 0, cells := 0, slots := 0, locals := 0 } : Room) [.ref (g.1 3 1777), .int a1, .int a2] M M' := by
  refine x_startV (own := RX3) (by decide +kernel) rfl rfl (Nat.le_of_ble_eq_true rfl) hT ?_
  intro p e s m args below meth c Q C0 hend
  unfold f_X3_keepArgument at hf
  refine r_iload_n C0 (kk := 1) 1 rfl dX3_keepArgument_0 ?_
  refine r_if_lt C0 (tgt := 20) (by decide) dX3_keepArgument_1 (fun q1 => ?_) (fun q1 => ?_)
  · have hf := ie_t hf q1
    exact hend hf dX3_keepArgument_20
  · have hf := ie_f hf q1
    refine r_iload_n C0 (kk := 1) 1 rfl dX3_keepArgument_4 ?_
    refine r_aload_n C0 (kk := 0) 0 rfl dX3_keepArgument_5 ?_
    refine r_get3 C0 h0.1 5 (by decide) (v := .ref (g.1 6 1787)) rfl rfl w1_212 dX3_keepArgument_6 ?_
    refine r_alen6 C0 h0.2.2 (v := 5) rfl dX3_keepArgument_9 ?_
    refine r_icmp_ge C0 (tgt := 20) (by decide) dX3_keepArgument_10 (fun q2 => ?_) (fun q2 => ?_)
    · have hf := ie_t hf q2
      exact hend hf dX3_keepArgument_20
    · have hf := ie_f hf q2
      refine r_aload_n C0 (kk := 0) 0 rfl dX3_keepArgument_13 ?_
      refine r_get3 C0 h0.1 5 (by decide) (v := .ref (g.1 6 1787)) rfl rfl w1_212 dX3_keepArgument_14 ?_
      refine r_iload_n C0 (kk := 1) 1 rfl dX3_keepArgument_17 ?_
      refine r_iload_n C0 (kk := 2) 2 rfl dX3_keepArgument_18 ?_
      obtain ⟨q3, hf⟩ := gd_e hf
      refine r_iastc C0 h0.2.2 q3 rfl dX3_keepArgument_19 ?_
      exact hend hf dX3_keepArgument_20
theorem dX3_lowest_0 : decode cX3_lowest 0 = .ok (.iload_n 0, 1) := by decide +kernel
theorem dX3_lowest_1 : decode cX3_lowest 1 = .ok (.bipush 99, 2) := by decide +kernel
theorem dX3_lowest_3 : decode cX3_lowest 3 = .ok (.if_icmp .eq 15, 3) := by decide +kernel
theorem dX3_lowest_6 : decode cX3_lowest 6 = .ok (.iload_n 0, 1) := by decide +kernel
theorem dX3_lowest_7 : decode cX3_lowest 7 = .ok (.bipush 118, 2) := by decide +kernel
theorem dX3_lowest_9 : decode cX3_lowest 9 = .ok (.if_icmp .eq 9, 3) := by decide +kernel
theorem dX3_lowest_12 : decode cX3_lowest 12 = .ok (.iload_n 0, 1) := by decide +kernel
theorem dX3_lowest_13 : decode cX3_lowest 13 = .ok (.bipush 110, 2) := by decide +kernel
theorem dX3_lowest_15 : decode cX3_lowest 15 = .ok (.if_icmp .ne 7, 3) := by decide +kernel
theorem dX3_lowest_18 : decode cX3_lowest 18 = .ok (.iconst 1, 1) := by decide +kernel
theorem dX3_lowest_19 : decode cX3_lowest 19 = .ok (.goto 4, 3) := by decide +kernel
theorem dX3_lowest_22 : decode cX3_lowest 22 = .ok (.iconst 0, 1) := by decide +kernel
theorem dX3_lowest_23 : decode cX3_lowest 23 = .ok (.ireturn, 1) := by decide +kernel
theorem hd_X3_lowest : yX3_lowest.cls ≠ "java/lang/invoke/MethodHandle" ∧ yX3_lowest.cls ≠ "java/lang/invoke/VarHandle" ∧ (parseMethodDescriptor yX3_lowest.desc).map (fun d => d.parameters.length) = some 1 := by decide +kernel
set_option maxRecDepth 100000 in
set_option maxHeartbeats 4000000 in
theorem c_X3_lowest (l : Launch) (D : va_G) (g : xG) (tb : List xQ) (hT : x_T g tb) {a0 : Int32}  {M : xM} {r : Int32} {M' : xM} (hf : f_X3_lowest a0 M = some (r, M')) :
    cI l D g tb yX3_lowest cX3_lowest 1 .int ({ frames := 0, cells := 0, slots := 0, locals := 0 } : Room) [.int a0] M r M' := by
  refine x_startI (own := RX3) (by decide +kernel) rfl rfl (Nat.le_of_ble_eq_true rfl) hT ?_
  intro p e s m args below meth c Q C0 hend
  unfold f_X3_lowest at hf
  refine r_iload_n C0 (kk := 0) 0 rfl dX3_lowest_0 ?_
  refine r_bipush C0 (v := 99) dX3_lowest_1 rfl ?_
  refine r_icmp_eq C0 (tgt := 18) (by decide) dX3_lowest_3 (fun q1 => ?_) (fun q1 => ?_)
  · have hf := ie_t hf q1
    refine r_iconst C0 (v := 1) dX3_lowest_18 rfl ?_
    refine r_goto C0 (tgt := 23) (by decide) dX3_lowest_19 ?_
    exact hend hf dX3_lowest_23
  · have hf := ie_f hf q1
    refine r_iload_n C0 (kk := 0) 0 rfl dX3_lowest_6 ?_
    refine r_bipush C0 (v := 118) dX3_lowest_7 rfl ?_
    refine r_icmp_eq C0 (tgt := 18) (by decide) dX3_lowest_9 (fun q2 => ?_) (fun q2 => ?_)
    · have hf := ie_t hf q2
      refine r_iconst C0 (v := 1) dX3_lowest_18 rfl ?_
      refine r_goto C0 (tgt := 23) (by decide) dX3_lowest_19 ?_
      exact hend hf dX3_lowest_23
    · have hf := ie_f hf q2
      refine r_iload_n C0 (kk := 0) 0 rfl dX3_lowest_12 ?_
      refine r_bipush C0 (v := 110) dX3_lowest_13 rfl ?_
      refine r_icmp_ne C0 (tgt := 22) (by decide) dX3_lowest_15 (fun q3 => ?_) (fun q3 => ?_)
      · have hf := ie_f hf q3
        refine r_iconst C0 (v := 0) dX3_lowest_22 rfl ?_
        exact hend hf dX3_lowest_23
      · have hf := ie_t hf q3
        refine r_iconst C0 (v := 1) dX3_lowest_18 rfl ?_
        refine r_goto C0 (tgt := 23) (by decide) dX3_lowest_19 ?_
        exact hend hf dX3_lowest_23
theorem dX3_highest_0 : decode cX3_highest 0 = .ok (.iload_n 0, 1) := by decide +kernel
theorem dX3_highest_1 : decode cX3_highest 1 = .ok (.tableswitch 140 98 118 #[123, 102, 137, 140, 140, 106, 140, 130, 140, 140, 140, 109, 140, 140, 99, 140, 140, 116, 140, 140, 113], 99) := by decide +kernel
theorem dX3_highest_100 : decode cX3_highest 100 = .ok (.bipush 99, 2) := by decide +kernel
theorem dX3_highest_102 : decode cX3_highest 102 = .ok (.ireturn, 1) := by decide +kernel
theorem dX3_highest_103 : decode cX3_highest 103 = .ok (.sipush 999, 3) := by decide +kernel
theorem dX3_highest_106 : decode cX3_highest 106 = .ok (.ireturn, 1) := by decide +kernel
theorem dX3_highest_107 : decode cX3_highest 107 = .ok (.bipush 99, 2) := by decide +kernel
theorem dX3_highest_109 : decode cX3_highest 109 = .ok (.ireturn, 1) := by decide +kernel
theorem dX3_highest_110 : decode cX3_highest 110 = .ok (.sipush 9999, 3) := by decide +kernel
theorem dX3_highest_113 : decode cX3_highest 113 = .ok (.ireturn, 1) := by decide +kernel
theorem dX3_highest_114 : decode cX3_highest 114 = .ok (.bipush 20, 2) := by decide +kernel
theorem dX3_highest_116 : decode cX3_highest 116 = .ok (.ireturn, 1) := by decide +kernel
theorem dX3_highest_117 : decode cX3_highest 117 = .ok (.aload_n 1, 1) := by decide +kernel
theorem dX3_highest_118 : decode cX3_highest 118 = .ok (.getfield 121, 3) := by decide +kernel
theorem dX3_highest_121 : decode cX3_highest 121 = .ok (.iconst 1, 1) := by decide +kernel
theorem dX3_highest_122 : decode cX3_highest 122 = .ok (.isub, 1) := by decide +kernel
theorem dX3_highest_123 : decode cX3_highest 123 = .ok (.ireturn, 1) := by decide +kernel
theorem dX3_highest_124 : decode cX3_highest 124 = .ok (.aload_n 1, 1) := by decide +kernel
theorem dX3_highest_125 : decode cX3_highest 125 = .ok (.getfield 127, 3) := by decide +kernel
theorem dX3_highest_128 : decode cX3_highest 128 = .ok (.iconst 1, 1) := by decide +kernel
theorem dX3_highest_129 : decode cX3_highest 129 = .ok (.isub, 1) := by decide +kernel
theorem dX3_highest_130 : decode cX3_highest 130 = .ok (.ireturn, 1) := by decide +kernel
theorem dX3_highest_131 : decode cX3_highest 131 = .ok (.aload_n 1, 1) := by decide +kernel
theorem dX3_highest_132 : decode cX3_highest 132 = .ok (.getfield 155, 3) := by decide +kernel
theorem dX3_highest_135 : decode cX3_highest 135 = .ok (.iconst 1, 1) := by decide +kernel
theorem dX3_highest_136 : decode cX3_highest 136 = .ok (.isub, 1) := by decide +kernel
theorem dX3_highest_137 : decode cX3_highest 137 = .ok (.ireturn, 1) := by decide +kernel
theorem dX3_highest_138 : decode cX3_highest 138 = .ok (.bipush 9, 2) := by decide +kernel
theorem dX3_highest_140 : decode cX3_highest 140 = .ok (.ireturn, 1) := by decide +kernel
theorem dX3_highest_141 : decode cX3_highest 141 = .ok (.bipush 100, 2) := by decide +kernel
theorem dX3_highest_143 : decode cX3_highest 143 = .ok (.ireturn, 1) := by decide +kernel
theorem hd_X3_highest : yX3_highest.cls ≠ "java/lang/invoke/MethodHandle" ∧ yX3_highest.cls ≠ "java/lang/invoke/VarHandle" ∧ (parseMethodDescriptor yX3_highest.desc).map (fun d => d.parameters.length) = some 2 := by decide +kernel
set_option maxRecDepth 100000 in
set_option maxHeartbeats 4000000 in
theorem c_X3_highest (l : Launch) (D : va_G) (g : xG) (tb : List xQ) (hT : x_T g tb) {a0 : Int32} {a1 : Nat} (h1 : x_mk tb a1) {M : xM} {r : Int32} {M' : xM} (hf : f_X3_highest a0 a1 M = some (r, M')) :
    cI l D g tb yX3_highest cX3_highest 2 .int ({ frames := 0, cells := 0, slots := 0, locals := 0 } : Room) [.int a0, .ref (g.1 2 a1)] M r M' := by
  refine x_startI (own := RX3) (by decide +kernel) rfl rfl (Nat.le_of_ble_eq_true rfl) hT ?_
  intro p e s m args below meth c Q C0 hend
  unfold f_X3_highest at hf
  refine r_iload_n C0 (kk := 0) 0 rfl dX3_highest_0 ?_
  rcases Decidable.em (a0 = 98) with q1 | q1
  · have hf := ie_t hf q1
    refine r_tsc C0 (cst := 98) q1 (by decide) (by decide) rfl (tgt := 124) (by decide) dX3_highest_1 ?_
    refine r_aload_n C0 (kk := 1) 1 rfl dX3_highest_124 ?_
    refine r_get2 C0 h1.1 3 (by decide) (v := .int (M (a1 + 10))) rfl rfl w1_145 dX3_highest_125 ?_
    refine r_iconst C0 (v := 1) dX3_highest_128 rfl ?_
    refine r_isub C0 dX3_highest_129 ?_
    exact hend hf dX3_highest_130
  have hf := ie_f hf q1
  have nq1 : Int32.toInt a0 ≠ 98 := fun h => q1 (Int32.toInt_inj.mp h)
  rcases Decidable.em (a0 = 99) with q2 | q2
  · have hf := ie_t hf q2
    refine r_tsc C0 (cst := 99) q2 (by decide) (by decide) rfl (tgt := 103) (by decide) dX3_highest_1 ?_
    refine r_sipush C0 (v := 999) dX3_highest_103 rfl ?_
    exact hend hf dX3_highest_106
  have hf := ie_f hf q2
  have nq2 : Int32.toInt a0 ≠ 99 := fun h => q2 (Int32.toInt_inj.mp h)
  rcases Decidable.em (a0 = 100) with q3 | q3
  · have hf := ie_t hf q3
    refine r_tsc C0 (cst := 100) q3 (by decide) (by decide) rfl (tgt := 138) (by decide) dX3_highest_1 ?_
    refine r_bipush C0 (v := 9) dX3_highest_138 rfl ?_
    exact hend hf dX3_highest_140
  have hf := ie_f hf q3
  have nq3 : Int32.toInt a0 ≠ 100 := fun h => q3 (Int32.toInt_inj.mp h)
  rcases Decidable.em (a0 = 101) with q4 | q4
  · have hf := ie_t hf q4
    refine r_tsc C0 (cst := 101) q4 (by decide) (by decide) rfl (tgt := 141) (by decide) dX3_highest_1 ?_
    refine r_bipush C0 (v := 100) dX3_highest_141 rfl ?_
    exact hend hf dX3_highest_143
  have hf := ie_f hf q4
  have nq4 : Int32.toInt a0 ≠ 101 := fun h => q4 (Int32.toInt_inj.mp h)
  rcases Decidable.em (a0 = 102) with q5 | q5
  · have hf := ie_t hf q5
    refine r_tsc C0 (cst := 102) q5 (by decide) (by decide) rfl (tgt := 141) (by decide) dX3_highest_1 ?_
    refine r_bipush C0 (v := 100) dX3_highest_141 rfl ?_
    exact hend hf dX3_highest_143
  have hf := ie_f hf q5
  have nq5 : Int32.toInt a0 ≠ 102 := fun h => q5 (Int32.toInt_inj.mp h)
  rcases Decidable.em (a0 = 103) with q6 | q6
  · have hf := ie_t hf q6
    refine r_tsc C0 (cst := 103) q6 (by decide) (by decide) rfl (tgt := 107) (by decide) dX3_highest_1 ?_
    refine r_bipush C0 (v := 99) dX3_highest_107 rfl ?_
    exact hend hf dX3_highest_109
  have hf := ie_f hf q6
  have nq6 : Int32.toInt a0 ≠ 103 := fun h => q6 (Int32.toInt_inj.mp h)
  rcases Decidable.em (a0 = 104) with q7 | q7
  · have hf := ie_t hf q7
    refine r_tsc C0 (cst := 104) q7 (by decide) (by decide) rfl (tgt := 141) (by decide) dX3_highest_1 ?_
    refine r_bipush C0 (v := 100) dX3_highest_141 rfl ?_
    exact hend hf dX3_highest_143
  have hf := ie_f hf q7
  have nq7 : Int32.toInt a0 ≠ 104 := fun h => q7 (Int32.toInt_inj.mp h)
  rcases Decidable.em (a0 = 105) with q8 | q8
  · have hf := ie_t hf q8
    refine r_tsc C0 (cst := 105) q8 (by decide) (by decide) rfl (tgt := 131) (by decide) dX3_highest_1 ?_
    refine r_aload_n C0 (kk := 1) 1 rfl dX3_highest_131 ?_
    refine r_get2 C0 h1.1 5 (by decide) (v := .int (M (a1 + 8))) rfl rfl w1_150 dX3_highest_132 ?_
    refine r_iconst C0 (v := 1) dX3_highest_135 rfl ?_
    refine r_isub C0 dX3_highest_136 ?_
    exact hend hf dX3_highest_137
  have hf := ie_f hf q8
  have nq8 : Int32.toInt a0 ≠ 105 := fun h => q8 (Int32.toInt_inj.mp h)
  rcases Decidable.em (a0 = 106) with q9 | q9
  · have hf := ie_t hf q9
    refine r_tsc C0 (cst := 106) q9 (by decide) (by decide) rfl (tgt := 141) (by decide) dX3_highest_1 ?_
    refine r_bipush C0 (v := 100) dX3_highest_141 rfl ?_
    exact hend hf dX3_highest_143
  have hf := ie_f hf q9
  have nq9 : Int32.toInt a0 ≠ 106 := fun h => q9 (Int32.toInt_inj.mp h)
  rcases Decidable.em (a0 = 107) with q10 | q10
  · have hf := ie_t hf q10
    refine r_tsc C0 (cst := 107) q10 (by decide) (by decide) rfl (tgt := 141) (by decide) dX3_highest_1 ?_
    refine r_bipush C0 (v := 100) dX3_highest_141 rfl ?_
    exact hend hf dX3_highest_143
  have hf := ie_f hf q10
  have nq10 : Int32.toInt a0 ≠ 107 := fun h => q10 (Int32.toInt_inj.mp h)
  rcases Decidable.em (a0 = 108) with q11 | q11
  · have hf := ie_t hf q11
    refine r_tsc C0 (cst := 108) q11 (by decide) (by decide) rfl (tgt := 141) (by decide) dX3_highest_1 ?_
    refine r_bipush C0 (v := 100) dX3_highest_141 rfl ?_
    exact hend hf dX3_highest_143
  have hf := ie_f hf q11
  have nq11 : Int32.toInt a0 ≠ 108 := fun h => q11 (Int32.toInt_inj.mp h)
  rcases Decidable.em (a0 = 109) with q12 | q12
  · have hf := ie_t hf q12
    refine r_tsc C0 (cst := 109) q12 (by decide) (by decide) rfl (tgt := 110) (by decide) dX3_highest_1 ?_
    refine r_sipush C0 (v := 9999) dX3_highest_110 rfl ?_
    exact hend hf dX3_highest_113
  have hf := ie_f hf q12
  have nq12 : Int32.toInt a0 ≠ 109 := fun h => q12 (Int32.toInt_inj.mp h)
  rcases Decidable.em (a0 = 110) with q13 | q13
  · have hf := ie_t hf q13
    refine r_tsc C0 (cst := 110) q13 (by decide) (by decide) rfl (tgt := 141) (by decide) dX3_highest_1 ?_
    refine r_bipush C0 (v := 100) dX3_highest_141 rfl ?_
    exact hend hf dX3_highest_143
  have hf := ie_f hf q13
  have nq13 : Int32.toInt a0 ≠ 110 := fun h => q13 (Int32.toInt_inj.mp h)
  rcases Decidable.em (a0 = 111) with q14 | q14
  · have hf := ie_t hf q14
    refine r_tsc C0 (cst := 111) q14 (by decide) (by decide) rfl (tgt := 141) (by decide) dX3_highest_1 ?_
    refine r_bipush C0 (v := 100) dX3_highest_141 rfl ?_
    exact hend hf dX3_highest_143
  have hf := ie_f hf q14
  have nq14 : Int32.toInt a0 ≠ 111 := fun h => q14 (Int32.toInt_inj.mp h)
  rcases Decidable.em (a0 = 112) with q15 | q15
  · have hf := ie_t hf q15
    refine r_tsc C0 (cst := 112) q15 (by decide) (by decide) rfl (tgt := 100) (by decide) dX3_highest_1 ?_
    refine r_bipush C0 (v := 99) dX3_highest_100 rfl ?_
    exact hend hf dX3_highest_102
  have hf := ie_f hf q15
  have nq15 : Int32.toInt a0 ≠ 112 := fun h => q15 (Int32.toInt_inj.mp h)
  rcases Decidable.em (a0 = 113) with q16 | q16
  · have hf := ie_t hf q16
    refine r_tsc C0 (cst := 113) q16 (by decide) (by decide) rfl (tgt := 141) (by decide) dX3_highest_1 ?_
    refine r_bipush C0 (v := 100) dX3_highest_141 rfl ?_
    exact hend hf dX3_highest_143
  have hf := ie_f hf q16
  have nq16 : Int32.toInt a0 ≠ 113 := fun h => q16 (Int32.toInt_inj.mp h)
  rcases Decidable.em (a0 = 114) with q17 | q17
  · have hf := ie_t hf q17
    refine r_tsc C0 (cst := 114) q17 (by decide) (by decide) rfl (tgt := 141) (by decide) dX3_highest_1 ?_
    refine r_bipush C0 (v := 100) dX3_highest_141 rfl ?_
    exact hend hf dX3_highest_143
  have hf := ie_f hf q17
  have nq17 : Int32.toInt a0 ≠ 114 := fun h => q17 (Int32.toInt_inj.mp h)
  rcases Decidable.em (a0 = 115) with q18 | q18
  · have hf := ie_t hf q18
    refine r_tsc C0 (cst := 115) q18 (by decide) (by decide) rfl (tgt := 117) (by decide) dX3_highest_1 ?_
    refine r_aload_n C0 (kk := 1) 1 rfl dX3_highest_117 ?_
    refine r_get2 C0 h1.1 1 (by decide) (v := .int (M (a1 + 9))) rfl rfl w1_140 dX3_highest_118 ?_
    refine r_iconst C0 (v := 1) dX3_highest_121 rfl ?_
    refine r_isub C0 dX3_highest_122 ?_
    exact hend hf dX3_highest_123
  have hf := ie_f hf q18
  have nq18 : Int32.toInt a0 ≠ 115 := fun h => q18 (Int32.toInt_inj.mp h)
  rcases Decidable.em (a0 = 116) with q19 | q19
  · have hf := ie_t hf q19
    refine r_tsc C0 (cst := 116) q19 (by decide) (by decide) rfl (tgt := 141) (by decide) dX3_highest_1 ?_
    refine r_bipush C0 (v := 100) dX3_highest_141 rfl ?_
    exact hend hf dX3_highest_143
  have hf := ie_f hf q19
  have nq19 : Int32.toInt a0 ≠ 116 := fun h => q19 (Int32.toInt_inj.mp h)
  rcases Decidable.em (a0 = 117) with q20 | q20
  · have hf := ie_t hf q20
    refine r_tsc C0 (cst := 117) q20 (by decide) (by decide) rfl (tgt := 141) (by decide) dX3_highest_1 ?_
    refine r_bipush C0 (v := 100) dX3_highest_141 rfl ?_
    exact hend hf dX3_highest_143
  have hf := ie_f hf q20
  have nq20 : Int32.toInt a0 ≠ 117 := fun h => q20 (Int32.toInt_inj.mp h)
  rcases Decidable.em (a0 = 118) with q21 | q21
  · have hf := ie_t hf q21
    refine r_tsc C0 (cst := 118) q21 (by decide) (by decide) rfl (tgt := 114) (by decide) dX3_highest_1 ?_
    refine r_bipush C0 (v := 20) dX3_highest_114 rfl ?_
    exact hend hf dX3_highest_116
  have hf := ie_f hf q21
  have nq21 : Int32.toInt a0 ≠ 118 := fun h => q21 (Int32.toInt_inj.mp h)
  refine r_tsd C0 (by omega) (tgt := 141) (by decide) dX3_highest_1 ?_
  refine r_bipush C0 (v := 100) dX3_highest_141 rfl ?_
  exact hend hf dX3_highest_143
theorem dX3_argument_0 : decode cX3_argument 0 = .ok (.iload_n 1, 1) := by decide +kernel
theorem dX3_argument_1 : decode cX3_argument 1 = .ok (.ifCond .lt 21, 3) := by decide +kernel
theorem dX3_argument_4 : decode cX3_argument 4 = .ok (.iload_n 1, 1) := by decide +kernel
theorem dX3_argument_5 : decode cX3_argument 5 = .ok (.aload_n 0, 1) := by decide +kernel
theorem dX3_argument_6 : decode cX3_argument 6 = .ok (.getfield 19, 3) := by decide +kernel
theorem dX3_argument_9 : decode cX3_argument 9 = .ok (.arraylength, 1) := by decide +kernel
theorem dX3_argument_10 : decode cX3_argument 10 = .ok (.if_icmp .ge 12, 3) := by decide +kernel
theorem dX3_argument_13 : decode cX3_argument 13 = .ok (.aload_n 0, 1) := by decide +kernel
theorem dX3_argument_14 : decode cX3_argument 14 = .ok (.getfield 19, 3) := by decide +kernel
theorem dX3_argument_17 : decode cX3_argument 17 = .ok (.iload_n 1, 1) := by decide +kernel
theorem dX3_argument_18 : decode cX3_argument 18 = .ok (.iaload, 1) := by decide +kernel
theorem dX3_argument_19 : decode cX3_argument 19 = .ok (.goto 4, 3) := by decide +kernel
theorem dX3_argument_22 : decode cX3_argument 22 = .ok (.iconst 0, 1) := by decide +kernel
theorem dX3_argument_23 : decode cX3_argument 23 = .ok (.ireturn, 1) := by decide +kernel
theorem hd_X3_argument : yX3_argument.cls = RX3 ∧ yX3_argument.cls ≠ "java/lang/invoke/MethodHandle" ∧ yX3_argument.cls ≠ "java/lang/invoke/VarHandle" ∧ (parseMethodDescriptor yX3_argument.desc).map (fun d => d.parameters.length) = some 1 := by decide +kernel
set_option maxRecDepth 100000 in
set_option maxHeartbeats 4000000 in
theorem c_X3_argument (l : Launch) (D : va_G) (g : xG) (tb : List xQ) (hT : x_T g tb) {a1 : Int32} (h0 : x_rd tb) {M : xM} {r : Int32} {M' : xM} (hf : f_X3_argument a1 M = some (r, M')) :
    cI l D g tb yX3_argument cX3_argument 2 .int ({ frames := 0, cells := 0, slots := 0, locals := 0 } : Room) [.ref (g.1 3 1777), .int a1] M r M' := by
  refine x_startI (own := RX3) (by decide +kernel) rfl rfl (Nat.le_of_ble_eq_true rfl) hT ?_
  intro p e s m args below meth c Q C0 hend
  unfold f_X3_argument at hf
  refine r_iload_n C0 (kk := 1) 1 rfl dX3_argument_0 ?_
  refine r_if_lt C0 (tgt := 22) (by decide) dX3_argument_1 (fun q1 => ?_) (fun q1 => ?_)
  · have hf := ie_t hf q1
    refine r_iconst C0 (v := 0) dX3_argument_22 rfl ?_
    exact hend hf dX3_argument_23
  · have hf := ie_f hf q1
    refine r_iload_n C0 (kk := 1) 1 rfl dX3_argument_4 ?_
    refine r_aload_n C0 (kk := 0) 0 rfl dX3_argument_5 ?_
    refine r_get3 C0 h0.1 5 (by decide) (v := .ref (g.1 6 1787)) rfl rfl w1_212 dX3_argument_6 ?_
    refine r_alen6 C0 h0.2.2 (v := 5) rfl dX3_argument_9 ?_
    refine r_icmp_ge C0 (tgt := 22) (by decide) dX3_argument_10 (fun q2 => ?_) (fun q2 => ?_)
    · have hf := ie_t hf q2
      refine r_iconst C0 (v := 0) dX3_argument_22 rfl ?_
      exact hend hf dX3_argument_23
    · have hf := ie_f hf q2
      refine r_aload_n C0 (kk := 0) 0 rfl dX3_argument_13 ?_
      refine r_get3 C0 h0.1 5 (by decide) (v := .ref (g.1 6 1787)) rfl rfl w1_212 dX3_argument_14 ?_
      refine r_iload_n C0 (kk := 1) 1 rfl dX3_argument_17 ?_
      obtain ⟨q3, hf⟩ := gd_e hf
      refine r_ialdc C0 h0.2.2 q3 rfl dX3_argument_18 ?_
      refine r_goto C0 (tgt := 23) (by decide) dX3_argument_19 ?_
      exact hend hf dX3_argument_23
theorem dX2_isStall_0 : decode cX2_isStall 0 = .ok (.iload_n 1, 1) := by decide +kernel
theorem dX2_isStall_1 : decode cX2_isStall 1 = .ok (.ifCond .lt 15, 3) := by decide +kernel
theorem dX2_isStall_4 : decode cX2_isStall 4 = .ok (.iload_n 1, 1) := by decide +kernel
theorem dX2_isStall_5 : decode cX2_isStall 5 = .ok (.aload_n 0, 1) := by decide +kernel
theorem dX2_isStall_6 : decode cX2_isStall 6 = .ok (.getfield 29, 3) := by decide +kernel
theorem dX2_isStall_9 : decode cX2_isStall 9 = .ok (.if_icmp .ge 7, 3) := by decide +kernel
theorem dX2_isStall_12 : decode cX2_isStall 12 = .ok (.iconst 1, 1) := by decide +kernel
theorem dX2_isStall_13 : decode cX2_isStall 13 = .ok (.goto 4, 3) := by decide +kernel
theorem dX2_isStall_16 : decode cX2_isStall 16 = .ok (.iconst 0, 1) := by decide +kernel
theorem dX2_isStall_17 : decode cX2_isStall 17 = .ok (.ireturn, 1) := by decide +kernel
theorem hd_X2_isStall : yX2_isStall.cls = RX2 ∧ yX2_isStall.cls ≠ "java/lang/invoke/MethodHandle" ∧ yX2_isStall.cls ≠ "java/lang/invoke/VarHandle" ∧ (parseMethodDescriptor yX2_isStall.desc).map (fun d => d.parameters.length) = some 1 := by decide +kernel
set_option maxRecDepth 100000 in
set_option maxHeartbeats 4000000 in
theorem c_X2_isStall (l : Launch) (D : va_G) (g : xG) (tb : List xQ) (hT : x_T g tb) {a0 : Nat} {a1 : Int32} (h0 : x_mk tb a0) {M : xM} {r : Int32} {M' : xM} (hf : f_X2_isStall a0 a1 M = some (r, M')) :
    cI l D g tb yX2_isStall cX2_isStall 2 .boolean ({ frames := 0, cells := 0, slots := 0, locals := 0 } : Room) [.ref (g.1 2 a0), .int a1] M r M' := by
  refine x_startZ (own := RX2) (by decide +kernel) rfl rfl (Nat.le_of_ble_eq_true rfl) hT ?_
  intro p e s m args below meth c Q C0 hend
  unfold f_X2_isStall at hf
  refine r_iload_n C0 (kk := 1) 1 rfl dX2_isStall_0 ?_
  refine r_if_lt C0 (tgt := 16) (by decide) dX2_isStall_1 (fun q1 => ?_) (fun q1 => ?_)
  · have hf := ie_t hf q1
    refine r_iconst C0 (v := 0) dX2_isStall_16 rfl ?_
    exact hend (by decide) hf dX2_isStall_17
  · have hf := ie_f hf q1
    refine r_iload_n C0 (kk := 1) 1 rfl dX2_isStall_4 ?_
    refine r_aload_n C0 (kk := 0) 0 rfl dX2_isStall_5 ?_
    refine r_get2 C0 h0.1 1 (by decide) (v := .int (M (a0 + 9))) rfl rfl w1_138 dX2_isStall_6 ?_
    refine r_icmp_ge C0 (tgt := 16) (by decide) dX2_isStall_9 (fun q2 => ?_) (fun q2 => ?_)
    · have hf := ie_t hf q2
      refine r_iconst C0 (v := 0) dX2_isStall_16 rfl ?_
      exact hend (by decide) hf dX2_isStall_17
    · have hf := ie_f hf q2
      refine r_iconst C0 (v := 1) dX2_isStall_12 rfl ?_
      refine r_goto C0 (tgt := 17) (by decide) dX2_isStall_13 ?_
      exact hend (by decide) hf dX2_isStall_17
theorem dX4_hasRoomFor_0 : decode cX4_hasRoomFor 0 = .ok (.aload_n 0, 1) := by decide +kernel
theorem dX4_hasRoomFor_1 : decode cX4_hasRoomFor 1 = .ok (.getfield 24, 3) := by decide +kernel
theorem dX4_hasRoomFor_4 : decode cX4_hasRoomFor 4 = .ok (.iload_n 1, 1) := by decide +kernel
theorem dX4_hasRoomFor_5 : decode cX4_hasRoomFor 5 = .ok (.iadd, 1) := by decide +kernel
theorem dX4_hasRoomFor_6 : decode cX4_hasRoomFor 6 = .ok (.bipush 99, 2) := by decide +kernel
theorem dX4_hasRoomFor_8 : decode cX4_hasRoomFor 8 = .ok (.if_icmp .gt 7, 3) := by decide +kernel
theorem dX4_hasRoomFor_11 : decode cX4_hasRoomFor 11 = .ok (.iconst 1, 1) := by decide +kernel
theorem dX4_hasRoomFor_12 : decode cX4_hasRoomFor 12 = .ok (.goto 4, 3) := by decide +kernel
theorem dX4_hasRoomFor_15 : decode cX4_hasRoomFor 15 = .ok (.iconst 0, 1) := by decide +kernel
theorem dX4_hasRoomFor_16 : decode cX4_hasRoomFor 16 = .ok (.ireturn, 1) := by decide +kernel
theorem hd_X4_hasRoomFor : yX4_hasRoomFor.cls = RX4 ∧ yX4_hasRoomFor.cls ≠ "java/lang/invoke/MethodHandle" ∧ yX4_hasRoomFor.cls ≠ "java/lang/invoke/VarHandle" ∧ (parseMethodDescriptor yX4_hasRoomFor.desc).map (fun d => d.parameters.length) = some 1 := by decide +kernel
set_option maxRecDepth 100000 in
set_option maxHeartbeats 4000000 in
theorem c_X4_hasRoomFor (l : Launch) (D : va_G) (g : xG) (tb : List xQ) (hT : x_T g tb) {a0 : Nat} {a1 : Int32} (h0 : ((0, a0, 0) : xQ) ∈ tb) {M : xM} {r : Int32} {M' : xM} (hf : f_X4_hasRoomFor a0 a1 M = some (r, M')) :
    cI l D g tb yX4_hasRoomFor cX4_hasRoomFor 2 .boolean ({ frames := 0, cells := 0, slots := 0, locals := 0 } : Room) [.ref (g.1 0 a0), .int a1] M r M' := by
  refine x_startZ (own := RX4) (by decide +kernel) rfl rfl (Nat.le_of_ble_eq_true rfl) hT ?_
  intro p e s m args below meth c Q C0 hend
  unfold f_X4_hasRoomFor at hf
  refine r_aload_n C0 (kk := 0) 0 rfl dX4_hasRoomFor_0 ?_
  refine r_get0 C0 h0 4 (by decide) (v := .int (M (a0 + 4))) rfl rfl w1_58 dX4_hasRoomFor_1 ?_
  refine r_iload_n C0 (kk := 1) 1 rfl dX4_hasRoomFor_4 ?_
  refine r_iadd C0 dX4_hasRoomFor_5 ?_
  refine r_bipush C0 (v := 99) dX4_hasRoomFor_6 rfl ?_
  refine r_icmp_gt C0 (tgt := 15) (by decide) dX4_hasRoomFor_8 (fun q1 => ?_) (fun q1 => ?_)
  · have hf := ie_t hf q1
    refine r_iconst C0 (v := 0) dX4_hasRoomFor_15 rfl ?_
    exact hend (by decide) hf dX4_hasRoomFor_16
  · have hf := ie_f hf q1
    refine r_iconst C0 (v := 1) dX4_hasRoomFor_11 rfl ?_
    refine r_goto C0 (tgt := 16) (by decide) dX4_hasRoomFor_12 ?_
    exact hend (by decide) hf dX4_hasRoomFor_16
theorem dX2_isBuyer_0 : decode cX2_isBuyer 0 = .ok (.iload_n 1, 1) := by decide +kernel
theorem dX2_isBuyer_1 : decode cX2_isBuyer 1 = .ok (.ifCond .lt 15, 3) := by decide +kernel
theorem dX2_isBuyer_4 : decode cX2_isBuyer 4 = .ok (.iload_n 1, 1) := by decide +kernel
theorem dX2_isBuyer_5 : decode cX2_isBuyer 5 = .ok (.aload_n 0, 1) := by decide +kernel
theorem dX2_isBuyer_6 : decode cX2_isBuyer 6 = .ok (.getfield 33, 3) := by decide +kernel
theorem dX2_isBuyer_9 : decode cX2_isBuyer 9 = .ok (.if_icmp .ge 7, 3) := by decide +kernel
theorem dX2_isBuyer_12 : decode cX2_isBuyer 12 = .ok (.iconst 1, 1) := by decide +kernel
theorem dX2_isBuyer_13 : decode cX2_isBuyer 13 = .ok (.goto 4, 3) := by decide +kernel
theorem dX2_isBuyer_16 : decode cX2_isBuyer 16 = .ok (.iconst 0, 1) := by decide +kernel
theorem dX2_isBuyer_17 : decode cX2_isBuyer 17 = .ok (.ireturn, 1) := by decide +kernel
theorem hd_X2_isBuyer : yX2_isBuyer.cls = RX2 ∧ yX2_isBuyer.cls ≠ "java/lang/invoke/MethodHandle" ∧ yX2_isBuyer.cls ≠ "java/lang/invoke/VarHandle" ∧ (parseMethodDescriptor yX2_isBuyer.desc).map (fun d => d.parameters.length) = some 1 := by decide +kernel
set_option maxRecDepth 100000 in
set_option maxHeartbeats 4000000 in
theorem c_X2_isBuyer (l : Launch) (D : va_G) (g : xG) (tb : List xQ) (hT : x_T g tb) {a0 : Nat} {a1 : Int32} (h0 : x_mk tb a0) {M : xM} {r : Int32} {M' : xM} (hf : f_X2_isBuyer a0 a1 M = some (r, M')) :
    cI l D g tb yX2_isBuyer cX2_isBuyer 2 .boolean ({ frames := 0, cells := 0, slots := 0, locals := 0 } : Room) [.ref (g.1 2 a0), .int a1] M r M' := by
  refine x_startZ (own := RX2) (by decide +kernel) rfl rfl (Nat.le_of_ble_eq_true rfl) hT ?_
  intro p e s m args below meth c Q C0 hend
  unfold f_X2_isBuyer at hf
  refine r_iload_n C0 (kk := 1) 1 rfl dX2_isBuyer_0 ?_
  refine r_if_lt C0 (tgt := 16) (by decide) dX2_isBuyer_1 (fun q1 => ?_) (fun q1 => ?_)
  · have hf := ie_t hf q1
    refine r_iconst C0 (v := 0) dX2_isBuyer_16 rfl ?_
    exact hend (by decide) hf dX2_isBuyer_17
  · have hf := ie_f hf q1
    refine r_iload_n C0 (kk := 1) 1 rfl dX2_isBuyer_4 ?_
    refine r_aload_n C0 (kk := 0) 0 rfl dX2_isBuyer_5 ?_
    refine r_get2 C0 h0.1 3 (by decide) (v := .int (M (a0 + 10))) rfl rfl w1_144 dX2_isBuyer_6 ?_
    refine r_icmp_ge C0 (tgt := 16) (by decide) dX2_isBuyer_9 (fun q2 => ?_) (fun q2 => ?_)
    · have hf := ie_t hf q2
      refine r_iconst C0 (v := 0) dX2_isBuyer_16 rfl ?_
      exact hend (by decide) hf dX2_isBuyer_17
    · have hf := ie_f hf q2
      refine r_iconst C0 (v := 1) dX2_isBuyer_12 rfl ?_
      refine r_goto C0 (tgt := 17) (by decide) dX2_isBuyer_13 ?_
      exact hend (by decide) hf dX2_isBuyer_17
theorem dX1_holds_0 : decode cX1_holds 0 = .ok (.aload_n 0, 1) := by decide +kernel
theorem dX1_holds_1 : decode cX1_holds 1 = .ok (.getfield 9, 3) := by decide +kernel
theorem dX1_holds_4 : decode cX1_holds 4 = .ok (.iconst (-1), 1) := by decide +kernel
theorem dX1_holds_5 : decode cX1_holds 5 = .ok (.if_icmp .eq 7, 3) := by decide +kernel
theorem dX1_holds_8 : decode cX1_holds 8 = .ok (.iconst 1, 1) := by decide +kernel
theorem dX1_holds_9 : decode cX1_holds 9 = .ok (.goto 4, 3) := by decide +kernel
theorem dX1_holds_12 : decode cX1_holds 12 = .ok (.iconst 0, 1) := by decide +kernel
theorem dX1_holds_13 : decode cX1_holds 13 = .ok (.ireturn, 1) := by decide +kernel
theorem hd_X1_holds : yX1_holds.cls = RX1 ∧ yX1_holds.cls ≠ "java/lang/invoke/MethodHandle" ∧ yX1_holds.cls ≠ "java/lang/invoke/VarHandle" ∧ (parseMethodDescriptor yX1_holds.desc).map (fun d => d.parameters.length) = some 0 := by decide +kernel
set_option maxRecDepth 100000 in
set_option maxHeartbeats 4000000 in
theorem c_X1_holds (l : Launch) (D : va_G) (g : xG) (tb : List xQ) (hT : x_T g tb) {a0 : Nat} (h0 : ((1, a0, 0) : xQ) ∈ tb) {M : xM} {r : Int32} {M' : xM} (hf : f_X1_holds a0 M = some (r, M')) :
    cI l D g tb yX1_holds cX1_holds 1 .boolean ({ frames := 0, cells := 0, slots := 0, locals := 0 } : Room) [.ref (g.1 1 a0)] M r M' := by
  refine x_startZ (own := RX1) (by decide +kernel) rfl rfl (Nat.le_of_ble_eq_true rfl) hT ?_
  intro p e s m args below meth c Q C0 hend
  unfold f_X1_holds at hf
  refine r_aload_n C0 (kk := 0) 0 rfl dX1_holds_0 ?_
  refine r_get1 C0 h0 4 (by decide) (v := .int (M (a0 + 4))) rfl rfl w1_108 dX1_holds_1 ?_
  refine r_iconst C0 (v := (-1)) dX1_holds_4 rfl ?_
  refine r_icmp_eq C0 (tgt := 12) (by decide) dX1_holds_5 (fun q1 => ?_) (fun q1 => ?_)
  · have hf := ie_t hf q1
    refine r_iconst C0 (v := 0) dX1_holds_12 rfl ?_
    exact hend (by decide) hf dX1_holds_13
  · have hf := ie_f hf q1
    refine r_iconst C0 (v := 1) dX1_holds_8 rfl ?_
    refine r_goto C0 (tgt := 13) (by decide) dX1_holds_9 ?_
    exact hend (by decide) hf dX1_holds_13
theorem dX4_reset_0 : decode cX4_reset 0 = .ok (.aload_n 0, 1) := by decide +kernel
theorem dX4_reset_1 : decode cX4_reset 1 = .ok (.iload_n 1, 1) := by decide +kernel
theorem dX4_reset_2 : decode cX4_reset 2 = .ok (.putfield 9, 3) := by decide +kernel
theorem dX4_reset_5 : decode cX4_reset 5 = .ok (.aload_n 0, 1) := by decide +kernel
theorem dX4_reset_6 : decode cX4_reset 6 = .ok (.iload_n 2, 1) := by decide +kernel
theorem dX4_reset_7 : decode cX4_reset 7 = .ok (.putfield 15, 3) := by decide +kernel
theorem dX4_reset_10 : decode cX4_reset 10 = .ok (.aload_n 0, 1) := by decide +kernel
theorem dX4_reset_11 : decode cX4_reset 11 = .ok (.iload_n 3, 1) := by decide +kernel
theorem dX4_reset_12 : decode cX4_reset 12 = .ok (.putfield 18, 3) := by decide +kernel
theorem dX4_reset_15 : decode cX4_reset 15 = .ok (.aload_n 0, 1) := by decide +kernel
theorem dX4_reset_16 : decode cX4_reset 16 = .ok (.iload 4, 2) := by decide +kernel
theorem dX4_reset_18 : decode cX4_reset 18 = .ok (.putfield 21, 3) := by decide +kernel
theorem dX4_reset_21 : decode cX4_reset 21 = .ok (.aload_n 0, 1) := by decide +kernel
theorem dX4_reset_22 : decode cX4_reset 22 = .ok (.iconst 0, 1) := by decide +kernel
theorem dX4_reset_23 : decode cX4_reset 23 = .ok (.putfield 24, 3) := by decide +kernel
theorem dX4_reset_26 : decode cX4_reset 26 = .ok (.aload_n 0, 1) := by decide +kernel
theorem dX4_reset_27 : decode cX4_reset 27 = .ok (.iconst 0, 1) := by decide +kernel
theorem dX4_reset_28 : decode cX4_reset 28 = .ok (.putfield 27, 3) := by decide +kernel
theorem dX4_reset_31 : decode cX4_reset 31 = .ok (.aload_n 0, 1) := by decide +kernel
theorem dX4_reset_32 : decode cX4_reset 32 = .ok (.iconst 0, 1) := by decide +kernel
theorem dX4_reset_33 : decode cX4_reset 33 = .ok (.putfield 30, 3) := by decide +kernel
theorem dX4_reset_36 : decode cX4_reset 36 = .ok (.aload_n 0, 1) := by decide +kernel
theorem dX4_reset_37 : decode cX4_reset 37 = .ok (.iconst 0, 1) := by decide +kernel
theorem dX4_reset_38 : decode cX4_reset 38 = .ok (.putfield 33, 3) := by decide +kernel
theorem dX4_reset_41 : decode cX4_reset 41 = .ok (.aload_n 0, 1) := by decide +kernel
theorem dX4_reset_42 : decode cX4_reset 42 = .ok (.iconst 0, 1) := by decide +kernel
theorem dX4_reset_43 : decode cX4_reset 43 = .ok (.putfield 36, 3) := by decide +kernel
theorem dX4_reset_46 : decode cX4_reset 46 = .ok (.return_, 1) := by decide +kernel
theorem hd_X4_reset : yX4_reset.cls = RX4 ∧ yX4_reset.cls ≠ "java/lang/invoke/MethodHandle" ∧ yX4_reset.cls ≠ "java/lang/invoke/VarHandle" ∧ (parseMethodDescriptor yX4_reset.desc).map (fun d => d.parameters.length) = some 4 := by decide +kernel
set_option maxRecDepth 100000 in
set_option maxHeartbeats 4000000 in
theorem c_X4_reset (l : Launch) (D : va_G) (g : xG) (tb : List xQ) (hT : x_T g tb) {a0 : Nat} {a1 : Int32} {a2 : Int32} {a3 : Int32} {a4 : Int32} (h0 : ((0, a0, 0) : xQ) ∈ tb) {M M' : xM} (hf : f_X4_reset a0 a1 a2 a3 a4 M = some M') :
    cV l D g tb yX4_reset cX4_reset 5 ({ frames := 0, cells := 0, slots := 0, locals := 0 } : Room) [.ref (g.1 0 a0), .int a1, .int a2, .int a3, .int a4] M M' := by
  refine x_startV (own := RX4) (by decide +kernel) rfl rfl (Nat.le_of_ble_eq_true rfl) hT ?_
  intro p e s m args below meth c Q C0 hend
  unfold f_X4_reset at hf
  refine r_aload_n C0 (kk := 0) 0 rfl dX4_reset_0 ?_
  refine r_iload_n C0 (kk := 1) 1 rfl dX4_reset_1 ?_
  refine r_put0 C0 h0 0 rfl rfl w1_45 rfl rfl rfl dX4_reset_2 ?_
  refine r_aload_n C0 (kk := 0) 0 rfl dX4_reset_5 ?_
  refine r_iload_n C0 (kk := 2) 2 rfl dX4_reset_6 ?_
  refine r_put0 C0 h0 1 rfl rfl w1_48 rfl rfl rfl dX4_reset_7 ?_
  refine r_aload_n C0 (kk := 0) 0 rfl dX4_reset_10 ?_
  refine r_iload_n C0 (kk := 3) 3 rfl dX4_reset_11 ?_
  refine r_put0 C0 h0 2 rfl rfl w1_51 rfl rfl rfl dX4_reset_12 ?_
  refine r_aload_n C0 (kk := 0) 0 rfl dX4_reset_15 ?_
  refine r_iload C0 4 rfl dX4_reset_16 ?_
  refine r_put0 C0 h0 3 rfl rfl w1_54 rfl rfl rfl dX4_reset_18 ?_
  refine r_aload_n C0 (kk := 0) 0 rfl dX4_reset_21 ?_
  refine r_iconst C0 (v := 0) dX4_reset_22 rfl ?_
  refine r_put0 C0 h0 4 rfl rfl w1_58 rfl rfl rfl dX4_reset_23 ?_
  refine r_aload_n C0 (kk := 0) 0 rfl dX4_reset_26 ?_
  refine r_iconst C0 (v := 0) dX4_reset_27 rfl ?_
  refine r_put0 C0 h0 5 rfl rfl w1_62 rfl rfl rfl dX4_reset_28 ?_
  refine r_aload_n C0 (kk := 0) 0 rfl dX4_reset_31 ?_
  refine r_iconst C0 (v := 0) dX4_reset_32 rfl ?_
  refine r_put0 C0 h0 6 rfl rfl w1_66 rfl rfl rfl dX4_reset_33 ?_
  refine r_aload_n C0 (kk := 0) 0 rfl dX4_reset_36 ?_
  refine r_iconst C0 (v := 0) dX4_reset_37 rfl ?_
  refine r_put0 C0 h0 7 rfl rfl w1_68 rfl rfl rfl dX4_reset_38 ?_
  refine r_aload_n C0 (kk := 0) 0 rfl dX4_reset_41 ?_
  refine r_iconst C0 (v := 0) dX4_reset_42 rfl ?_
  refine r_put0 C0 h0 8 rfl rfl w1_72 rfl rfl rfl dX4_reset_43 ?_
  exact hend hf dX4_reset_46
theorem dX4_receive_0 : decode cX4_receive 0 = .ok (.aload_n 0, 1) := by decide +kernel
theorem dX4_receive_1 : decode cX4_receive 1 = .ok (.dup, 1) := by decide +kernel
theorem dX4_receive_2 : decode cX4_receive 2 = .ok (.getfield 24, 3) := by decide +kernel
theorem dX4_receive_5 : decode cX4_receive 5 = .ok (.iload_n 1, 1) := by decide +kernel
theorem dX4_receive_6 : decode cX4_receive 6 = .ok (.iadd, 1) := by decide +kernel
theorem dX4_receive_7 : decode cX4_receive 7 = .ok (.putfield 24, 3) := by decide +kernel
theorem dX4_receive_10 : decode cX4_receive 10 = .ok (.aload_n 0, 1) := by decide +kernel
theorem dX4_receive_11 : decode cX4_receive 11 = .ok (.dup, 1) := by decide +kernel
theorem dX4_receive_12 : decode cX4_receive 12 = .ok (.getfield 36, 3) := by decide +kernel
theorem dX4_receive_15 : decode cX4_receive 15 = .ok (.iload_n 1, 1) := by decide +kernel
theorem dX4_receive_16 : decode cX4_receive 16 = .ok (.iadd, 1) := by decide +kernel
theorem dX4_receive_17 : decode cX4_receive 17 = .ok (.putfield 36, 3) := by decide +kernel
theorem dX4_receive_20 : decode cX4_receive 20 = .ok (.return_, 1) := by decide +kernel
theorem hd_X4_receive : yX4_receive.cls = RX4 ∧ yX4_receive.cls ≠ "java/lang/invoke/MethodHandle" ∧ yX4_receive.cls ≠ "java/lang/invoke/VarHandle" ∧ (parseMethodDescriptor yX4_receive.desc).map (fun d => d.parameters.length) = some 1 := by decide +kernel
set_option maxRecDepth 100000 in
set_option maxHeartbeats 4000000 in
theorem c_X4_receive (l : Launch) (D : va_G) (g : xG) (tb : List xQ) (hT : x_T g tb) {a0 : Nat} {a1 : Int32} (h0 : ((0, a0, 0) : xQ) ∈ tb) {M M' : xM} (hf : f_X4_receive a0 a1 M = some M') :
    cV l D g tb yX4_receive cX4_receive 2 ({ frames := 0, cells := 0, slots := 0, locals := 0 } : Room) [.ref (g.1 0 a0), .int a1] M M' := by
  refine x_startV (own := RX4) (by decide +kernel) rfl rfl (Nat.le_of_ble_eq_true rfl) hT ?_
  intro p e s m args below meth c Q C0 hend
  unfold f_X4_receive at hf
  refine r_aload_n C0 (kk := 0) 0 rfl dX4_receive_0 ?_
  refine r_dup C0 rfl dX4_receive_1 ?_
  refine r_get0 C0 h0 4 (by decide) (v := .int (M (a0 + 4))) rfl rfl w1_58 dX4_receive_2 ?_
  refine r_iload_n C0 (kk := 1) 1 rfl dX4_receive_5 ?_
  refine r_iadd C0 dX4_receive_6 ?_
  refine r_put0 C0 h0 4 rfl rfl w1_58 rfl rfl rfl dX4_receive_7 ?_
  refine r_aload_n C0 (kk := 0) 0 rfl dX4_receive_10 ?_
  refine r_dup C0 rfl dX4_receive_11 ?_
  refine r_get0 C0 h0 8 (by decide) (v := .int ((upd M (a0 + 4) ((M (a0 + 4)) + a1)) (a0 + 8))) rfl rfl w1_72 dX4_receive_12 ?_
  refine r_iload_n C0 (kk := 1) 1 rfl dX4_receive_15 ?_
  refine r_iadd C0 dX4_receive_16 ?_
  refine r_put0 C0 h0 8 rfl rfl w1_72 rfl rfl rfl dX4_receive_17 ?_
  exact hend hf dX4_receive_20
theorem dX1_reset_0 : decode cX1_reset 0 = .ok (.aload_n 0, 1) := by decide +kernel
theorem dX1_reset_1 : decode cX1_reset 1 = .ok (.iload_n 1, 1) := by decide +kernel
theorem dX1_reset_2 : decode cX1_reset 2 = .ok (.putfield 15, 3) := by decide +kernel
theorem dX1_reset_5 : decode cX1_reset 5 = .ok (.aload_n 0, 1) := by decide +kernel
theorem dX1_reset_6 : decode cX1_reset 6 = .ok (.iload_n 2, 1) := by decide +kernel
theorem dX1_reset_7 : decode cX1_reset 7 = .ok (.putfield 18, 3) := by decide +kernel
theorem dX1_reset_10 : decode cX1_reset 10 = .ok (.aload_n 0, 1) := by decide +kernel
theorem dX1_reset_11 : decode cX1_reset 11 = .ok (.iload_n 3, 1) := by decide +kernel
theorem dX1_reset_12 : decode cX1_reset 12 = .ok (.putfield 21, 3) := by decide +kernel
theorem dX1_reset_15 : decode cX1_reset 15 = .ok (.aload_n 0, 1) := by decide +kernel
theorem dX1_reset_16 : decode cX1_reset 16 = .ok (.iload 4, 2) := by decide +kernel
theorem dX1_reset_18 : decode cX1_reset 18 = .ok (.putfield 24, 3) := by decide +kernel
theorem dX1_reset_21 : decode cX1_reset 21 = .ok (.aload_n 0, 1) := by decide +kernel
theorem dX1_reset_22 : decode cX1_reset 22 = .ok (.iconst (-1), 1) := by decide +kernel
theorem dX1_reset_23 : decode cX1_reset 23 = .ok (.putfield 9, 3) := by decide +kernel
theorem dX1_reset_26 : decode cX1_reset 26 = .ok (.aload_n 0, 1) := by decide +kernel
theorem dX1_reset_27 : decode cX1_reset 27 = .ok (.iconst 0, 1) := by decide +kernel
theorem dX1_reset_28 : decode cX1_reset 28 = .ok (.putfield 27, 3) := by decide +kernel
theorem dX1_reset_31 : decode cX1_reset 31 = .ok (.aload_n 0, 1) := by decide +kernel
theorem dX1_reset_32 : decode cX1_reset 32 = .ok (.iconst 0, 1) := by decide +kernel
theorem dX1_reset_33 : decode cX1_reset 33 = .ok (.putfield 30, 3) := by decide +kernel
theorem dX1_reset_36 : decode cX1_reset 36 = .ok (.aload_n 0, 1) := by decide +kernel
theorem dX1_reset_37 : decode cX1_reset 37 = .ok (.iconst 0, 1) := by decide +kernel
theorem dX1_reset_38 : decode cX1_reset 38 = .ok (.putfield 33, 3) := by decide +kernel
theorem dX1_reset_41 : decode cX1_reset 41 = .ok (.return_, 1) := by decide +kernel
theorem hd_X1_reset : yX1_reset.cls = RX1 ∧ yX1_reset.cls ≠ "java/lang/invoke/MethodHandle" ∧ yX1_reset.cls ≠ "java/lang/invoke/VarHandle" ∧ (parseMethodDescriptor yX1_reset.desc).map (fun d => d.parameters.length) = some 4 := by decide +kernel
set_option maxRecDepth 100000 in
set_option maxHeartbeats 4000000 in
theorem c_X1_reset (l : Launch) (D : va_G) (g : xG) (tb : List xQ) (hT : x_T g tb) {a0 : Nat} {a1 : Int32} {a2 : Int32} {a3 : Int32} {a4 : Int32} (h0 : ((1, a0, 0) : xQ) ∈ tb) {M M' : xM} (hf : f_X1_reset a0 a1 a2 a3 a4 M = some M') :
    cV l D g tb yX1_reset cX1_reset 5 ({ frames := 0, cells := 0, slots := 0, locals := 0 } : Room) [.ref (g.1 1 a0), .int a1, .int a2, .int a3, .int a4] M M' := by
  refine x_startV (own := RX1) (by decide +kernel) rfl rfl (Nat.le_of_ble_eq_true rfl) hT ?_
  intro p e s m args below meth c Q C0 hend
  unfold f_X1_reset at hf
  refine r_aload_n C0 (kk := 0) 0 rfl dX1_reset_0 ?_
  refine r_iload_n C0 (kk := 1) 1 rfl dX1_reset_1 ?_
  refine r_put1 C0 h0 0 rfl rfl w1_99 rfl rfl rfl dX1_reset_2 ?_
  refine r_aload_n C0 (kk := 0) 0 rfl dX1_reset_5 ?_
  refine r_iload_n C0 (kk := 2) 2 rfl dX1_reset_6 ?_
  refine r_put1 C0 h0 1 rfl rfl w1_102 rfl rfl rfl dX1_reset_7 ?_
  refine r_aload_n C0 (kk := 0) 0 rfl dX1_reset_10 ?_
  refine r_iload_n C0 (kk := 3) 3 rfl dX1_reset_11 ?_
  refine r_put1 C0 h0 2 rfl rfl w1_104 rfl rfl rfl dX1_reset_12 ?_
  refine r_aload_n C0 (kk := 0) 0 rfl dX1_reset_15 ?_
  refine r_iload C0 4 rfl dX1_reset_16 ?_
  refine r_put1 C0 h0 3 rfl rfl w1_106 rfl rfl rfl dX1_reset_18 ?_
  refine r_aload_n C0 (kk := 0) 0 rfl dX1_reset_21 ?_
  refine r_iconst C0 (v := (-1)) dX1_reset_22 rfl ?_
  refine r_put1 C0 h0 4 rfl rfl w1_108 rfl rfl rfl dX1_reset_23 ?_
  refine r_aload_n C0 (kk := 0) 0 rfl dX1_reset_26 ?_
  refine r_iconst C0 (v := 0) dX1_reset_27 rfl ?_
  refine r_put1 C0 h0 5 rfl rfl w1_111 rfl rfl rfl dX1_reset_28 ?_
  refine r_aload_n C0 (kk := 0) 0 rfl dX1_reset_31 ?_
  refine r_iconst C0 (v := 0) dX1_reset_32 rfl ?_
  refine r_put1 C0 h0 6 rfl rfl w1_113 rfl rfl rfl dX1_reset_33 ?_
  refine r_aload_n C0 (kk := 0) 0 rfl dX1_reset_36 ?_
  refine r_iconst C0 (v := 0) dX1_reset_37 rfl ?_
  refine r_put1 C0 h0 7 rfl rfl w1_116 rfl rfl rfl dX1_reset_38 ?_
  exact hend hf dX1_reset_41
theorem dX1_letGo_0 : decode cX1_letGo 0 = .ok (.aload_n 0, 1) := by decide +kernel
theorem dX1_letGo_1 : decode cX1_letGo 1 = .ok (.iconst (-1), 1) := by decide +kernel
theorem dX1_letGo_2 : decode cX1_letGo 2 = .ok (.putfield 9, 3) := by decide +kernel
theorem dX1_letGo_5 : decode cX1_letGo 5 = .ok (.aload_n 0, 1) := by decide +kernel
theorem dX1_letGo_6 : decode cX1_letGo 6 = .ok (.iconst 0, 1) := by decide +kernel
theorem dX1_letGo_7 : decode cX1_letGo 7 = .ok (.putfield 27, 3) := by decide +kernel
theorem dX1_letGo_10 : decode cX1_letGo 10 = .ok (.return_, 1) := by decide +kernel
theorem hd_X1_letGo : yX1_letGo.cls = RX1 ∧ yX1_letGo.cls ≠ "java/lang/invoke/MethodHandle" ∧ yX1_letGo.cls ≠ "java/lang/invoke/VarHandle" ∧ (parseMethodDescriptor yX1_letGo.desc).map (fun d => d.parameters.length) = some 0 := by decide +kernel
set_option maxRecDepth 100000 in
set_option maxHeartbeats 4000000 in
theorem c_X1_letGo (l : Launch) (D : va_G) (g : xG) (tb : List xQ) (hT : x_T g tb) {a0 : Nat} (h0 : ((1, a0, 0) : xQ) ∈ tb) {M M' : xM} (hf : f_X1_letGo a0 M = some M') :
    cV l D g tb yX1_letGo cX1_letGo 1 ({ frames := 0, cells := 0, slots := 0, locals := 0 } : Room) [.ref (g.1 1 a0)] M M' := by
  refine x_startV (own := RX1) (by decide +kernel) rfl rfl (Nat.le_of_ble_eq_true rfl) hT ?_
  intro p e s m args below meth c Q C0 hend
  unfold f_X1_letGo at hf
  refine r_aload_n C0 (kk := 0) 0 rfl dX1_letGo_0 ?_
  refine r_iconst C0 (v := (-1)) dX1_letGo_1 rfl ?_
  refine r_put1 C0 h0 4 rfl rfl w1_108 rfl rfl rfl dX1_letGo_2 ?_
  refine r_aload_n C0 (kk := 0) 0 rfl dX1_letGo_5 ?_
  refine r_iconst C0 (v := 0) dX1_letGo_6 rfl ?_
  refine r_put1 C0 h0 5 rfl rfl w1_111 rfl rfl rfl dX1_letGo_7 ?_
  exact hend hf dX1_letGo_10
theorem dX1_avoid_0 : decode cX1_avoid 0 = .ok (.aload_n 0, 1) := by decide +kernel
theorem dX1_avoid_1 : decode cX1_avoid 1 = .ok (.dup, 1) := by decide +kernel
theorem dX1_avoid_2 : decode cX1_avoid 2 = .ok (.getfield 30, 3) := by decide +kernel
theorem dX1_avoid_5 : decode cX1_avoid 5 = .ok (.iconst 1, 1) := by decide +kernel
theorem dX1_avoid_6 : decode cX1_avoid 6 = .ok (.iload_n 1, 1) := by decide +kernel
theorem dX1_avoid_7 : decode cX1_avoid 7 = .ok (.ishl, 1) := by decide +kernel
theorem dX1_avoid_8 : decode cX1_avoid 8 = .ok (.ior, 1) := by decide +kernel
theorem dX1_avoid_9 : decode cX1_avoid 9 = .ok (.putfield 30, 3) := by decide +kernel
theorem dX1_avoid_12 : decode cX1_avoid 12 = .ok (.return_, 1) := by decide +kernel
theorem hd_X1_avoid : yX1_avoid.cls = RX1 ∧ yX1_avoid.cls ≠ "java/lang/invoke/MethodHandle" ∧ yX1_avoid.cls ≠ "java/lang/invoke/VarHandle" ∧ (parseMethodDescriptor yX1_avoid.desc).map (fun d => d.parameters.length) = some 1 := by decide +kernel
set_option maxRecDepth 100000 in
set_option maxHeartbeats 4000000 in
theorem c_X1_avoid (l : Launch) (D : va_G) (g : xG) (tb : List xQ) (hT : x_T g tb) {a0 : Nat} {a1 : Int32} (h0 : ((1, a0, 0) : xQ) ∈ tb) {M M' : xM} (hf : f_X1_avoid a0 a1 M = some M') :
    cV l D g tb yX1_avoid cX1_avoid 2 ({ frames := 0, cells := 0, slots := 0, locals := 0 } : Room) [.ref (g.1 1 a0), .int a1] M M' := by
  refine x_startV (own := RX1) (by decide +kernel) rfl rfl (Nat.le_of_ble_eq_true rfl) hT ?_
  intro p e s m args below meth c Q C0 hend
  unfold f_X1_avoid at hf
  refine r_aload_n C0 (kk := 0) 0 rfl dX1_avoid_0 ?_
  refine r_dup C0 rfl dX1_avoid_1 ?_
  refine r_get1 C0 h0 6 (by decide) (v := .int (M (a0 + 6))) rfl rfl w1_113 dX1_avoid_2 ?_
  refine r_iconst C0 (v := 1) dX1_avoid_5 rfl ?_
  refine r_iload_n C0 (kk := 1) 1 rfl dX1_avoid_6 ?_
  refine r_ishl C0 dX1_avoid_7 ?_
  refine r_ior C0 dX1_avoid_8 ?_
  refine r_put1 C0 h0 6 rfl rfl w1_113 rfl rfl rfl dX1_avoid_9 ?_
  exact hend hf dX1_avoid_12
theorem dX2_densityIn_0 : decode cX2_densityIn 0 = .ok (.iload_n 1, 1) := by decide +kernel
theorem dX2_densityIn_1 : decode cX2_densityIn 1 = .ok (.ifCond .lt 23, 3) := by decide +kernel
theorem dX2_densityIn_4 : decode cX2_densityIn 4 = .ok (.aload_n 0, 1) := by decide +kernel
theorem dX2_densityIn_5 : decode cX2_densityIn 5 = .ok (.getfield 36, 3) := by decide +kernel
theorem dX2_densityIn_8 : decode cX2_densityIn 8 = .ok (.iconst 1, 1) := by decide +kernel
theorem dX2_densityIn_9 : decode cX2_densityIn 9 = .ok (.if_icmp .lt 15, 3) := by decide +kernel
theorem dX2_densityIn_12 : decode cX2_densityIn 12 = .ok (.aload_n 0, 1) := by decide +kernel
theorem dX2_densityIn_13 : decode cX2_densityIn 13 = .ok (.getfield 36, 3) := by decide +kernel
theorem dX2_densityIn_16 : decode cX2_densityIn 16 = .ok (.aload_n 0, 1) := by decide +kernel
theorem dX2_densityIn_17 : decode cX2_densityIn 17 = .ok (.getfield 23, 3) := by decide +kernel
theorem dX2_densityIn_20 : decode cX2_densityIn 20 = .ok (.arraylength, 1) := by decide +kernel
theorem dX2_densityIn_21 : decode cX2_densityIn 21 = .ok (.if_icmp .le 5, 3) := by decide +kernel
theorem dX2_densityIn_24 : decode cX2_densityIn 24 = .ok (.iconst 0, 1) := by decide +kernel
theorem dX2_densityIn_25 : decode cX2_densityIn 25 = .ok (.ireturn, 1) := by decide +kernel
theorem dX2_densityIn_26 : decode cX2_densityIn 26 = .ok (.aload_n 0, 1) := by decide +kernel
theorem dX2_densityIn_27 : decode cX2_densityIn 27 = .ok (.getfield 23, 3) := by decide +kernel
theorem dX2_densityIn_30 : decode cX2_densityIn 30 = .ok (.iload_n 1, 1) := by decide +kernel
theorem dX2_densityIn_31 : decode cX2_densityIn 31 = .ok (.iconst 5, 1) := by decide +kernel
theorem dX2_densityIn_32 : decode cX2_densityIn 32 = .ok (.idiv, 1) := by decide +kernel
theorem dX2_densityIn_33 : decode cX2_densityIn 33 = .ok (.aload_n 0, 1) := by decide +kernel
theorem dX2_densityIn_34 : decode cX2_densityIn 34 = .ok (.getfield 36, 3) := by decide +kernel
theorem dX2_densityIn_37 : decode cX2_densityIn 37 = .ok (.irem, 1) := by decide +kernel
theorem dX2_densityIn_38 : decode cX2_densityIn 38 = .ok (.iaload, 1) := by decide +kernel
theorem dX2_densityIn_39 : decode cX2_densityIn 39 = .ok (.ireturn, 1) := by decide +kernel
theorem hd_X2_densityIn : yX2_densityIn.cls = RX2 ∧ yX2_densityIn.cls ≠ "java/lang/invoke/MethodHandle" ∧ yX2_densityIn.cls ≠ "java/lang/invoke/VarHandle" ∧ (parseMethodDescriptor yX2_densityIn.desc).map (fun d => d.parameters.length) = some 1 := by decide +kernel
set_option maxRecDepth 100000 in
set_option maxHeartbeats 4000000 in
theorem c_X2_densityIn (l : Launch) (D : va_G) (g : xG) (tb : List xQ) (hT : x_T g tb) {a0 : Nat} {a1 : Int32} (h0 : x_mk tb a0) {M : xM} {r : Int32} {M' : xM} (hf : f_X2_densityIn a0 a1 M = some (r, M')) :
    cI l D g tb yX2_densityIn cX2_densityIn 2 .int ({ frames := 0, cells := 0, slots := 0, locals := 0 } : Room) [.ref (g.1 2 a0), .int a1] M r M' := by
  refine x_startI (own := RX2) (by decide +kernel) rfl rfl (Nat.le_of_ble_eq_true rfl) hT ?_
  intro p e s m args below meth c Q C0 hend
  unfold f_X2_densityIn at hf
  refine r_iload_n C0 (kk := 1) 1 rfl dX2_densityIn_0 ?_
  refine r_if_lt C0 (tgt := 24) (by decide) dX2_densityIn_1 (fun q1 => ?_) (fun q1 => ?_)
  · have hf := ie_t hf q1
    refine r_iconst C0 (v := 0) dX2_densityIn_24 rfl ?_
    exact hend hf dX2_densityIn_25
  · have hf := ie_f hf q1
    refine r_aload_n C0 (kk := 0) 0 rfl dX2_densityIn_4 ?_
    refine r_get2 C0 h0.1 5 (by decide) (v := .int (M (a0 + 8))) rfl rfl w1_149 dX2_densityIn_5 ?_
    refine r_iconst C0 (v := 1) dX2_densityIn_8 rfl ?_
    refine r_icmp_lt C0 (tgt := 24) (by decide) dX2_densityIn_9 (fun q2 => ?_) (fun q2 => ?_)
    · have hf := ie_t hf q2
      refine r_iconst C0 (v := 0) dX2_densityIn_24 rfl ?_
      exact hend hf dX2_densityIn_25
    · have hf := ie_f hf q2
      refine r_aload_n C0 (kk := 0) 0 rfl dX2_densityIn_12 ?_
      refine r_get2 C0 h0.1 5 (by decide) (v := .int (M (a0 + 8))) rfl rfl w1_149 dX2_densityIn_13 ?_
      refine r_aload_n C0 (kk := 0) 0 rfl dX2_densityIn_16 ?_
      refine r_get2 C0 h0.1 4 (by decide) (v := .ref (g.1 6 (a0 + 11))) rfl rfl w1_147 dX2_densityIn_17 ?_
      refine r_alen6 C0 h0.2.2.2.1 (v := 12) rfl dX2_densityIn_20 ?_
      refine r_icmp_le C0 (tgt := 26) (by decide) dX2_densityIn_21 (fun q3 => ?_) (fun q3 => ?_)
      · have hf := ie_t hf q3
        refine r_aload_n C0 (kk := 0) 0 rfl dX2_densityIn_26 ?_
        refine r_get2 C0 h0.1 4 (by decide) (v := .ref (g.1 6 (a0 + 11))) rfl rfl w1_147 dX2_densityIn_27 ?_
        refine r_iload_n C0 (kk := 1) 1 rfl dX2_densityIn_30 ?_
        refine r_iconst C0 (v := 5) dX2_densityIn_31 rfl ?_
        refine r_idiv C0 (by decide) dX2_densityIn_32 ?_
        refine r_aload_n C0 (kk := 0) 0 rfl dX2_densityIn_33 ?_
        refine r_get2 C0 h0.1 5 (by decide) (v := .int (M (a0 + 8))) rfl rfl w1_149 dX2_densityIn_34 ?_
        obtain ⟨q4, hf⟩ := gd_e hf
        refine r_irem C0 (nz_e q4) dX2_densityIn_37 ?_
        obtain ⟨q5, hf⟩ := gd_e hf
        refine r_ialdc C0 h0.2.2.2.1 q5 rfl dX2_densityIn_38 ?_
        exact hend hf dX2_densityIn_39
      · have hf := ie_f hf q3
        refine r_iconst C0 (v := 0) dX2_densityIn_24 rfl ?_
        exact hend hf dX2_densityIn_25
theorem dX1_walkTo_0 : decode cX1_walkTo 0 = .ok (.iload_n 1, 1) := by decide +kernel
theorem dX1_walkTo_1 : decode cX1_walkTo 1 = .ok (.aload_n 0, 1) := by decide +kernel
theorem dX1_walkTo_2 : decode cX1_walkTo 2 = .ok (.getfield 15, 3) := by decide +kernel
theorem dX1_walkTo_5 : decode cX1_walkTo 5 = .ok (.isub, 1) := by decide +kernel
theorem dX1_walkTo_6 : decode cX1_walkTo 6 = .ok (.aload_n 0, 1) := by decide +kernel
theorem dX1_walkTo_7 : decode cX1_walkTo 7 = .ok (.getfield 24, 3) := by decide +kernel
theorem dX1_walkTo_10 : decode cX1_walkTo 10 = .ok (.if_icmp .le 19, 3) := by decide +kernel
theorem dX1_walkTo_13 : decode cX1_walkTo 13 = .ok (.aload_n 0, 1) := by decide +kernel
theorem dX1_walkTo_14 : decode cX1_walkTo 14 = .ok (.dup, 1) := by decide +kernel
theorem dX1_walkTo_15 : decode cX1_walkTo 15 = .ok (.getfield 15, 3) := by decide +kernel
theorem dX1_walkTo_18 : decode cX1_walkTo 18 = .ok (.aload_n 0, 1) := by decide +kernel
theorem dX1_walkTo_19 : decode cX1_walkTo 19 = .ok (.getfield 24, 3) := by decide +kernel
theorem dX1_walkTo_22 : decode cX1_walkTo 22 = .ok (.iadd, 1) := by decide +kernel
theorem dX1_walkTo_23 : decode cX1_walkTo 23 = .ok (.putfield 15, 3) := by decide +kernel
theorem dX1_walkTo_26 : decode cX1_walkTo 26 = .ok (.goto 37, 3) := by decide +kernel
theorem dX1_walkTo_29 : decode cX1_walkTo 29 = .ok (.aload_n 0, 1) := by decide +kernel
theorem dX1_walkTo_30 : decode cX1_walkTo 30 = .ok (.getfield 15, 3) := by decide +kernel
theorem dX1_walkTo_33 : decode cX1_walkTo 33 = .ok (.iload_n 1, 1) := by decide +kernel
theorem dX1_walkTo_34 : decode cX1_walkTo 34 = .ok (.isub, 1) := by decide +kernel
theorem dX1_walkTo_35 : decode cX1_walkTo 35 = .ok (.aload_n 0, 1) := by decide +kernel
theorem dX1_walkTo_36 : decode cX1_walkTo 36 = .ok (.getfield 24, 3) := by decide +kernel
theorem dX1_walkTo_39 : decode cX1_walkTo 39 = .ok (.if_icmp .le 19, 3) := by decide +kernel
theorem dX1_walkTo_42 : decode cX1_walkTo 42 = .ok (.aload_n 0, 1) := by decide +kernel
theorem dX1_walkTo_43 : decode cX1_walkTo 43 = .ok (.dup, 1) := by decide +kernel
theorem dX1_walkTo_44 : decode cX1_walkTo 44 = .ok (.getfield 15, 3) := by decide +kernel
theorem dX1_walkTo_47 : decode cX1_walkTo 47 = .ok (.aload_n 0, 1) := by decide +kernel
theorem dX1_walkTo_48 : decode cX1_walkTo 48 = .ok (.getfield 24, 3) := by decide +kernel
theorem dX1_walkTo_51 : decode cX1_walkTo 51 = .ok (.isub, 1) := by decide +kernel
theorem dX1_walkTo_52 : decode cX1_walkTo 52 = .ok (.putfield 15, 3) := by decide +kernel
theorem dX1_walkTo_55 : decode cX1_walkTo 55 = .ok (.goto 8, 3) := by decide +kernel
theorem dX1_walkTo_58 : decode cX1_walkTo 58 = .ok (.aload_n 0, 1) := by decide +kernel
theorem dX1_walkTo_59 : decode cX1_walkTo 59 = .ok (.iload_n 1, 1) := by decide +kernel
theorem dX1_walkTo_60 : decode cX1_walkTo 60 = .ok (.putfield 15, 3) := by decide +kernel
theorem dX1_walkTo_63 : decode cX1_walkTo 63 = .ok (.return_, 1) := by decide +kernel
theorem hd_X1_walkTo : yX1_walkTo.cls = RX1 ∧ yX1_walkTo.cls ≠ "java/lang/invoke/MethodHandle" ∧ yX1_walkTo.cls ≠ "java/lang/invoke/VarHandle" ∧ (parseMethodDescriptor yX1_walkTo.desc).map (fun d => d.parameters.length) = some 1 := by decide +kernel
set_option maxRecDepth 100000 in
set_option maxHeartbeats 4000000 in
theorem c_X1_walkTo (l : Launch) (D : va_G) (g : xG) (tb : List xQ) (hT : x_T g tb) {a0 : Nat} {a1 : Int32} (h0 : ((1, a0, 0) : xQ) ∈ tb) {M M' : xM} (hf : f_X1_walkTo a0 a1 M = some M') :
    cV l D g tb yX1_walkTo cX1_walkTo 2 ({ frames := 0, cells := 0, slots := 0, locals := 0 } : Room) [.ref (g.1 1 a0), .int a1] M M' := by
  refine x_startV (own := RX1) (by decide +kernel) rfl rfl (Nat.le_of_ble_eq_true rfl) hT ?_
  intro p e s m args below meth c Q C0 hend
  unfold f_X1_walkTo at hf
  refine r_iload_n C0 (kk := 1) 1 rfl dX1_walkTo_0 ?_
  refine r_aload_n C0 (kk := 0) 0 rfl dX1_walkTo_1 ?_
  refine r_get1 C0 h0 0 (by decide) (v := .int (M (a0 + 0))) rfl rfl w1_99 dX1_walkTo_2 ?_
  refine r_isub C0 dX1_walkTo_5 ?_
  refine r_aload_n C0 (kk := 0) 0 rfl dX1_walkTo_6 ?_
  refine r_get1 C0 h0 3 (by decide) (v := .int (M (a0 + 3))) rfl rfl w1_106 dX1_walkTo_7 ?_
  refine r_icmp_le C0 (tgt := 29) (by decide) dX1_walkTo_10 (fun q1 => ?_) (fun q1 => ?_)
  · have hf := ie_t hf q1
    refine r_aload_n C0 (kk := 0) 0 rfl dX1_walkTo_29 ?_
    refine r_get1 C0 h0 0 (by decide) (v := .int (M (a0 + 0))) rfl rfl w1_99 dX1_walkTo_30 ?_
    refine r_iload_n C0 (kk := 1) 1 rfl dX1_walkTo_33 ?_
    refine r_isub C0 dX1_walkTo_34 ?_
    refine r_aload_n C0 (kk := 0) 0 rfl dX1_walkTo_35 ?_
    refine r_get1 C0 h0 3 (by decide) (v := .int (M (a0 + 3))) rfl rfl w1_106 dX1_walkTo_36 ?_
    refine r_icmp_le C0 (tgt := 58) (by decide) dX1_walkTo_39 (fun q2 => ?_) (fun q2 => ?_)
    · have hf := ie_t hf q2
      refine r_aload_n C0 (kk := 0) 0 rfl dX1_walkTo_58 ?_
      refine r_iload_n C0 (kk := 1) 1 rfl dX1_walkTo_59 ?_
      refine r_put1 C0 h0 0 rfl rfl w1_99 rfl rfl rfl dX1_walkTo_60 ?_
      exact hend hf dX1_walkTo_63
    · have hf := ie_f hf q2
      refine r_aload_n C0 (kk := 0) 0 rfl dX1_walkTo_42 ?_
      refine r_dup C0 rfl dX1_walkTo_43 ?_
      refine r_get1 C0 h0 0 (by decide) (v := .int (M (a0 + 0))) rfl rfl w1_99 dX1_walkTo_44 ?_
      refine r_aload_n C0 (kk := 0) 0 rfl dX1_walkTo_47 ?_
      refine r_get1 C0 h0 3 (by decide) (v := .int (M (a0 + 3))) rfl rfl w1_106 dX1_walkTo_48 ?_
      refine r_isub C0 dX1_walkTo_51 ?_
      refine r_put1 C0 h0 0 rfl rfl w1_99 rfl rfl rfl dX1_walkTo_52 ?_
      refine r_goto C0 (tgt := 63) (by decide) dX1_walkTo_55 ?_
      exact hend hf dX1_walkTo_63
  · have hf := ie_f hf q1
    refine r_aload_n C0 (kk := 0) 0 rfl dX1_walkTo_13 ?_
    refine r_dup C0 rfl dX1_walkTo_14 ?_
    refine r_get1 C0 h0 0 (by decide) (v := .int (M (a0 + 0))) rfl rfl w1_99 dX1_walkTo_15 ?_
    refine r_aload_n C0 (kk := 0) 0 rfl dX1_walkTo_18 ?_
    refine r_get1 C0 h0 3 (by decide) (v := .int (M (a0 + 3))) rfl rfl w1_106 dX1_walkTo_19 ?_
    refine r_iadd C0 dX1_walkTo_22 ?_
    refine r_put1 C0 h0 0 rfl rfl w1_99 rfl rfl rfl dX1_walkTo_23 ?_
    refine r_goto C0 (tgt := 63) (by decide) dX1_walkTo_26 ?_
    exact hend hf dX1_walkTo_63
theorem dX1_payTo_0 : decode cX1_payTo 0 = .ok (.aload_n 0, 1) := by decide +kernel
theorem dX1_payTo_1 : decode cX1_payTo 1 = .ok (.dup, 1) := by decide +kernel
theorem dX1_payTo_2 : decode cX1_payTo 2 = .ok (.getfield 18, 3) := by decide +kernel
theorem dX1_payTo_5 : decode cX1_payTo 5 = .ok (.aload_n 0, 1) := by decide +kernel
theorem dX1_payTo_6 : decode cX1_payTo 6 = .ok (.getfield 27, 3) := by decide +kernel
theorem dX1_payTo_9 : decode cX1_payTo 9 = .ok (.isub, 1) := by decide +kernel
theorem dX1_payTo_10 : decode cX1_payTo 10 = .ok (.putfield 18, 3) := by decide +kernel
theorem dX1_payTo_13 : decode cX1_payTo 13 = .ok (.aload_n 1, 1) := by decide +kernel
theorem dX1_payTo_14 : decode cX1_payTo 14 = .ok (.dup, 1) := by decide +kernel
theorem dX1_payTo_15 : decode cX1_payTo 15 = .ok (.getfield 47, 3) := by decide +kernel
theorem dX1_payTo_18 : decode cX1_payTo 18 = .ok (.aload_n 0, 1) := by decide +kernel
theorem dX1_payTo_19 : decode cX1_payTo 19 = .ok (.getfield 27, 3) := by decide +kernel
theorem dX1_payTo_22 : decode cX1_payTo 22 = .ok (.iadd, 1) := by decide +kernel
theorem dX1_payTo_23 : decode cX1_payTo 23 = .ok (.putfield 47, 3) := by decide +kernel
theorem dX1_payTo_26 : decode cX1_payTo 26 = .ok (.aload_n 1, 1) := by decide +kernel
theorem dX1_payTo_27 : decode cX1_payTo 27 = .ok (.dup, 1) := by decide +kernel
theorem dX1_payTo_28 : decode cX1_payTo 28 = .ok (.getfield 50, 3) := by decide +kernel
theorem dX1_payTo_31 : decode cX1_payTo 31 = .ok (.iconst 1, 1) := by decide +kernel
theorem dX1_payTo_32 : decode cX1_payTo 32 = .ok (.iadd, 1) := by decide +kernel
theorem dX1_payTo_33 : decode cX1_payTo 33 = .ok (.putfield 50, 3) := by decide +kernel
theorem dX1_payTo_36 : decode cX1_payTo 36 = .ok (.aload_n 0, 1) := by decide +kernel
theorem dX1_payTo_37 : decode cX1_payTo 37 = .ok (.dup, 1) := by decide +kernel
theorem dX1_payTo_38 : decode cX1_payTo 38 = .ok (.getfield 33, 3) := by decide +kernel
theorem dX1_payTo_41 : decode cX1_payTo 41 = .ok (.iconst 1, 1) := by decide +kernel
theorem dX1_payTo_42 : decode cX1_payTo 42 = .ok (.iadd, 1) := by decide +kernel
theorem dX1_payTo_43 : decode cX1_payTo 43 = .ok (.putfield 33, 3) := by decide +kernel
theorem dX1_payTo_46 : decode cX1_payTo 46 = .ok (.aload_n 0, 1) := by decide +kernel
theorem dX1_payTo_47 : decode cX1_payTo 47 = .ok (.invokevirtual 53, 3) := by decide +kernel
theorem dX1_payTo_50 : decode cX1_payTo 50 = .ok (.return_, 1) := by decide +kernel
theorem hd_X1_payTo : yX1_payTo.cls = RX1 ∧ yX1_payTo.cls ≠ "java/lang/invoke/MethodHandle" ∧ yX1_payTo.cls ≠ "java/lang/invoke/VarHandle" ∧ (parseMethodDescriptor yX1_payTo.desc).map (fun d => d.parameters.length) = some 1 := by decide +kernel
set_option maxRecDepth 100000 in
set_option maxHeartbeats 4000000 in
theorem c_X1_payTo (l : Launch) (D : va_G) (g : xG) (tb : List xQ) (hT : x_T g tb) {a0 : Nat} {a1 : Nat} (h0 : ((1, a0, 0) : xQ) ∈ tb) (h1 : ((0, a1, 0) : xQ) ∈ tb) {M M' : xM} (hf : f_X1_payTo a0 a1 M = some M') :
    cV l D g tb yX1_payTo cX1_payTo 2 ({ frames := 1, cells := 0, slots := 0, locals := 20 } : Room) [.ref (g.1 1 a0), .ref (g.1 0 a1)] M M' := by
  refine x_startV (own := RX1) (by decide +kernel) rfl rfl (Nat.le_of_ble_eq_true rfl) hT ?_
  intro p e s m args below meth c Q C0 hend
  unfold f_X1_payTo at hf
  refine r_aload_n C0 (kk := 0) 0 rfl dX1_payTo_0 ?_
  refine r_dup C0 rfl dX1_payTo_1 ?_
  refine r_get1 C0 h0 1 (by decide) (v := .int (M (a0 + 1))) rfl rfl w1_102 dX1_payTo_2 ?_
  refine r_aload_n C0 (kk := 0) 0 rfl dX1_payTo_5 ?_
  refine r_get1 C0 h0 5 (by decide) (v := .int (M (a0 + 5))) rfl rfl w1_111 dX1_payTo_6 ?_
  refine r_isub C0 dX1_payTo_9 ?_
  refine r_put1 C0 h0 1 rfl rfl w1_102 rfl rfl rfl dX1_payTo_10 ?_
  refine r_aload_n C0 (kk := 1) 1 rfl dX1_payTo_13 ?_
  refine r_dup C0 rfl dX1_payTo_14 ?_
  refine r_get0 C0 h1 7 (by decide) (v := .int ((upd M (a0 + 1) ((M (a0 + 1)) - (M (a0 + 5)))) (a1 + 7))) rfl rfl w1_70 dX1_payTo_15 ?_
  refine r_aload_n C0 (kk := 0) 0 rfl dX1_payTo_18 ?_
  refine r_get1 C0 h0 5 (by decide) (v := .int ((upd M (a0 + 1) ((M (a0 + 1)) - (M (a0 + 5)))) (a0 + 5))) rfl rfl w1_111 dX1_payTo_19 ?_
  refine r_iadd C0 dX1_payTo_22 ?_
  refine r_put0 C0 h1 7 rfl rfl w1_70 rfl rfl rfl dX1_payTo_23 ?_
  refine r_aload_n C0 (kk := 1) 1 rfl dX1_payTo_26 ?_
  refine r_dup C0 rfl dX1_payTo_27 ?_
  refine r_get0 C0 h1 5 (by decide) (v := .int ((upd (upd M (a0 + 1) ((M (a0 + 1)) - (M (a0 + 5)))) (a1 + 7) (((upd M (a0 + 1) ((M (a0 + 1)) - (M (a0 + 5)))) (a1 + 7)) + ((upd M (a0 + 1) ((M (a0 + 1)) - (M (a0 + 5)))) (a0 + 5)))) (a1 + 5))) rfl rfl w1_64 dX1_payTo_28 ?_
  refine r_iconst C0 (v := 1) dX1_payTo_31 rfl ?_
  refine r_iadd C0 dX1_payTo_32 ?_
  refine r_put0 C0 h1 5 rfl rfl w1_64 rfl rfl rfl dX1_payTo_33 ?_
  refine r_aload_n C0 (kk := 0) 0 rfl dX1_payTo_36 ?_
  refine r_dup C0 rfl dX1_payTo_37 ?_
  refine r_get1 C0 h0 7 (by decide) (v := .int ((upd (upd (upd M (a0 + 1) ((M (a0 + 1)) - (M (a0 + 5)))) (a1 + 7) (((upd M (a0 + 1) ((M (a0 + 1)) - (M (a0 + 5)))) (a1 + 7)) + ((upd M (a0 + 1) ((M (a0 + 1)) - (M (a0 + 5)))) (a0 + 5)))) (a1 + 5) (((upd (upd M (a0 + 1) ((M (a0 + 1)) - (M (a0 + 5)))) (a1 + 7) (((upd M (a0 + 1) ((M (a0 + 1)) - (M (a0 + 5)))) (a1 + 7)) + ((upd M (a0 + 1) ((M (a0 + 1)) - (M (a0 + 5)))) (a0 + 5)))) (a1 + 5)) + 1)) (a0 + 7))) rfl rfl w1_116 dX1_payTo_38 ?_
  refine r_iconst C0 (v := 1) dX1_payTo_41 rfl ?_
  refine r_iadd C0 dX1_payTo_42 ?_
  refine r_put1 C0 h0 7 rfl rfl w1_116 rfl rfl rfl dX1_payTo_43 ?_
  refine r_aload_n C0 (kk := 0) 0 rfl dX1_payTo_46 ?_
  obtain ⟨M2, hc1, hf⟩ := bd_e hf
  refine r_callVv C0 (As := []) (rest := []) (c_X1_letGo l D g tb hT h0 hc1) w3_44 w3_9 w3_10 w1_4 w3_11 (x_rec1 C0 h0) hd_X1_letGo rfl ⟨rfl, rfl⟩ ⟨Nat.le_of_ble_eq_true rfl, Nat.le_of_ble_eq_true rfl⟩ (by decide) (by decide) rfl (Nat.le_of_ble_eq_true rfl) dX1_payTo_47 ?_
  exact hend hf dX1_payTo_50
theorem dX4_paces_0 : decode cX4_paces 0 = .ok (.iload_n 0, 1) := by decide +kernel
theorem dX4_paces_1 : decode cX4_paces 1 = .ok (.tableswitch 46 0 2 #[27, 34, 39], 27) := by decide +kernel
theorem dX4_paces_28 : decode cX4_paces 28 = .ok (.bipush 30, 2) := by decide +kernel
theorem dX4_paces_30 : decode cX4_paces 30 = .ok (.iconst 2, 1) := by decide +kernel
theorem dX4_paces_31 : decode cX4_paces 31 = .ok (.iload_n 1, 1) := by decide +kernel
theorem dX4_paces_32 : decode cX4_paces 32 = .ok (.imul, 1) := by decide +kernel
theorem dX4_paces_33 : decode cX4_paces 33 = .ok (.isub, 1) := by decide +kernel
theorem dX4_paces_34 : decode cX4_paces 34 = .ok (.ireturn, 1) := by decide +kernel
theorem dX4_paces_35 : decode cX4_paces 35 = .ok (.bipush 24, 2) := by decide +kernel
theorem dX4_paces_37 : decode cX4_paces 37 = .ok (.iload_n 1, 1) := by decide +kernel
theorem dX4_paces_38 : decode cX4_paces 38 = .ok (.isub, 1) := by decide +kernel
theorem dX4_paces_39 : decode cX4_paces 39 = .ok (.ireturn, 1) := by decide +kernel
theorem dX4_paces_40 : decode cX4_paces 40 = .ok (.bipush 45, 2) := by decide +kernel
theorem dX4_paces_42 : decode cX4_paces 42 = .ok (.iconst 5, 1) := by decide +kernel
theorem dX4_paces_43 : decode cX4_paces 43 = .ok (.iload_n 1, 1) := by decide +kernel
theorem dX4_paces_44 : decode cX4_paces 44 = .ok (.imul, 1) := by decide +kernel
theorem dX4_paces_45 : decode cX4_paces 45 = .ok (.isub, 1) := by decide +kernel
theorem dX4_paces_46 : decode cX4_paces 46 = .ok (.ireturn, 1) := by decide +kernel
theorem dX4_paces_47 : decode cX4_paces 47 = .ok (.bipush 12, 2) := by decide +kernel
theorem dX4_paces_49 : decode cX4_paces 49 = .ok (.ireturn, 1) := by decide +kernel
theorem hd_X4_paces : yX4_paces.cls ≠ "java/lang/invoke/MethodHandle" ∧ yX4_paces.cls ≠ "java/lang/invoke/VarHandle" ∧ (parseMethodDescriptor yX4_paces.desc).map (fun d => d.parameters.length) = some 2 := by decide +kernel
set_option maxRecDepth 100000 in
set_option maxHeartbeats 4000000 in
theorem c_X4_paces (l : Launch) (D : va_G) (g : xG) (tb : List xQ) (hT : x_T g tb) {a0 : Int32} {a1 : Int32}  {M : xM} {r : Int32} {M' : xM} (hf : f_X4_paces a0 a1 M = some (r, M')) :
    cI l D g tb yX4_paces cX4_paces 2 .int ({ frames := 0, cells := 0, slots := 0, locals := 0 } : Room) [.int a0, .int a1] M r M' := by
  refine x_startI (own := RX4) (by decide +kernel) rfl rfl (Nat.le_of_ble_eq_true rfl) hT ?_
  intro p e s m args below meth c Q C0 hend
  unfold f_X4_paces at hf
  refine r_iload_n C0 (kk := 0) 0 rfl dX4_paces_0 ?_
  rcases Decidable.em (a0 = 0) with q1 | q1
  · have hf := ie_t hf q1
    refine r_tsc C0 (cst := 0) q1 (by decide) (by decide) rfl (tgt := 28) (by decide) dX4_paces_1 ?_
    refine r_bipush C0 (v := 30) dX4_paces_28 rfl ?_
    refine r_iconst C0 (v := 2) dX4_paces_30 rfl ?_
    refine r_iload_n C0 (kk := 1) 1 rfl dX4_paces_31 ?_
    refine r_imul C0 dX4_paces_32 ?_
    refine r_isub C0 dX4_paces_33 ?_
    exact hend hf dX4_paces_34
  have hf := ie_f hf q1
  have nq1 : Int32.toInt a0 ≠ 0 := fun h => q1 (Int32.toInt_inj.mp h)
  rcases Decidable.em (a0 = 1) with q2 | q2
  · have hf := ie_t hf q2
    refine r_tsc C0 (cst := 1) q2 (by decide) (by decide) rfl (tgt := 35) (by decide) dX4_paces_1 ?_
    refine r_bipush C0 (v := 24) dX4_paces_35 rfl ?_
    refine r_iload_n C0 (kk := 1) 1 rfl dX4_paces_37 ?_
    refine r_isub C0 dX4_paces_38 ?_
    exact hend hf dX4_paces_39
  have hf := ie_f hf q2
  have nq2 : Int32.toInt a0 ≠ 1 := fun h => q2 (Int32.toInt_inj.mp h)
  rcases Decidable.em (a0 = 2) with q3 | q3
  · have hf := ie_t hf q3
    refine r_tsc C0 (cst := 2) q3 (by decide) (by decide) rfl (tgt := 40) (by decide) dX4_paces_1 ?_
    refine r_bipush C0 (v := 45) dX4_paces_40 rfl ?_
    refine r_iconst C0 (v := 5) dX4_paces_42 rfl ?_
    refine r_iload_n C0 (kk := 1) 1 rfl dX4_paces_43 ?_
    refine r_imul C0 dX4_paces_44 ?_
    refine r_isub C0 dX4_paces_45 ?_
    exact hend hf dX4_paces_46
  have hf := ie_f hf q3
  have nq3 : Int32.toInt a0 ≠ 2 := fun h => q3 (Int32.toInt_inj.mp h)
  refine r_tsd C0 (by omega) (tgt := 47) (by decide) dX4_paces_1 ?_
  refine r_bipush C0 (v := 12) dX4_paces_47 rfl ?_
  exact hend hf dX4_paces_49
