theorem dX3_isDigit_0 : decode cX3_isDigit 0 = .ok (.iload_n 0, 1) := by decide +kernel
theorem dX3_isDigit_1 : decode cX3_isDigit 1 = .ok (.bipush 48, 2) := by decide +kernel
theorem dX3_isDigit_3 : decode cX3_isDigit 3 = .ok (.if_icmp .lt 13, 3) := by decide +kernel
theorem dX3_isDigit_6 : decode cX3_isDigit 6 = .ok (.iload_n 0, 1) := by decide +kernel
theorem dX3_isDigit_7 : decode cX3_isDigit 7 = .ok (.bipush 57, 2) := by decide +kernel
theorem dX3_isDigit_9 : decode cX3_isDigit 9 = .ok (.if_icmp .gt 7, 3) := by decide +kernel
theorem dX3_isDigit_12 : decode cX3_isDigit 12 = .ok (.iconst 1, 1) := by decide +kernel
theorem dX3_isDigit_13 : decode cX3_isDigit 13 = .ok (.goto 4, 3) := by decide +kernel
theorem dX3_isDigit_16 : decode cX3_isDigit 16 = .ok (.iconst 0, 1) := by decide +kernel
theorem dX3_isDigit_17 : decode cX3_isDigit 17 = .ok (.ireturn, 1) := by decide +kernel
theorem hd_X3_isDigit : yX3_isDigit.cls ≠ "java/lang/invoke/MethodHandle" ∧ yX3_isDigit.cls ≠ "java/lang/invoke/VarHandle" ∧ (parseMethodDescriptor yX3_isDigit.desc).map (fun d => d.parameters.length) = some 1 := by decide +kernel
set_option maxRecDepth 100000 in
set_option maxHeartbeats 4000000 in
theorem c_X3_isDigit (l : Launch) (D : va_G) (g : xG) (tb : List xQ) (hT : x_T g tb) {a0 : Int32}  {M : xM} {r : Int32} {M' : xM} (hf : f_X3_isDigit a0 M = some (r, M')) :
    cI l D g tb yX3_isDigit cX3_isDigit 1 .boolean ({ frames := 0, cells := 0, slots := 0, locals := 0 } : Room) [.int a0] M r M' := by
  refine x_startZ (own := RX3) (by decide +kernel) rfl rfl (Nat.le_of_ble_eq_true rfl) hT ?_
  intro p e s m args below meth c Q C0 hend
  unfold f_X3_isDigit at hf
  refine r_iload_n C0 (kk := 0) 0 rfl dX3_isDigit_0 ?_
  refine r_bipush C0 (v := 48) dX3_isDigit_1 rfl ?_
  refine r_icmp_lt C0 (tgt := 16) (by decide) dX3_isDigit_3 (fun q1 => ?_) (fun q1 => ?_)
  · have hf := ie_t hf q1
    refine r_iconst C0 (v := 0) dX3_isDigit_16 rfl ?_
    exact hend (by decide) hf dX3_isDigit_17
  · have hf := ie_f hf q1
    refine r_iload_n C0 (kk := 0) 0 rfl dX3_isDigit_6 ?_
    refine r_bipush C0 (v := 57) dX3_isDigit_7 rfl ?_
    refine r_icmp_gt C0 (tgt := 16) (by decide) dX3_isDigit_9 (fun q2 => ?_) (fun q2 => ?_)
    · have hf := ie_t hf q2
      refine r_iconst C0 (v := 0) dX3_isDigit_16 rfl ?_
      exact hend (by decide) hf dX3_isDigit_17
    · have hf := ie_f hf q2
      refine r_iconst C0 (v := 1) dX3_isDigit_12 rfl ?_
      refine r_goto C0 (tgt := 17) (by decide) dX3_isDigit_13 ?_
      exact hend (by decide) hf dX3_isDigit_17
theorem dX3_readDigits_0 : decode cX3_readDigits 0 = .ok (.aload_n 0, 1) := by decide +kernel
theorem dX3_readDigits_1 : decode cX3_readDigits 1 = .ok (.iconst 0, 1) := by decide +kernel
theorem dX3_readDigits_2 : decode cX3_readDigits 2 = .ok (.putfield 55, 3) := by decide +kernel
theorem dX3_readDigits_5 : decode cX3_readDigits 5 = .ok (.aload_n 0, 1) := by decide +kernel
theorem dX3_readDigits_6 : decode cX3_readDigits 6 = .ok (.getfield 39, 3) := by decide +kernel
theorem dX3_readDigits_9 : decode cX3_readDigits 9 = .ok (.aload_n 0, 1) := by decide +kernel
theorem dX3_readDigits_10 : decode cX3_readDigits 10 = .ok (.getfield 37, 3) := by decide +kernel
theorem dX3_readDigits_13 : decode cX3_readDigits 13 = .ok (.if_icmp .ge 62, 3) := by decide +kernel
theorem dX3_readDigits_16 : decode cX3_readDigits 16 = .ok (.aload_n 0, 1) := by decide +kernel
theorem dX3_readDigits_17 : decode cX3_readDigits 17 = .ok (.aload_n 0, 1) := by decide +kernel
theorem dX3_readDigits_18 : decode cX3_readDigits 18 = .ok (.getfield 39, 3) := by decide +kernel
theorem dX3_readDigits_21 : decode cX3_readDigits 21 = .ok (.invokevirtual 209, 3) := by decide +kernel
theorem dX3_readDigits_24 : decode cX3_readDigits 24 = .ok (.invokestatic 215, 3) := by decide +kernel
theorem dX3_readDigits_27 : decode cX3_readDigits 27 = .ok (.ifCond .eq 48, 3) := by decide +kernel
theorem dX3_readDigits_30 : decode cX3_readDigits 30 = .ok (.aload_n 0, 1) := by decide +kernel
theorem dX3_readDigits_31 : decode cX3_readDigits 31 = .ok (.getfield 55, 3) := by decide +kernel
theorem dX3_readDigits_34 : decode cX3_readDigits 34 = .ok (.ldc 221, 2) := by decide +kernel
theorem dX3_readDigits_36 : decode cX3_readDigits 36 = .ok (.if_icmp .ge 26, 3) := by decide +kernel
theorem dX3_readDigits_39 : decode cX3_readDigits 39 = .ok (.aload_n 0, 1) := by decide +kernel
theorem dX3_readDigits_40 : decode cX3_readDigits 40 = .ok (.aload_n 0, 1) := by decide +kernel
theorem dX3_readDigits_41 : decode cX3_readDigits 41 = .ok (.getfield 55, 3) := by decide +kernel
theorem dX3_readDigits_44 : decode cX3_readDigits 44 = .ok (.bipush 10, 2) := by decide +kernel
theorem dX3_readDigits_46 : decode cX3_readDigits 46 = .ok (.imul, 1) := by decide +kernel
theorem dX3_readDigits_47 : decode cX3_readDigits 47 = .ok (.aload_n 0, 1) := by decide +kernel
theorem dX3_readDigits_48 : decode cX3_readDigits 48 = .ok (.aload_n 0, 1) := by decide +kernel
theorem dX3_readDigits_49 : decode cX3_readDigits 49 = .ok (.getfield 39, 3) := by decide +kernel
theorem dX3_readDigits_52 : decode cX3_readDigits 52 = .ok (.invokevirtual 209, 3) := by decide +kernel
theorem dX3_readDigits_55 : decode cX3_readDigits 55 = .ok (.iadd, 1) := by decide +kernel
theorem dX3_readDigits_56 : decode cX3_readDigits 56 = .ok (.bipush 48, 2) := by decide +kernel
theorem dX3_readDigits_58 : decode cX3_readDigits 58 = .ok (.isub, 1) := by decide +kernel
theorem dX3_readDigits_59 : decode cX3_readDigits 59 = .ok (.putfield 55, 3) := by decide +kernel
theorem dX3_readDigits_62 : decode cX3_readDigits 62 = .ok (.aload_n 0, 1) := by decide +kernel
theorem dX3_readDigits_63 : decode cX3_readDigits 63 = .ok (.dup, 1) := by decide +kernel
theorem dX3_readDigits_64 : decode cX3_readDigits 64 = .ok (.getfield 39, 3) := by decide +kernel
theorem dX3_readDigits_67 : decode cX3_readDigits 67 = .ok (.iconst 1, 1) := by decide +kernel
theorem dX3_readDigits_68 : decode cX3_readDigits 68 = .ok (.iadd, 1) := by decide +kernel
theorem dX3_readDigits_69 : decode cX3_readDigits 69 = .ok (.putfield 39, 3) := by decide +kernel
theorem dX3_readDigits_72 : decode cX3_readDigits 72 = .ok (.goto (-67), 3) := by decide +kernel
theorem dX3_readDigits_75 : decode cX3_readDigits 75 = .ok (.return_, 1) := by decide +kernel
theorem hd_X3_readDigits : yX3_readDigits.cls = RX3 ∧ yX3_readDigits.cls ≠ "java/lang/invoke/MethodHandle" ∧ yX3_readDigits.cls ≠ "java/lang/invoke/VarHandle" ∧ (parseMethodDescriptor yX3_readDigits.desc).map (fun d => d.parameters.length) = some 0 := by decide +kernel
set_option maxRecDepth 100000 in
set_option maxHeartbeats 4000000 in
theorem c_X3_readDigits (l : Launch) (D : va_G) (g : xG) (tb : List xQ) (hT : x_T g tb)  (h0 : x_rd tb) {M M' : xM} (hf : f_X3_readDigits  M = some M') :
    cV l D g tb yX3_readDigits cX3_readDigits 1 ({ frames := 1, cells := 0, slots := 0, locals := 21 } : Room) [.ref (g.1 3 1777)] M M' := by
  refine x_startV (own := RX3) (by decide +kernel) rfl rfl (Nat.le_of_ble_eq_true rfl) hT ?_
  intro p e s m args below meth c Q C0 hend
  have B62 : ∀ (k5 : xM → Option xM) (hk5 : ∀ (M : xM), k5 M = some M' → WW p l e ({ frames := 1, cells := 0, slots := 0, locals := 21 } : Room) s m args below meth c 0 0 Q 1 D g tb 5 [(0, .ref (g.1 3 1777))] [] M), ∀ (M : xM), f_X3_readDigits_c62 k5  M = some M' → WW p l e ({ frames := 1, cells := 0, slots := 0, locals := 21 } : Room) s m args below meth c 0 0 Q 1 D g tb 62 [(0, .ref (g.1 3 1777))] [] M := by
    intro k5 hk5   M hf
    unfold f_X3_readDigits_c62 at hf
    refine r_aload_n C0 (kk := 0) 0 rfl dX3_readDigits_62 ?_
    refine r_dup C0 rfl dX3_readDigits_63 ?_
    refine r_get3 C0 h0.1 6 (by decide) (v := .int (M 1783)) rfl rfl w4_72 dX3_readDigits_64 ?_
    refine r_iconst C0 (v := 1) dX3_readDigits_67 rfl ?_
    refine r_iadd C0 dX3_readDigits_68 ?_
    refine r_put3 C0 h0.1 6 rfl rfl w4_72 rfl rfl rfl dX3_readDigits_69 ?_
    refine r_goto C0 (tgt := 5) (by decide) dX3_readDigits_72 ?_
    exact hk5   _ hf
  have B5 : ∀ (k5 : xM → Option xM) (hk5 : ∀ (M : xM), k5 M = some M' → WW p l e ({ frames := 1, cells := 0, slots := 0, locals := 21 } : Room) s m args below meth c 0 0 Q 1 D g tb 5 [(0, .ref (g.1 3 1777))] [] M), ∀ (M : xM), fb_X3_readDigits_c5 k5  M = some M' → WW p l e ({ frames := 1, cells := 0, slots := 0, locals := 21 } : Room) s m args below meth c 0 0 Q 1 D g tb 5 [(0, .ref (g.1 3 1777))] [] M := by
    intro k5 hk5   M hf
    unfold fb_X3_readDigits_c5 at hf
    refine r_aload_n C0 (kk := 0) 0 rfl dX3_readDigits_5 ?_
    refine r_get3 C0 h0.1 6 (by decide) (v := .int (M 1783)) rfl rfl w4_72 dX3_readDigits_6 ?_
    refine r_aload_n C0 (kk := 0) 0 rfl dX3_readDigits_9 ?_
    refine r_get3 C0 h0.1 1 (by decide) (v := .int (M 1778)) rfl rfl w4_65 dX3_readDigits_10 ?_
    refine r_icmp_ge C0 (tgt := 75) (by decide) dX3_readDigits_13 (fun q1 => ?_) (fun q1 => ?_)
    · have hf := ie_t hf q1
      exact hend hf dX3_readDigits_75
    · have hf := ie_f hf q1
      refine r_aload_n C0 (kk := 0) 0 rfl dX3_readDigits_16 ?_
      refine r_aload_n C0 (kk := 0) 0 rfl dX3_readDigits_17 ?_
      refine r_get3 C0 h0.1 6 (by decide) (v := .int (M 1783)) rfl rfl w4_72 dX3_readDigits_18 ?_
      obtain ⟨r4, M3, hc2, hf⟩ := bd2_e hf
      refine r_callVi C0 (As := [.int (M 1783)]) (rest := []) (c_X3_byteAt l D g tb hT h0 hc2) w4_153 w4_155 wp1_12 w1_17 w4_156 (x_rec3 C0 h0.1) hd_X3_byteAt rfl ⟨rfl, rfl⟩ ⟨Nat.le_of_ble_eq_true rfl, Nat.le_of_ble_eq_true rfl⟩ (by decide) (by decide) rfl (Nat.le_of_ble_eq_true rfl) dX3_readDigits_21 ?_
      obtain ⟨r7, M6, hc5, hf⟩ := bd2_e hf
      refine r_callSi C0 (As := [.int r4]) (rest := []) (c_X3_isDigit l D g tb hT  hc5) w4_160 w4_161 w1_17 w4_162 hd_X3_isDigit rfl ⟨rfl, rfl⟩ ⟨Nat.le_of_ble_eq_true rfl, Nat.le_of_ble_eq_true rfl⟩ (by decide) (by decide) rfl (Nat.le_of_ble_eq_true rfl) dX3_readDigits_24 ?_
      refine r_if_eq C0 (tgt := 75) (by decide) dX3_readDigits_27 (fun q8 => ?_) (fun q8 => ?_)
      · have hf := ie_t hf q8
        exact hend hf dX3_readDigits_75
      · have hf := ie_f hf q8
        refine r_aload_n C0 (kk := 0) 0 rfl dX3_readDigits_30 ?_
        refine r_get3 C0 h0.1 9 (by decide) (v := .int (M6 1786)) rfl rfl w4_75 dX3_readDigits_31 ?_
        refine r_ldc C0 w4_167 dX3_readDigits_34 ?_
        refine r_icmp_ge C0 (tgt := 62) (by decide) dX3_readDigits_36 (fun q9 => ?_) (fun q9 => ?_)
        · have hf := ie_t hf q9
          exact B62 k5 hk5   _ hf
        · have hf := ie_f hf q9
          refine r_aload_n C0 (kk := 0) 0 rfl dX3_readDigits_39 ?_
          refine r_aload_n C0 (kk := 0) 0 rfl dX3_readDigits_40 ?_
          refine r_get3 C0 h0.1 9 (by decide) (v := .int (M6 1786)) rfl rfl w4_75 dX3_readDigits_41 ?_
          refine r_bipush C0 (v := 10) dX3_readDigits_44 rfl ?_
          refine r_imul C0 dX3_readDigits_46 ?_
          refine r_aload_n C0 (kk := 0) 0 rfl dX3_readDigits_47 ?_
          refine r_aload_n C0 (kk := 0) 0 rfl dX3_readDigits_48 ?_
          refine r_get3 C0 h0.1 6 (by decide) (v := .int (M6 1783)) rfl rfl w4_72 dX3_readDigits_49 ?_
          obtain ⟨r12, M11, hc10, hf⟩ := bd2_e hf
          refine r_callVi C0 (As := [.int (M6 1783)]) (rest := [.int ((M6 1786) * 10), .ref (g.1 3 1777)]) (c_X3_byteAt l D g tb hT h0 hc10) w4_153 w4_155 wp1_12 w1_17 w4_156 (x_rec3 C0 h0.1) hd_X3_byteAt rfl ⟨rfl, rfl⟩ ⟨Nat.le_of_ble_eq_true rfl, Nat.le_of_ble_eq_true rfl⟩ (by decide) (by decide) rfl (Nat.le_of_ble_eq_true rfl) dX3_readDigits_52 ?_
          refine r_iadd C0 dX3_readDigits_55 ?_
          refine r_bipush C0 (v := 48) dX3_readDigits_56 rfl ?_
          refine r_isub C0 dX3_readDigits_58 ?_
          refine r_put3 C0 h0.1 9 rfl rfl w4_75 rfl rfl rfl dX3_readDigits_59 ?_
          exact B62 k5 hk5   _ hf
  have L5 : ∀ (M : xM), f_X3_readDigits_c5   M = some M' → WW p l e ({ frames := 1, cells := 0, slots := 0, locals := 21 } : Room) s m args below meth c 0 0 Q 1 D g tb 5 [(0, .ref (g.1 3 1777))] [] M := lp_ind (P := fun f => ∀ (M : xM), f M = some M' → WW p l e ({ frames := 1, cells := 0, slots := 0, locals := 21 } : Room) s m args below meth c 0 0 Q 1 D g tb 5 [(0, .ref (g.1 3 1777))] [] M) (fun  _ h => none_ne h) (fun f hf => B5 f hf) FU
  unfold f_X3_readDigits at hf
  refine r_aload_n C0 (kk := 0) 0 rfl dX3_readDigits_0 ?_
  refine r_iconst C0 (v := 0) dX3_readDigits_1 rfl ?_
  refine r_put3 C0 h0.1 9 rfl rfl w4_75 rfl rfl rfl dX3_readDigits_2 ?_
  exact L5     _ hf
theorem dX3_fail_0 : decode cX3_fail 0 = .ok (.aload_n 0, 1) := by decide +kernel
theorem dX3_fail_1 : decode cX3_fail 1 = .ok (.iload_n 1, 1) := by decide +kernel
theorem dX3_fail_2 : decode cX3_fail 2 = .ok (.putfield 42, 3) := by decide +kernel
theorem dX3_fail_5 : decode cX3_fail 5 = .ok (.aload_n 0, 1) := by decide +kernel
theorem dX3_fail_6 : decode cX3_fail 6 = .ok (.aload_n 0, 1) := by decide +kernel
theorem dX3_fail_7 : decode cX3_fail 7 = .ok (.getfield 206, 3) := by decide +kernel
theorem dX3_fail_10 : decode cX3_fail 10 = .ok (.putfield 15, 3) := by decide +kernel
theorem dX3_fail_13 : decode cX3_fail 13 = .ok (.iconst 0, 1) := by decide +kernel
theorem dX3_fail_14 : decode cX3_fail 14 = .ok (.ireturn, 1) := by decide +kernel
theorem hd_X3_fail : yX3_fail.cls = RX3 ∧ yX3_fail.cls ≠ "java/lang/invoke/MethodHandle" ∧ yX3_fail.cls ≠ "java/lang/invoke/VarHandle" ∧ (parseMethodDescriptor yX3_fail.desc).map (fun d => d.parameters.length) = some 1 := by decide +kernel
set_option maxRecDepth 100000 in
set_option maxHeartbeats 4000000 in
theorem c_X3_fail (l : Launch) (D : va_G) (g : xG) (tb : List xQ) (hT : x_T g tb) {a1 : Int32} (h0 : x_rd tb) {M : xM} {r : Int32} {M' : xM} (hf : f_X3_fail a1 M = some (r, M')) :
    cI l D g tb yX3_fail cX3_fail 2 .boolean ({ frames := 0, cells := 0, slots := 0, locals := 0 } : Room) [.ref (g.1 3 1777), .int a1] M r M' := by
  refine x_startZ (own := RX3) (by decide +kernel) rfl rfl (Nat.le_of_ble_eq_true rfl) hT ?_
  intro p e s m args below meth c Q C0 hend
  unfold f_X3_fail at hf
  refine r_aload_n C0 (kk := 0) 0 rfl dX3_fail_0 ?_
  refine r_iload_n C0 (kk := 1) 1 rfl dX3_fail_1 ?_
  refine r_put3 C0 h0.1 2 rfl rfl w4_66 rfl rfl rfl dX3_fail_2 ?_
  refine r_aload_n C0 (kk := 0) 0 rfl dX3_fail_5 ?_
  refine r_aload_n C0 (kk := 0) 0 rfl dX3_fail_6 ?_
  refine r_get3 C0 h0.1 8 (by decide) (v := .int ((upd M 1779 a1) 1785)) rfl rfl w4_74 dX3_fail_7 ?_
  refine r_put3 C0 h0.1 3 rfl rfl w4_68 rfl rfl rfl dX3_fail_10 ?_
  refine r_iconst C0 (v := 0) dX3_fail_13 rfl ?_
  exact hend (by decide) hf dX3_fail_14
theorem dX3_isNumberFrom_0 : decode cX3_isNumberFrom 0 = .ok (.aload_n 0, 1) := by decide +kernel
theorem dX3_isNumberFrom_1 : decode cX3_isNumberFrom 1 = .ok (.getfield 77, 3) := by decide +kernel
theorem dX3_isNumberFrom_4 : decode cX3_isNumberFrom 4 = .ok (.iconst 2, 1) := by decide +kernel
theorem dX3_isNumberFrom_5 : decode cX3_isNumberFrom 5 = .ok (.if_icmp .eq 9, 3) := by decide +kernel
theorem dX3_isNumberFrom_8 : decode cX3_isNumberFrom 8 = .ok (.aload_n 0, 1) := by decide +kernel
theorem dX3_isNumberFrom_9 : decode cX3_isNumberFrom 9 = .ok (.iconst 1, 1) := by decide +kernel
theorem dX3_isNumberFrom_10 : decode cX3_isNumberFrom 10 = .ok (.invokevirtual 80, 3) := by decide +kernel
theorem dX3_isNumberFrom_13 : decode cX3_isNumberFrom 13 = .ok (.ireturn, 1) := by decide +kernel
theorem dX3_isNumberFrom_14 : decode cX3_isNumberFrom 14 = .ok (.aload_n 0, 1) := by decide +kernel
theorem dX3_isNumberFrom_15 : decode cX3_isNumberFrom 15 = .ok (.getfield 55, 3) := by decide +kernel
theorem dX3_isNumberFrom_18 : decode cX3_isNumberFrom 18 = .ok (.iload_n 1, 1) := by decide +kernel
theorem dX3_isNumberFrom_19 : decode cX3_isNumberFrom 19 = .ok (.if_icmp .lt 11, 3) := by decide +kernel
theorem dX3_isNumberFrom_22 : decode cX3_isNumberFrom 22 = .ok (.aload_n 0, 1) := by decide +kernel
theorem dX3_isNumberFrom_23 : decode cX3_isNumberFrom 23 = .ok (.getfield 55, 3) := by decide +kernel
theorem dX3_isNumberFrom_26 : decode cX3_isNumberFrom 26 = .ok (.iload_n 2, 1) := by decide +kernel
theorem dX3_isNumberFrom_27 : decode cX3_isNumberFrom 27 = .ok (.if_icmp .le 11, 3) := by decide +kernel
theorem dX3_isNumberFrom_30 : decode cX3_isNumberFrom 30 = .ok (.aload_n 0, 1) := by decide +kernel
theorem dX3_isNumberFrom_31 : decode cX3_isNumberFrom 31 = .ok (.iconst 2, 1) := by decide +kernel
theorem dX3_isNumberFrom_32 : decode cX3_isNumberFrom 32 = .ok (.invokevirtual 80, 3) := by decide +kernel
theorem dX3_isNumberFrom_35 : decode cX3_isNumberFrom 35 = .ok (.ifCond .eq 7, 3) := by decide +kernel
theorem dX3_isNumberFrom_38 : decode cX3_isNumberFrom 38 = .ok (.iconst 1, 1) := by decide +kernel
theorem dX3_isNumberFrom_39 : decode cX3_isNumberFrom 39 = .ok (.goto 4, 3) := by decide +kernel
theorem dX3_isNumberFrom_42 : decode cX3_isNumberFrom 42 = .ok (.iconst 0, 1) := by decide +kernel
theorem dX3_isNumberFrom_43 : decode cX3_isNumberFrom 43 = .ok (.ireturn, 1) := by decide +kernel
theorem hd_X3_isNumberFrom : yX3_isNumberFrom.cls = RX3 ∧ yX3_isNumberFrom.cls ≠ "java/lang/invoke/MethodHandle" ∧ yX3_isNumberFrom.cls ≠ "java/lang/invoke/VarHandle" ∧ (parseMethodDescriptor yX3_isNumberFrom.desc).map (fun d => d.parameters.length) = some 2 := by decide +kernel
set_option maxRecDepth 100000 in
set_option maxHeartbeats 4000000 in
theorem c_X3_isNumberFrom (l : Launch) (D : va_G) (g : xG) (tb : List xQ) (hT : x_T g tb) {a1 : Int32} {a2 : Int32} (h0 : x_rd tb) {M : xM} {r : Int32} {M' : xM} (hf : f_X3_isNumberFrom a1 a2 M = some (r, M')) :
    cI l D g tb yX3_isNumberFrom cX3_isNumberFrom 3 .boolean ({ frames := 1, cells := 0, slots := 0, locals := 21 } : Room) [.ref (g.1 3 1777), .int a1, .int a2] M r M' := by
  refine x_startZ (own := RX3) (by decide +kernel) rfl rfl (Nat.le_of_ble_eq_true rfl) hT ?_
  intro p e s m args below meth c Q C0 hend
  have B30 : ∀ (M : xM), f_X3_isNumberFrom_c30  a1 a2 M = some (r, M') → WW p l e ({ frames := 1, cells := 0, slots := 0, locals := 21 } : Room) s m args below meth c 0 0 Q 3 D g tb 30 [(0, .ref (g.1 3 1777))] [] M := by
    intro     M hf
    unfold f_X3_isNumberFrom_c30 at hf
    refine r_aload_n C0 (kk := 0) 0 rfl dX3_isNumberFrom_30 ?_
    refine r_iconst C0 (v := 2) dX3_isNumberFrom_31 rfl ?_
    obtain ⟨r10, M9, hc8, hf⟩ := bd2_e hf
    refine r_callVi C0 (As := [.int 2]) (rest := []) (c_X3_fail l D g tb hT h0 hc8) w4_172 w4_174 wp1_15 w1_17 w4_175 (x_rec3 C0 h0.1) hd_X3_fail rfl ⟨rfl, rfl⟩ ⟨Nat.le_of_ble_eq_true rfl, Nat.le_of_ble_eq_true rfl⟩ (by decide) (by decide) rfl (Nat.le_of_ble_eq_true rfl) dX3_isNumberFrom_32 ?_
    refine r_if_eq C0 (tgt := 42) (by decide) dX3_isNumberFrom_35 (fun q11 => ?_) (fun q11 => ?_)
    · have hf := ie_t hf q11
      refine r_iconst C0 (v := 0) dX3_isNumberFrom_42 rfl ?_
      exact hend (by decide) hf dX3_isNumberFrom_43
    · have hf := ie_f hf q11
      refine r_iconst C0 (v := 1) dX3_isNumberFrom_38 rfl ?_
      refine r_goto C0 (tgt := 43) (by decide) dX3_isNumberFrom_39 ?_
      exact hend (by decide) hf dX3_isNumberFrom_43
  unfold f_X3_isNumberFrom at hf
  refine r_aload_n C0 (kk := 0) 0 rfl dX3_isNumberFrom_0 ?_
  refine r_get3 C0 h0.1 7 (by decide) (v := .int (M 1784)) rfl rfl w4_73 dX3_isNumberFrom_1 ?_
  refine r_iconst C0 (v := 2) dX3_isNumberFrom_4 rfl ?_
  refine r_icmp_eq C0 (tgt := 14) (by decide) dX3_isNumberFrom_5 (fun q1 => ?_) (fun q1 => ?_)
  · have hf := ie_t hf q1
    refine r_aload_n C0 (kk := 0) 0 rfl dX3_isNumberFrom_14 ?_
    refine r_get3 C0 h0.1 9 (by decide) (v := .int (M 1786)) rfl rfl w4_75 dX3_isNumberFrom_15 ?_
    refine r_iload_n C0 (kk := 1) 1 rfl dX3_isNumberFrom_18 ?_
    refine r_icmp_lt C0 (tgt := 30) (by decide) dX3_isNumberFrom_19 (fun q2 => ?_) (fun q2 => ?_)
    · have hf := ie_t hf q2
      refine WW.sub [0] rfl ?_
      exact B30     _ hf
    · have hf := ie_f hf q2
      refine r_aload_n C0 (kk := 0) 0 rfl dX3_isNumberFrom_22 ?_
      refine r_get3 C0 h0.1 9 (by decide) (v := .int (M 1786)) rfl rfl w4_75 dX3_isNumberFrom_23 ?_
      refine r_iload_n C0 (kk := 2) 2 rfl dX3_isNumberFrom_26 ?_
      refine r_icmp_le C0 (tgt := 38) (by decide) dX3_isNumberFrom_27 (fun q3 => ?_) (fun q3 => ?_)
      · have hf := ie_t hf q3
        refine r_iconst C0 (v := 1) dX3_isNumberFrom_38 rfl ?_
        refine r_goto C0 (tgt := 43) (by decide) dX3_isNumberFrom_39 ?_
        exact hend (by decide) hf dX3_isNumberFrom_43
      · have hf := ie_f hf q3
        refine WW.sub [0] rfl ?_
        exact B30     _ hf
  · have hf := ie_f hf q1
    refine r_aload_n C0 (kk := 0) 0 rfl dX3_isNumberFrom_8 ?_
    refine r_iconst C0 (v := 1) dX3_isNumberFrom_9 rfl ?_
    obtain ⟨r6, M5, hc4, hf⟩ := bd2_e hf
    refine r_callVi C0 (As := [.int 1]) (rest := []) (c_X3_fail l D g tb hT h0 hc4) w4_172 w4_174 wp1_15 w1_17 w4_175 (x_rec3 C0 h0.1) hd_X3_fail rfl ⟨rfl, rfl⟩ ⟨Nat.le_of_ble_eq_true rfl, Nat.le_of_ble_eq_true rfl⟩ (by decide) (by decide) rfl (Nat.le_of_ble_eq_true rfl) dX3_isNumberFrom_10 ?_
    obtain ⟨q7, hf⟩ := gd_e hf
    exact hend q7 hf dX3_isNumberFrom_13
theorem dX2_reset_0 : decode cX2_reset 0 = .ok (.aload_n 0, 1) := by decide +kernel
theorem dX2_reset_1 : decode cX2_reset 1 = .ok (.iconst 0, 1) := by decide +kernel
theorem dX2_reset_2 : decode cX2_reset 2 = .ok (.putfield 29, 3) := by decide +kernel
theorem dX2_reset_5 : decode cX2_reset 5 = .ok (.aload_n 0, 1) := by decide +kernel
theorem dX2_reset_6 : decode cX2_reset 6 = .ok (.iconst 0, 1) := by decide +kernel
theorem dX2_reset_7 : decode cX2_reset 7 = .ok (.putfield 33, 3) := by decide +kernel
theorem dX2_reset_10 : decode cX2_reset 10 = .ok (.aload_n 0, 1) := by decide +kernel
theorem dX2_reset_11 : decode cX2_reset 11 = .ok (.iconst 0, 1) := by decide +kernel
theorem dX2_reset_12 : decode cX2_reset 12 = .ok (.putfield 36, 3) := by decide +kernel
theorem dX2_reset_15 : decode cX2_reset 15 = .ok (.aload_n 0, 1) := by decide +kernel
theorem dX2_reset_16 : decode cX2_reset 16 = .ok (.iconst 0, 1) := by decide +kernel
theorem dX2_reset_17 : decode cX2_reset 17 = .ok (.putfield 39, 3) := by decide +kernel
theorem dX2_reset_20 : decode cX2_reset 20 = .ok (.aload_n 0, 1) := by decide +kernel
theorem dX2_reset_21 : decode cX2_reset 21 = .ok (.iload_n 3, 1) := by decide +kernel
theorem dX2_reset_22 : decode cX2_reset 22 = .ok (.putfield 42, 3) := by decide +kernel
theorem dX2_reset_25 : decode cX2_reset 25 = .ok (.aload_n 0, 1) := by decide +kernel
theorem dX2_reset_26 : decode cX2_reset 26 = .ok (.iload_n 1, 1) := by decide +kernel
theorem dX2_reset_27 : decode cX2_reset 27 = .ok (.putfield 45, 3) := by decide +kernel
theorem dX2_reset_30 : decode cX2_reset 30 = .ok (.aload_n 0, 1) := by decide +kernel
theorem dX2_reset_31 : decode cX2_reset 31 = .ok (.iload_n 2, 1) := by decide +kernel
theorem dX2_reset_32 : decode cX2_reset 32 = .ok (.putfield 48, 3) := by decide +kernel
theorem dX2_reset_35 : decode cX2_reset 35 = .ok (.aload_n 0, 1) := by decide +kernel
theorem dX2_reset_36 : decode cX2_reset 36 = .ok (.iconst 0, 1) := by decide +kernel
theorem dX2_reset_37 : decode cX2_reset 37 = .ok (.putfield 51, 3) := by decide +kernel
theorem dX2_reset_40 : decode cX2_reset 40 = .ok (.aload_n 0, 1) := by decide +kernel
theorem dX2_reset_41 : decode cX2_reset 41 = .ok (.iconst 1, 1) := by decide +kernel
theorem dX2_reset_42 : decode cX2_reset 42 = .ok (.putfield 55, 3) := by decide +kernel
theorem dX2_reset_45 : decode cX2_reset 45 = .ok (.aload_n 0, 1) := by decide +kernel
theorem dX2_reset_46 : decode cX2_reset 46 = .ok (.iconst 0, 1) := by decide +kernel
theorem dX2_reset_47 : decode cX2_reset 47 = .ok (.putfield 58, 3) := by decide +kernel
theorem dX2_reset_50 : decode cX2_reset 50 = .ok (.aload_n 0, 1) := by decide +kernel
theorem dX2_reset_51 : decode cX2_reset 51 = .ok (.iconst 0, 1) := by decide +kernel
theorem dX2_reset_52 : decode cX2_reset 52 = .ok (.putfield 61, 3) := by decide +kernel
theorem dX2_reset_55 : decode cX2_reset 55 = .ok (.return_, 1) := by decide +kernel
theorem hd_X2_reset : yX2_reset.cls = RX2 ∧ yX2_reset.cls ≠ "java/lang/invoke/MethodHandle" ∧ yX2_reset.cls ≠ "java/lang/invoke/VarHandle" ∧ (parseMethodDescriptor yX2_reset.desc).map (fun d => d.parameters.length) = some 3 := by decide +kernel
set_option maxRecDepth 100000 in
set_option maxHeartbeats 4000000 in
theorem c_X2_reset (l : Launch) (D : va_G) (g : xG) (tb : List xQ) (hT : x_T g tb) {a0 : Nat} {a1 : Int32} {a2 : Int32} {a3 : Int32} (h0 : x_mk tb a0) {M M' : xM} (hf : f_X2_reset a0 a1 a2 a3 M = some M') :
    cV l D g tb yX2_reset cX2_reset 4 ({ frames := 0, cells := 0, slots := 0, locals := 0 } : Room) [.ref (g.1 2 a0), .int a1, .int a2, .int a3] M M' := by
  refine x_startV (own := RX2) (by decide +kernel) rfl rfl (Nat.le_of_ble_eq_true rfl) hT ?_
  intro p e s m args below meth c Q C0 hend
  unfold f_X2_reset at hf
  refine r_aload_n C0 (kk := 0) 0 rfl dX2_reset_0 ?_
  refine r_iconst C0 (v := 0) dX2_reset_1 rfl ?_
  refine r_put2 C0 h0.1 1 rfl rfl w3_238 rfl rfl rfl dX2_reset_2 ?_
  refine r_aload_n C0 (kk := 0) 0 rfl dX2_reset_5 ?_
  refine r_iconst C0 (v := 0) dX2_reset_6 rfl ?_
  refine r_put2 C0 h0.1 3 rfl rfl w4_4 rfl rfl rfl dX2_reset_7 ?_
  refine r_aload_n C0 (kk := 0) 0 rfl dX2_reset_10 ?_
  refine r_iconst C0 (v := 0) dX2_reset_11 rfl ?_
  refine r_put2 C0 h0.1 5 rfl rfl w4_9 rfl rfl rfl dX2_reset_12 ?_
  refine r_aload_n C0 (kk := 0) 0 rfl dX2_reset_15 ?_
  refine r_iconst C0 (v := 0) dX2_reset_16 rfl ?_
  refine r_put2 C0 h0.1 6 rfl rfl w4_12 rfl rfl rfl dX2_reset_17 ?_
  refine r_aload_n C0 (kk := 0) 0 rfl dX2_reset_20 ?_
  refine r_iload_n C0 (kk := 3) 3 rfl dX2_reset_21 ?_
  refine r_put2 C0 h0.1 7 rfl rfl w4_14 rfl rfl rfl dX2_reset_22 ?_
  refine r_aload_n C0 (kk := 0) 0 rfl dX2_reset_25 ?_
  refine r_iload_n C0 (kk := 1) 1 rfl dX2_reset_26 ?_
  refine r_put2 C0 h0.1 8 rfl rfl w4_16 rfl rfl rfl dX2_reset_27 ?_
  refine r_aload_n C0 (kk := 0) 0 rfl dX2_reset_30 ?_
  refine r_iload_n C0 (kk := 2) 2 rfl dX2_reset_31 ?_
  refine r_put2 C0 h0.1 9 rfl rfl w4_18 rfl rfl rfl dX2_reset_32 ?_
  refine r_aload_n C0 (kk := 0) 0 rfl dX2_reset_35 ?_
  refine r_iconst C0 (v := 0) dX2_reset_36 rfl ?_
  refine r_put2 C0 h0.1 10 rfl rfl w4_20 rfl rfl rfl dX2_reset_37 ?_
  refine r_aload_n C0 (kk := 0) 0 rfl dX2_reset_40 ?_
  refine r_iconst C0 (v := 1) dX2_reset_41 rfl ?_
  refine r_put2 C0 h0.1 11 rfl rfl w4_22 rfl rfl rfl dX2_reset_42 ?_
  refine r_aload_n C0 (kk := 0) 0 rfl dX2_reset_45 ?_
  refine r_iconst C0 (v := 0) dX2_reset_46 rfl ?_
  refine r_put2 C0 h0.1 12 rfl rfl w4_24 rfl rfl rfl dX2_reset_47 ?_
  refine r_aload_n C0 (kk := 0) 0 rfl dX2_reset_50 ?_
  refine r_iconst C0 (v := 0) dX2_reset_51 rfl ?_
  refine r_put2 C0 h0.1 13 rfl rfl w4_26 rfl rfl rfl dX2_reset_52 ?_
  exact hend hf dX2_reset_55
theorem dX2_addDensity_0 : decode cX2_addDensity 0 = .ok (.aload_n 0, 1) := by decide +kernel
theorem dX2_addDensity_1 : decode cX2_addDensity 1 = .ok (.getfield 36, 3) := by decide +kernel
theorem dX2_addDensity_4 : decode cX2_addDensity 4 = .ok (.aload_n 0, 1) := by decide +kernel
theorem dX2_addDensity_5 : decode cX2_addDensity 5 = .ok (.getfield 23, 3) := by decide +kernel
theorem dX2_addDensity_8 : decode cX2_addDensity 8 = .ok (.arraylength, 1) := by decide +kernel
theorem dX2_addDensity_9 : decode cX2_addDensity 9 = .ok (.if_icmp .ge 23, 3) := by decide +kernel
theorem dX2_addDensity_12 : decode cX2_addDensity 12 = .ok (.aload_n 0, 1) := by decide +kernel
theorem dX2_addDensity_13 : decode cX2_addDensity 13 = .ok (.getfield 23, 3) := by decide +kernel
theorem dX2_addDensity_16 : decode cX2_addDensity 16 = .ok (.aload_n 0, 1) := by decide +kernel
theorem dX2_addDensity_17 : decode cX2_addDensity 17 = .ok (.getfield 36, 3) := by decide +kernel
theorem dX2_addDensity_20 : decode cX2_addDensity 20 = .ok (.iload_n 1, 1) := by decide +kernel
theorem dX2_addDensity_21 : decode cX2_addDensity 21 = .ok (.iastore, 1) := by decide +kernel
theorem dX2_addDensity_22 : decode cX2_addDensity 22 = .ok (.aload_n 0, 1) := by decide +kernel
theorem dX2_addDensity_23 : decode cX2_addDensity 23 = .ok (.dup, 1) := by decide +kernel
theorem dX2_addDensity_24 : decode cX2_addDensity 24 = .ok (.getfield 36, 3) := by decide +kernel
theorem dX2_addDensity_27 : decode cX2_addDensity 27 = .ok (.iconst 1, 1) := by decide +kernel
theorem dX2_addDensity_28 : decode cX2_addDensity 28 = .ok (.iadd, 1) := by decide +kernel
theorem dX2_addDensity_29 : decode cX2_addDensity 29 = .ok (.putfield 36, 3) := by decide +kernel
theorem dX2_addDensity_32 : decode cX2_addDensity 32 = .ok (.return_, 1) := by decide +kernel
theorem hd_X2_addDensity : yX2_addDensity.cls = RX2 ∧ yX2_addDensity.cls ≠ "java/lang/invoke/MethodHandle" ∧ yX2_addDensity.cls ≠ "java/lang/invoke/VarHandle" ∧ (parseMethodDescriptor yX2_addDensity.desc).map (fun d => d.parameters.length) = some 1 := by decide +kernel
set_option maxRecDepth 100000 in
set_option maxHeartbeats 4000000 in
theorem c_X2_addDensity (l : Launch) (D : va_G) (g : xG) (tb : List xQ) (hT : x_T g tb) {a0 : Nat} {a1 : Int32} (h0 : x_mk tb a0) {M M' : xM} (hf : f_X2_addDensity a0 a1 M = some M') :
    cV l D g tb yX2_addDensity cX2_addDensity 2 ({ frames := 0, cells := 0, slots := 0, locals := 0 } : Room) [.ref (g.1 2 a0), .int a1] M M' := by
  refine x_startV (own := RX2) (by decide +kernel) rfl rfl (Nat.le_of_ble_eq_true rfl) hT ?_
  intro p e s m args below meth c Q C0 hend
  unfold f_X2_addDensity at hf
  refine r_aload_n C0 (kk := 0) 0 rfl dX2_addDensity_0 ?_
  refine r_get2 C0 h0.1 5 (by decide) (v := .int (M (a0 + 8))) rfl rfl w4_9 dX2_addDensity_1 ?_
  refine r_aload_n C0 (kk := 0) 0 rfl dX2_addDensity_4 ?_
  refine r_get2 C0 h0.1 4 (by decide) (v := .ref (g.1 6 (a0 + 11))) rfl rfl w4_7 dX2_addDensity_5 ?_
  refine r_alen6 C0 h0.2.2.2.1 (v := 12) rfl dX2_addDensity_8 ?_
  refine r_icmp_ge C0 (tgt := 32) (by decide) dX2_addDensity_9 (fun q1 => ?_) (fun q1 => ?_)
  · have hf := ie_t hf q1
    exact hend hf dX2_addDensity_32
  · have hf := ie_f hf q1
    refine r_aload_n C0 (kk := 0) 0 rfl dX2_addDensity_12 ?_
    refine r_get2 C0 h0.1 4 (by decide) (v := .ref (g.1 6 (a0 + 11))) rfl rfl w4_7 dX2_addDensity_13 ?_
    refine r_aload_n C0 (kk := 0) 0 rfl dX2_addDensity_16 ?_
    refine r_get2 C0 h0.1 5 (by decide) (v := .int (M (a0 + 8))) rfl rfl w4_9 dX2_addDensity_17 ?_
    refine r_iload_n C0 (kk := 1) 1 rfl dX2_addDensity_20 ?_
    obtain ⟨q2, hf⟩ := gd_e hf
    refine r_iastc C0 h0.2.2.2.1 q2 rfl dX2_addDensity_21 ?_
    refine r_aload_n C0 (kk := 0) 0 rfl dX2_addDensity_22 ?_
    refine r_dup C0 rfl dX2_addDensity_23 ?_
    refine r_get2 C0 h0.1 5 (by decide) (v := .int ((upd M ((a0 + 11) + (M (a0 + 8)).toNatClampNeg) a1) (a0 + 8))) rfl rfl w4_9 dX2_addDensity_24 ?_
    refine r_iconst C0 (v := 1) dX2_addDensity_27 rfl ?_
    refine r_iadd C0 dX2_addDensity_28 ?_
    refine r_put2 C0 h0.1 5 rfl rfl w4_9 rfl rfl rfl dX2_addDensity_29 ?_
    exact hend hf dX2_addDensity_32
theorem dX3_hasNoRoom_0 : decode cX3_hasNoRoom 0 = .ok (.aload_n 0, 1) := by decide +kernel
theorem dX3_hasNoRoom_1 : decode cX3_hasNoRoom 1 = .ok (.getfield 91, 3) := by decide +kernel
theorem dX3_hasNoRoom_4 : decode cX3_hasNoRoom 4 = .ok (.getstatic 118, 3) := by decide +kernel
theorem dX3_hasNoRoom_7 : decode cX3_hasNoRoom 7 = .ok (.if_acmp .ne 12, 3) := by decide +kernel
theorem dX3_hasNoRoom_10 : decode cX3_hasNoRoom 10 = .ok (.aload_n 1, 1) := by decide +kernel
theorem dX3_hasNoRoom_11 : decode cX3_hasNoRoom 11 = .ok (.getfield 121, 3) := by decide +kernel
theorem dX3_hasNoRoom_14 : decode cX3_hasNoRoom 14 = .ok (.bipush 6, 2) := by decide +kernel
theorem dX3_hasNoRoom_16 : decode cX3_hasNoRoom 16 = .ok (.if_icmp .ge 22, 3) := by decide +kernel
theorem dX3_hasNoRoom_19 : decode cX3_hasNoRoom 19 = .ok (.aload_n 0, 1) := by decide +kernel
theorem dX3_hasNoRoom_20 : decode cX3_hasNoRoom 20 = .ok (.getfield 91, 3) := by decide +kernel
theorem dX3_hasNoRoom_23 : decode cX3_hasNoRoom 23 = .ok (.getstatic 124, 3) := by decide +kernel
theorem dX3_hasNoRoom_26 : decode cX3_hasNoRoom 26 = .ok (.if_acmp .ne 16, 3) := by decide +kernel
theorem dX3_hasNoRoom_29 : decode cX3_hasNoRoom 29 = .ok (.aload_n 1, 1) := by decide +kernel
theorem dX3_hasNoRoom_30 : decode cX3_hasNoRoom 30 = .ok (.getfield 127, 3) := by decide +kernel
theorem dX3_hasNoRoom_33 : decode cX3_hasNoRoom 33 = .ok (.bipush 6, 2) := by decide +kernel
theorem dX3_hasNoRoom_35 : decode cX3_hasNoRoom 35 = .ok (.if_icmp .lt 7, 3) := by decide +kernel
theorem dX3_hasNoRoom_38 : decode cX3_hasNoRoom 38 = .ok (.iconst 1, 1) := by decide +kernel
theorem dX3_hasNoRoom_39 : decode cX3_hasNoRoom 39 = .ok (.goto 4, 3) := by decide +kernel
theorem dX3_hasNoRoom_42 : decode cX3_hasNoRoom 42 = .ok (.iconst 0, 1) := by decide +kernel
theorem dX3_hasNoRoom_43 : decode cX3_hasNoRoom 43 = .ok (.ireturn, 1) := by decide +kernel
theorem hd_X3_hasNoRoom : yX3_hasNoRoom.cls = RX3 ∧ yX3_hasNoRoom.cls ≠ "java/lang/invoke/MethodHandle" ∧ yX3_hasNoRoom.cls ≠ "java/lang/invoke/VarHandle" ∧ (parseMethodDescriptor yX3_hasNoRoom.desc).map (fun d => d.parameters.length) = some 1 := by decide +kernel
set_option maxRecDepth 100000 in
set_option maxHeartbeats 4000000 in
theorem c_X3_hasNoRoom (l : Launch) (D : va_G) (g : xG) (tb : List xQ) (hT : x_T g tb) {a1 : Nat} (h0 : x_rd tb) (h1 : x_mk tb a1) {M : xM} {r : Int32} {M' : xM} (hf : f_X3_hasNoRoom a1 M = some (r, M')) :
    cI l D g tb yX3_hasNoRoom cX3_hasNoRoom 2 .boolean ({ frames := 0, cells := 0, slots := 0, locals := 0 } : Room) [.ref (g.1 3 1777), .ref (g.1 2 a1)] M r M' := by
  refine x_startZ (own := RX3) (by decide +kernel) rfl rfl (Nat.le_of_ble_eq_true rfl) hT ?_
  intro p e s m args below meth c Q C0 hend
  have B19 : ∀ (M : xM), f_X3_hasNoRoom_c19  a1 M = some (r, M') → WW p l e ({ frames := 0, cells := 0, slots := 0, locals := 0 } : Room) s m args below meth c 0 0 Q 2 D g tb 19 [(0, .ref (g.1 3 1777)), (1, .ref (g.1 2 a1))] [] M := by
    intro     M hf
    unfold f_X3_hasNoRoom_c19 at hf
    refine r_aload_n C0 (kk := 0) 0 rfl dX3_hasNoRoom_19 ?_
    refine r_get3 C0 h0.1 4 (by decide) (v := va_re g.2.2 (x_en (M 1781))) rfl rfl w4_69 dX3_hasNoRoom_20 ?_
    refine r_gverb C0 (i := 1) (x := 2) (by decide) (by decide) w4_221 dX3_hasNoRoom_23 ?_
    obtain ⟨q5, hf⟩ := gd_e hf
    refine r_acmpne C0 q5 (by decide) (tgt := 42) (by decide) dX3_hasNoRoom_26 (fun q4 => ?_) (fun q4 => ?_)
    · have hf := ie_f hf q4
      refine r_iconst C0 (v := 0) dX3_hasNoRoom_42 rfl ?_
      exact hend (by decide) hf dX3_hasNoRoom_43
    · have hf := ie_t hf q4
      refine r_aload_n C0 (kk := 1) 1 rfl dX3_hasNoRoom_29 ?_
      refine r_get2 C0 h1.1 3 (by decide) (v := .int (M (a1 + 10))) rfl rfl w4_5 dX3_hasNoRoom_30 ?_
      refine r_bipush C0 (v := 6) dX3_hasNoRoom_33 rfl ?_
      refine r_icmp_lt C0 (tgt := 42) (by decide) dX3_hasNoRoom_35 (fun q6 => ?_) (fun q6 => ?_)
      · have hf := ie_t hf q6
        refine r_iconst C0 (v := 0) dX3_hasNoRoom_42 rfl ?_
        exact hend (by decide) hf dX3_hasNoRoom_43
      · have hf := ie_f hf q6
        refine r_iconst C0 (v := 1) dX3_hasNoRoom_38 rfl ?_
        refine r_goto C0 (tgt := 43) (by decide) dX3_hasNoRoom_39 ?_
        exact hend (by decide) hf dX3_hasNoRoom_43
  unfold f_X3_hasNoRoom at hf
  refine r_aload_n C0 (kk := 0) 0 rfl dX3_hasNoRoom_0 ?_
  refine r_get3 C0 h0.1 4 (by decide) (v := va_re g.2.2 (x_en (M 1781))) rfl rfl w4_69 dX3_hasNoRoom_1 ?_
  refine r_gverb C0 (i := 0) (x := 1) (by decide) (by decide) w4_219 dX3_hasNoRoom_4 ?_
  obtain ⟨q2, hf⟩ := gd_e hf
  refine r_acmpne C0 q2 (by decide) (tgt := 19) (by decide) dX3_hasNoRoom_7 (fun q1 => ?_) (fun q1 => ?_)
  · have hf := ie_f hf q1
    exact B19     _ hf
  · have hf := ie_t hf q1
    refine r_aload_n C0 (kk := 1) 1 rfl dX3_hasNoRoom_10 ?_
    refine r_get2 C0 h1.1 1 (by decide) (v := .int (M (a1 + 9))) rfl rfl w4_0 dX3_hasNoRoom_11 ?_
    refine r_bipush C0 (v := 6) dX3_hasNoRoom_14 rfl ?_
    refine r_icmp_ge C0 (tgt := 38) (by decide) dX3_hasNoRoom_16 (fun q3 => ?_) (fun q3 => ?_)
    · have hf := ie_t hf q3
      refine r_iconst C0 (v := 1) dX3_hasNoRoom_38 rfl ?_
      refine r_goto C0 (tgt := 43) (by decide) dX3_hasNoRoom_39 ?_
      exact hend (by decide) hf dX3_hasNoRoom_43
    · have hf := ie_f hf q3
      exact B19     _ hf
theorem dX3_keepArgument_0 : decode cX3_keepArgument 0 = .ok (.iload_n 1, 1) := by decide +kernel
theorem dX3_keepArgument_1 : decode cX3_keepArgument 1 = .ok (.ifCond .lt 19, 3) := by decide +kernel
theorem dX3_keepArgument_4 : decode cX3_keepArgument 4 = .ok (.iload_n 1, 1) := by decide +kernel
theorem dX3_keepArgument_5 : decode cX3_keepArgument 5 = .ok (.aload_n 0, 1) := by decide +kernel
theorem dX3_keepArgument_6 : decode cX3_keepArgument 6 = .ok (.getfield 19, 3) := by decide +kernel
theorem dX3_keepArgument_9 : decode cX3_keepArgument 9 = .ok (.arraylength, 1) := by decide +kernel
theorem dX3_keepArgument_10 : decode cX3_keepArgument 10 = .ok (.if_icmp .ge 10, 3) := by decide +kernel
theorem dX3_keepArgument_13 : decode cX3_keepArgument 13 = .ok (.aload_n 0, 1) := by decide +kernel
theorem dX3_keepArgument_14 : decode cX3_keepArgument 14 = .ok (.getfield 19, 3) := by decide +kernel
theorem dX3_keepArgument_17 : decode cX3_keepArgument 17 = .ok (.iload_n 1, 1) := by decide +kernel
theorem dX3_keepArgument_18 : decode cX3_keepArgument 18 = .ok (.iload_n 2, 1) := by decide +kernel
theorem dX3_keepArgument_19 : decode cX3_keepArgument 19 = .ok (.iastore, 1) := by decide +kernel
theorem dX3_keepArgument_20 : decode cX3_keepArgument 20 = .ok (.return_, 1) := by decide +kernel
theorem hd_X3_keepArgument : yX3_keepArgument.cls = RX3 ∧ yX3_keepArgument.cls ≠ "java/lang/invoke/MethodHandle" ∧ yX3_keepArgument.cls ≠ "java/lang/invoke/VarHandle" ∧ (parseMethodDescriptor yX3_keepArgument.desc).map (fun d => d.parameters.length) = some 2 := by decide +kernel
set_option maxRecDepth 100000 in
set_option maxHeartbeats 4000000 in
theorem c_X3_keepArgument (l : Launch) (D : va_G) (g : xG) (tb : List xQ) (hT : x_T g tb) {a1 : Int32} {a2 : Int32} (h0 : x_rd tb) {M M' : xM} (hf : f_X3_keepArgument a1 a2 M = some M') :
    cV l D g tb yX3_keepArgument cX3_keepArgument 3 ({ frames := 0, cells := 0, slots := 0, locals := 0 } : Room) [.ref (g.1 3 1777), .int a1, .int a2] M M' := by
  refine x_startV (own := RX3) (by decide +kernel) rfl rfl (Nat.le_of_ble_eq_true rfl) hT ?_
  intro p e s m args below meth c Q C0 hend
  unfold f_X3_keepArgument at hf
  refine r_iload_n C0 (kk := 1) 1 rfl dX3_keepArgument_0 ?_
  refine r_if_lt C0 (tgt := 20) (by decide) dX3_keepArgument_1 (fun q1 => ?_) (fun q1 => ?_)
  · have hf := ie_t hf q1
    exact hend hf dX3_keepArgument_20
  · have hf := ie_f hf q1
    refine r_iload_n C0 (kk := 1) 1 rfl dX3_keepArgument_4 ?_
    refine r_aload_n C0 (kk := 0) 0 rfl dX3_keepArgument_5 ?_
    refine r_get3 C0 h0.1 5 (by decide) (v := .ref (g.1 6 1787)) rfl rfl w4_71 dX3_keepArgument_6 ?_
    refine r_alen6 C0 h0.2.2 (v := 5) rfl dX3_keepArgument_9 ?_
    refine r_icmp_ge C0 (tgt := 20) (by decide) dX3_keepArgument_10 (fun q2 => ?_) (fun q2 => ?_)
    · have hf := ie_t hf q2
      exact hend hf dX3_keepArgument_20
    · have hf := ie_f hf q2
      refine r_aload_n C0 (kk := 0) 0 rfl dX3_keepArgument_13 ?_
      refine r_get3 C0 h0.1 5 (by decide) (v := .ref (g.1 6 1787)) rfl rfl w4_71 dX3_keepArgument_14 ?_
      refine r_iload_n C0 (kk := 1) 1 rfl dX3_keepArgument_17 ?_
      refine r_iload_n C0 (kk := 2) 2 rfl dX3_keepArgument_18 ?_
      obtain ⟨q3, hf⟩ := gd_e hf
      refine r_iastc C0 h0.2.2 q3 rfl dX3_keepArgument_19 ?_
      exact hend hf dX3_keepArgument_20
theorem dX3_lowest_0 : decode cX3_lowest 0 = .ok (.iload_n 0, 1) := by decide +kernel
theorem dX3_lowest_1 : decode cX3_lowest 1 = .ok (.bipush 99, 2) := by decide +kernel
theorem dX3_lowest_3 : decode cX3_lowest 3 = .ok (.if_icmp .eq 15, 3) := by decide +kernel
theorem dX3_lowest_6 : decode cX3_lowest 6 = .ok (.iload_n 0, 1) := by decide +kernel
theorem dX3_lowest_7 : decode cX3_lowest 7 = .ok (.bipush 118, 2) := by decide +kernel
theorem dX3_lowest_9 : decode cX3_lowest 9 = .ok (.if_icmp .eq 9, 3) := by decide +kernel
theorem dX3_lowest_12 : decode cX3_lowest 12 = .ok (.iload_n 0, 1) := by decide +kernel
theorem dX3_lowest_13 : decode cX3_lowest 13 = .ok (.bipush 110, 2) := by decide +kernel
theorem dX3_lowest_15 : decode cX3_lowest 15 = .ok (.if_icmp .ne 7, 3) := by decide +kernel
theorem dX3_lowest_18 : decode cX3_lowest 18 = .ok (.iconst 1, 1) := by decide +kernel
theorem dX3_lowest_19 : decode cX3_lowest 19 = .ok (.goto 4, 3) := by decide +kernel
theorem dX3_lowest_22 : decode cX3_lowest 22 = .ok (.iconst 0, 1) := by decide +kernel
theorem dX3_lowest_23 : decode cX3_lowest 23 = .ok (.ireturn, 1) := by decide +kernel
theorem hd_X3_lowest : yX3_lowest.cls ≠ "java/lang/invoke/MethodHandle" ∧ yX3_lowest.cls ≠ "java/lang/invoke/VarHandle" ∧ (parseMethodDescriptor yX3_lowest.desc).map (fun d => d.parameters.length) = some 1 := by decide +kernel
set_option maxRecDepth 100000 in
set_option maxHeartbeats 4000000 in
theorem c_X3_lowest (l : Launch) (D : va_G) (g : xG) (tb : List xQ) (hT : x_T g tb) {a0 : Int32}  {M : xM} {r : Int32} {M' : xM} (hf : f_X3_lowest a0 M = some (r, M')) :
    cI l D g tb yX3_lowest cX3_lowest 1 .int ({ frames := 0, cells := 0, slots := 0, locals := 0 } : Room) [.int a0] M r M' := by
  refine x_startI (own := RX3) (by decide +kernel) rfl rfl (Nat.le_of_ble_eq_true rfl) hT ?_
  intro p e s m args below meth c Q C0 hend
  unfold f_X3_lowest at hf
  refine r_iload_n C0 (kk := 0) 0 rfl dX3_lowest_0 ?_
  refine r_bipush C0 (v := 99) dX3_lowest_1 rfl ?_
  refine r_icmp_eq C0 (tgt := 18) (by decide) dX3_lowest_3 (fun q1 => ?_) (fun q1 => ?_)
  · have hf := ie_t hf q1
    refine r_iconst C0 (v := 1) dX3_lowest_18 rfl ?_
    refine r_goto C0 (tgt := 23) (by decide) dX3_lowest_19 ?_
    exact hend hf dX3_lowest_23
  · have hf := ie_f hf q1
    refine r_iload_n C0 (kk := 0) 0 rfl dX3_lowest_6 ?_
    refine r_bipush C0 (v := 118) dX3_lowest_7 rfl ?_
    refine r_icmp_eq C0 (tgt := 18) (by decide) dX3_lowest_9 (fun q2 => ?_) (fun q2 => ?_)
    · have hf := ie_t hf q2
      refine r_iconst C0 (v := 1) dX3_lowest_18 rfl ?_
      refine r_goto C0 (tgt := 23) (by decide) dX3_lowest_19 ?_
      exact hend hf dX3_lowest_23
    · have hf := ie_f hf q2
      refine r_iload_n C0 (kk := 0) 0 rfl dX3_lowest_12 ?_
      refine r_bipush C0 (v := 110) dX3_lowest_13 rfl ?_
      refine r_icmp_ne C0 (tgt := 22) (by decide) dX3_lowest_15 (fun q3 => ?_) (fun q3 => ?_)
      · have hf := ie_f hf q3
        refine r_iconst C0 (v := 0) dX3_lowest_22 rfl ?_
        exact hend hf dX3_lowest_23
      · have hf := ie_t hf q3
        refine r_iconst C0 (v := 1) dX3_lowest_18 rfl ?_
        refine r_goto C0 (tgt := 23) (by decide) dX3_lowest_19 ?_
        exact hend hf dX3_lowest_23
theorem dX3_highest_0 : decode cX3_highest 0 = .ok (.iload_n 0, 1) := by decide +kernel
theorem dX3_highest_1 : decode cX3_highest 1 = .ok (.tableswitch 140 98 118 #[123, 102, 137, 140, 140, 106, 140, 130, 140, 140, 140, 109, 140, 140, 99, 140, 140, 116, 140, 140, 113], 99) := by decide +kernel
theorem dX3_highest_100 : decode cX3_highest 100 = .ok (.bipush 99, 2) := by decide +kernel
theorem dX3_highest_102 : decode cX3_highest 102 = .ok (.ireturn, 1) := by decide +kernel
theorem dX3_highest_103 : decode cX3_highest 103 = .ok (.sipush 999, 3) := by decide +kernel
theorem dX3_highest_106 : decode cX3_highest 106 = .ok (.ireturn, 1) := by decide +kernel
theorem dX3_highest_107 : decode cX3_highest 107 = .ok (.bipush 99, 2) := by decide +kernel
theorem dX3_highest_109 : decode cX3_highest 109 = .ok (.ireturn, 1) := by decide +kernel
theorem dX3_highest_110 : decode cX3_highest 110 = .ok (.sipush 9999, 3) := by decide +kernel
theorem dX3_highest_113 : decode cX3_highest 113 = .ok (.ireturn, 1) := by decide +kernel
theorem dX3_highest_114 : decode cX3_highest 114 = .ok (.bipush 20, 2) := by decide +kernel
theorem dX3_highest_116 : decode cX3_highest 116 = .ok (.ireturn, 1) := by decide +kernel
theorem dX3_highest_117 : decode cX3_highest 117 = .ok (.aload_n 1, 1) := by decide +kernel
theorem dX3_highest_118 : decode cX3_highest 118 = .ok (.getfield 121, 3) := by decide +kernel
theorem dX3_highest_121 : decode cX3_highest 121 = .ok (.iconst 1, 1) := by decide +kernel
theorem dX3_highest_122 : decode cX3_highest 122 = .ok (.isub, 1) := by decide +kernel
theorem dX3_highest_123 : decode cX3_highest 123 = .ok (.ireturn, 1) := by decide +kernel
theorem dX3_highest_124 : decode cX3_highest 124 = .ok (.aload_n 1, 1) := by decide +kernel
theorem dX3_highest_125 : decode cX3_highest 125 = .ok (.getfield 127, 3) := by decide +kernel
theorem dX3_highest_128 : decode cX3_highest 128 = .ok (.iconst 1, 1) := by decide +kernel
theorem dX3_highest_129 : decode cX3_highest 129 = .ok (.isub, 1) := by decide +kernel
theorem dX3_highest_130 : decode cX3_highest 130 = .ok (.ireturn, 1) := by decide +kernel
theorem dX3_highest_131 : decode cX3_highest 131 = .ok (.aload_n 1, 1) := by decide +kernel
theorem dX3_highest_132 : decode cX3_highest 132 = .ok (.getfield 155, 3) := by decide +kernel
theorem dX3_highest_135 : decode cX3_highest 135 = .ok (.iconst 1, 1) := by decide +kernel
theorem dX3_highest_136 : decode cX3_highest 136 = .ok (.isub, 1) := by decide +kernel
theorem dX3_highest_137 : decode cX3_highest 137 = .ok (.ireturn, 1) := by decide +kernel
theorem dX3_highest_138 : decode cX3_highest 138 = .ok (.bipush 9, 2) := by decide +kernel
theorem dX3_highest_140 : decode cX3_highest 140 = .ok (.ireturn, 1) := by decide +kernel
theorem dX3_highest_141 : decode cX3_highest 141 = .ok (.bipush 100, 2) := by decide +kernel
theorem dX3_highest_143 : decode cX3_highest 143 = .ok (.ireturn, 1) := by decide +kernel
theorem hd_X3_highest : yX3_highest.cls ≠ "java/lang/invoke/MethodHandle" ∧ yX3_highest.cls ≠ "java/lang/invoke/VarHandle" ∧ (parseMethodDescriptor yX3_highest.desc).map (fun d => d.parameters.length) = some 2 := by decide +kernel
set_option maxRecDepth 100000 in
set_option maxHeartbeats 4000000 in
theorem c_X3_highest (l : Launch) (D : va_G) (g : xG) (tb : List xQ) (hT : x_T g tb) {a0 : Int32} {a1 : Nat} (h1 : x_mk tb a1) {M : xM} {r : Int32} {M' : xM} (hf : f_X3_highest a0 a1 M = some (r, M')) :
    cI l D g tb yX3_highest cX3_highest 2 .int ({ frames := 0, cells := 0, slots := 0, locals := 0 } : Room) [.int a0, .ref (g.1 2 a1)] M r M' := by
  refine x_startI (own := RX3) (by decide +kernel) rfl rfl (Nat.le_of_ble_eq_true rfl) hT ?_
  intro p e s m args below meth c Q C0 hend
  unfold f_X3_highest at hf
  refine r_iload_n C0 (kk := 0) 0 rfl dX3_highest_0 ?_
  rcases Decidable.em (a0 = 98) with q1 | q1
  · have hf := ie_t hf q1
    refine r_tsc C0 (cst := 98) q1 (by decide) (by decide) rfl (tgt := 124) (by decide) dX3_highest_1 ?_
    refine r_aload_n C0 (kk := 1) 1 rfl dX3_highest_124 ?_
    refine r_get2 C0 h1.1 3 (by decide) (v := .int (M (a1 + 10))) rfl rfl w4_5 dX3_highest_125 ?_
    refine r_iconst C0 (v := 1) dX3_highest_128 rfl ?_
    refine r_isub C0 dX3_highest_129 ?_
    exact hend hf dX3_highest_130
  have hf := ie_f hf q1
  have nq1 : Int32.toInt a0 ≠ 98 := fun h => q1 (Int32.toInt_inj.mp h)
  rcases Decidable.em (a0 = 99) with q2 | q2
  · have hf := ie_t hf q2
    refine r_tsc C0 (cst := 99) q2 (by decide) (by decide) rfl (tgt := 103) (by decide) dX3_highest_1 ?_
    refine r_sipush C0 (v := 999) dX3_highest_103 rfl ?_
    exact hend hf dX3_highest_106
  have hf := ie_f hf q2
  have nq2 : Int32.toInt a0 ≠ 99 := fun h => q2 (Int32.toInt_inj.mp h)
  rcases Decidable.em (a0 = 100) with q3 | q3
  · have hf := ie_t hf q3
    refine r_tsc C0 (cst := 100) q3 (by decide) (by decide) rfl (tgt := 138) (by decide) dX3_highest_1 ?_
    refine r_bipush C0 (v := 9) dX3_highest_138 rfl ?_
    exact hend hf dX3_highest_140
  have hf := ie_f hf q3
  have nq3 : Int32.toInt a0 ≠ 100 := fun h => q3 (Int32.toInt_inj.mp h)
  rcases Decidable.em (a0 = 101) with q4 | q4
  · have hf := ie_t hf q4
    refine r_tsc C0 (cst := 101) q4 (by decide) (by decide) rfl (tgt := 141) (by decide) dX3_highest_1 ?_
    refine r_bipush C0 (v := 100) dX3_highest_141 rfl ?_
    exact hend hf dX3_highest_143
  have hf := ie_f hf q4
  have nq4 : Int32.toInt a0 ≠ 101 := fun h => q4 (Int32.toInt_inj.mp h)
  rcases Decidable.em (a0 = 102) with q5 | q5
  · have hf := ie_t hf q5
    refine r_tsc C0 (cst := 102) q5 (by decide) (by decide) rfl (tgt := 141) (by decide) dX3_highest_1 ?_
    refine r_bipush C0 (v := 100) dX3_highest_141 rfl ?_
    exact hend hf dX3_highest_143
  have hf := ie_f hf q5
  have nq5 : Int32.toInt a0 ≠ 102 := fun h => q5 (Int32.toInt_inj.mp h)
  rcases Decidable.em (a0 = 103) with q6 | q6
  · have hf := ie_t hf q6
    refine r_tsc C0 (cst := 103) q6 (by decide) (by decide) rfl (tgt := 107) (by decide) dX3_highest_1 ?_
    refine r_bipush C0 (v := 99) dX3_highest_107 rfl ?_
    exact hend hf dX3_highest_109
  have hf := ie_f hf q6
  have nq6 : Int32.toInt a0 ≠ 103 := fun h => q6 (Int32.toInt_inj.mp h)
  rcases Decidable.em (a0 = 104) with q7 | q7
  · have hf := ie_t hf q7
    refine r_tsc C0 (cst := 104) q7 (by decide) (by decide) rfl (tgt := 141) (by decide) dX3_highest_1 ?_
    refine r_bipush C0 (v := 100) dX3_highest_141 rfl ?_
    exact hend hf dX3_highest_143
  have hf := ie_f hf q7
  have nq7 : Int32.toInt a0 ≠ 104 := fun h => q7 (Int32.toInt_inj.mp h)
  rcases Decidable.em (a0 = 105) with q8 | q8
  · have hf := ie_t hf q8
    refine r_tsc C0 (cst := 105) q8 (by decide) (by decide) rfl (tgt := 131) (by decide) dX3_highest_1 ?_
    refine r_aload_n C0 (kk := 1) 1 rfl dX3_highest_131 ?_
    refine r_get2 C0 h1.1 5 (by decide) (v := .int (M (a1 + 8))) rfl rfl w4_10 dX3_highest_132 ?_
    refine r_iconst C0 (v := 1) dX3_highest_135 rfl ?_
    refine r_isub C0 dX3_highest_136 ?_
    exact hend hf dX3_highest_137
  have hf := ie_f hf q8
  have nq8 : Int32.toInt a0 ≠ 105 := fun h => q8 (Int32.toInt_inj.mp h)
  rcases Decidable.em (a0 = 106) with q9 | q9
  · have hf := ie_t hf q9
    refine r_tsc C0 (cst := 106) q9 (by decide) (by decide) rfl (tgt := 141) (by decide) dX3_highest_1 ?_
    refine r_bipush C0 (v := 100) dX3_highest_141 rfl ?_
    exact hend hf dX3_highest_143
  have hf := ie_f hf q9
  have nq9 : Int32.toInt a0 ≠ 106 := fun h => q9 (Int32.toInt_inj.mp h)
  rcases Decidable.em (a0 = 107) with q10 | q10
  · have hf := ie_t hf q10
    refine r_tsc C0 (cst := 107) q10 (by decide) (by decide) rfl (tgt := 141) (by decide) dX3_highest_1 ?_
    refine r_bipush C0 (v := 100) dX3_highest_141 rfl ?_
    exact hend hf dX3_highest_143
  have hf := ie_f hf q10
  have nq10 : Int32.toInt a0 ≠ 107 := fun h => q10 (Int32.toInt_inj.mp h)
  rcases Decidable.em (a0 = 108) with q11 | q11
  · have hf := ie_t hf q11
    refine r_tsc C0 (cst := 108) q11 (by decide) (by decide) rfl (tgt := 141) (by decide) dX3_highest_1 ?_
    refine r_bipush C0 (v := 100) dX3_highest_141 rfl ?_
    exact hend hf dX3_highest_143
  have hf := ie_f hf q11
  have nq11 : Int32.toInt a0 ≠ 108 := fun h => q11 (Int32.toInt_inj.mp h)
  rcases Decidable.em (a0 = 109) with q12 | q12
  · have hf := ie_t hf q12
    refine r_tsc C0 (cst := 109) q12 (by decide) (by decide) rfl (tgt := 110) (by decide) dX3_highest_1 ?_
    refine r_sipush C0 (v := 9999) dX3_highest_110 rfl ?_
    exact hend hf dX3_highest_113
  have hf := ie_f hf q12
  have nq12 : Int32.toInt a0 ≠ 109 := fun h => q12 (Int32.toInt_inj.mp h)
  rcases Decidable.em (a0 = 110) with q13 | q13
  · have hf := ie_t hf q13
    refine r_tsc C0 (cst := 110) q13 (by decide) (by decide) rfl (tgt := 141) (by decide) dX3_highest_1 ?_
    refine r_bipush C0 (v := 100) dX3_highest_141 rfl ?_
    exact hend hf dX3_highest_143
  have hf := ie_f hf q13
  have nq13 : Int32.toInt a0 ≠ 110 := fun h => q13 (Int32.toInt_inj.mp h)
  rcases Decidable.em (a0 = 111) with q14 | q14
  · have hf := ie_t hf q14
    refine r_tsc C0 (cst := 111) q14 (by decide) (by decide) rfl (tgt := 141) (by decide) dX3_highest_1 ?_
    refine r_bipush C0 (v := 100) dX3_highest_141 rfl ?_
    exact hend hf dX3_highest_143
  have hf := ie_f hf q14
  have nq14 : Int32.toInt a0 ≠ 111 := fun h => q14 (Int32.toInt_inj.mp h)
  rcases Decidable.em (a0 = 112) with q15 | q15
  · have hf := ie_t hf q15
    refine r_tsc C0 (cst := 112) q15 (by decide) (by decide) rfl (tgt := 100) (by decide) dX3_highest_1 ?_
    refine r_bipush C0 (v := 99) dX3_highest_100 rfl ?_
    exact hend hf dX3_highest_102
  have hf := ie_f hf q15
  have nq15 : Int32.toInt a0 ≠ 112 := fun h => q15 (Int32.toInt_inj.mp h)
  rcases Decidable.em (a0 = 113) with q16 | q16
  · have hf := ie_t hf q16
    refine r_tsc C0 (cst := 113) q16 (by decide) (by decide) rfl (tgt := 141) (by decide) dX3_highest_1 ?_
    refine r_bipush C0 (v := 100) dX3_highest_141 rfl ?_
    exact hend hf dX3_highest_143
  have hf := ie_f hf q16
  have nq16 : Int32.toInt a0 ≠ 113 := fun h => q16 (Int32.toInt_inj.mp h)
  rcases Decidable.em (a0 = 114) with q17 | q17
  · have hf := ie_t hf q17
    refine r_tsc C0 (cst := 114) q17 (by decide) (by decide) rfl (tgt := 141) (by decide) dX3_highest_1 ?_
    refine r_bipush C0 (v := 100) dX3_highest_141 rfl ?_
    exact hend hf dX3_highest_143
  have hf := ie_f hf q17
  have nq17 : Int32.toInt a0 ≠ 114 := fun h => q17 (Int32.toInt_inj.mp h)
  rcases Decidable.em (a0 = 115) with q18 | q18
  · have hf := ie_t hf q18
    refine r_tsc C0 (cst := 115) q18 (by decide) (by decide) rfl (tgt := 117) (by decide) dX3_highest_1 ?_
    refine r_aload_n C0 (kk := 1) 1 rfl dX3_highest_117 ?_
    refine r_get2 C0 h1.1 1 (by decide) (v := .int (M (a1 + 9))) rfl rfl w4_0 dX3_highest_118 ?_
    refine r_iconst C0 (v := 1) dX3_highest_121 rfl ?_
    refine r_isub C0 dX3_highest_122 ?_
    exact hend hf dX3_highest_123
  have hf := ie_f hf q18
  have nq18 : Int32.toInt a0 ≠ 115 := fun h => q18 (Int32.toInt_inj.mp h)
  rcases Decidable.em (a0 = 116) with q19 | q19
  · have hf := ie_t hf q19
    refine r_tsc C0 (cst := 116) q19 (by decide) (by decide) rfl (tgt := 141) (by decide) dX3_highest_1 ?_
    refine r_bipush C0 (v := 100) dX3_highest_141 rfl ?_
    exact hend hf dX3_highest_143
  have hf := ie_f hf q19
  have nq19 : Int32.toInt a0 ≠ 116 := fun h => q19 (Int32.toInt_inj.mp h)
  rcases Decidable.em (a0 = 117) with q20 | q20
  · have hf := ie_t hf q20
    refine r_tsc C0 (cst := 117) q20 (by decide) (by decide) rfl (tgt := 141) (by decide) dX3_highest_1 ?_
    refine r_bipush C0 (v := 100) dX3_highest_141 rfl ?_
    exact hend hf dX3_highest_143
  have hf := ie_f hf q20
  have nq20 : Int32.toInt a0 ≠ 117 := fun h => q20 (Int32.toInt_inj.mp h)
  rcases Decidable.em (a0 = 118) with q21 | q21
  · have hf := ie_t hf q21
    refine r_tsc C0 (cst := 118) q21 (by decide) (by decide) rfl (tgt := 114) (by decide) dX3_highest_1 ?_
    refine r_bipush C0 (v := 20) dX3_highest_114 rfl ?_
    exact hend hf dX3_highest_116
  have hf := ie_f hf q21
  have nq21 : Int32.toInt a0 ≠ 118 := fun h => q21 (Int32.toInt_inj.mp h)
  refine r_tsd C0 (by omega) (tgt := 141) (by decide) dX3_highest_1 ?_
  refine r_bipush C0 (v := 100) dX3_highest_141 rfl ?_
  exact hend hf dX3_highest_143
theorem dX3_argument_0 : decode cX3_argument 0 = .ok (.iload_n 1, 1) := by decide +kernel
theorem dX3_argument_1 : decode cX3_argument 1 = .ok (.ifCond .lt 21, 3) := by decide +kernel
theorem dX3_argument_4 : decode cX3_argument 4 = .ok (.iload_n 1, 1) := by decide +kernel
theorem dX3_argument_5 : decode cX3_argument 5 = .ok (.aload_n 0, 1) := by decide +kernel
theorem dX3_argument_6 : decode cX3_argument 6 = .ok (.getfield 19, 3) := by decide +kernel
theorem dX3_argument_9 : decode cX3_argument 9 = .ok (.arraylength, 1) := by decide +kernel
theorem dX3_argument_10 : decode cX3_argument 10 = .ok (.if_icmp .ge 12, 3) := by decide +kernel
theorem dX3_argument_13 : decode cX3_argument 13 = .ok (.aload_n 0, 1) := by decide +kernel
theorem dX3_argument_14 : decode cX3_argument 14 = .ok (.getfield 19, 3) := by decide +kernel
theorem dX3_argument_17 : decode cX3_argument 17 = .ok (.iload_n 1, 1) := by decide +kernel
theorem dX3_argument_18 : decode cX3_argument 18 = .ok (.iaload, 1) := by decide +kernel
theorem dX3_argument_19 : decode cX3_argument 19 = .ok (.goto 4, 3) := by decide +kernel
theorem dX3_argument_22 : decode cX3_argument 22 = .ok (.iconst 0, 1) := by decide +kernel
theorem dX3_argument_23 : decode cX3_argument 23 = .ok (.ireturn, 1) := by decide +kernel
theorem hd_X3_argument : yX3_argument.cls = RX3 ∧ yX3_argument.cls ≠ "java/lang/invoke/MethodHandle" ∧ yX3_argument.cls ≠ "java/lang/invoke/VarHandle" ∧ (parseMethodDescriptor yX3_argument.desc).map (fun d => d.parameters.length) = some 1 := by decide +kernel
set_option maxRecDepth 100000 in
set_option maxHeartbeats 4000000 in
theorem c_X3_argument (l : Launch) (D : va_G) (g : xG) (tb : List xQ) (hT : x_T g tb) {a1 : Int32} (h0 : x_rd tb) {M : xM} {r : Int32} {M' : xM} (hf : f_X3_argument a1 M = some (r, M')) :
    cI l D g tb yX3_argument cX3_argument 2 .int ({ frames := 0, cells := 0, slots := 0, locals := 0 } : Room) [.ref (g.1 3 1777), .int a1] M r M' := by
  refine x_startI (own := RX3) (by decide +kernel) rfl rfl (Nat.le_of_ble_eq_true rfl) hT ?_
  intro p e s m args below meth c Q C0 hend
  unfold f_X3_argument at hf
  refine r_iload_n C0 (kk := 1) 1 rfl dX3_argument_0 ?_
  refine r_if_lt C0 (tgt := 22) (by decide) dX3_argument_1 (fun q1 => ?_) (fun q1 => ?_)
  · have hf := ie_t hf q1
    refine r_iconst C0 (v := 0) dX3_argument_22 rfl ?_
    exact hend hf dX3_argument_23
  · have hf := ie_f hf q1
    refine r_iload_n C0 (kk := 1) 1 rfl dX3_argument_4 ?_
    refine r_aload_n C0 (kk := 0) 0 rfl dX3_argument_5 ?_
    refine r_get3 C0 h0.1 5 (by decide) (v := .ref (g.1 6 1787)) rfl rfl w4_71 dX3_argument_6 ?_
    refine r_alen6 C0 h0.2.2 (v := 5) rfl dX3_argument_9 ?_
    refine r_icmp_ge C0 (tgt := 22) (by decide) dX3_argument_10 (fun q2 => ?_) (fun q2 => ?_)
    · have hf := ie_t hf q2
      refine r_iconst C0 (v := 0) dX3_argument_22 rfl ?_
      exact hend hf dX3_argument_23
    · have hf := ie_f hf q2
      refine r_aload_n C0 (kk := 0) 0 rfl dX3_argument_13 ?_
      refine r_get3 C0 h0.1 5 (by decide) (v := .ref (g.1 6 1787)) rfl rfl w4_71 dX3_argument_14 ?_
      refine r_iload_n C0 (kk := 1) 1 rfl dX3_argument_17 ?_
      obtain ⟨q3, hf⟩ := gd_e hf
      refine r_ialdc C0 h0.2.2 q3 rfl dX3_argument_18 ?_
      refine r_goto C0 (tgt := 23) (by decide) dX3_argument_19 ?_
      exact hend hf dX3_argument_23
theorem dX4_hasRoomFor_0 : decode cX4_hasRoomFor 0 = .ok (.aload_n 0, 1) := by decide +kernel
theorem dX4_hasRoomFor_1 : decode cX4_hasRoomFor 1 = .ok (.getfield 24, 3) := by decide +kernel
theorem dX4_hasRoomFor_4 : decode cX4_hasRoomFor 4 = .ok (.iload_n 1, 1) := by decide +kernel
theorem dX4_hasRoomFor_5 : decode cX4_hasRoomFor 5 = .ok (.iadd, 1) := by decide +kernel
theorem dX4_hasRoomFor_6 : decode cX4_hasRoomFor 6 = .ok (.bipush 99, 2) := by decide +kernel
theorem dX4_hasRoomFor_8 : decode cX4_hasRoomFor 8 = .ok (.if_icmp .gt 7, 3) := by decide +kernel
theorem dX4_hasRoomFor_11 : decode cX4_hasRoomFor 11 = .ok (.iconst 1, 1) := by decide +kernel
theorem dX4_hasRoomFor_12 : decode cX4_hasRoomFor 12 = .ok (.goto 4, 3) := by decide +kernel
theorem dX4_hasRoomFor_15 : decode cX4_hasRoomFor 15 = .ok (.iconst 0, 1) := by decide +kernel
theorem dX4_hasRoomFor_16 : decode cX4_hasRoomFor 16 = .ok (.ireturn, 1) := by decide +kernel
theorem hd_X4_hasRoomFor : yX4_hasRoomFor.cls = RX4 ∧ yX4_hasRoomFor.cls ≠ "java/lang/invoke/MethodHandle" ∧ yX4_hasRoomFor.cls ≠ "java/lang/invoke/VarHandle" ∧ (parseMethodDescriptor yX4_hasRoomFor.desc).map (fun d => d.parameters.length) = some 1 := by decide +kernel
set_option maxRecDepth 100000 in
set_option maxHeartbeats 4000000 in
theorem c_X4_hasRoomFor (l : Launch) (D : va_G) (g : xG) (tb : List xQ) (hT : x_T g tb) {a0 : Nat} {a1 : Int32} (h0 : ((0, a0, 0) : xQ) ∈ tb) {M : xM} {r : Int32} {M' : xM} (hf : f_X4_hasRoomFor a0 a1 M = some (r, M')) :
    cI l D g tb yX4_hasRoomFor cX4_hasRoomFor 2 .boolean ({ frames := 0, cells := 0, slots := 0, locals := 0 } : Room) [.ref (g.1 0 a0), .int a1] M r M' := by
  refine x_startZ (own := RX4) (by decide +kernel) rfl rfl (Nat.le_of_ble_eq_true rfl) hT ?_
  intro p e s m args below meth c Q C0 hend
  unfold f_X4_hasRoomFor at hf
  refine r_aload_n C0 (kk := 0) 0 rfl dX4_hasRoomFor_0 ?_
  refine r_get0 C0 h0 4 (by decide) (v := .int (M (a0 + 4))) rfl rfl w3_159 dX4_hasRoomFor_1 ?_
  refine r_iload_n C0 (kk := 1) 1 rfl dX4_hasRoomFor_4 ?_
  refine r_iadd C0 dX4_hasRoomFor_5 ?_
  refine r_bipush C0 (v := 99) dX4_hasRoomFor_6 rfl ?_
  refine r_icmp_gt C0 (tgt := 15) (by decide) dX4_hasRoomFor_8 (fun q1 => ?_) (fun q1 => ?_)
  · have hf := ie_t hf q1
    refine r_iconst C0 (v := 0) dX4_hasRoomFor_15 rfl ?_
    exact hend (by decide) hf dX4_hasRoomFor_16
  · have hf := ie_f hf q1
    refine r_iconst C0 (v := 1) dX4_hasRoomFor_11 rfl ?_
    refine r_goto C0 (tgt := 16) (by decide) dX4_hasRoomFor_12 ?_
    exact hend (by decide) hf dX4_hasRoomFor_16
theorem dX2_isBuyer_0 : decode cX2_isBuyer 0 = .ok (.iload_n 1, 1) := by decide +kernel
theorem dX2_isBuyer_1 : decode cX2_isBuyer 1 = .ok (.ifCond .lt 15, 3) := by decide +kernel
theorem dX2_isBuyer_4 : decode cX2_isBuyer 4 = .ok (.iload_n 1, 1) := by decide +kernel
theorem dX2_isBuyer_5 : decode cX2_isBuyer 5 = .ok (.aload_n 0, 1) := by decide +kernel
theorem dX2_isBuyer_6 : decode cX2_isBuyer 6 = .ok (.getfield 33, 3) := by decide +kernel
theorem dX2_isBuyer_9 : decode cX2_isBuyer 9 = .ok (.if_icmp .ge 7, 3) := by decide +kernel
theorem dX2_isBuyer_12 : decode cX2_isBuyer 12 = .ok (.iconst 1, 1) := by decide +kernel
theorem dX2_isBuyer_13 : decode cX2_isBuyer 13 = .ok (.goto 4, 3) := by decide +kernel
theorem dX2_isBuyer_16 : decode cX2_isBuyer 16 = .ok (.iconst 0, 1) := by decide +kernel
theorem dX2_isBuyer_17 : decode cX2_isBuyer 17 = .ok (.ireturn, 1) := by decide +kernel
theorem hd_X2_isBuyer : yX2_isBuyer.cls = RX2 ∧ yX2_isBuyer.cls ≠ "java/lang/invoke/MethodHandle" ∧ yX2_isBuyer.cls ≠ "java/lang/invoke/VarHandle" ∧ (parseMethodDescriptor yX2_isBuyer.desc).map (fun d => d.parameters.length) = some 1 := by decide +kernel
set_option maxRecDepth 100000 in
set_option maxHeartbeats 4000000 in
theorem c_X2_isBuyer (l : Launch) (D : va_G) (g : xG) (tb : List xQ) (hT : x_T g tb) {a0 : Nat} {a1 : Int32} (h0 : x_mk tb a0) {M : xM} {r : Int32} {M' : xM} (hf : f_X2_isBuyer a0 a1 M = some (r, M')) :
    cI l D g tb yX2_isBuyer cX2_isBuyer 2 .boolean ({ frames := 0, cells := 0, slots := 0, locals := 0 } : Room) [.ref (g.1 2 a0), .int a1] M r M' := by
  refine x_startZ (own := RX2) (by decide +kernel) rfl rfl (Nat.le_of_ble_eq_true rfl) hT ?_
  intro p e s m args below meth c Q C0 hend
  unfold f_X2_isBuyer at hf
  refine r_iload_n C0 (kk := 1) 1 rfl dX2_isBuyer_0 ?_
  refine r_if_lt C0 (tgt := 16) (by decide) dX2_isBuyer_1 (fun q1 => ?_) (fun q1 => ?_)
  · have hf := ie_t hf q1
    refine r_iconst C0 (v := 0) dX2_isBuyer_16 rfl ?_
    exact hend (by decide) hf dX2_isBuyer_17
  · have hf := ie_f hf q1
    refine r_iload_n C0 (kk := 1) 1 rfl dX2_isBuyer_4 ?_
    refine r_aload_n C0 (kk := 0) 0 rfl dX2_isBuyer_5 ?_
    refine r_get2 C0 h0.1 3 (by decide) (v := .int (M (a0 + 10))) rfl rfl w4_4 dX2_isBuyer_6 ?_
    refine r_icmp_ge C0 (tgt := 16) (by decide) dX2_isBuyer_9 (fun q2 => ?_) (fun q2 => ?_)
    · have hf := ie_t hf q2
      refine r_iconst C0 (v := 0) dX2_isBuyer_16 rfl ?_
      exact hend (by decide) hf dX2_isBuyer_17
    · have hf := ie_f hf q2
      refine r_iconst C0 (v := 1) dX2_isBuyer_12 rfl ?_
      refine r_goto C0 (tgt := 17) (by decide) dX2_isBuyer_13 ?_
      exact hend (by decide) hf dX2_isBuyer_17
theorem dX1_holds_0 : decode cX1_holds 0 = .ok (.aload_n 0, 1) := by decide +kernel
theorem dX1_holds_1 : decode cX1_holds 1 = .ok (.getfield 9, 3) := by decide +kernel
theorem dX1_holds_4 : decode cX1_holds 4 = .ok (.iconst (-1), 1) := by decide +kernel
theorem dX1_holds_5 : decode cX1_holds 5 = .ok (.if_icmp .eq 7, 3) := by decide +kernel
theorem dX1_holds_8 : decode cX1_holds 8 = .ok (.iconst 1, 1) := by decide +kernel
theorem dX1_holds_9 : decode cX1_holds 9 = .ok (.goto 4, 3) := by decide +kernel
theorem dX1_holds_12 : decode cX1_holds 12 = .ok (.iconst 0, 1) := by decide +kernel
theorem dX1_holds_13 : decode cX1_holds 13 = .ok (.ireturn, 1) := by decide +kernel
theorem hd_X1_holds : yX1_holds.cls = RX1 ∧ yX1_holds.cls ≠ "java/lang/invoke/MethodHandle" ∧ yX1_holds.cls ≠ "java/lang/invoke/VarHandle" ∧ (parseMethodDescriptor yX1_holds.desc).map (fun d => d.parameters.length) = some 0 := by decide +kernel
set_option maxRecDepth 100000 in
set_option maxHeartbeats 4000000 in
theorem c_X1_holds (l : Launch) (D : va_G) (g : xG) (tb : List xQ) (hT : x_T g tb) {a0 : Nat} (h0 : ((1, a0, 0) : xQ) ∈ tb) {M : xM} {r : Int32} {M' : xM} (hf : f_X1_holds a0 M = some (r, M')) :
    cI l D g tb yX1_holds cX1_holds 1 .boolean ({ frames := 0, cells := 0, slots := 0, locals := 0 } : Room) [.ref (g.1 1 a0)] M r M' := by
  refine x_startZ (own := RX1) (by decide +kernel) rfl rfl (Nat.le_of_ble_eq_true rfl) hT ?_
  intro p e s m args below meth c Q C0 hend
  unfold f_X1_holds at hf
  refine r_aload_n C0 (kk := 0) 0 rfl dX1_holds_0 ?_
  refine r_get1 C0 h0 4 (by decide) (v := .int (M (a0 + 4))) rfl rfl w3_208 dX1_holds_1 ?_
  refine r_iconst C0 (v := (-1)) dX1_holds_4 rfl ?_
  refine r_icmp_eq C0 (tgt := 12) (by decide) dX1_holds_5 (fun q1 => ?_) (fun q1 => ?_)
  · have hf := ie_t hf q1
    refine r_iconst C0 (v := 0) dX1_holds_12 rfl ?_
    exact hend (by decide) hf dX1_holds_13
  · have hf := ie_f hf q1
    refine r_iconst C0 (v := 1) dX1_holds_8 rfl ?_
    refine r_goto C0 (tgt := 13) (by decide) dX1_holds_9 ?_
    exact hend (by decide) hf dX1_holds_13
theorem dX4_reset_0 : decode cX4_reset 0 = .ok (.aload_n 0, 1) := by decide +kernel
theorem dX4_reset_1 : decode cX4_reset 1 = .ok (.iload_n 1, 1) := by decide +kernel
theorem dX4_reset_2 : decode cX4_reset 2 = .ok (.putfield 9, 3) := by decide +kernel
theorem dX4_reset_5 : decode cX4_reset 5 = .ok (.aload_n 0, 1) := by decide +kernel
theorem dX4_reset_6 : decode cX4_reset 6 = .ok (.iload_n 2, 1) := by decide +kernel
theorem dX4_reset_7 : decode cX4_reset 7 = .ok (.putfield 15, 3) := by decide +kernel
theorem dX4_reset_10 : decode cX4_reset 10 = .ok (.aload_n 0, 1) := by decide +kernel
theorem dX4_reset_11 : decode cX4_reset 11 = .ok (.iload_n 3, 1) := by decide +kernel
theorem dX4_reset_12 : decode cX4_reset 12 = .ok (.putfield 18, 3) := by decide +kernel
theorem dX4_reset_15 : decode cX4_reset 15 = .ok (.aload_n 0, 1) := by decide +kernel
theorem dX4_reset_16 : decode cX4_reset 16 = .ok (.iload 4, 2) := by decide +kernel
theorem dX4_reset_18 : decode cX4_reset 18 = .ok (.putfield 21, 3) := by decide +kernel
theorem dX4_reset_21 : decode cX4_reset 21 = .ok (.aload_n 0, 1) := by decide +kernel
theorem dX4_reset_22 : decode cX4_reset 22 = .ok (.iconst 0, 1) := by decide +kernel
theorem dX4_reset_23 : decode cX4_reset 23 = .ok (.putfield 24, 3) := by decide +kernel
theorem dX4_reset_26 : decode cX4_reset 26 = .ok (.aload_n 0, 1) := by decide +kernel
theorem dX4_reset_27 : decode cX4_reset 27 = .ok (.iconst 0, 1) := by decide +kernel
theorem dX4_reset_28 : decode cX4_reset 28 = .ok (.putfield 27, 3) := by decide +kernel
theorem dX4_reset_31 : decode cX4_reset 31 = .ok (.aload_n 0, 1) := by decide +kernel
theorem dX4_reset_32 : decode cX4_reset 32 = .ok (.iconst 0, 1) := by decide +kernel
theorem dX4_reset_33 : decode cX4_reset 33 = .ok (.putfield 30, 3) := by decide +kernel
theorem dX4_reset_36 : decode cX4_reset 36 = .ok (.aload_n 0, 1) := by decide +kernel
theorem dX4_reset_37 : decode cX4_reset 37 = .ok (.iconst 0, 1) := by decide +kernel
theorem dX4_reset_38 : decode cX4_reset 38 = .ok (.putfield 33, 3) := by decide +kernel
theorem dX4_reset_41 : decode cX4_reset 41 = .ok (.aload_n 0, 1) := by decide +kernel
theorem dX4_reset_42 : decode cX4_reset 42 = .ok (.iconst 0, 1) := by decide +kernel
theorem dX4_reset_43 : decode cX4_reset 43 = .ok (.putfield 36, 3) := by decide +kernel
theorem dX4_reset_46 : decode cX4_reset 46 = .ok (.return_, 1) := by decide +kernel
theorem hd_X4_reset : yX4_reset.cls = RX4 ∧ yX4_reset.cls ≠ "java/lang/invoke/MethodHandle" ∧ yX4_reset.cls ≠ "java/lang/invoke/VarHandle" ∧ (parseMethodDescriptor yX4_reset.desc).map (fun d => d.parameters.length) = some 4 := by decide +kernel
set_option maxRecDepth 100000 in
set_option maxHeartbeats 4000000 in
theorem c_X4_reset (l : Launch) (D : va_G) (g : xG) (tb : List xQ) (hT : x_T g tb) {a0 : Nat} {a1 : Int32} {a2 : Int32} {a3 : Int32} {a4 : Int32} (h0 : ((0, a0, 0) : xQ) ∈ tb) {M M' : xM} (hf : f_X4_reset a0 a1 a2 a3 a4 M = some M') :
    cV l D g tb yX4_reset cX4_reset 5 ({ frames := 0, cells := 0, slots := 0, locals := 0 } : Room) [.ref (g.1 0 a0), .int a1, .int a2, .int a3, .int a4] M M' := by
  refine x_startV (own := RX4) (by decide +kernel) rfl rfl (Nat.le_of_ble_eq_true rfl) hT ?_
  intro p e s m args below meth c Q C0 hend
  unfold f_X4_reset at hf
  refine r_aload_n C0 (kk := 0) 0 rfl dX4_reset_0 ?_
  refine r_iload_n C0 (kk := 1) 1 rfl dX4_reset_1 ?_
  refine r_put0 C0 h0 0 rfl rfl w3_146 rfl rfl rfl dX4_reset_2 ?_
  refine r_aload_n C0 (kk := 0) 0 rfl dX4_reset_5 ?_
  refine r_iload_n C0 (kk := 2) 2 rfl dX4_reset_6 ?_
  refine r_put0 C0 h0 1 rfl rfl w3_149 rfl rfl rfl dX4_reset_7 ?_
  refine r_aload_n C0 (kk := 0) 0 rfl dX4_reset_10 ?_
  refine r_iload_n C0 (kk := 3) 3 rfl dX4_reset_11 ?_
  refine r_put0 C0 h0 2 rfl rfl w3_152 rfl rfl rfl dX4_reset_12 ?_
  refine r_aload_n C0 (kk := 0) 0 rfl dX4_reset_15 ?_
  refine r_iload C0 4 rfl dX4_reset_16 ?_
  refine r_put0 C0 h0 3 rfl rfl w3_155 rfl rfl rfl dX4_reset_18 ?_
  refine r_aload_n C0 (kk := 0) 0 rfl dX4_reset_21 ?_
  refine r_iconst C0 (v := 0) dX4_reset_22 rfl ?_
  refine r_put0 C0 h0 4 rfl rfl w3_159 rfl rfl rfl dX4_reset_23 ?_
  refine r_aload_n C0 (kk := 0) 0 rfl dX4_reset_26 ?_
  refine r_iconst C0 (v := 0) dX4_reset_27 rfl ?_
  refine r_put0 C0 h0 5 rfl rfl w3_163 rfl rfl rfl dX4_reset_28 ?_
  refine r_aload_n C0 (kk := 0) 0 rfl dX4_reset_31 ?_
  refine r_iconst C0 (v := 0) dX4_reset_32 rfl ?_
  refine r_put0 C0 h0 6 rfl rfl w3_167 rfl rfl rfl dX4_reset_33 ?_
  refine r_aload_n C0 (kk := 0) 0 rfl dX4_reset_36 ?_
  refine r_iconst C0 (v := 0) dX4_reset_37 rfl ?_
  refine r_put0 C0 h0 7 rfl rfl w3_169 rfl rfl rfl dX4_reset_38 ?_
  refine r_aload_n C0 (kk := 0) 0 rfl dX4_reset_41 ?_
  refine r_iconst C0 (v := 0) dX4_reset_42 rfl ?_
  refine r_put0 C0 h0 8 rfl rfl w3_172 rfl rfl rfl dX4_reset_43 ?_
  exact hend hf dX4_reset_46
theorem dX4_receive_0 : decode cX4_receive 0 = .ok (.aload_n 0, 1) := by decide +kernel
theorem dX4_receive_1 : decode cX4_receive 1 = .ok (.dup, 1) := by decide +kernel
theorem dX4_receive_2 : decode cX4_receive 2 = .ok (.getfield 24, 3) := by decide +kernel
theorem dX4_receive_5 : decode cX4_receive 5 = .ok (.iload_n 1, 1) := by decide +kernel
theorem dX4_receive_6 : decode cX4_receive 6 = .ok (.iadd, 1) := by decide +kernel
theorem dX4_receive_7 : decode cX4_receive 7 = .ok (.putfield 24, 3) := by decide +kernel
theorem dX4_receive_10 : decode cX4_receive 10 = .ok (.aload_n 0, 1) := by decide +kernel
theorem dX4_receive_11 : decode cX4_receive 11 = .ok (.dup, 1) := by decide +kernel
theorem dX4_receive_12 : decode cX4_receive 12 = .ok (.getfield 36, 3) := by decide +kernel
theorem dX4_receive_15 : decode cX4_receive 15 = .ok (.iload_n 1, 1) := by decide +kernel
theorem dX4_receive_16 : decode cX4_receive 16 = .ok (.iadd, 1) := by decide +kernel
theorem dX4_receive_17 : decode cX4_receive 17 = .ok (.putfield 36, 3) := by decide +kernel
theorem dX4_receive_20 : decode cX4_receive 20 = .ok (.return_, 1) := by decide +kernel
theorem hd_X4_receive : yX4_receive.cls = RX4 ∧ yX4_receive.cls ≠ "java/lang/invoke/MethodHandle" ∧ yX4_receive.cls ≠ "java/lang/invoke/VarHandle" ∧ (parseMethodDescriptor yX4_receive.desc).map (fun d => d.parameters.length) = some 1 := by decide +kernel
set_option maxRecDepth 100000 in
set_option maxHeartbeats 4000000 in
theorem c_X4_receive (l : Launch) (D : va_G) (g : xG) (tb : List xQ) (hT : x_T g tb) {a0 : Nat} {a1 : Int32} (h0 : ((0, a0, 0) : xQ) ∈ tb) {M M' : xM} (hf : f_X4_receive a0 a1 M = some M') :
    cV l D g tb yX4_receive cX4_receive 2 ({ frames := 0, cells := 0, slots := 0, locals := 0 } : Room) [.ref (g.1 0 a0), .int a1] M M' := by
  refine x_startV (own := RX4) (by decide +kernel) rfl rfl (Nat.le_of_ble_eq_true rfl) hT ?_
  intro p e s m args below meth c Q C0 hend
  unfold f_X4_receive at hf
  refine r_aload_n C0 (kk := 0) 0 rfl dX4_receive_0 ?_
  refine r_dup C0 rfl dX4_receive_1 ?_
  refine r_get0 C0 h0 4 (by decide) (v := .int (M (a0 + 4))) rfl rfl w3_159 dX4_receive_2 ?_
  refine r_iload_n C0 (kk := 1) 1 rfl dX4_receive_5 ?_
  refine r_iadd C0 dX4_receive_6 ?_
  refine r_put0 C0 h0 4 rfl rfl w3_159 rfl rfl rfl dX4_receive_7 ?_
  refine r_aload_n C0 (kk := 0) 0 rfl dX4_receive_10 ?_
  refine r_dup C0 rfl dX4_receive_11 ?_
  refine r_get0 C0 h0 8 (by decide) (v := .int ((upd M (a0 + 4) ((M (a0 + 4)) + a1)) (a0 + 8))) rfl rfl w3_172 dX4_receive_12 ?_
  refine r_iload_n C0 (kk := 1) 1 rfl dX4_receive_15 ?_
  refine r_iadd C0 dX4_receive_16 ?_
  refine r_put0 C0 h0 8 rfl rfl w3_172 rfl rfl rfl dX4_receive_17 ?_
  exact hend hf dX4_receive_20
theorem dX1_reset_0 : decode cX1_reset 0 = .ok (.aload_n 0, 1) := by decide +kernel
theorem dX1_reset_1 : decode cX1_reset 1 = .ok (.iload_n 1, 1) := by decide +kernel
theorem dX1_reset_2 : decode cX1_reset 2 = .ok (.putfield 15, 3) := by decide +kernel
theorem dX1_reset_5 : decode cX1_reset 5 = .ok (.aload_n 0, 1) := by decide +kernel
theorem dX1_reset_6 : decode cX1_reset 6 = .ok (.iload_n 2, 1) := by decide +kernel
theorem dX1_reset_7 : decode cX1_reset 7 = .ok (.putfield 18, 3) := by decide +kernel
theorem dX1_reset_10 : decode cX1_reset 10 = .ok (.aload_n 0, 1) := by decide +kernel
theorem dX1_reset_11 : decode cX1_reset 11 = .ok (.iload_n 3, 1) := by decide +kernel
theorem dX1_reset_12 : decode cX1_reset 12 = .ok (.putfield 21, 3) := by decide +kernel
theorem dX1_reset_15 : decode cX1_reset 15 = .ok (.aload_n 0, 1) := by decide +kernel
theorem dX1_reset_16 : decode cX1_reset 16 = .ok (.iload 4, 2) := by decide +kernel
theorem dX1_reset_18 : decode cX1_reset 18 = .ok (.putfield 24, 3) := by decide +kernel
theorem dX1_reset_21 : decode cX1_reset 21 = .ok (.aload_n 0, 1) := by decide +kernel
theorem dX1_reset_22 : decode cX1_reset 22 = .ok (.iconst (-1), 1) := by decide +kernel
theorem dX1_reset_23 : decode cX1_reset 23 = .ok (.putfield 9, 3) := by decide +kernel
theorem dX1_reset_26 : decode cX1_reset 26 = .ok (.aload_n 0, 1) := by decide +kernel
theorem dX1_reset_27 : decode cX1_reset 27 = .ok (.iconst 0, 1) := by decide +kernel
theorem dX1_reset_28 : decode cX1_reset 28 = .ok (.putfield 27, 3) := by decide +kernel
theorem dX1_reset_31 : decode cX1_reset 31 = .ok (.aload_n 0, 1) := by decide +kernel
theorem dX1_reset_32 : decode cX1_reset 32 = .ok (.iconst 0, 1) := by decide +kernel
theorem dX1_reset_33 : decode cX1_reset 33 = .ok (.putfield 30, 3) := by decide +kernel
theorem dX1_reset_36 : decode cX1_reset 36 = .ok (.aload_n 0, 1) := by decide +kernel
theorem dX1_reset_37 : decode cX1_reset 37 = .ok (.iconst 0, 1) := by decide +kernel
theorem dX1_reset_38 : decode cX1_reset 38 = .ok (.putfield 33, 3) := by decide +kernel
theorem dX1_reset_41 : decode cX1_reset 41 = .ok (.return_, 1) := by decide +kernel
theorem hd_X1_reset : yX1_reset.cls = RX1 ∧ yX1_reset.cls ≠ "java/lang/invoke/MethodHandle" ∧ yX1_reset.cls ≠ "java/lang/invoke/VarHandle" ∧ (parseMethodDescriptor yX1_reset.desc).map (fun d => d.parameters.length) = some 4 := by decide +kernel
set_option maxRecDepth 100000 in
set_option maxHeartbeats 4000000 in
theorem c_X1_reset (l : Launch) (D : va_G) (g : xG) (tb : List xQ) (hT : x_T g tb) {a0 : Nat} {a1 : Int32} {a2 : Int32} {a3 : Int32} {a4 : Int32} (h0 : ((1, a0, 0) : xQ) ∈ tb) {M M' : xM} (hf : f_X1_reset a0 a1 a2 a3 a4 M = some M') :
    cV l D g tb yX1_reset cX1_reset 5 ({ frames := 0, cells := 0, slots := 0, locals := 0 } : Room) [.ref (g.1 1 a0), .int a1, .int a2, .int a3, .int a4] M M' := by
  refine x_startV (own := RX1) (by decide +kernel) rfl rfl (Nat.le_of_ble_eq_true rfl) hT ?_
  intro p e s m args below meth c Q C0 hend
  unfold f_X1_reset at hf
  refine r_aload_n C0 (kk := 0) 0 rfl dX1_reset_0 ?_
  refine r_iload_n C0 (kk := 1) 1 rfl dX1_reset_1 ?_
  refine r_put1 C0 h0 0 rfl rfl w3_199 rfl rfl rfl dX1_reset_2 ?_
  refine r_aload_n C0 (kk := 0) 0 rfl dX1_reset_5 ?_
  refine r_iload_n C0 (kk := 2) 2 rfl dX1_reset_6 ?_
  refine r_put1 C0 h0 1 rfl rfl w3_202 rfl rfl rfl dX1_reset_7 ?_
  refine r_aload_n C0 (kk := 0) 0 rfl dX1_reset_10 ?_
  refine r_iload_n C0 (kk := 3) 3 rfl dX1_reset_11 ?_
  refine r_put1 C0 h0 2 rfl rfl w3_204 rfl rfl rfl dX1_reset_12 ?_
  refine r_aload_n C0 (kk := 0) 0 rfl dX1_reset_15 ?_
  refine r_iload C0 4 rfl dX1_reset_16 ?_
  refine r_put1 C0 h0 3 rfl rfl w3_206 rfl rfl rfl dX1_reset_18 ?_
  refine r_aload_n C0 (kk := 0) 0 rfl dX1_reset_21 ?_
  refine r_iconst C0 (v := (-1)) dX1_reset_22 rfl ?_
  refine r_put1 C0 h0 4 rfl rfl w3_208 rfl rfl rfl dX1_reset_23 ?_
  refine r_aload_n C0 (kk := 0) 0 rfl dX1_reset_26 ?_
  refine r_iconst C0 (v := 0) dX1_reset_27 rfl ?_
  refine r_put1 C0 h0 5 rfl rfl w3_211 rfl rfl rfl dX1_reset_28 ?_
  refine r_aload_n C0 (kk := 0) 0 rfl dX1_reset_31 ?_
  refine r_iconst C0 (v := 0) dX1_reset_32 rfl ?_
  refine r_put1 C0 h0 6 rfl rfl w3_213 rfl rfl rfl dX1_reset_33 ?_
  refine r_aload_n C0 (kk := 0) 0 rfl dX1_reset_36 ?_
  refine r_iconst C0 (v := 0) dX1_reset_37 rfl ?_
  refine r_put1 C0 h0 7 rfl rfl w3_216 rfl rfl rfl dX1_reset_38 ?_
  exact hend hf dX1_reset_41
theorem dX2_changeStall_0 : decode cX2_changeStall 0 = .ok (.getstatic 175, 3) := by decide +kernel
theorem dX2_changeStall_3 : decode cX2_changeStall 3 = .ok (.aload_n 0, 1) := by decide +kernel
theorem dX2_changeStall_4 : decode cX2_changeStall 4 = .ok (.invokevirtual 180, 3) := by decide +kernel
theorem dX2_changeStall_7 : decode cX2_changeStall 7 = .ok (.iaload, 1) := by decide +kernel
theorem dX2_changeStall_8 : decode cX2_changeStall 8 = .ok (.tableswitch 52 6 8 #[28, 36, 44], 28) := by decide +kernel
theorem dX2_changeStall_36 : decode cX2_changeStall 36 = .ok (.aload_n 1, 1) := by decide +kernel
theorem dX2_changeStall_37 : decode cX2_changeStall 37 = .ok (.iload_n 2, 1) := by decide +kernel
theorem dX2_changeStall_38 : decode cX2_changeStall 38 = .ok (.putfield 206, 3) := by decide +kernel
theorem dX2_changeStall_41 : decode cX2_changeStall 41 = .ok (.goto 24, 3) := by decide +kernel
theorem dX2_changeStall_44 : decode cX2_changeStall 44 = .ok (.aload_n 1, 1) := by decide +kernel
theorem dX2_changeStall_45 : decode cX2_changeStall 45 = .ok (.iload_n 2, 1) := by decide +kernel
theorem dX2_changeStall_46 : decode cX2_changeStall 46 = .ok (.invokevirtual 108, 3) := by decide +kernel
theorem dX2_changeStall_49 : decode cX2_changeStall 49 = .ok (.goto 16, 3) := by decide +kernel
theorem dX2_changeStall_52 : decode cX2_changeStall 52 = .ok (.aload_n 1, 1) := by decide +kernel
theorem dX2_changeStall_53 : decode cX2_changeStall 53 = .ok (.iload_n 2, 1) := by decide +kernel
theorem dX2_changeStall_54 : decode cX2_changeStall 54 = .ok (.putfield 93, 3) := by decide +kernel
theorem dX2_changeStall_57 : decode cX2_changeStall 57 = .ok (.goto 8, 3) := by decide +kernel
theorem dX2_changeStall_60 : decode cX2_changeStall 60 = .ok (.aload_n 1, 1) := by decide +kernel
theorem dX2_changeStall_61 : decode cX2_changeStall 61 = .ok (.iload_n 2, 1) := by decide +kernel
theorem dX2_changeStall_62 : decode cX2_changeStall 62 = .ok (.putfield 84, 3) := by decide +kernel
theorem dX2_changeStall_65 : decode cX2_changeStall 65 = .ok (.return_, 1) := by decide +kernel
theorem hd_X2_changeStall : yX2_changeStall.cls ≠ "java/lang/invoke/MethodHandle" ∧ yX2_changeStall.cls ≠ "java/lang/invoke/VarHandle" ∧ (parseMethodDescriptor yX2_changeStall.desc).map (fun d => d.parameters.length) = some 3 := by decide +kernel
set_option maxRecDepth 100000 in
set_option maxHeartbeats 4000000 in
theorem c_X2_changeStall (l : Launch) (D : va_G) (g : xG) (tb : List xQ) (hT : x_T g tb) {a0 : Int32} {a1 : Nat} {a2 : Int32} (h0 : inb (a0 - 1) 9 = true) (h1 : ((0, a1, 0) : xQ) ∈ tb) {M M' : xM} (hf : f_X2_changeStall a0 a1 a2 M = some M') :
    cV l D g tb yX2_changeStall cX2_changeStall 3 ({ frames := 1, cells := 0, slots := 0, locals := 21 } : Room) [.ref (g.2.2 (a0 - 1).toNatClampNeg), .ref (g.1 0 a1), .int a2] M M' := by
  refine x_startV (own := RX2) (by decide +kernel) rfl rfl (Nat.le_of_ble_eq_true rfl) hT ?_
  intro p e s m args below meth c Q C0 hend
  unfold f_X2_changeStall at hf
  refine r_gsm C0 w5_42 dX2_changeStall_0 ?_
  refine r_aload_n C0 (kk := 0) 0 rfl dX2_changeStall_3 ?_
  refine r_ordinal C0 (inb_lt h0) w5_44 (by decide) (by decide) (by decide) (by decide) (Nat.le_of_ble_eq_true rfl) dX2_changeStall_4 ?_
  obtain ⟨q1, hf⟩ := gd_e hf
  refine r_smald C0 q1 dX2_changeStall_7 ?_
  rcases Decidable.em ((x_smap (nI (a0 - 1).toNatClampNeg).toNatClampNeg) = 6) with q2 | q2
  · have hf := ie_t hf q2
    refine r_tsc C0 (cst := 6) q2 (by decide) (by decide) rfl (tgt := 36) (by decide) dX2_changeStall_8 ?_
    refine r_aload_n C0 (kk := 1) 1 rfl dX2_changeStall_36 ?_
    refine r_iload_n C0 (kk := 2) 2 rfl dX2_changeStall_37 ?_
    refine r_put0 C0 h1 3 rfl rfl w3_157 rfl rfl rfl dX2_changeStall_38 ?_
    refine r_goto C0 (tgt := 65) (by decide) dX2_changeStall_41 ?_
    exact hend hf dX2_changeStall_65
  have hf := ie_f hf q2
  have nq2 : Int32.toInt (x_smap (nI (a0 - 1).toNatClampNeg).toNatClampNeg) ≠ 6 := fun h => q2 (Int32.toInt_inj.mp h)
  rcases Decidable.em ((x_smap (nI (a0 - 1).toNatClampNeg).toNatClampNeg) = 7) with q3 | q3
  · have hf := ie_t hf q3
    refine r_tsc C0 (cst := 7) q3 (by decide) (by decide) rfl (tgt := 44) (by decide) dX2_changeStall_8 ?_
    refine r_aload_n C0 (kk := 1) 1 rfl dX2_changeStall_44 ?_
    refine r_iload_n C0 (kk := 2) 2 rfl dX2_changeStall_45 ?_
    obtain ⟨M5, hc4, hf⟩ := bd_e hf
    refine r_callVv C0 (As := [.int a2]) (rest := []) (c_X4_receive l D g tb hT h1 hc4) w5_58 w5_59 w5_60 w1_15 w5_61 (x_rec0 C0 h1) hd_X4_receive rfl ⟨rfl, rfl⟩ ⟨Nat.le_of_ble_eq_true rfl, Nat.le_of_ble_eq_true rfl⟩ (by decide) (by decide) rfl (Nat.le_of_ble_eq_true rfl) dX2_changeStall_46 ?_
    refine r_goto C0 (tgt := 65) (by decide) dX2_changeStall_49 ?_
    exact hend hf dX2_changeStall_65
  have hf := ie_f hf q3
  have nq3 : Int32.toInt (x_smap (nI (a0 - 1).toNatClampNeg).toNatClampNeg) ≠ 7 := fun h => q3 (Int32.toInt_inj.mp h)
  rcases Decidable.em ((x_smap (nI (a0 - 1).toNatClampNeg).toNatClampNeg) = 8) with q6 | q6
  · have hf := ie_t hf q6
    refine r_tsc C0 (cst := 8) q6 (by decide) (by decide) rfl (tgt := 52) (by decide) dX2_changeStall_8 ?_
    refine r_aload_n C0 (kk := 1) 1 rfl dX2_changeStall_52 ?_
    refine r_iload_n C0 (kk := 2) 2 rfl dX2_changeStall_53 ?_
    refine r_put0 C0 h1 1 rfl rfl w3_150 rfl rfl rfl dX2_changeStall_54 ?_
    refine r_goto C0 (tgt := 65) (by decide) dX2_changeStall_57 ?_
    exact hend hf dX2_changeStall_65
  have hf := ie_f hf q6
  have nq6 : Int32.toInt (x_smap (nI (a0 - 1).toNatClampNeg).toNatClampNeg) ≠ 8 := fun h => q6 (Int32.toInt_inj.mp h)
  refine r_tsd C0 (by omega) (tgt := 60) (by decide) dX2_changeStall_8 ?_
  refine r_aload_n C0 (kk := 1) 1 rfl dX2_changeStall_60 ?_
  refine r_iload_n C0 (kk := 2) 2 rfl dX2_changeStall_61 ?_
  refine r_put0 C0 h1 0 rfl rfl w3_147 rfl rfl rfl dX2_changeStall_62 ?_
  exact hend hf dX2_changeStall_65
theorem dX3_clear_0 : decode cX3_clear 0 = .ok (.aload_n 0, 1) := by decide +kernel
theorem dX3_clear_1 : decode cX3_clear 1 = .ok (.iconst 0, 1) := by decide +kernel
theorem dX3_clear_2 : decode cX3_clear 2 = .ok (.putfield 37, 3) := by decide +kernel
theorem dX3_clear_5 : decode cX3_clear 5 = .ok (.return_, 1) := by decide +kernel
theorem hd_X3_clear : yX3_clear.cls = RX3 ∧ yX3_clear.cls ≠ "java/lang/invoke/MethodHandle" ∧ yX3_clear.cls ≠ "java/lang/invoke/VarHandle" ∧ (parseMethodDescriptor yX3_clear.desc).map (fun d => d.parameters.length) = some 0 := by decide +kernel
set_option maxRecDepth 100000 in
set_option maxHeartbeats 4000000 in
theorem c_X3_clear (l : Launch) (D : va_G) (g : xG) (tb : List xQ) (hT : x_T g tb)  (h0 : x_rd tb) {M M' : xM} (hf : f_X3_clear  M = some M') :
    cV l D g tb yX3_clear cX3_clear 1 ({ frames := 0, cells := 0, slots := 0, locals := 0 } : Room) [.ref (g.1 3 1777)] M M' := by
  refine x_startV (own := RX3) (by decide +kernel) rfl rfl (Nat.le_of_ble_eq_true rfl) hT ?_
  intro p e s m args below meth c Q C0 hend
  unfold f_X3_clear at hf
  refine r_aload_n C0 (kk := 0) 0 rfl dX3_clear_0 ?_
  refine r_iconst C0 (v := 0) dX3_clear_1 rfl ?_
  refine r_put3 C0 h0.1 1 rfl rfl w4_65 rfl rfl rfl dX3_clear_2 ?_
  exact hend hf dX3_clear_5
theorem dX6_forgetChanges_0 : decode cX6_forgetChanges 0 = .ok (.aload_n 0, 1) := by decide +kernel
theorem dX6_forgetChanges_1 : decode cX6_forgetChanges 1 = .ok (.iconst 0, 1) := by decide +kernel
theorem dX6_forgetChanges_2 : decode cX6_forgetChanges 2 = .ok (.putfield 318, 3) := by decide +kernel
theorem dX6_forgetChanges_5 : decode cX6_forgetChanges 5 = .ok (.aload_n 0, 1) := by decide +kernel
theorem dX6_forgetChanges_6 : decode cX6_forgetChanges 6 = .ok (.iconst 0, 1) := by decide +kernel
theorem dX6_forgetChanges_7 : decode cX6_forgetChanges 7 = .ok (.putfield 119, 3) := by decide +kernel
theorem dX6_forgetChanges_10 : decode cX6_forgetChanges 10 = .ok (.return_, 1) := by decide +kernel
theorem hd_X6_forgetChanges : yX6_forgetChanges.cls = RX6 ∧ yX6_forgetChanges.cls ≠ "java/lang/invoke/MethodHandle" ∧ yX6_forgetChanges.cls ≠ "java/lang/invoke/VarHandle" ∧ (parseMethodDescriptor yX6_forgetChanges.desc).map (fun d => d.parameters.length) = some 0 := by decide +kernel
set_option maxRecDepth 100000 in
set_option maxHeartbeats 4000000 in
theorem c_X6_forgetChanges (l : Launch) (D : va_G) (g : xG) (tb : List xQ) (hT : x_T g tb)  (h0 : x_fb tb) {M M' : xM} (hf : f_X6_forgetChanges  M = some M') :
    cV l D g tb yX6_forgetChanges cX6_forgetChanges 1 ({ frames := 0, cells := 0, slots := 0, locals := 0 } : Room) [.ref (g.1 4 1664)] M M' := by
  refine x_startV (own := RX6) (by decide +kernel) rfl rfl (Nat.le_of_ble_eq_true rfl) hT ?_
  intro p e s m args below meth c Q C0 hend
  unfold f_X6_forgetChanges at hf
  refine r_aload_n C0 (kk := 0) 0 rfl dX6_forgetChanges_0 ?_
  refine r_iconst C0 (v := 0) dX6_forgetChanges_1 rfl ?_
  refine r_put4 C0 h0.1 5 rfl rfl w5_92 rfl rfl rfl dX6_forgetChanges_2 ?_
  refine r_aload_n C0 (kk := 0) 0 rfl dX6_forgetChanges_5 ?_
  refine r_iconst C0 (v := 0) dX6_forgetChanges_6 rfl ?_
  refine r_put4 C0 h0.1 6 rfl rfl w5_93 rfl rfl rfl dX6_forgetChanges_7 ?_
  exact hend hf dX6_forgetChanges_10
theorem dX6_bytesIn_0 : decode cX6_bytesIn 0 = .ok (.iconst 0, 1) := by decide +kernel
theorem dX6_bytesIn_1 : decode cX6_bytesIn 1 = .ok (.istore_n 1, 1) := by decide +kernel
theorem dX6_bytesIn_2 : decode cX6_bytesIn 2 = .ok (.bipush 24, 2) := by decide +kernel
theorem dX6_bytesIn_4 : decode cX6_bytesIn 4 = .ok (.istore_n 2, 1) := by decide +kernel
theorem dX6_bytesIn_5 : decode cX6_bytesIn 5 = .ok (.iload_n 2, 1) := by decide +kernel
theorem dX6_bytesIn_6 : decode cX6_bytesIn 6 = .ok (.ifCond .lt 22, 3) := by decide +kernel
theorem dX6_bytesIn_9 : decode cX6_bytesIn 9 = .ok (.iload_n 0, 1) := by decide +kernel
theorem dX6_bytesIn_10 : decode cX6_bytesIn 10 = .ok (.iload_n 2, 1) := by decide +kernel
theorem dX6_bytesIn_11 : decode cX6_bytesIn 11 = .ok (.iushr, 1) := by decide +kernel
theorem dX6_bytesIn_12 : decode cX6_bytesIn 12 = .ok (.sipush 255, 3) := by decide +kernel
theorem dX6_bytesIn_15 : decode cX6_bytesIn 15 = .ok (.iand, 1) := by decide +kernel
theorem dX6_bytesIn_16 : decode cX6_bytesIn 16 = .ok (.ifCond .eq 6, 3) := by decide +kernel
theorem dX6_bytesIn_19 : decode cX6_bytesIn 19 = .ok (.iinc 1 1, 3) := by decide +kernel
theorem dX6_bytesIn_22 : decode cX6_bytesIn 22 = .ok (.iinc 2 (-8), 3) := by decide +kernel
theorem dX6_bytesIn_25 : decode cX6_bytesIn 25 = .ok (.goto (-20), 3) := by decide +kernel
theorem dX6_bytesIn_28 : decode cX6_bytesIn 28 = .ok (.iload_n 1, 1) := by decide +kernel
theorem dX6_bytesIn_29 : decode cX6_bytesIn 29 = .ok (.ireturn, 1) := by decide +kernel
theorem hd_X6_bytesIn : yX6_bytesIn.cls ≠ "java/lang/invoke/MethodHandle" ∧ yX6_bytesIn.cls ≠ "java/lang/invoke/VarHandle" ∧ (parseMethodDescriptor yX6_bytesIn.desc).map (fun d => d.parameters.length) = some 1 := by decide +kernel
set_option maxRecDepth 100000 in
set_option maxHeartbeats 4000000 in
theorem c_X6_bytesIn (l : Launch) (D : va_G) (g : xG) (tb : List xQ) (hT : x_T g tb) {a0 : Int32}  {M : xM} {r : Int32} {M' : xM} (hf : f_X6_bytesIn a0 M = some (r, M')) :
    cI l D g tb yX6_bytesIn cX6_bytesIn 3 .int ({ frames := 0, cells := 0, slots := 0, locals := 0 } : Room) [.int a0] M r M' := by
  refine x_startI (own := RX6) (by decide +kernel) rfl rfl (Nat.le_of_ble_eq_true rfl) hT ?_
  intro p e s m args below meth c Q C0 hend
  have B5 : ∀ (k5 : Int32 → Int32 → xM → Option (Int32 × xM)) (hk5 : ∀ (v1 : Int32) (v2 : Int32)  (M : xM), k5 v1 v2 M = some (r, M') → WW p l e ({ frames := 0, cells := 0, slots := 0, locals := 0 } : Room) s m args below meth c 0 0 Q 3 D g tb 5 [(0, .int a0), (1, .int v1), (2, .int v2)] [] M), ∀ (v1 : Int32) (v2 : Int32)  (M : xM), fb_X6_bytesIn_c5 k5 a0 v1 v2 M = some (r, M') → WW p l e ({ frames := 0, cells := 0, slots := 0, locals := 0 } : Room) s m args below meth c 0 0 Q 3 D g tb 5 [(0, .int a0), (1, .int v1), (2, .int v2)] [] M := by
    intro k5 hk5 v1 v2  M hf
    unfold fb_X6_bytesIn_c5 at hf
    refine r_iload_n C0 (kk := 2) 2 rfl dX6_bytesIn_5 ?_
    refine r_if_lt C0 (tgt := 28) (by decide) dX6_bytesIn_6 (fun q1 => ?_) (fun q1 => ?_)
    · have hf := ie_t hf q1
      refine r_iload_n C0 (kk := 1) 1 rfl dX6_bytesIn_28 ?_
      exact hend hf dX6_bytesIn_29
    · have hf := ie_f hf q1
      refine r_iload_n C0 (kk := 0) 0 rfl dX6_bytesIn_9 ?_
      refine r_iload_n C0 (kk := 2) 2 rfl dX6_bytesIn_10 ?_
      refine r_iushr C0 dX6_bytesIn_11 ?_
      refine r_sipush C0 (v := 255) dX6_bytesIn_12 rfl ?_
      refine r_iand C0 dX6_bytesIn_15 ?_
      refine r_if_eq C0 (tgt := 22) (by decide) dX6_bytesIn_16 (fun q2 => ?_) (fun q2 => ?_)
      · have hf := ie_t hf q2
        refine r_iincc C0 2 rfl (k0 := (-8)) (by decide) (by decide) (lv2 := [(2, .int (v2 + (-8))), (0, .int a0), (1, .int v1)]) rfl dX6_bytesIn_22 ?_
        refine r_goto C0 (tgt := 5) (by decide) dX6_bytesIn_25 ?_
        refine WW.sub [1, 2, 0] rfl ?_
        exact hk5 _ _   _ hf
      · have hf := ie_f hf q2
        refine r_iincc C0 1 rfl (k0 := 1) (by decide) (by decide) (lv2 := [(1, .int (v1 + 1)), (0, .int a0), (2, .int v2)]) rfl dX6_bytesIn_19 ?_
        refine r_iincc C0 2 rfl (k0 := (-8)) (by decide) (by decide) (lv2 := [(2, .int (v2 + (-8))), (1, .int (v1 + 1)), (0, .int a0)]) rfl dX6_bytesIn_22 ?_
        refine r_goto C0 (tgt := 5) (by decide) dX6_bytesIn_25 ?_
        refine WW.sub [2, 1, 0] rfl ?_
        exact hk5 _ _   _ hf
  have L5 : ∀ (v1 : Int32) (v2 : Int32)  (M : xM), f_X6_bytesIn_c5  a0 v1 v2 M = some (r, M') → WW p l e ({ frames := 0, cells := 0, slots := 0, locals := 0 } : Room) s m args below meth c 0 0 Q 3 D g tb 5 [(0, .int a0), (1, .int v1), (2, .int v2)] [] M := lp_ind (P := fun f => ∀ (v1 : Int32) (v2 : Int32)  (M : xM), f v1 v2 M = some (r, M') → WW p l e ({ frames := 0, cells := 0, slots := 0, locals := 0 } : Room) s m args below meth c 0 0 Q 3 D g tb 5 [(0, .int a0), (1, .int v1), (2, .int v2)] [] M) (fun _ _ _ h => none_ne h) (fun f hf => B5 f hf) FU
  unfold f_X6_bytesIn at hf
  refine r_iconst C0 (v := 0) dX6_bytesIn_0 rfl ?_
  refine r_istore_n C0 (kk := 1) (lv2 := [(1, .int 0), (0, .int a0)]) (by decide) rfl dX6_bytesIn_1 ?_
  refine r_bipush C0 (v := 24) dX6_bytesIn_2 rfl ?_
  refine r_istore_n C0 (kk := 2) (lv2 := [(2, .int 24), (1, .int 0), (0, .int a0)]) (by decide) rfl dX6_bytesIn_4 ?_
  refine WW.sub [2, 1, 0] rfl ?_
  exact L5   _ _   _ hf
theorem dX3_appendWord_0 : decode cX3_appendWord 0 = .ok (.bipush 24, 2) := by decide +kernel
theorem dX3_appendWord_2 : decode cX3_appendWord 2 = .ok (.istore_n 2, 1) := by decide +kernel
theorem dX3_appendWord_3 : decode cX3_appendWord 3 = .ok (.iload_n 2, 1) := by decide +kernel
theorem dX3_appendWord_4 : decode cX3_appendWord 4 = .ok (.ifCond .lt 26, 3) := by decide +kernel
theorem dX3_appendWord_7 : decode cX3_appendWord 7 = .ok (.iload_n 1, 1) := by decide +kernel
theorem dX3_appendWord_8 : decode cX3_appendWord 8 = .ok (.iload_n 2, 1) := by decide +kernel
theorem dX3_appendWord_9 : decode cX3_appendWord 9 = .ok (.iushr, 1) := by decide +kernel
theorem dX3_appendWord_10 : decode cX3_appendWord 10 = .ok (.sipush 255, 3) := by decide +kernel
theorem dX3_appendWord_13 : decode cX3_appendWord 13 = .ok (.iand, 1) := by decide +kernel
theorem dX3_appendWord_14 : decode cX3_appendWord 14 = .ok (.istore_n 3, 1) := by decide +kernel
theorem dX3_appendWord_15 : decode cX3_appendWord 15 = .ok (.iload_n 3, 1) := by decide +kernel
theorem dX3_appendWord_16 : decode cX3_appendWord 16 = .ok (.ifCond .eq 8, 3) := by decide +kernel
theorem dX3_appendWord_19 : decode cX3_appendWord 19 = .ok (.aload_n 0, 1) := by decide +kernel
theorem dX3_appendWord_20 : decode cX3_appendWord 20 = .ok (.iload_n 3, 1) := by decide +kernel
theorem dX3_appendWord_21 : decode cX3_appendWord 21 = .ok (.invokevirtual 33, 3) := by decide +kernel
theorem dX3_appendWord_24 : decode cX3_appendWord 24 = .ok (.iinc 2 (-8), 3) := by decide +kernel
theorem dX3_appendWord_27 : decode cX3_appendWord 27 = .ok (.goto (-24), 3) := by decide +kernel
theorem dX3_appendWord_30 : decode cX3_appendWord 30 = .ok (.return_, 1) := by decide +kernel
theorem hd_X3_appendWord : yX3_appendWord.cls = RX3 ∧ yX3_appendWord.cls ≠ "java/lang/invoke/MethodHandle" ∧ yX3_appendWord.cls ≠ "java/lang/invoke/VarHandle" ∧ (parseMethodDescriptor yX3_appendWord.desc).map (fun d => d.parameters.length) = some 1 := by decide +kernel
set_option maxRecDepth 100000 in
set_option maxHeartbeats 4000000 in
theorem c_X3_appendWord (l : Launch) (D : va_G) (g : xG) (tb : List xQ) (hT : x_T g tb) {a1 : Int32} (h0 : x_rd tb) {M M' : xM} (hf : f_X3_appendWord a1 M = some M') :
    cV l D g tb yX3_appendWord cX3_appendWord 4 ({ frames := 1, cells := 0, slots := 0, locals := 21 } : Room) [.ref (g.1 3 1777), .int a1] M M' := by
  refine x_startV (own := RX3) (by decide +kernel) rfl rfl (Nat.le_of_ble_eq_true rfl) hT ?_
  intro p e s m args below meth c Q C0 hend
  have B3 : ∀ (k3 : Int32 → xM → Option xM) (hk3 : ∀ (v2 : Int32)  (M : xM), k3 v2 M = some M' → WW p l e ({ frames := 1, cells := 0, slots := 0, locals := 21 } : Room) s m args below meth c 0 0 Q 4 D g tb 3 [(0, .ref (g.1 3 1777)), (1, .int a1), (2, .int v2)] [] M), ∀ (v2 : Int32)  (M : xM), fb_X3_appendWord_c3 k3 a1 v2 M = some M' → WW p l e ({ frames := 1, cells := 0, slots := 0, locals := 21 } : Room) s m args below meth c 0 0 Q 4 D g tb 3 [(0, .ref (g.1 3 1777)), (1, .int a1), (2, .int v2)] [] M := by
    intro k3 hk3 v2  M hf
    unfold fb_X3_appendWord_c3 at hf
    refine r_iload_n C0 (kk := 2) 2 rfl dX3_appendWord_3 ?_
    refine r_if_lt C0 (tgt := 30) (by decide) dX3_appendWord_4 (fun q1 => ?_) (fun q1 => ?_)
    · have hf := ie_t hf q1
      exact hend hf dX3_appendWord_30
    · have hf := ie_f hf q1
      refine r_iload_n C0 (kk := 1) 1 rfl dX3_appendWord_7 ?_
      refine r_iload_n C0 (kk := 2) 2 rfl dX3_appendWord_8 ?_
      refine r_iushr C0 dX3_appendWord_9 ?_
      refine r_sipush C0 (v := 255) dX3_appendWord_10 rfl ?_
      refine r_iand C0 dX3_appendWord_13 ?_
      refine r_istore_n C0 (kk := 3) (lv2 := [(3, .int ((iush a1 v2) &&& 255)), (0, .ref (g.1 3 1777)), (1, .int a1), (2, .int v2)]) (by decide) rfl dX3_appendWord_14 ?_
      refine r_iload_n C0 (kk := 3) 0 rfl dX3_appendWord_15 ?_
      refine r_if_eq C0 (tgt := 24) (by decide) dX3_appendWord_16 (fun q2 => ?_) (fun q2 => ?_)
      · have hf := ie_t hf q2
        refine r_iincc C0 3 rfl (k0 := (-8)) (by decide) (by decide) (lv2 := [(2, .int (v2 + (-8))), (3, .int ((iush a1 v2) &&& 255)), (0, .ref (g.1 3 1777)), (1, .int a1)]) rfl dX3_appendWord_24 ?_
        refine r_goto C0 (tgt := 3) (by decide) dX3_appendWord_27 ?_
        refine WW.sub [2, 3, 0] rfl ?_
        exact hk3 _   _ hf
      · have hf := ie_f hf q2
        refine r_aload_n C0 (kk := 0) 1 rfl dX3_appendWord_19 ?_
        refine r_iload_n C0 (kk := 3) 0 rfl dX3_appendWord_20 ?_
        obtain ⟨M4, hc3, hf⟩ := bd_e hf
        refine r_callVv C0 (As := [.int ((iush a1 v2) &&& 255)]) (rest := []) (c_X3_appendByte l D g tb hT h0 hc3) w4_128 w4_130 wp1_8 w1_17 w4_131 (x_rec3 C0 h0.1) hd_X3_appendByte rfl ⟨rfl, rfl⟩ ⟨Nat.le_of_ble_eq_true rfl, Nat.le_of_ble_eq_true rfl⟩ (by decide) (by decide) rfl (Nat.le_of_ble_eq_true rfl) dX3_appendWord_21 ?_
        refine r_iincc C0 3 rfl (k0 := (-8)) (by decide) (by decide) (lv2 := [(2, .int (v2 + (-8))), (3, .int ((iush a1 v2) &&& 255)), (0, .ref (g.1 3 1777)), (1, .int a1)]) rfl dX3_appendWord_24 ?_
        refine r_goto C0 (tgt := 3) (by decide) dX3_appendWord_27 ?_
        refine WW.sub [2, 3, 0] rfl ?_
        exact hk3 _   _ hf
  have L3 : ∀ (v2 : Int32)  (M : xM), f_X3_appendWord_c3  a1 v2 M = some M' → WW p l e ({ frames := 1, cells := 0, slots := 0, locals := 21 } : Room) s m args below meth c 0 0 Q 4 D g tb 3 [(0, .ref (g.1 3 1777)), (1, .int a1), (2, .int v2)] [] M := lp_ind (P := fun f => ∀ (v2 : Int32)  (M : xM), f v2 M = some M' → WW p l e ({ frames := 1, cells := 0, slots := 0, locals := 21 } : Room) s m args below meth c 0 0 Q 4 D g tb 3 [(0, .ref (g.1 3 1777)), (1, .int a1), (2, .int v2)] [] M) (fun _ _ h => none_ne h) (fun f hf => B3 f hf) FU
  unfold f_X3_appendWord at hf
  refine r_bipush C0 (v := 24) dX3_appendWord_0 rfl ?_
  refine r_istore_n C0 (kk := 2) (lv2 := [(2, .int 24), (0, .ref (g.1 3 1777)), (1, .int a1)]) (by decide) rfl dX3_appendWord_2 ?_
  refine WW.sub [1, 2, 0] rfl ?_
  exact L3   _   _ hf
theorem dL_reach_0 : decode cL_reach 0 = .ok (.iload_n 0, 1) := by decide +kernel
theorem dL_reach_1 : decode cL_reach 1 = .ok (.ifCond .ne 12, 3) := by decide +kernel
theorem dL_reach_4 : decode cL_reach 4 = .ok (.bipush 30, 2) := by decide +kernel
theorem dL_reach_6 : decode cL_reach 6 = .ok (.iconst 2, 1) := by decide +kernel
theorem dL_reach_7 : decode cL_reach 7 = .ok (.iload_n 1, 1) := by decide +kernel
theorem dL_reach_8 : decode cL_reach 8 = .ok (.imul, 1) := by decide +kernel
theorem dL_reach_9 : decode cL_reach 9 = .ok (.isub, 1) := by decide +kernel
theorem dL_reach_10 : decode cL_reach 10 = .ok (.goto 31, 3) := by decide +kernel
theorem dL_reach_13 : decode cL_reach 13 = .ok (.iload_n 0, 1) := by decide +kernel
theorem dL_reach_14 : decode cL_reach 14 = .ok (.iconst 1, 1) := by decide +kernel
theorem dL_reach_15 : decode cL_reach 15 = .ok (.if_icmp .ne 10, 3) := by decide +kernel
theorem dL_reach_18 : decode cL_reach 18 = .ok (.bipush 24, 2) := by decide +kernel
theorem dL_reach_20 : decode cL_reach 20 = .ok (.iload_n 1, 1) := by decide +kernel
theorem dL_reach_21 : decode cL_reach 21 = .ok (.isub, 1) := by decide +kernel
theorem dL_reach_22 : decode cL_reach 22 = .ok (.goto 19, 3) := by decide +kernel
theorem dL_reach_25 : decode cL_reach 25 = .ok (.iload_n 0, 1) := by decide +kernel
theorem dL_reach_26 : decode cL_reach 26 = .ok (.iconst 2, 1) := by decide +kernel
theorem dL_reach_27 : decode cL_reach 27 = .ok (.if_icmp .ne 12, 3) := by decide +kernel
theorem dL_reach_30 : decode cL_reach 30 = .ok (.bipush 45, 2) := by decide +kernel
theorem dL_reach_32 : decode cL_reach 32 = .ok (.iconst 5, 1) := by decide +kernel
theorem dL_reach_33 : decode cL_reach 33 = .ok (.iload_n 1, 1) := by decide +kernel
theorem dL_reach_34 : decode cL_reach 34 = .ok (.imul, 1) := by decide +kernel
theorem dL_reach_35 : decode cL_reach 35 = .ok (.isub, 1) := by decide +kernel
theorem dL_reach_36 : decode cL_reach 36 = .ok (.goto 5, 3) := by decide +kernel
theorem dL_reach_39 : decode cL_reach 39 = .ok (.bipush 12, 2) := by decide +kernel
theorem dL_reach_41 : decode cL_reach 41 = .ok (.ireturn, 1) := by decide +kernel
theorem hd_L_reach : yL_reach.cls ≠ "java/lang/invoke/MethodHandle" ∧ yL_reach.cls ≠ "java/lang/invoke/VarHandle" ∧ (parseMethodDescriptor yL_reach.desc).map (fun d => d.parameters.length) = some 2 := by decide +kernel
set_option maxRecDepth 100000 in
set_option maxHeartbeats 4000000 in
theorem c_L_reach (l : Launch) (D : va_G) (g : xG) (tb : List xQ) (hT : x_T g tb) {a0 : Int32} {a1 : Int32}  {M : xM} {r : Int32} {M' : xM} (hf : f_L_reach a0 a1 M = some (r, M')) :
    cI l D g tb yL_reach cL_reach 2 .int ({ frames := 0, cells := 0, slots := 0, locals := 0 } : Room) [.int a0, .int a1] M r M' := by
  refine x_startI (own := RL) (by decide +kernel) rfl rfl (Nat.le_of_ble_eq_true rfl) hT ?_
  intro p e s m args below meth c Q C0 hend
  unfold f_L_reach at hf
  refine r_iload_n C0 (kk := 0) 0 rfl dL_reach_0 ?_
  refine r_if_ne C0 (tgt := 13) (by decide) dL_reach_1 (fun q1 => ?_) (fun q1 => ?_)
  · have hf := ie_f hf q1
    refine r_iload_n C0 (kk := 0) 0 rfl dL_reach_13 ?_
    refine r_iconst C0 (v := 1) dL_reach_14 rfl ?_
    refine r_icmp_ne C0 (tgt := 25) (by decide) dL_reach_15 (fun q2 => ?_) (fun q2 => ?_)
    · have hf := ie_f hf q2
      refine r_iload_n C0 (kk := 0) 0 rfl dL_reach_25 ?_
      refine r_iconst C0 (v := 2) dL_reach_26 rfl ?_
      refine r_icmp_ne C0 (tgt := 39) (by decide) dL_reach_27 (fun q3 => ?_) (fun q3 => ?_)
      · have hf := ie_f hf q3
        refine r_bipush C0 (v := 12) dL_reach_39 rfl ?_
        exact hend hf dL_reach_41
      · have hf := ie_t hf q3
        refine r_bipush C0 (v := 45) dL_reach_30 rfl ?_
        refine r_iconst C0 (v := 5) dL_reach_32 rfl ?_
        refine r_iload_n C0 (kk := 1) 1 rfl dL_reach_33 ?_
        refine r_imul C0 dL_reach_34 ?_
        refine r_isub C0 dL_reach_35 ?_
        refine r_goto C0 (tgt := 41) (by decide) dL_reach_36 ?_
        exact hend hf dL_reach_41
    · have hf := ie_t hf q2
      refine r_bipush C0 (v := 24) dL_reach_18 rfl ?_
      refine r_iload_n C0 (kk := 1) 1 rfl dL_reach_20 ?_
      refine r_isub C0 dL_reach_21 ?_
      refine r_goto C0 (tgt := 41) (by decide) dL_reach_22 ?_
      exact hend hf dL_reach_41
  · have hf := ie_t hf q1
    refine r_bipush C0 (v := 30) dL_reach_4 rfl ?_
    refine r_iconst C0 (v := 2) dL_reach_6 rfl ?_
    refine r_iload_n C0 (kk := 1) 1 rfl dL_reach_7 ?_
    refine r_imul C0 dL_reach_8 ?_
    refine r_isub C0 dL_reach_9 ?_
    refine r_goto C0 (tgt := 41) (by decide) dL_reach_10 ?_
    exact hend hf dL_reach_41
theorem dL_guard_0 : decode cL_guard 0 = .ok (.iload_n 0, 1) := by decide +kernel
theorem dL_guard_1 : decode cL_guard 1 = .ok (.ifCond .ne 8, 3) := by decide +kernel
theorem dL_guard_4 : decode cL_guard 4 = .ok (.bipush 7, 2) := by decide +kernel
theorem dL_guard_6 : decode cL_guard 6 = .ok (.goto 24, 3) := by decide +kernel
theorem dL_guard_9 : decode cL_guard 9 = .ok (.iload_n 0, 1) := by decide +kernel
theorem dL_guard_10 : decode cL_guard 10 = .ok (.iconst 1, 1) := by decide +kernel
theorem dL_guard_11 : decode cL_guard 11 = .ok (.if_icmp .ne 7, 3) := by decide +kernel
theorem dL_guard_14 : decode cL_guard 14 = .ok (.iconst 5, 1) := by decide +kernel
theorem dL_guard_15 : decode cL_guard 15 = .ok (.goto 15, 3) := by decide +kernel
theorem dL_guard_18 : decode cL_guard 18 = .ok (.iload_n 0, 1) := by decide +kernel
theorem dL_guard_19 : decode cL_guard 19 = .ok (.iconst 2, 1) := by decide +kernel
theorem dL_guard_20 : decode cL_guard 20 = .ok (.if_icmp .ne 8, 3) := by decide +kernel
theorem dL_guard_23 : decode cL_guard 23 = .ok (.bipush 6, 2) := by decide +kernel
theorem dL_guard_25 : decode cL_guard 25 = .ok (.goto 5, 3) := by decide +kernel
theorem dL_guard_28 : decode cL_guard 28 = .ok (.bipush 9, 2) := by decide +kernel
theorem dL_guard_30 : decode cL_guard 30 = .ok (.ireturn, 1) := by decide +kernel
theorem hd_L_guard : yL_guard.cls ≠ "java/lang/invoke/MethodHandle" ∧ yL_guard.cls ≠ "java/lang/invoke/VarHandle" ∧ (parseMethodDescriptor yL_guard.desc).map (fun d => d.parameters.length) = some 1 := by decide +kernel
set_option maxRecDepth 100000 in
set_option maxHeartbeats 4000000 in
theorem c_L_guard (l : Launch) (D : va_G) (g : xG) (tb : List xQ) (hT : x_T g tb) {a0 : Int32}  {M : xM} {r : Int32} {M' : xM} (hf : f_L_guard a0 M = some (r, M')) :
    cI l D g tb yL_guard cL_guard 1 .int ({ frames := 0, cells := 0, slots := 0, locals := 0 } : Room) [.int a0] M r M' := by
  refine x_startI (own := RL) (by decide +kernel) rfl rfl (Nat.le_of_ble_eq_true rfl) hT ?_
  intro p e s m args below meth c Q C0 hend
  unfold f_L_guard at hf
  refine r_iload_n C0 (kk := 0) 0 rfl dL_guard_0 ?_
  refine r_if_ne C0 (tgt := 9) (by decide) dL_guard_1 (fun q1 => ?_) (fun q1 => ?_)
  · have hf := ie_f hf q1
    refine r_iload_n C0 (kk := 0) 0 rfl dL_guard_9 ?_
    refine r_iconst C0 (v := 1) dL_guard_10 rfl ?_
    refine r_icmp_ne C0 (tgt := 18) (by decide) dL_guard_11 (fun q2 => ?_) (fun q2 => ?_)
    · have hf := ie_f hf q2
      refine r_iload_n C0 (kk := 0) 0 rfl dL_guard_18 ?_
      refine r_iconst C0 (v := 2) dL_guard_19 rfl ?_
      refine r_icmp_ne C0 (tgt := 28) (by decide) dL_guard_20 (fun q3 => ?_) (fun q3 => ?_)
      · have hf := ie_f hf q3
        refine r_bipush C0 (v := 9) dL_guard_28 rfl ?_
        exact hend hf dL_guard_30
      · have hf := ie_t hf q3
        refine r_bipush C0 (v := 6) dL_guard_23 rfl ?_
        refine r_goto C0 (tgt := 30) (by decide) dL_guard_25 ?_
        exact hend hf dL_guard_30
    · have hf := ie_t hf q2
      refine r_iconst C0 (v := 5) dL_guard_14 rfl ?_
      refine r_goto C0 (tgt := 30) (by decide) dL_guard_15 ?_
      exact hend hf dL_guard_30
  · have hf := ie_t hf q1
    refine r_bipush C0 (v := 7) dL_guard_4 rfl ?_
    refine r_goto C0 (tgt := 30) (by decide) dL_guard_6 ?_
    exact hend hf dL_guard_30
theorem dJ6_compare_7cf53_0 : decode cJ6_compare_7cf53 0 = .ok (.iload_n 0, 1) := by decide +kernel
theorem dJ6_compare_7cf53_1 : decode cJ6_compare_7cf53 1 = .ok (.iload_n 1, 1) := by decide +kernel
theorem dJ6_compare_7cf53_2 : decode cJ6_compare_7cf53 2 = .ok (.if_icmp .ge 7, 3) := by decide +kernel
theorem dJ6_compare_7cf53_5 : decode cJ6_compare_7cf53 5 = .ok (.iconst (-1), 1) := by decide +kernel
theorem dJ6_compare_7cf53_6 : decode cJ6_compare_7cf53 6 = .ok (.goto 13, 3) := by decide +kernel
theorem dJ6_compare_7cf53_9 : decode cJ6_compare_7cf53 9 = .ok (.iload_n 0, 1) := by decide +kernel
theorem dJ6_compare_7cf53_10 : decode cJ6_compare_7cf53 10 = .ok (.iload_n 1, 1) := by decide +kernel
theorem dJ6_compare_7cf53_11 : decode cJ6_compare_7cf53 11 = .ok (.if_icmp .ne 7, 3) := by decide +kernel
theorem dJ6_compare_7cf53_14 : decode cJ6_compare_7cf53 14 = .ok (.iconst 0, 1) := by decide +kernel
theorem dJ6_compare_7cf53_15 : decode cJ6_compare_7cf53 15 = .ok (.goto 4, 3) := by decide +kernel
theorem dJ6_compare_7cf53_18 : decode cJ6_compare_7cf53 18 = .ok (.iconst 1, 1) := by decide +kernel
theorem dJ6_compare_7cf53_19 : decode cJ6_compare_7cf53 19 = .ok (.ireturn, 1) := by decide +kernel
theorem hd_J6_compare_7cf53 : yJ6_compare_7cf53.cls ≠ "java/lang/invoke/MethodHandle" ∧ yJ6_compare_7cf53.cls ≠ "java/lang/invoke/VarHandle" ∧ (parseMethodDescriptor yJ6_compare_7cf53.desc).map (fun d => d.parameters.length) = some 2 := by decide +kernel
set_option maxRecDepth 100000 in
set_option maxHeartbeats 4000000 in
theorem c_J6_compare_7cf53 (l : Launch) (D : va_G) (g : xG) (tb : List xQ) (hT : x_T g tb) {a0 : Int32} {a1 : Int32}  {M : xM} {r : Int32} {M' : xM} (hf : f_J6_compare_7cf53 a0 a1 M = some (r, M')) :
    cI l D g tb yJ6_compare_7cf53 cJ6_compare_7cf53 2 .int ({ frames := 0, cells := 0, slots := 0, locals := 0 } : Room) [.int a0, .int a1] M r M' := by
  refine x_startI (own := RJ6) (by decide +kernel) rfl rfl (Nat.le_of_ble_eq_true rfl) hT ?_
  intro p e s m args below meth c Q C0 hend
  unfold f_J6_compare_7cf53 at hf
  refine r_iload_n C0 (kk := 0) 0 rfl dJ6_compare_7cf53_0 ?_
  refine r_iload_n C0 (kk := 1) 1 rfl dJ6_compare_7cf53_1 ?_
  refine r_icmp_ge C0 (tgt := 9) (by decide) dJ6_compare_7cf53_2 (fun q1 => ?_) (fun q1 => ?_)
  · have hf := ie_t hf q1
    refine r_iload_n C0 (kk := 0) 0 rfl dJ6_compare_7cf53_9 ?_
    refine r_iload_n C0 (kk := 1) 1 rfl dJ6_compare_7cf53_10 ?_
    refine r_icmp_ne C0 (tgt := 18) (by decide) dJ6_compare_7cf53_11 (fun q2 => ?_) (fun q2 => ?_)
    · have hf := ie_f hf q2
      refine r_iconst C0 (v := 1) dJ6_compare_7cf53_18 rfl ?_
      exact hend hf dJ6_compare_7cf53_19
    · have hf := ie_t hf q2
      refine r_iconst C0 (v := 0) dJ6_compare_7cf53_14 rfl ?_
      refine r_goto C0 (tgt := 19) (by decide) dJ6_compare_7cf53_15 ?_
      exact hend hf dJ6_compare_7cf53_19
  · have hf := ie_f hf q1
    refine r_iconst C0 (v := (-1)) dJ6_compare_7cf53_5 rfl ?_
    refine r_goto C0 (tgt := 19) (by decide) dJ6_compare_7cf53_6 ?_
    exact hend hf dJ6_compare_7cf53_19
theorem dX6_fogIn_0 : decode cX6_fogIn 0 = .ok (.iload_n 1, 1) := by decide +kernel
theorem dX6_fogIn_1 : decode cX6_fogIn 1 = .ok (.iconst 0, 1) := by decide +kernel
theorem dX6_fogIn_2 : decode cX6_fogIn 2 = .ok (.ldc 122, 2) := by decide +kernel
theorem dX6_fogIn_4 : decode cX6_fogIn 4 = .ok (.invokestatic 123, 3) := by decide +kernel
theorem dX6_fogIn_7 : decode cX6_fogIn 7 = .ok (.aload_n 0, 1) := by decide +kernel
theorem dX6_fogIn_8 : decode cX6_fogIn 8 = .ok (.getfield 10, 3) := by decide +kernel
theorem dX6_fogIn_11 : decode cX6_fogIn 11 = .ok (.iload_n 1, 1) := by decide +kernel
theorem dX6_fogIn_12 : decode cX6_fogIn 12 = .ok (.invokevirtual 127, 3) := by decide +kernel
theorem dX6_fogIn_15 : decode cX6_fogIn 15 = .ok (.ireturn, 1) := by decide +kernel
theorem hd_X6_fogIn : yX6_fogIn.cls = RX6 ∧ yX6_fogIn.cls ≠ "java/lang/invoke/MethodHandle" ∧ yX6_fogIn.cls ≠ "java/lang/invoke/VarHandle" ∧ (parseMethodDescriptor yX6_fogIn.desc).map (fun d => d.parameters.length) = some 1 := by decide +kernel
set_option maxRecDepth 100000 in
set_option maxHeartbeats 4000000 in
theorem c_X6_fogIn (l : Launch) (D : va_G) (g : xG) (tb : List xQ) (hT : x_T g tb) {a1 : Int32} (h0 : x_fb tb) {M : xM} {r : Int32} {M' : xM} (hf : f_X6_fogIn a1 M = some (r, M')) :
    cI l D g tb yX6_fogIn cX6_fogIn 2 .int ({ frames := 1, cells := 0, slots := 0, locals := 22 } : Room) [.ref (g.1 4 1664), .int a1] M r M' := by
  refine x_startI (own := RX6) (by decide +kernel) rfl rfl (Nat.le_of_ble_eq_true rfl) hT ?_
  intro p e s m args below meth c Q C0 hend
  unfold f_X6_fogIn at hf
  refine r_iload_n C0 (kk := 1) 1 rfl dX6_fogIn_0 ?_
  refine r_iconst C0 (v := 0) dX6_fogIn_1 rfl ?_
  refine r_ldc C0 w1_47 dX6_fogIn_2 ?_
  obtain ⟨M2, hc1, hf⟩ := bd_e hf
  refine r_callSv C0 (As := [.int a1, .int 0, .int 99999]) (rest := []) (c_X6_checkRange l D g tb hT  hc1) w1_48 w1_49 w1_13 w1_50 hd_X6_checkRange rfl ⟨rfl, rfl⟩ ⟨Nat.le_of_ble_eq_true rfl, Nat.le_of_ble_eq_true rfl⟩ (by decide) (by decide) rfl (Nat.le_of_ble_eq_true rfl) dX6_fogIn_4 ?_
  refine r_aload_n C0 (kk := 0) 0 rfl dX6_fogIn_7 ?_
  refine r_get4 C0 h0.1 0 (by decide) (v := .ref (g.1 2 0)) rfl rfl w5_87 dX6_fogIn_8 ?_
  refine r_iload_n C0 (kk := 1) 1 rfl dX6_fogIn_11 ?_
  obtain ⟨r5, M4, hc3, hf⟩ := bd2_e hf
  refine r_callVi C0 (As := [.int a1]) (rest := []) (c_X2_densityIn l D g tb hT h0.2.1 hc3) w1_121 w1_122 w1_123 w1_14 w1_124 (x_rec2 C0 h0.2.1.1) hd_X2_densityIn rfl ⟨rfl, rfl⟩ ⟨Nat.le_of_ble_eq_true rfl, Nat.le_of_ble_eq_true rfl⟩ (by decide) (by decide) rfl (Nat.le_of_ble_eq_true rfl) dX6_fogIn_12 ?_
  exact hend hf dX6_fogIn_15
theorem dX6_stallAt_0 : decode cX6_stallAt 0 = .ok (.aload_n 0, 1) := by decide +kernel
theorem dX6_stallAt_1 : decode cX6_stallAt 1 = .ok (.iload_n 1, 1) := by decide +kernel
theorem dX6_stallAt_2 : decode cX6_stallAt 2 = .ok (.invokevirtual 173, 3) := by decide +kernel
theorem dX6_stallAt_5 : decode cX6_stallAt 5 = .ok (.aload_n 0, 1) := by decide +kernel
theorem dX6_stallAt_6 : decode cX6_stallAt 6 = .ok (.getfield 10, 3) := by decide +kernel
theorem dX6_stallAt_9 : decode cX6_stallAt 9 = .ok (.getfield 192, 3) := by decide +kernel
theorem dX6_stallAt_12 : decode cX6_stallAt 12 = .ok (.iload_n 1, 1) := by decide +kernel
theorem dX6_stallAt_13 : decode cX6_stallAt 13 = .ok (.aaload, 1) := by decide +kernel
theorem dX6_stallAt_14 : decode cX6_stallAt 14 = .ok (.areturn, 1) := by decide +kernel
theorem hd_X6_stallAt : yX6_stallAt.cls = RX6 ∧ yX6_stallAt.cls ≠ "java/lang/invoke/MethodHandle" ∧ yX6_stallAt.cls ≠ "java/lang/invoke/VarHandle" ∧ (parseMethodDescriptor yX6_stallAt.desc).map (fun d => d.parameters.length) = some 1 := by decide +kernel
set_option maxRecDepth 100000 in
set_option maxHeartbeats 4000000 in
theorem c_X6_stallAt (l : Launch) (D : va_G) (g : xG) (tb : List xQ) (hT : x_T g tb) {a1 : Int32} (h0 : x_fb tb) {M : xM} {r : Nat} {M' : xM} (hf : f_X6_stallAt a1 M = some (r, M')) :
    cR l D g tb yX6_stallAt cX6_stallAt 2 (.object "FogBellMarket$Stall") 0 ({ frames := 1, cells := 0, slots := 0, locals := 21 } : Room) [.ref (g.1 4 1664), .int a1] M r M' := by
  refine x_startR (own := RX6) (by decide +kernel) rfl rfl (Nat.le_of_ble_eq_true rfl) hT ?_
  intro p e s m args below meth c Q C0 hend
  unfold f_X6_stallAt at hf
  refine r_aload_n C0 (kk := 0) 0 rfl dX6_stallAt_0 ?_
  refine r_iload_n C0 (kk := 1) 1 rfl dX6_stallAt_1 ?_
  obtain ⟨M2, hc1, hf⟩ := bd_e hf
  refine r_callVv C0 (As := [.int a1]) (rest := []) (c_X6_checkStall l D g tb hT h0 hc1) w1_154 w1_156 wp1_2 w1_13 w1_157 (x_rec4 C0 h0.1) hd_X6_checkStall rfl ⟨rfl, rfl⟩ ⟨Nat.le_of_ble_eq_true rfl, Nat.le_of_ble_eq_true rfl⟩ (by decide) (by decide) rfl (Nat.le_of_ble_eq_true rfl) dX6_stallAt_2 ?_
  refine r_aload_n C0 (kk := 0) 0 rfl dX6_stallAt_5 ?_
  refine r_get4 C0 h0.1 0 (by decide) (v := .ref (g.1 2 0)) rfl rfl w5_87 dX6_stallAt_6 ?_
  refine r_get2 C0 h0.2.1.1 0 (by decide) (v := .ref (g.1 10 23)) rfl rfl w3_237 dX6_stallAt_9 ?_
  refine r_iload_n C0 (kk := 1) 1 rfl dX6_stallAt_12 ?_
  obtain ⟨q3, hf⟩ := gd_e hf
  have hm4 : ((0, (23 + 9 * a1.toNatClampNeg), 0) : xQ) ∈ tb := h0.2.1.2.2.2.2.1 _ (inb_lt q3)
  refine r_aald10 C0 h0.2.1.2.1 (inb_in q3) dX6_stallAt_13 ?_
  exact hend hm4 hf dX6_stallAt_14
theorem dX6_lanternOf_0 : decode cX6_lanternOf 0 = .ok (.aload_n 0, 1) := by decide +kernel
theorem dX6_lanternOf_1 : decode cX6_lanternOf 1 = .ok (.iload_n 1, 1) := by decide +kernel
theorem dX6_lanternOf_2 : decode cX6_lanternOf 2 = .ok (.invokevirtual 152, 3) := by decide +kernel
theorem dX6_lanternOf_5 : decode cX6_lanternOf 5 = .ok (.getfield 161, 3) := by decide +kernel
theorem dX6_lanternOf_8 : decode cX6_lanternOf 8 = .ok (.ireturn, 1) := by decide +kernel
theorem hd_X6_lanternOf : yX6_lanternOf.cls = RX6 ∧ yX6_lanternOf.cls ≠ "java/lang/invoke/MethodHandle" ∧ yX6_lanternOf.cls ≠ "java/lang/invoke/VarHandle" ∧ (parseMethodDescriptor yX6_lanternOf.desc).map (fun d => d.parameters.length) = some 1 := by decide +kernel
set_option maxRecDepth 100000 in
set_option maxHeartbeats 4000000 in
theorem c_X6_lanternOf (l : Launch) (D : va_G) (g : xG) (tb : List xQ) (hT : x_T g tb) {a1 : Int32} (h0 : x_fb tb) {M : xM} {r : Int32} {M' : xM} (hf : f_X6_lanternOf a1 M = some (r, M')) :
    cI l D g tb yX6_lanternOf cX6_lanternOf 2 .int ({ frames := 2, cells := 0, slots := 0, locals := 42 } : Room) [.ref (g.1 4 1664), .int a1] M r M' := by
  refine x_startI (own := RX6) (by decide +kernel) rfl rfl (Nat.le_of_ble_eq_true rfl) hT ?_
  intro p e s m args below meth c Q C0 hend
  unfold f_X6_lanternOf at hf
  refine r_aload_n C0 (kk := 0) 0 rfl dX6_lanternOf_0 ?_
  refine r_iload_n C0 (kk := 1) 1 rfl dX6_lanternOf_1 ?_
  obtain ⟨r3, M2, hc1, hf⟩ := bd2_e hf
  refine r_callVr C0 (As := [.int a1]) (rest := []) (c_X6_stallAt l D g tb hT h0 hc1) w1_149 w1_151 wp1_1 w1_13 w1_153 (x_rec4 C0 h0.1) hd_X6_stallAt rfl ⟨rfl, rfl⟩ ⟨Nat.le_of_ble_eq_true rfl, Nat.le_of_ble_eq_true rfl⟩ (by decide) (by decide) rfl (Nat.le_of_ble_eq_true rfl) dX6_lanternOf_2 (fun hm4 => ?_)
  refine r_get0 C0 hm4 1 (by decide) (v := .int (M2 (r3 + 1))) rfl rfl w3_151 dX6_lanternOf_5 ?_
  exact hend hf dX6_lanternOf_8
theorem dX6_textureOf_0 : decode cX6_textureOf 0 = .ok (.aload_n 0, 1) := by decide +kernel
theorem dX6_textureOf_1 : decode cX6_textureOf 1 = .ok (.iload_n 1, 1) := by decide +kernel
theorem dX6_textureOf_2 : decode cX6_textureOf 2 = .ok (.invokevirtual 152, 3) := by decide +kernel
theorem dX6_textureOf_5 : decode cX6_textureOf 5 = .ok (.getfield 164, 3) := by decide +kernel
theorem dX6_textureOf_8 : decode cX6_textureOf 8 = .ok (.ireturn, 1) := by decide +kernel
theorem hd_X6_textureOf : yX6_textureOf.cls = RX6 ∧ yX6_textureOf.cls ≠ "java/lang/invoke/MethodHandle" ∧ yX6_textureOf.cls ≠ "java/lang/invoke/VarHandle" ∧ (parseMethodDescriptor yX6_textureOf.desc).map (fun d => d.parameters.length) = some 1 := by decide +kernel
set_option maxRecDepth 100000 in
set_option maxHeartbeats 4000000 in
theorem c_X6_textureOf (l : Launch) (D : va_G) (g : xG) (tb : List xQ) (hT : x_T g tb) {a1 : Int32} (h0 : x_fb tb) {M : xM} {r : Int32} {M' : xM} (hf : f_X6_textureOf a1 M = some (r, M')) :
    cI l D g tb yX6_textureOf cX6_textureOf 2 .int ({ frames := 2, cells := 0, slots := 0, locals := 42 } : Room) [.ref (g.1 4 1664), .int a1] M r M' := by
  refine x_startI (own := RX6) (by decide +kernel) rfl rfl (Nat.le_of_ble_eq_true rfl) hT ?_
  intro p e s m args below meth c Q C0 hend
  unfold f_X6_textureOf at hf
  refine r_aload_n C0 (kk := 0) 0 rfl dX6_textureOf_0 ?_
  refine r_iload_n C0 (kk := 1) 1 rfl dX6_textureOf_1 ?_
  obtain ⟨r3, M2, hc1, hf⟩ := bd2_e hf
  refine r_callVr C0 (As := [.int a1]) (rest := []) (c_X6_stallAt l D g tb hT h0 hc1) w1_149 w1_151 wp1_1 w1_13 w1_153 (x_rec4 C0 h0.1) hd_X6_stallAt rfl ⟨rfl, rfl⟩ ⟨Nat.le_of_ble_eq_true rfl, Nat.le_of_ble_eq_true rfl⟩ (by decide) (by decide) rfl (Nat.le_of_ble_eq_true rfl) dX6_textureOf_2 (fun hm4 => ?_)
  refine r_get0 C0 hm4 2 (by decide) (v := .int (M2 (r3 + 2))) rfl rfl w3_154 dX6_textureOf_5 ?_
  exact hend hf dX6_textureOf_8
theorem dX6_priceOf_0 : decode cX6_priceOf 0 = .ok (.aload_n 0, 1) := by decide +kernel
theorem dX6_priceOf_1 : decode cX6_priceOf 1 = .ok (.iload_n 1, 1) := by decide +kernel
theorem dX6_priceOf_2 : decode cX6_priceOf 2 = .ok (.invokevirtual 152, 3) := by decide +kernel
theorem dX6_priceOf_5 : decode cX6_priceOf 5 = .ok (.getfield 167, 3) := by decide +kernel
theorem dX6_priceOf_8 : decode cX6_priceOf 8 = .ok (.ireturn, 1) := by decide +kernel
theorem hd_X6_priceOf : yX6_priceOf.cls = RX6 ∧ yX6_priceOf.cls ≠ "java/lang/invoke/MethodHandle" ∧ yX6_priceOf.cls ≠ "java/lang/invoke/VarHandle" ∧ (parseMethodDescriptor yX6_priceOf.desc).map (fun d => d.parameters.length) = some 1 := by decide +kernel
set_option maxRecDepth 100000 in
set_option maxHeartbeats 4000000 in
theorem c_X6_priceOf (l : Launch) (D : va_G) (g : xG) (tb : List xQ) (hT : x_T g tb) {a1 : Int32} (h0 : x_fb tb) {M : xM} {r : Int32} {M' : xM} (hf : f_X6_priceOf a1 M = some (r, M')) :
    cI l D g tb yX6_priceOf cX6_priceOf 2 .int ({ frames := 2, cells := 0, slots := 0, locals := 42 } : Room) [.ref (g.1 4 1664), .int a1] M r M' := by
  refine x_startI (own := RX6) (by decide +kernel) rfl rfl (Nat.le_of_ble_eq_true rfl) hT ?_
  intro p e s m args below meth c Q C0 hend
  unfold f_X6_priceOf at hf
  refine r_aload_n C0 (kk := 0) 0 rfl dX6_priceOf_0 ?_
  refine r_iload_n C0 (kk := 1) 1 rfl dX6_priceOf_1 ?_
  obtain ⟨r3, M2, hc1, hf⟩ := bd2_e hf
  refine r_callVr C0 (As := [.int a1]) (rest := []) (c_X6_stallAt l D g tb hT h0 hc1) w1_149 w1_151 wp1_1 w1_13 w1_153 (x_rec4 C0 h0.1) hd_X6_stallAt rfl ⟨rfl, rfl⟩ ⟨Nat.le_of_ble_eq_true rfl, Nat.le_of_ble_eq_true rfl⟩ (by decide) (by decide) rfl (Nat.le_of_ble_eq_true rfl) dX6_priceOf_2 (fun hm4 => ?_)
  refine r_get0 C0 hm4 3 (by decide) (v := .int (M2 (r3 + 3))) rfl rfl w3_158 dX6_priceOf_5 ?_
  exact hend hf dX6_priceOf_8
theorem dX6_stockOf_0 : decode cX6_stockOf 0 = .ok (.aload_n 0, 1) := by decide +kernel
theorem dX6_stockOf_1 : decode cX6_stockOf 1 = .ok (.iload_n 1, 1) := by decide +kernel
theorem dX6_stockOf_2 : decode cX6_stockOf 2 = .ok (.invokevirtual 152, 3) := by decide +kernel
theorem dX6_stockOf_5 : decode cX6_stockOf 5 = .ok (.getfield 170, 3) := by decide +kernel
theorem dX6_stockOf_8 : decode cX6_stockOf 8 = .ok (.ireturn, 1) := by decide +kernel
theorem hd_X6_stockOf : yX6_stockOf.cls = RX6 ∧ yX6_stockOf.cls ≠ "java/lang/invoke/MethodHandle" ∧ yX6_stockOf.cls ≠ "java/lang/invoke/VarHandle" ∧ (parseMethodDescriptor yX6_stockOf.desc).map (fun d => d.parameters.length) = some 1 := by decide +kernel
set_option maxRecDepth 100000 in
set_option maxHeartbeats 4000000 in
theorem c_X6_stockOf (l : Launch) (D : va_G) (g : xG) (tb : List xQ) (hT : x_T g tb) {a1 : Int32} (h0 : x_fb tb) {M : xM} {r : Int32} {M' : xM} (hf : f_X6_stockOf a1 M = some (r, M')) :
    cI l D g tb yX6_stockOf cX6_stockOf 2 .int ({ frames := 2, cells := 0, slots := 0, locals := 42 } : Room) [.ref (g.1 4 1664), .int a1] M r M' := by
  refine x_startI (own := RX6) (by decide +kernel) rfl rfl (Nat.le_of_ble_eq_true rfl) hT ?_
  intro p e s m args below meth c Q C0 hend
  unfold f_X6_stockOf at hf
  refine r_aload_n C0 (kk := 0) 0 rfl dX6_stockOf_0 ?_
  refine r_iload_n C0 (kk := 1) 1 rfl dX6_stockOf_1 ?_
  obtain ⟨r3, M2, hc1, hf⟩ := bd2_e hf
  refine r_callVr C0 (As := [.int a1]) (rest := []) (c_X6_stallAt l D g tb hT h0 hc1) w1_149 w1_151 wp1_1 w1_13 w1_153 (x_rec4 C0 h0.1) hd_X6_stallAt rfl ⟨rfl, rfl⟩ ⟨Nat.le_of_ble_eq_true rfl, Nat.le_of_ble_eq_true rfl⟩ (by decide) (by decide) rfl (Nat.le_of_ble_eq_true rfl) dX6_stockOf_2 (fun hm4 => ?_)
  refine r_get0 C0 hm4 4 (by decide) (v := .int (M2 (r3 + 4))) rfl rfl w3_162 dX6_stockOf_5 ?_
  exact hend hf dX6_stockOf_8
