theorem dX3_lanternRead_0 : decode cX3_lanternRead 0 = .ok (.aload_n 0, 1) := by decide +kernel
theorem dX3_lanternRead_1 : decode cX3_lanternRead 1 = .ok (.ldc 192, 2) := by decide +kernel
theorem dX3_lanternRead_3 : decode cX3_lanternRead 3 = .ok (.invokevirtual 115, 3) := by decide +kernel
theorem dX3_lanternRead_6 : decode cX3_lanternRead 6 = .ok (.ifCond .eq 5, 3) := by decide +kernel
theorem dX3_lanternRead_9 : decode cX3_lanternRead 9 = .ok (.iconst 0, 1) := by decide +kernel
theorem dX3_lanternRead_10 : decode cX3_lanternRead 10 = .ok (.ireturn, 1) := by decide +kernel
theorem dX3_lanternRead_11 : decode cX3_lanternRead 11 = .ok (.aload_n 0, 1) := by decide +kernel
theorem dX3_lanternRead_12 : decode cX3_lanternRead 12 = .ok (.ldc 194, 2) := by decide +kernel
theorem dX3_lanternRead_14 : decode cX3_lanternRead 14 = .ok (.invokevirtual 115, 3) := by decide +kernel
theorem dX3_lanternRead_17 : decode cX3_lanternRead 17 = .ok (.ifCond .eq 5, 3) := by decide +kernel
theorem dX3_lanternRead_20 : decode cX3_lanternRead 20 = .ok (.iconst 1, 1) := by decide +kernel
theorem dX3_lanternRead_21 : decode cX3_lanternRead 21 = .ok (.ireturn, 1) := by decide +kernel
theorem dX3_lanternRead_22 : decode cX3_lanternRead 22 = .ok (.aload_n 0, 1) := by decide +kernel
theorem dX3_lanternRead_23 : decode cX3_lanternRead 23 = .ok (.ldc 196, 2) := by decide +kernel
theorem dX3_lanternRead_25 : decode cX3_lanternRead 25 = .ok (.invokevirtual 115, 3) := by decide +kernel
theorem dX3_lanternRead_28 : decode cX3_lanternRead 28 = .ok (.ifCond .eq 5, 3) := by decide +kernel
theorem dX3_lanternRead_31 : decode cX3_lanternRead 31 = .ok (.iconst 2, 1) := by decide +kernel
theorem dX3_lanternRead_32 : decode cX3_lanternRead 32 = .ok (.ireturn, 1) := by decide +kernel
theorem dX3_lanternRead_33 : decode cX3_lanternRead 33 = .ok (.aload_n 0, 1) := by decide +kernel
theorem dX3_lanternRead_34 : decode cX3_lanternRead 34 = .ok (.ldc 198, 2) := by decide +kernel
theorem dX3_lanternRead_36 : decode cX3_lanternRead 36 = .ok (.invokevirtual 115, 3) := by decide +kernel
theorem dX3_lanternRead_39 : decode cX3_lanternRead 39 = .ok (.ifCond .eq 7, 3) := by decide +kernel
theorem dX3_lanternRead_42 : decode cX3_lanternRead 42 = .ok (.iconst 3, 1) := by decide +kernel
theorem dX3_lanternRead_43 : decode cX3_lanternRead 43 = .ok (.goto 4, 3) := by decide +kernel
theorem dX3_lanternRead_46 : decode cX3_lanternRead 46 = .ok (.iconst (-1), 1) := by decide +kernel
theorem dX3_lanternRead_47 : decode cX3_lanternRead 47 = .ok (.ireturn, 1) := by decide +kernel
theorem hd_X3_lanternRead : yX3_lanternRead.cls = RX3 ∧ yX3_lanternRead.cls ≠ "java/lang/invoke/MethodHandle" ∧ yX3_lanternRead.cls ≠ "java/lang/invoke/VarHandle" ∧ (parseMethodDescriptor yX3_lanternRead.desc).map (fun d => d.parameters.length) = some 0 := by decide +kernel
set_option maxRecDepth 100000 in
set_option maxHeartbeats 4000000 in
theorem c_X3_lanternRead (l : Launch) (D : va_G) (g : xG) (tb : List xQ) (hT : x_T g tb)  (h0 : x_rd tb) {M : xM} {r : Int32} {M' : xM} (hf : f_X3_lanternRead  M = some (r, M')) :
    cI l D g tb yX3_lanternRead cX3_lanternRead 1 .int ({ frames := 5, cells := 0, slots := 0, locals := 107 } : Room) [.ref (g.1 3 1777)] M r M' := by
  refine x_startI (own := RX3) (by decide +kernel) rfl rfl (Nat.le_of_ble_eq_true rfl) hT ?_
  intro p e s m args below meth c Q C0 hend
  unfold f_X3_lanternRead at hf
  refine r_aload_n C0 (kk := 0) 0 rfl dX3_lanternRead_0 ?_
  refine r_ldcs C0 (si := 3) rfl dX3_lanternRead_1 ?_
  obtain ⟨r3, M2, hc1, hf⟩ := bd2_e hf
  refine r_callVi C0 (As := [.ref (g.1 20 3)]) (rest := []) (c_X3_isWord l D g tb hT h0 (by decide) hc1) w2_93 w2_95 wp1_6 w1_5 w2_96 (x_rec3 C0 h0.1) hd_X3_isWord rfl ⟨rfl, rfl⟩ ⟨Nat.le_of_ble_eq_true rfl, Nat.le_of_ble_eq_true rfl⟩ (by decide) (by decide) rfl (Nat.le_of_ble_eq_true rfl) dX3_lanternRead_3 ?_
  refine r_if_eq C0 (tgt := 11) (by decide) dX3_lanternRead_6 (fun q4 => ?_) (fun q4 => ?_)
  · have hf := ie_t hf q4
    refine r_aload_n C0 (kk := 0) 0 rfl dX3_lanternRead_11 ?_
    refine r_ldcs C0 (si := 4) rfl dX3_lanternRead_12 ?_
    obtain ⟨r7, M6, hc5, hf⟩ := bd2_e hf
    refine r_callVi C0 (As := [.ref (g.1 20 4)]) (rest := []) (c_X3_isWord l D g tb hT h0 (by decide) hc5) w2_93 w2_95 wp1_6 w1_5 w2_96 (x_rec3 C0 h0.1) hd_X3_isWord rfl ⟨rfl, rfl⟩ ⟨Nat.le_of_ble_eq_true rfl, Nat.le_of_ble_eq_true rfl⟩ (by decide) (by decide) rfl (Nat.le_of_ble_eq_true rfl) dX3_lanternRead_14 ?_
    refine r_if_eq C0 (tgt := 22) (by decide) dX3_lanternRead_17 (fun q8 => ?_) (fun q8 => ?_)
    · have hf := ie_t hf q8
      refine r_aload_n C0 (kk := 0) 0 rfl dX3_lanternRead_22 ?_
      refine r_ldcs C0 (si := 5) rfl dX3_lanternRead_23 ?_
      obtain ⟨r11, M10, hc9, hf⟩ := bd2_e hf
      refine r_callVi C0 (As := [.ref (g.1 20 5)]) (rest := []) (c_X3_isWord l D g tb hT h0 (by decide) hc9) w2_93 w2_95 wp1_6 w1_5 w2_96 (x_rec3 C0 h0.1) hd_X3_isWord rfl ⟨rfl, rfl⟩ ⟨Nat.le_of_ble_eq_true rfl, Nat.le_of_ble_eq_true rfl⟩ (by decide) (by decide) rfl (Nat.le_of_ble_eq_true rfl) dX3_lanternRead_25 ?_
      refine r_if_eq C0 (tgt := 33) (by decide) dX3_lanternRead_28 (fun q12 => ?_) (fun q12 => ?_)
      · have hf := ie_t hf q12
        refine r_aload_n C0 (kk := 0) 0 rfl dX3_lanternRead_33 ?_
        refine r_ldcs C0 (si := 6) rfl dX3_lanternRead_34 ?_
        obtain ⟨r15, M14, hc13, hf⟩ := bd2_e hf
        refine r_callVi C0 (As := [.ref (g.1 20 6)]) (rest := []) (c_X3_isWord l D g tb hT h0 (by decide) hc13) w2_93 w2_95 wp1_6 w1_5 w2_96 (x_rec3 C0 h0.1) hd_X3_isWord rfl ⟨rfl, rfl⟩ ⟨Nat.le_of_ble_eq_true rfl, Nat.le_of_ble_eq_true rfl⟩ (by decide) (by decide) rfl (Nat.le_of_ble_eq_true rfl) dX3_lanternRead_36 ?_
        refine r_if_eq C0 (tgt := 46) (by decide) dX3_lanternRead_39 (fun q16 => ?_) (fun q16 => ?_)
        · have hf := ie_t hf q16
          refine r_iconst C0 (v := (-1)) dX3_lanternRead_46 rfl ?_
          exact hend hf dX3_lanternRead_47
        · have hf := ie_f hf q16
          refine r_iconst C0 (v := 3) dX3_lanternRead_42 rfl ?_
          refine r_goto C0 (tgt := 47) (by decide) dX3_lanternRead_43 ?_
          exact hend hf dX3_lanternRead_47
      · have hf := ie_f hf q12
        refine r_iconst C0 (v := 2) dX3_lanternRead_31 rfl ?_
        exact hend hf dX3_lanternRead_32
    · have hf := ie_f hf q8
      refine r_iconst C0 (v := 1) dX3_lanternRead_20 rfl ?_
      exact hend hf dX3_lanternRead_21
  · have hf := ie_f hf q4
    refine r_iconst C0 (v := 0) dX3_lanternRead_9 rfl ?_
    exact hend hf dX3_lanternRead_10
theorem dX3_textureRead_0 : decode cX3_textureRead 0 = .ok (.aload_n 0, 1) := by decide +kernel
theorem dX3_textureRead_1 : decode cX3_textureRead 1 = .ok (.ldc 200, 2) := by decide +kernel
theorem dX3_textureRead_3 : decode cX3_textureRead 3 = .ok (.invokevirtual 115, 3) := by decide +kernel
theorem dX3_textureRead_6 : decode cX3_textureRead 6 = .ok (.ifCond .eq 5, 3) := by decide +kernel
theorem dX3_textureRead_9 : decode cX3_textureRead 9 = .ok (.iconst 0, 1) := by decide +kernel
theorem dX3_textureRead_10 : decode cX3_textureRead 10 = .ok (.ireturn, 1) := by decide +kernel
theorem dX3_textureRead_11 : decode cX3_textureRead 11 = .ok (.aload_n 0, 1) := by decide +kernel
theorem dX3_textureRead_12 : decode cX3_textureRead 12 = .ok (.ldc 202, 2) := by decide +kernel
theorem dX3_textureRead_14 : decode cX3_textureRead 14 = .ok (.invokevirtual 115, 3) := by decide +kernel
theorem dX3_textureRead_17 : decode cX3_textureRead 17 = .ok (.ifCond .eq 5, 3) := by decide +kernel
theorem dX3_textureRead_20 : decode cX3_textureRead 20 = .ok (.iconst 1, 1) := by decide +kernel
theorem dX3_textureRead_21 : decode cX3_textureRead 21 = .ok (.ireturn, 1) := by decide +kernel
theorem dX3_textureRead_22 : decode cX3_textureRead 22 = .ok (.aload_n 0, 1) := by decide +kernel
theorem dX3_textureRead_23 : decode cX3_textureRead 23 = .ok (.ldc 204, 2) := by decide +kernel
theorem dX3_textureRead_25 : decode cX3_textureRead 25 = .ok (.invokevirtual 115, 3) := by decide +kernel
theorem dX3_textureRead_28 : decode cX3_textureRead 28 = .ok (.ifCond .eq 7, 3) := by decide +kernel
theorem dX3_textureRead_31 : decode cX3_textureRead 31 = .ok (.iconst 2, 1) := by decide +kernel
theorem dX3_textureRead_32 : decode cX3_textureRead 32 = .ok (.goto 4, 3) := by decide +kernel
theorem dX3_textureRead_35 : decode cX3_textureRead 35 = .ok (.iconst (-1), 1) := by decide +kernel
theorem dX3_textureRead_36 : decode cX3_textureRead 36 = .ok (.ireturn, 1) := by decide +kernel
theorem hd_X3_textureRead : yX3_textureRead.cls = RX3 ∧ yX3_textureRead.cls ≠ "java/lang/invoke/MethodHandle" ∧ yX3_textureRead.cls ≠ "java/lang/invoke/VarHandle" ∧ (parseMethodDescriptor yX3_textureRead.desc).map (fun d => d.parameters.length) = some 0 := by decide +kernel
set_option maxRecDepth 100000 in
set_option maxHeartbeats 4000000 in
theorem c_X3_textureRead (l : Launch) (D : va_G) (g : xG) (tb : List xQ) (hT : x_T g tb)  (h0 : x_rd tb) {M : xM} {r : Int32} {M' : xM} (hf : f_X3_textureRead  M = some (r, M')) :
    cI l D g tb yX3_textureRead cX3_textureRead 1 .int ({ frames := 5, cells := 0, slots := 0, locals := 107 } : Room) [.ref (g.1 3 1777)] M r M' := by
  refine x_startI (own := RX3) (by decide +kernel) rfl rfl (Nat.le_of_ble_eq_true rfl) hT ?_
  intro p e s m args below meth c Q C0 hend
  unfold f_X3_textureRead at hf
  refine r_aload_n C0 (kk := 0) 0 rfl dX3_textureRead_0 ?_
  refine r_ldcs C0 (si := 7) rfl dX3_textureRead_1 ?_
  obtain ⟨r3, M2, hc1, hf⟩ := bd2_e hf
  refine r_callVi C0 (As := [.ref (g.1 20 7)]) (rest := []) (c_X3_isWord l D g tb hT h0 (by decide) hc1) w2_93 w2_95 wp1_6 w1_5 w2_96 (x_rec3 C0 h0.1) hd_X3_isWord rfl ⟨rfl, rfl⟩ ⟨Nat.le_of_ble_eq_true rfl, Nat.le_of_ble_eq_true rfl⟩ (by decide) (by decide) rfl (Nat.le_of_ble_eq_true rfl) dX3_textureRead_3 ?_
  refine r_if_eq C0 (tgt := 11) (by decide) dX3_textureRead_6 (fun q4 => ?_) (fun q4 => ?_)
  · have hf := ie_t hf q4
    refine r_aload_n C0 (kk := 0) 0 rfl dX3_textureRead_11 ?_
    refine r_ldcs C0 (si := 8) rfl dX3_textureRead_12 ?_
    obtain ⟨r7, M6, hc5, hf⟩ := bd2_e hf
    refine r_callVi C0 (As := [.ref (g.1 20 8)]) (rest := []) (c_X3_isWord l D g tb hT h0 (by decide) hc5) w2_93 w2_95 wp1_6 w1_5 w2_96 (x_rec3 C0 h0.1) hd_X3_isWord rfl ⟨rfl, rfl⟩ ⟨Nat.le_of_ble_eq_true rfl, Nat.le_of_ble_eq_true rfl⟩ (by decide) (by decide) rfl (Nat.le_of_ble_eq_true rfl) dX3_textureRead_14 ?_
    refine r_if_eq C0 (tgt := 22) (by decide) dX3_textureRead_17 (fun q8 => ?_) (fun q8 => ?_)
    · have hf := ie_t hf q8
      refine r_aload_n C0 (kk := 0) 0 rfl dX3_textureRead_22 ?_
      refine r_ldcs C0 (si := 9) rfl dX3_textureRead_23 ?_
      obtain ⟨r11, M10, hc9, hf⟩ := bd2_e hf
      refine r_callVi C0 (As := [.ref (g.1 20 9)]) (rest := []) (c_X3_isWord l D g tb hT h0 (by decide) hc9) w2_93 w2_95 wp1_6 w1_5 w2_96 (x_rec3 C0 h0.1) hd_X3_isWord rfl ⟨rfl, rfl⟩ ⟨Nat.le_of_ble_eq_true rfl, Nat.le_of_ble_eq_true rfl⟩ (by decide) (by decide) rfl (Nat.le_of_ble_eq_true rfl) dX3_textureRead_25 ?_
      refine r_if_eq C0 (tgt := 35) (by decide) dX3_textureRead_28 (fun q12 => ?_) (fun q12 => ?_)
      · have hf := ie_t hf q12
        refine r_iconst C0 (v := (-1)) dX3_textureRead_35 rfl ?_
        exact hend hf dX3_textureRead_36
      · have hf := ie_f hf q12
        refine r_iconst C0 (v := 2) dX3_textureRead_31 rfl ?_
        refine r_goto C0 (tgt := 36) (by decide) dX3_textureRead_32 ?_
        exact hend hf dX3_textureRead_36
    · have hf := ie_f hf q8
      refine r_iconst C0 (v := 1) dX3_textureRead_20 rfl ?_
      exact hend hf dX3_textureRead_21
  · have hf := ie_f hf q4
    refine r_iconst C0 (v := 0) dX3_textureRead_9 rfl ?_
    exact hend hf dX3_textureRead_10
theorem dX7_commandHere_0 : decode cX7_commandHere 0 = .ok (.aload_n 0, 1) := by decide +kernel
theorem dX7_commandHere_1 : decode cX7_commandHere 1 = .ok (.ldc 223, 2) := by decide +kernel
theorem dX7_commandHere_3 : decode cX7_commandHere 3 = .ok (.invokevirtual 173, 3) := by decide +kernel
theorem dX7_commandHere_6 : decode cX7_commandHere 6 = .ok (.ifCond .eq 7, 3) := by decide +kernel
theorem dX7_commandHere_9 : decode cX7_commandHere 9 = .ok (.iconst 0, 1) := by decide +kernel
theorem dX7_commandHere_10 : decode cX7_commandHere 10 = .ok (.goto 30, 3) := by decide +kernel
theorem dX7_commandHere_13 : decode cX7_commandHere 13 = .ok (.aload_n 0, 1) := by decide +kernel
theorem dX7_commandHere_14 : decode cX7_commandHere 14 = .ok (.ldc 225, 2) := by decide +kernel
theorem dX7_commandHere_16 : decode cX7_commandHere 16 = .ok (.invokevirtual 173, 3) := by decide +kernel
theorem dX7_commandHere_19 : decode cX7_commandHere 19 = .ok (.ifCond .eq 7, 3) := by decide +kernel
theorem dX7_commandHere_22 : decode cX7_commandHere 22 = .ok (.iconst 1, 1) := by decide +kernel
theorem dX7_commandHere_23 : decode cX7_commandHere 23 = .ok (.goto 17, 3) := by decide +kernel
theorem dX7_commandHere_26 : decode cX7_commandHere 26 = .ok (.aload_n 0, 1) := by decide +kernel
theorem dX7_commandHere_27 : decode cX7_commandHere 27 = .ok (.ldc 227, 2) := by decide +kernel
theorem dX7_commandHere_29 : decode cX7_commandHere 29 = .ok (.invokevirtual 173, 3) := by decide +kernel
theorem dX7_commandHere_32 : decode cX7_commandHere 32 = .ok (.ifCond .eq 7, 3) := by decide +kernel
theorem dX7_commandHere_35 : decode cX7_commandHere 35 = .ok (.iconst 2, 1) := by decide +kernel
theorem dX7_commandHere_36 : decode cX7_commandHere 36 = .ok (.goto 4, 3) := by decide +kernel
theorem dX7_commandHere_39 : decode cX7_commandHere 39 = .ok (.iconst (-1), 1) := by decide +kernel
theorem dX7_commandHere_40 : decode cX7_commandHere 40 = .ok (.istore_n 1, 1) := by decide +kernel
theorem dX7_commandHere_41 : decode cX7_commandHere 41 = .ok (.aload_n 0, 1) := by decide +kernel
theorem dX7_commandHere_42 : decode cX7_commandHere 42 = .ok (.ldc 229, 2) := by decide +kernel
theorem dX7_commandHere_44 : decode cX7_commandHere 44 = .ok (.invokevirtual 173, 3) := by decide +kernel
theorem dX7_commandHere_47 : decode cX7_commandHere 47 = .ok (.ifCond .eq 7, 3) := by decide +kernel
theorem dX7_commandHere_50 : decode cX7_commandHere 50 = .ok (.iconst 3, 1) := by decide +kernel
theorem dX7_commandHere_51 : decode cX7_commandHere 51 = .ok (.goto 30, 3) := by decide +kernel
theorem dX7_commandHere_54 : decode cX7_commandHere 54 = .ok (.aload_n 0, 1) := by decide +kernel
theorem dX7_commandHere_55 : decode cX7_commandHere 55 = .ok (.ldc 231, 2) := by decide +kernel
theorem dX7_commandHere_57 : decode cX7_commandHere 57 = .ok (.invokevirtual 173, 3) := by decide +kernel
theorem dX7_commandHere_60 : decode cX7_commandHere 60 = .ok (.ifCond .eq 7, 3) := by decide +kernel
theorem dX7_commandHere_63 : decode cX7_commandHere 63 = .ok (.iconst 4, 1) := by decide +kernel
theorem dX7_commandHere_64 : decode cX7_commandHere 64 = .ok (.goto 17, 3) := by decide +kernel
theorem dX7_commandHere_67 : decode cX7_commandHere 67 = .ok (.aload_n 0, 1) := by decide +kernel
theorem dX7_commandHere_68 : decode cX7_commandHere 68 = .ok (.ldc 233, 2) := by decide +kernel
theorem dX7_commandHere_70 : decode cX7_commandHere 70 = .ok (.invokevirtual 173, 3) := by decide +kernel
theorem dX7_commandHere_73 : decode cX7_commandHere 73 = .ok (.ifCond .eq 7, 3) := by decide +kernel
theorem dX7_commandHere_76 : decode cX7_commandHere 76 = .ok (.iconst 5, 1) := by decide +kernel
theorem dX7_commandHere_77 : decode cX7_commandHere 77 = .ok (.goto 4, 3) := by decide +kernel
theorem dX7_commandHere_80 : decode cX7_commandHere 80 = .ok (.iconst (-1), 1) := by decide +kernel
theorem dX7_commandHere_81 : decode cX7_commandHere 81 = .ok (.istore_n 2, 1) := by decide +kernel
theorem dX7_commandHere_82 : decode cX7_commandHere 82 = .ok (.aload_n 0, 1) := by decide +kernel
theorem dX7_commandHere_83 : decode cX7_commandHere 83 = .ok (.ldc 235, 2) := by decide +kernel
theorem dX7_commandHere_85 : decode cX7_commandHere 85 = .ok (.invokevirtual 173, 3) := by decide +kernel
theorem dX7_commandHere_88 : decode cX7_commandHere 88 = .ok (.ifCond .eq 8, 3) := by decide +kernel
theorem dX7_commandHere_91 : decode cX7_commandHere 91 = .ok (.bipush 6, 2) := by decide +kernel
theorem dX7_commandHere_93 : decode cX7_commandHere 93 = .ok (.goto 32, 3) := by decide +kernel
theorem dX7_commandHere_96 : decode cX7_commandHere 96 = .ok (.aload_n 0, 1) := by decide +kernel
theorem dX7_commandHere_97 : decode cX7_commandHere 97 = .ok (.ldc 218, 2) := by decide +kernel
theorem dX7_commandHere_99 : decode cX7_commandHere 99 = .ok (.invokevirtual 173, 3) := by decide +kernel
theorem dX7_commandHere_102 : decode cX7_commandHere 102 = .ok (.ifCond .eq 8, 3) := by decide +kernel
theorem dX7_commandHere_105 : decode cX7_commandHere 105 = .ok (.bipush 7, 2) := by decide +kernel
theorem dX7_commandHere_107 : decode cX7_commandHere 107 = .ok (.goto 18, 3) := by decide +kernel
theorem dX7_commandHere_110 : decode cX7_commandHere 110 = .ok (.aload_n 0, 1) := by decide +kernel
theorem dX7_commandHere_111 : decode cX7_commandHere 111 = .ok (.ldc 237, 2) := by decide +kernel
theorem dX7_commandHere_113 : decode cX7_commandHere 113 = .ok (.invokevirtual 173, 3) := by decide +kernel
theorem dX7_commandHere_116 : decode cX7_commandHere 116 = .ok (.ifCond .eq 8, 3) := by decide +kernel
theorem dX7_commandHere_119 : decode cX7_commandHere 119 = .ok (.bipush 8, 2) := by decide +kernel
theorem dX7_commandHere_121 : decode cX7_commandHere 121 = .ok (.goto 4, 3) := by decide +kernel
theorem dX7_commandHere_124 : decode cX7_commandHere 124 = .ok (.iconst (-1), 1) := by decide +kernel
theorem dX7_commandHere_125 : decode cX7_commandHere 125 = .ok (.istore_n 3, 1) := by decide +kernel
theorem dX7_commandHere_126 : decode cX7_commandHere 126 = .ok (.iload_n 1, 1) := by decide +kernel
theorem dX7_commandHere_127 : decode cX7_commandHere 127 = .ok (.iconst (-1), 1) := by decide +kernel
theorem dX7_commandHere_128 : decode cX7_commandHere 128 = .ok (.if_icmp .eq 7, 3) := by decide +kernel
theorem dX7_commandHere_131 : decode cX7_commandHere 131 = .ok (.iload_n 1, 1) := by decide +kernel
theorem dX7_commandHere_132 : decode cX7_commandHere 132 = .ok (.goto 13, 3) := by decide +kernel
theorem dX7_commandHere_135 : decode cX7_commandHere 135 = .ok (.iload_n 2, 1) := by decide +kernel
theorem dX7_commandHere_136 : decode cX7_commandHere 136 = .ok (.iconst (-1), 1) := by decide +kernel
theorem dX7_commandHere_137 : decode cX7_commandHere 137 = .ok (.if_icmp .eq 7, 3) := by decide +kernel
theorem dX7_commandHere_140 : decode cX7_commandHere 140 = .ok (.iload_n 2, 1) := by decide +kernel
theorem dX7_commandHere_141 : decode cX7_commandHere 141 = .ok (.goto 4, 3) := by decide +kernel
theorem dX7_commandHere_144 : decode cX7_commandHere 144 = .ok (.iload_n 3, 1) := by decide +kernel
theorem dX7_commandHere_145 : decode cX7_commandHere 145 = .ok (.ireturn, 1) := by decide +kernel
theorem hd_X7_commandHere : yX7_commandHere.cls = RX7 ∧ yX7_commandHere.cls ≠ "java/lang/invoke/MethodHandle" ∧ yX7_commandHere.cls ≠ "java/lang/invoke/VarHandle" ∧ (parseMethodDescriptor yX7_commandHere.desc).map (fun d => d.parameters.length) = some 0 := by decide +kernel
set_option maxRecDepth 100000 in
set_option maxHeartbeats 4000000 in
theorem c_X7_commandHere (l : Launch) (D : va_G) (g : xG) (tb : List xQ) (hT : x_T g tb)  (h0 : x_md tb) {M : xM} {r : Int32} {M' : xM} (hf : f_X7_commandHere  M = some (r, M')) :
    cI l D g tb yX7_commandHere cX7_commandHere 4 .int ({ frames := 5, cells := 0, slots := 0, locals := 108 } : Room) [.ref (g.1 5 2500)] M r M' := by
  refine x_startI (own := RX7) (by decide +kernel) rfl rfl (Nat.le_of_ble_eq_true rfl) hT ?_
  intro p e s m args below meth c Q C0 hend
  have B125 : ∀ (v1 : Int32) (v2 : Int32) (s0 : Int32)  (M : xM), f_X7_commandHere_c125   v1 v2 s0 M = some (r, M') → WW p l e ({ frames := 5, cells := 0, slots := 0, locals := 108 } : Room) s m args below meth c 0 0 Q 4 D g tb 125 [(1, .int v1), (2, .int v2)] [.int s0] M := by
    intro   v1 v2 s0  M hf
    unfold f_X7_commandHere_c125 at hf
    refine r_istore_n C0 (kk := 3) (lv2 := [(3, .int s0), (1, .int v1), (2, .int v2)]) (by decide) rfl dX7_commandHere_125 ?_
    refine r_iload_n C0 (kk := 1) 1 rfl dX7_commandHere_126 ?_
    refine r_iconst C0 (v := (-1)) dX7_commandHere_127 rfl ?_
    refine r_icmp_eq C0 (tgt := 135) (by decide) dX7_commandHere_128 (fun q37 => ?_) (fun q37 => ?_)
    · have hf := ie_t hf q37
      refine r_iload_n C0 (kk := 2) 2 rfl dX7_commandHere_135 ?_
      refine r_iconst C0 (v := (-1)) dX7_commandHere_136 rfl ?_
      refine r_icmp_eq C0 (tgt := 144) (by decide) dX7_commandHere_137 (fun q38 => ?_) (fun q38 => ?_)
      · have hf := ie_t hf q38
        refine r_iload_n C0 (kk := 3) 0 rfl dX7_commandHere_144 ?_
        exact hend hf dX7_commandHere_145
      · have hf := ie_f hf q38
        refine r_iload_n C0 (kk := 2) 2 rfl dX7_commandHere_140 ?_
        refine r_goto C0 (tgt := 145) (by decide) dX7_commandHere_141 ?_
        exact hend hf dX7_commandHere_145
    · have hf := ie_f hf q37
      refine r_iload_n C0 (kk := 1) 1 rfl dX7_commandHere_131 ?_
      refine r_goto C0 (tgt := 145) (by decide) dX7_commandHere_132 ?_
      exact hend hf dX7_commandHere_145
  have B81 : ∀ (v1 : Int32) (s0 : Int32)  (M : xM), f_X7_commandHere_c81   v1 s0 M = some (r, M') → WW p l e ({ frames := 5, cells := 0, slots := 0, locals := 108 } : Room) s m args below meth c 0 0 Q 4 D g tb 81 [(0, .ref (g.1 5 2500)), (1, .int v1)] [.int s0] M := by
    intro   v1 s0  M hf
    unfold f_X7_commandHere_c81 at hf
    refine r_istore_n C0 (kk := 2) (lv2 := [(2, .int s0), (0, .ref (g.1 5 2500)), (1, .int v1)]) (by decide) rfl dX7_commandHere_81 ?_
    refine r_aload_n C0 (kk := 0) 1 rfl dX7_commandHere_82 ?_
    refine r_ldcs C0 (si := 29) rfl dX7_commandHere_83 ?_
    obtain ⟨r27, M26, hc25, hf⟩ := bd2_e hf
    refine r_callVi C0 (As := [.ref (g.1 20 29)]) (rest := []) (c_X7_isWord l D g tb hT h0 (by decide) hc25) w6_28 w6_30 wp3_3 w1_14 w6_31 (x_rec5 C0 h0.1) hd_X7_isWord rfl ⟨rfl, rfl⟩ ⟨Nat.le_of_ble_eq_true rfl, Nat.le_of_ble_eq_true rfl⟩ (by decide) (by decide) rfl (Nat.le_of_ble_eq_true rfl) dX7_commandHere_85 ?_
    refine r_if_eq C0 (tgt := 96) (by decide) dX7_commandHere_88 (fun q28 => ?_) (fun q28 => ?_)
    · have hf := ie_t hf q28
      refine r_aload_n C0 (kk := 0) 1 rfl dX7_commandHere_96 ?_
      refine r_ldcs C0 (si := 22) rfl dX7_commandHere_97 ?_
      obtain ⟨r31, M30, hc29, hf⟩ := bd2_e hf
      refine r_callVi C0 (As := [.ref (g.1 20 22)]) (rest := []) (c_X7_isWord l D g tb hT h0 (by decide) hc29) w6_28 w6_30 wp3_3 w1_14 w6_31 (x_rec5 C0 h0.1) hd_X7_isWord rfl ⟨rfl, rfl⟩ ⟨Nat.le_of_ble_eq_true rfl, Nat.le_of_ble_eq_true rfl⟩ (by decide) (by decide) rfl (Nat.le_of_ble_eq_true rfl) dX7_commandHere_99 ?_
      refine r_if_eq C0 (tgt := 110) (by decide) dX7_commandHere_102 (fun q32 => ?_) (fun q32 => ?_)
      · have hf := ie_t hf q32
        refine r_aload_n C0 (kk := 0) 1 rfl dX7_commandHere_110 ?_
        refine r_ldcs C0 (si := 30) rfl dX7_commandHere_111 ?_
        obtain ⟨r35, M34, hc33, hf⟩ := bd2_e hf
        refine r_callVi C0 (As := [.ref (g.1 20 30)]) (rest := []) (c_X7_isWord l D g tb hT h0 (by decide) hc33) w6_28 w6_30 wp3_3 w1_14 w6_31 (x_rec5 C0 h0.1) hd_X7_isWord rfl ⟨rfl, rfl⟩ ⟨Nat.le_of_ble_eq_true rfl, Nat.le_of_ble_eq_true rfl⟩ (by decide) (by decide) rfl (Nat.le_of_ble_eq_true rfl) dX7_commandHere_113 ?_
        refine r_if_eq C0 (tgt := 124) (by decide) dX7_commandHere_116 (fun q36 => ?_) (fun q36 => ?_)
        · have hf := ie_t hf q36
          refine r_iconst C0 (v := (-1)) dX7_commandHere_124 rfl ?_
          refine WW.sub [2, 0] rfl ?_
          exact B125   _ _ _   _ hf
        · have hf := ie_f hf q36
          refine r_bipush C0 (v := 8) dX7_commandHere_119 rfl ?_
          refine r_goto C0 (tgt := 125) (by decide) dX7_commandHere_121 ?_
          refine WW.sub [2, 0] rfl ?_
          exact B125   _ _ _   _ hf
      · have hf := ie_f hf q32
        refine r_bipush C0 (v := 7) dX7_commandHere_105 rfl ?_
        refine r_goto C0 (tgt := 125) (by decide) dX7_commandHere_107 ?_
        refine WW.sub [2, 0] rfl ?_
        exact B125   _ _ _   _ hf
    · have hf := ie_f hf q28
      refine r_bipush C0 (v := 6) dX7_commandHere_91 rfl ?_
      refine r_goto C0 (tgt := 125) (by decide) dX7_commandHere_93 ?_
      refine WW.sub [2, 0] rfl ?_
      exact B125   _ _ _   _ hf
  have B40 : ∀ (s0 : Int32)  (M : xM), f_X7_commandHere_c40   s0 M = some (r, M') → WW p l e ({ frames := 5, cells := 0, slots := 0, locals := 108 } : Room) s m args below meth c 0 0 Q 4 D g tb 40 [(0, .ref (g.1 5 2500))] [.int s0] M := by
    intro   s0  M hf
    unfold f_X7_commandHere_c40 at hf
    refine r_istore_n C0 (kk := 1) (lv2 := [(1, .int s0), (0, .ref (g.1 5 2500))]) (by decide) rfl dX7_commandHere_40 ?_
    refine r_aload_n C0 (kk := 0) 1 rfl dX7_commandHere_41 ?_
    refine r_ldcs C0 (si := 26) rfl dX7_commandHere_42 ?_
    obtain ⟨r15, M14, hc13, hf⟩ := bd2_e hf
    refine r_callVi C0 (As := [.ref (g.1 20 26)]) (rest := []) (c_X7_isWord l D g tb hT h0 (by decide) hc13) w6_28 w6_30 wp3_3 w1_14 w6_31 (x_rec5 C0 h0.1) hd_X7_isWord rfl ⟨rfl, rfl⟩ ⟨Nat.le_of_ble_eq_true rfl, Nat.le_of_ble_eq_true rfl⟩ (by decide) (by decide) rfl (Nat.le_of_ble_eq_true rfl) dX7_commandHere_44 ?_
    refine r_if_eq C0 (tgt := 54) (by decide) dX7_commandHere_47 (fun q16 => ?_) (fun q16 => ?_)
    · have hf := ie_t hf q16
      refine r_aload_n C0 (kk := 0) 1 rfl dX7_commandHere_54 ?_
      refine r_ldcs C0 (si := 27) rfl dX7_commandHere_55 ?_
      obtain ⟨r19, M18, hc17, hf⟩ := bd2_e hf
      refine r_callVi C0 (As := [.ref (g.1 20 27)]) (rest := []) (c_X7_isWord l D g tb hT h0 (by decide) hc17) w6_28 w6_30 wp3_3 w1_14 w6_31 (x_rec5 C0 h0.1) hd_X7_isWord rfl ⟨rfl, rfl⟩ ⟨Nat.le_of_ble_eq_true rfl, Nat.le_of_ble_eq_true rfl⟩ (by decide) (by decide) rfl (Nat.le_of_ble_eq_true rfl) dX7_commandHere_57 ?_
      refine r_if_eq C0 (tgt := 67) (by decide) dX7_commandHere_60 (fun q20 => ?_) (fun q20 => ?_)
      · have hf := ie_t hf q20
        refine r_aload_n C0 (kk := 0) 1 rfl dX7_commandHere_67 ?_
        refine r_ldcs C0 (si := 28) rfl dX7_commandHere_68 ?_
        obtain ⟨r23, M22, hc21, hf⟩ := bd2_e hf
        refine r_callVi C0 (As := [.ref (g.1 20 28)]) (rest := []) (c_X7_isWord l D g tb hT h0 (by decide) hc21) w6_28 w6_30 wp3_3 w1_14 w6_31 (x_rec5 C0 h0.1) hd_X7_isWord rfl ⟨rfl, rfl⟩ ⟨Nat.le_of_ble_eq_true rfl, Nat.le_of_ble_eq_true rfl⟩ (by decide) (by decide) rfl (Nat.le_of_ble_eq_true rfl) dX7_commandHere_70 ?_
        refine r_if_eq C0 (tgt := 80) (by decide) dX7_commandHere_73 (fun q24 => ?_) (fun q24 => ?_)
        · have hf := ie_t hf q24
          refine r_iconst C0 (v := (-1)) dX7_commandHere_80 rfl ?_
          refine WW.sub [1, 0] rfl ?_
          exact B81   _ _   _ hf
        · have hf := ie_f hf q24
          refine r_iconst C0 (v := 5) dX7_commandHere_76 rfl ?_
          refine r_goto C0 (tgt := 81) (by decide) dX7_commandHere_77 ?_
          refine WW.sub [1, 0] rfl ?_
          exact B81   _ _   _ hf
      · have hf := ie_f hf q20
        refine r_iconst C0 (v := 4) dX7_commandHere_63 rfl ?_
        refine r_goto C0 (tgt := 81) (by decide) dX7_commandHere_64 ?_
        refine WW.sub [1, 0] rfl ?_
        exact B81   _ _   _ hf
    · have hf := ie_f hf q16
      refine r_iconst C0 (v := 3) dX7_commandHere_50 rfl ?_
      refine r_goto C0 (tgt := 81) (by decide) dX7_commandHere_51 ?_
      refine WW.sub [1, 0] rfl ?_
      exact B81   _ _   _ hf
  unfold f_X7_commandHere at hf
  refine r_aload_n C0 (kk := 0) 0 rfl dX7_commandHere_0 ?_
  refine r_ldcs C0 (si := 23) rfl dX7_commandHere_1 ?_
  obtain ⟨r3, M2, hc1, hf⟩ := bd2_e hf
  refine r_callVi C0 (As := [.ref (g.1 20 23)]) (rest := []) (c_X7_isWord l D g tb hT h0 (by decide) hc1) w6_28 w6_30 wp3_3 w1_14 w6_31 (x_rec5 C0 h0.1) hd_X7_isWord rfl ⟨rfl, rfl⟩ ⟨Nat.le_of_ble_eq_true rfl, Nat.le_of_ble_eq_true rfl⟩ (by decide) (by decide) rfl (Nat.le_of_ble_eq_true rfl) dX7_commandHere_3 ?_
  refine r_if_eq C0 (tgt := 13) (by decide) dX7_commandHere_6 (fun q4 => ?_) (fun q4 => ?_)
  · have hf := ie_t hf q4
    refine r_aload_n C0 (kk := 0) 0 rfl dX7_commandHere_13 ?_
    refine r_ldcs C0 (si := 24) rfl dX7_commandHere_14 ?_
    obtain ⟨r7, M6, hc5, hf⟩ := bd2_e hf
    refine r_callVi C0 (As := [.ref (g.1 20 24)]) (rest := []) (c_X7_isWord l D g tb hT h0 (by decide) hc5) w6_28 w6_30 wp3_3 w1_14 w6_31 (x_rec5 C0 h0.1) hd_X7_isWord rfl ⟨rfl, rfl⟩ ⟨Nat.le_of_ble_eq_true rfl, Nat.le_of_ble_eq_true rfl⟩ (by decide) (by decide) rfl (Nat.le_of_ble_eq_true rfl) dX7_commandHere_16 ?_
    refine r_if_eq C0 (tgt := 26) (by decide) dX7_commandHere_19 (fun q8 => ?_) (fun q8 => ?_)
    · have hf := ie_t hf q8
      refine r_aload_n C0 (kk := 0) 0 rfl dX7_commandHere_26 ?_
      refine r_ldcs C0 (si := 25) rfl dX7_commandHere_27 ?_
      obtain ⟨r11, M10, hc9, hf⟩ := bd2_e hf
      refine r_callVi C0 (As := [.ref (g.1 20 25)]) (rest := []) (c_X7_isWord l D g tb hT h0 (by decide) hc9) w6_28 w6_30 wp3_3 w1_14 w6_31 (x_rec5 C0 h0.1) hd_X7_isWord rfl ⟨rfl, rfl⟩ ⟨Nat.le_of_ble_eq_true rfl, Nat.le_of_ble_eq_true rfl⟩ (by decide) (by decide) rfl (Nat.le_of_ble_eq_true rfl) dX7_commandHere_29 ?_
      refine r_if_eq C0 (tgt := 39) (by decide) dX7_commandHere_32 (fun q12 => ?_) (fun q12 => ?_)
      · have hf := ie_t hf q12
        refine r_iconst C0 (v := (-1)) dX7_commandHere_39 rfl ?_
        exact B40   _   _ hf
      · have hf := ie_f hf q12
        refine r_iconst C0 (v := 2) dX7_commandHere_35 rfl ?_
        refine r_goto C0 (tgt := 40) (by decide) dX7_commandHere_36 ?_
        exact B40   _   _ hf
    · have hf := ie_f hf q8
      refine r_iconst C0 (v := 1) dX7_commandHere_22 rfl ?_
      refine r_goto C0 (tgt := 40) (by decide) dX7_commandHere_23 ?_
      exact B40   _   _ hf
  · have hf := ie_f hf q4
    refine r_iconst C0 (v := 0) dX7_commandHere_9 rfl ?_
    refine r_goto C0 (tgt := 40) (by decide) dX7_commandHere_10 ?_
    exact B40   _   _ hf
theorem dX7_lanternInto_0 : decode cX7_lanternInto 0 = .ok (.aload_n 0, 1) := by decide +kernel
theorem dX7_lanternInto_1 : decode cX7_lanternInto 1 = .ok (.getfield 36, 3) := by decide +kernel
theorem dX7_lanternInto_4 : decode cX7_lanternInto 4 = .ok (.iload_n 1, 1) := by decide +kernel
theorem dX7_lanternInto_5 : decode cX7_lanternInto 5 = .ok (.aload_n 0, 1) := by decide +kernel
theorem dX7_lanternInto_6 : decode cX7_lanternInto 6 = .ok (.ldc 190, 2) := by decide +kernel
theorem dX7_lanternInto_8 : decode cX7_lanternInto 8 = .ok (.invokevirtual 173, 3) := by decide +kernel
theorem dX7_lanternInto_11 : decode cX7_lanternInto 11 = .ok (.ifCond .eq 7, 3) := by decide +kernel
theorem dX7_lanternInto_14 : decode cX7_lanternInto 14 = .ok (.iconst 0, 1) := by decide +kernel
theorem dX7_lanternInto_15 : decode cX7_lanternInto 15 = .ok (.goto 43, 3) := by decide +kernel
theorem dX7_lanternInto_18 : decode cX7_lanternInto 18 = .ok (.aload_n 0, 1) := by decide +kernel
theorem dX7_lanternInto_19 : decode cX7_lanternInto 19 = .ok (.ldc 192, 2) := by decide +kernel
theorem dX7_lanternInto_21 : decode cX7_lanternInto 21 = .ok (.invokevirtual 173, 3) := by decide +kernel
theorem dX7_lanternInto_24 : decode cX7_lanternInto 24 = .ok (.ifCond .eq 7, 3) := by decide +kernel
theorem dX7_lanternInto_27 : decode cX7_lanternInto 27 = .ok (.iconst 1, 1) := by decide +kernel
theorem dX7_lanternInto_28 : decode cX7_lanternInto 28 = .ok (.goto 30, 3) := by decide +kernel
theorem dX7_lanternInto_31 : decode cX7_lanternInto 31 = .ok (.aload_n 0, 1) := by decide +kernel
theorem dX7_lanternInto_32 : decode cX7_lanternInto 32 = .ok (.ldc 194, 2) := by decide +kernel
theorem dX7_lanternInto_34 : decode cX7_lanternInto 34 = .ok (.invokevirtual 173, 3) := by decide +kernel
theorem dX7_lanternInto_37 : decode cX7_lanternInto 37 = .ok (.ifCond .eq 7, 3) := by decide +kernel
theorem dX7_lanternInto_40 : decode cX7_lanternInto 40 = .ok (.iconst 2, 1) := by decide +kernel
theorem dX7_lanternInto_41 : decode cX7_lanternInto 41 = .ok (.goto 17, 3) := by decide +kernel
theorem dX7_lanternInto_44 : decode cX7_lanternInto 44 = .ok (.aload_n 0, 1) := by decide +kernel
theorem dX7_lanternInto_45 : decode cX7_lanternInto 45 = .ok (.ldc 196, 2) := by decide +kernel
theorem dX7_lanternInto_47 : decode cX7_lanternInto 47 = .ok (.invokevirtual 173, 3) := by decide +kernel
theorem dX7_lanternInto_50 : decode cX7_lanternInto 50 = .ok (.ifCond .eq 7, 3) := by decide +kernel
theorem dX7_lanternInto_53 : decode cX7_lanternInto 53 = .ok (.iconst 3, 1) := by decide +kernel
theorem dX7_lanternInto_54 : decode cX7_lanternInto 54 = .ok (.goto 4, 3) := by decide +kernel
theorem dX7_lanternInto_57 : decode cX7_lanternInto 57 = .ok (.iconst (-1), 1) := by decide +kernel
theorem dX7_lanternInto_58 : decode cX7_lanternInto 58 = .ok (.iastore, 1) := by decide +kernel
theorem dX7_lanternInto_59 : decode cX7_lanternInto 59 = .ok (.aload_n 0, 1) := by decide +kernel
theorem dX7_lanternInto_60 : decode cX7_lanternInto 60 = .ok (.aload_n 0, 1) := by decide +kernel
theorem dX7_lanternInto_61 : decode cX7_lanternInto 61 = .ok (.getfield 36, 3) := by decide +kernel
theorem dX7_lanternInto_64 : decode cX7_lanternInto 64 = .ok (.iload_n 1, 1) := by decide +kernel
theorem dX7_lanternInto_65 : decode cX7_lanternInto 65 = .ok (.iaload, 1) := by decide +kernel
theorem dX7_lanternInto_66 : decode cX7_lanternInto 66 = .ok (.invokevirtual 198, 3) := by decide +kernel
theorem dX7_lanternInto_69 : decode cX7_lanternInto 69 = .ok (.ireturn, 1) := by decide +kernel
theorem hd_X7_lanternInto : yX7_lanternInto.cls = RX7 ∧ yX7_lanternInto.cls ≠ "java/lang/invoke/MethodHandle" ∧ yX7_lanternInto.cls ≠ "java/lang/invoke/VarHandle" ∧ (parseMethodDescriptor yX7_lanternInto.desc).map (fun d => d.parameters.length) = some 1 := by decide +kernel
set_option maxRecDepth 100000 in
set_option maxHeartbeats 4000000 in
theorem c_X7_lanternInto (l : Launch) (D : va_G) (g : xG) (tb : List xQ) (hT : x_T g tb) {a1 : Int32} (h0 : x_md tb) {M : xM} {r : Int32} {M' : xM} (hf : f_X7_lanternInto a1 M = some (r, M')) :
    cI l D g tb yX7_lanternInto cX7_lanternInto 2 .boolean ({ frames := 5, cells := 0, slots := 0, locals := 108 } : Room) [.ref (g.1 5 2500), .int a1] M r M' := by
  refine x_startZ (own := RX7) (by decide +kernel) rfl rfl (Nat.le_of_ble_eq_true rfl) hT ?_
  intro p e s m args below meth c Q C0 hend
  have B58 : ∀ (s0 : Int32) (s1 : Int32)  (M : xM), f_X7_lanternInto_c58  a1 s0 s1 M = some (r, M') → WW p l e ({ frames := 5, cells := 0, slots := 0, locals := 108 } : Room) s m args below meth c 0 0 Q 2 D g tb 58 [(0, .ref (g.1 5 2500)), (1, .int a1)] [.int s0, .int s1, .ref (g.1 6 4147)] M := by
    intro   s0 s1  M hf
    unfold f_X7_lanternInto_c58 at hf
    obtain ⟨q17, hf⟩ := gd_e hf
    refine r_iastc C0 h0.2.2.2.2.2.2.2.1 q17 rfl dX7_lanternInto_58 ?_
    refine r_aload_n C0 (kk := 0) 0 rfl dX7_lanternInto_59 ?_
    refine r_aload_n C0 (kk := 0) 0 rfl dX7_lanternInto_60 ?_
    refine r_get5 C0 h0.1 13 (by decide) (v := .ref (g.1 6 4147)) rfl rfl w6_229 dX7_lanternInto_61 ?_
    refine r_iload_n C0 (kk := 1) 1 rfl dX7_lanternInto_64 ?_
    obtain ⟨q18, hf⟩ := gd_e hf
    refine r_ialdc C0 h0.2.2.2.2.2.2.2.1 q18 rfl dX7_lanternInto_65 ?_
    obtain ⟨r21, M20, hc19, hf⟩ := bd2_e hf
    refine r_callVi C0 (As := [.int ((upd M (4147 + s1.toNatClampNeg) s0) (4147 + a1.toNatClampNeg))]) (rest := []) (c_X7_wordRead l D g tb hT h0 hc19) w6_88 w6_90 wp3_14 w1_14 w6_91 (x_rec5 C0 h0.1) hd_X7_wordRead rfl ⟨rfl, rfl⟩ ⟨Nat.le_of_ble_eq_true rfl, Nat.le_of_ble_eq_true rfl⟩ (by decide) (by decide) rfl (Nat.le_of_ble_eq_true rfl) dX7_lanternInto_66 ?_
    obtain ⟨q22, hf⟩ := gd_e hf
    exact hend q22 hf dX7_lanternInto_69
  unfold f_X7_lanternInto at hf
  refine r_aload_n C0 (kk := 0) 0 rfl dX7_lanternInto_0 ?_
  refine r_get5 C0 h0.1 13 (by decide) (v := .ref (g.1 6 4147)) rfl rfl w6_229 dX7_lanternInto_1 ?_
  refine r_iload_n C0 (kk := 1) 1 rfl dX7_lanternInto_4 ?_
  refine r_aload_n C0 (kk := 0) 0 rfl dX7_lanternInto_5 ?_
  refine r_ldcs C0 (si := 31) rfl dX7_lanternInto_6 ?_
  obtain ⟨r3, M2, hc1, hf⟩ := bd2_e hf
  refine r_callVi C0 (As := [.ref (g.1 20 31)]) (rest := [.int a1, .ref (g.1 6 4147)]) (c_X7_isWord l D g tb hT h0 (by decide) hc1) w6_28 w6_30 wp3_3 w1_14 w6_31 (x_rec5 C0 h0.1) hd_X7_isWord rfl ⟨rfl, rfl⟩ ⟨Nat.le_of_ble_eq_true rfl, Nat.le_of_ble_eq_true rfl⟩ (by decide) (by decide) rfl (Nat.le_of_ble_eq_true rfl) dX7_lanternInto_8 ?_
  refine r_if_eq C0 (tgt := 18) (by decide) dX7_lanternInto_11 (fun q4 => ?_) (fun q4 => ?_)
  · have hf := ie_t hf q4
    refine r_aload_n C0 (kk := 0) 0 rfl dX7_lanternInto_18 ?_
    refine r_ldcs C0 (si := 32) rfl dX7_lanternInto_19 ?_
    obtain ⟨r7, M6, hc5, hf⟩ := bd2_e hf
    refine r_callVi C0 (As := [.ref (g.1 20 32)]) (rest := [.int a1, .ref (g.1 6 4147)]) (c_X7_isWord l D g tb hT h0 (by decide) hc5) w6_28 w6_30 wp3_3 w1_14 w6_31 (x_rec5 C0 h0.1) hd_X7_isWord rfl ⟨rfl, rfl⟩ ⟨Nat.le_of_ble_eq_true rfl, Nat.le_of_ble_eq_true rfl⟩ (by decide) (by decide) rfl (Nat.le_of_ble_eq_true rfl) dX7_lanternInto_21 ?_
    refine r_if_eq C0 (tgt := 31) (by decide) dX7_lanternInto_24 (fun q8 => ?_) (fun q8 => ?_)
    · have hf := ie_t hf q8
      refine r_aload_n C0 (kk := 0) 0 rfl dX7_lanternInto_31 ?_
      refine r_ldcs C0 (si := 33) rfl dX7_lanternInto_32 ?_
      obtain ⟨r11, M10, hc9, hf⟩ := bd2_e hf
      refine r_callVi C0 (As := [.ref (g.1 20 33)]) (rest := [.int a1, .ref (g.1 6 4147)]) (c_X7_isWord l D g tb hT h0 (by decide) hc9) w6_28 w6_30 wp3_3 w1_14 w6_31 (x_rec5 C0 h0.1) hd_X7_isWord rfl ⟨rfl, rfl⟩ ⟨Nat.le_of_ble_eq_true rfl, Nat.le_of_ble_eq_true rfl⟩ (by decide) (by decide) rfl (Nat.le_of_ble_eq_true rfl) dX7_lanternInto_34 ?_
      refine r_if_eq C0 (tgt := 44) (by decide) dX7_lanternInto_37 (fun q12 => ?_) (fun q12 => ?_)
      · have hf := ie_t hf q12
        refine r_aload_n C0 (kk := 0) 0 rfl dX7_lanternInto_44 ?_
        refine r_ldcs C0 (si := 34) rfl dX7_lanternInto_45 ?_
        obtain ⟨r15, M14, hc13, hf⟩ := bd2_e hf
        refine r_callVi C0 (As := [.ref (g.1 20 34)]) (rest := [.int a1, .ref (g.1 6 4147)]) (c_X7_isWord l D g tb hT h0 (by decide) hc13) w6_28 w6_30 wp3_3 w1_14 w6_31 (x_rec5 C0 h0.1) hd_X7_isWord rfl ⟨rfl, rfl⟩ ⟨Nat.le_of_ble_eq_true rfl, Nat.le_of_ble_eq_true rfl⟩ (by decide) (by decide) rfl (Nat.le_of_ble_eq_true rfl) dX7_lanternInto_47 ?_
        refine r_if_eq C0 (tgt := 57) (by decide) dX7_lanternInto_50 (fun q16 => ?_) (fun q16 => ?_)
        · have hf := ie_t hf q16
          refine r_iconst C0 (v := (-1)) dX7_lanternInto_57 rfl ?_
          exact B58   _ _   _ hf
        · have hf := ie_f hf q16
          refine r_iconst C0 (v := 3) dX7_lanternInto_53 rfl ?_
          refine r_goto C0 (tgt := 58) (by decide) dX7_lanternInto_54 ?_
          exact B58   _ _   _ hf
      · have hf := ie_f hf q12
        refine r_iconst C0 (v := 2) dX7_lanternInto_40 rfl ?_
        refine r_goto C0 (tgt := 58) (by decide) dX7_lanternInto_41 ?_
        exact B58   _ _   _ hf
    · have hf := ie_f hf q8
      refine r_iconst C0 (v := 1) dX7_lanternInto_27 rfl ?_
      refine r_goto C0 (tgt := 58) (by decide) dX7_lanternInto_28 ?_
      exact B58   _ _   _ hf
  · have hf := ie_f hf q4
    refine r_iconst C0 (v := 0) dX7_lanternInto_14 rfl ?_
    refine r_goto C0 (tgt := 58) (by decide) dX7_lanternInto_15 ?_
    exact B58   _ _   _ hf
theorem dX7_textureInto_0 : decode cX7_textureInto 0 = .ok (.aload_n 0, 1) := by decide +kernel
theorem dX7_textureInto_1 : decode cX7_textureInto 1 = .ok (.getfield 36, 3) := by decide +kernel
theorem dX7_textureInto_4 : decode cX7_textureInto 4 = .ok (.iload_n 1, 1) := by decide +kernel
theorem dX7_textureInto_5 : decode cX7_textureInto 5 = .ok (.aload_n 0, 1) := by decide +kernel
theorem dX7_textureInto_6 : decode cX7_textureInto 6 = .ok (.ldc 201, 2) := by decide +kernel
theorem dX7_textureInto_8 : decode cX7_textureInto 8 = .ok (.invokevirtual 173, 3) := by decide +kernel
theorem dX7_textureInto_11 : decode cX7_textureInto 11 = .ok (.ifCond .eq 7, 3) := by decide +kernel
theorem dX7_textureInto_14 : decode cX7_textureInto 14 = .ok (.iconst 0, 1) := by decide +kernel
theorem dX7_textureInto_15 : decode cX7_textureInto 15 = .ok (.goto 30, 3) := by decide +kernel
theorem dX7_textureInto_18 : decode cX7_textureInto 18 = .ok (.aload_n 0, 1) := by decide +kernel
theorem dX7_textureInto_19 : decode cX7_textureInto 19 = .ok (.ldc 203, 2) := by decide +kernel
theorem dX7_textureInto_21 : decode cX7_textureInto 21 = .ok (.invokevirtual 173, 3) := by decide +kernel
theorem dX7_textureInto_24 : decode cX7_textureInto 24 = .ok (.ifCond .eq 7, 3) := by decide +kernel
theorem dX7_textureInto_27 : decode cX7_textureInto 27 = .ok (.iconst 1, 1) := by decide +kernel
theorem dX7_textureInto_28 : decode cX7_textureInto 28 = .ok (.goto 17, 3) := by decide +kernel
theorem dX7_textureInto_31 : decode cX7_textureInto 31 = .ok (.aload_n 0, 1) := by decide +kernel
theorem dX7_textureInto_32 : decode cX7_textureInto 32 = .ok (.ldc 205, 2) := by decide +kernel
theorem dX7_textureInto_34 : decode cX7_textureInto 34 = .ok (.invokevirtual 173, 3) := by decide +kernel
theorem dX7_textureInto_37 : decode cX7_textureInto 37 = .ok (.ifCond .eq 7, 3) := by decide +kernel
theorem dX7_textureInto_40 : decode cX7_textureInto 40 = .ok (.iconst 2, 1) := by decide +kernel
theorem dX7_textureInto_41 : decode cX7_textureInto 41 = .ok (.goto 4, 3) := by decide +kernel
theorem dX7_textureInto_44 : decode cX7_textureInto 44 = .ok (.iconst (-1), 1) := by decide +kernel
theorem dX7_textureInto_45 : decode cX7_textureInto 45 = .ok (.iastore, 1) := by decide +kernel
theorem dX7_textureInto_46 : decode cX7_textureInto 46 = .ok (.aload_n 0, 1) := by decide +kernel
theorem dX7_textureInto_47 : decode cX7_textureInto 47 = .ok (.aload_n 0, 1) := by decide +kernel
theorem dX7_textureInto_48 : decode cX7_textureInto 48 = .ok (.getfield 36, 3) := by decide +kernel
theorem dX7_textureInto_51 : decode cX7_textureInto 51 = .ok (.iload_n 1, 1) := by decide +kernel
theorem dX7_textureInto_52 : decode cX7_textureInto 52 = .ok (.iaload, 1) := by decide +kernel
theorem dX7_textureInto_53 : decode cX7_textureInto 53 = .ok (.invokevirtual 198, 3) := by decide +kernel
theorem dX7_textureInto_56 : decode cX7_textureInto 56 = .ok (.ireturn, 1) := by decide +kernel
theorem hd_X7_textureInto : yX7_textureInto.cls = RX7 ∧ yX7_textureInto.cls ≠ "java/lang/invoke/MethodHandle" ∧ yX7_textureInto.cls ≠ "java/lang/invoke/VarHandle" ∧ (parseMethodDescriptor yX7_textureInto.desc).map (fun d => d.parameters.length) = some 1 := by decide +kernel
set_option maxRecDepth 100000 in
set_option maxHeartbeats 4000000 in
theorem c_X7_textureInto (l : Launch) (D : va_G) (g : xG) (tb : List xQ) (hT : x_T g tb) {a1 : Int32} (h0 : x_md tb) {M : xM} {r : Int32} {M' : xM} (hf : f_X7_textureInto a1 M = some (r, M')) :
    cI l D g tb yX7_textureInto cX7_textureInto 2 .boolean ({ frames := 5, cells := 0, slots := 0, locals := 108 } : Room) [.ref (g.1 5 2500), .int a1] M r M' := by
  refine x_startZ (own := RX7) (by decide +kernel) rfl rfl (Nat.le_of_ble_eq_true rfl) hT ?_
  intro p e s m args below meth c Q C0 hend
  have B45 : ∀ (s0 : Int32) (s1 : Int32)  (M : xM), f_X7_textureInto_c45  a1 s0 s1 M = some (r, M') → WW p l e ({ frames := 5, cells := 0, slots := 0, locals := 108 } : Room) s m args below meth c 0 0 Q 2 D g tb 45 [(0, .ref (g.1 5 2500)), (1, .int a1)] [.int s0, .int s1, .ref (g.1 6 4147)] M := by
    intro   s0 s1  M hf
    unfold f_X7_textureInto_c45 at hf
    obtain ⟨q13, hf⟩ := gd_e hf
    refine r_iastc C0 h0.2.2.2.2.2.2.2.1 q13 rfl dX7_textureInto_45 ?_
    refine r_aload_n C0 (kk := 0) 0 rfl dX7_textureInto_46 ?_
    refine r_aload_n C0 (kk := 0) 0 rfl dX7_textureInto_47 ?_
    refine r_get5 C0 h0.1 13 (by decide) (v := .ref (g.1 6 4147)) rfl rfl w6_229 dX7_textureInto_48 ?_
    refine r_iload_n C0 (kk := 1) 1 rfl dX7_textureInto_51 ?_
    obtain ⟨q14, hf⟩ := gd_e hf
    refine r_ialdc C0 h0.2.2.2.2.2.2.2.1 q14 rfl dX7_textureInto_52 ?_
    obtain ⟨r17, M16, hc15, hf⟩ := bd2_e hf
    refine r_callVi C0 (As := [.int ((upd M (4147 + s1.toNatClampNeg) s0) (4147 + a1.toNatClampNeg))]) (rest := []) (c_X7_wordRead l D g tb hT h0 hc15) w6_88 w6_90 wp3_14 w1_14 w6_91 (x_rec5 C0 h0.1) hd_X7_wordRead rfl ⟨rfl, rfl⟩ ⟨Nat.le_of_ble_eq_true rfl, Nat.le_of_ble_eq_true rfl⟩ (by decide) (by decide) rfl (Nat.le_of_ble_eq_true rfl) dX7_textureInto_53 ?_
    obtain ⟨q18, hf⟩ := gd_e hf
    exact hend q18 hf dX7_textureInto_56
  unfold f_X7_textureInto at hf
  refine r_aload_n C0 (kk := 0) 0 rfl dX7_textureInto_0 ?_
  refine r_get5 C0 h0.1 13 (by decide) (v := .ref (g.1 6 4147)) rfl rfl w6_229 dX7_textureInto_1 ?_
  refine r_iload_n C0 (kk := 1) 1 rfl dX7_textureInto_4 ?_
  refine r_aload_n C0 (kk := 0) 0 rfl dX7_textureInto_5 ?_
  refine r_ldcs C0 (si := 35) rfl dX7_textureInto_6 ?_
  obtain ⟨r3, M2, hc1, hf⟩ := bd2_e hf
  refine r_callVi C0 (As := [.ref (g.1 20 35)]) (rest := [.int a1, .ref (g.1 6 4147)]) (c_X7_isWord l D g tb hT h0 (by decide) hc1) w6_28 w6_30 wp3_3 w1_14 w6_31 (x_rec5 C0 h0.1) hd_X7_isWord rfl ⟨rfl, rfl⟩ ⟨Nat.le_of_ble_eq_true rfl, Nat.le_of_ble_eq_true rfl⟩ (by decide) (by decide) rfl (Nat.le_of_ble_eq_true rfl) dX7_textureInto_8 ?_
  refine r_if_eq C0 (tgt := 18) (by decide) dX7_textureInto_11 (fun q4 => ?_) (fun q4 => ?_)
  · have hf := ie_t hf q4
    refine r_aload_n C0 (kk := 0) 0 rfl dX7_textureInto_18 ?_
    refine r_ldcs C0 (si := 36) rfl dX7_textureInto_19 ?_
    obtain ⟨r7, M6, hc5, hf⟩ := bd2_e hf
    refine r_callVi C0 (As := [.ref (g.1 20 36)]) (rest := [.int a1, .ref (g.1 6 4147)]) (c_X7_isWord l D g tb hT h0 (by decide) hc5) w6_28 w6_30 wp3_3 w1_14 w6_31 (x_rec5 C0 h0.1) hd_X7_isWord rfl ⟨rfl, rfl⟩ ⟨Nat.le_of_ble_eq_true rfl, Nat.le_of_ble_eq_true rfl⟩ (by decide) (by decide) rfl (Nat.le_of_ble_eq_true rfl) dX7_textureInto_21 ?_
    refine r_if_eq C0 (tgt := 31) (by decide) dX7_textureInto_24 (fun q8 => ?_) (fun q8 => ?_)
    · have hf := ie_t hf q8
      refine r_aload_n C0 (kk := 0) 0 rfl dX7_textureInto_31 ?_
      refine r_ldcs C0 (si := 37) rfl dX7_textureInto_32 ?_
      obtain ⟨r11, M10, hc9, hf⟩ := bd2_e hf
      refine r_callVi C0 (As := [.ref (g.1 20 37)]) (rest := [.int a1, .ref (g.1 6 4147)]) (c_X7_isWord l D g tb hT h0 (by decide) hc9) w6_28 w6_30 wp3_3 w1_14 w6_31 (x_rec5 C0 h0.1) hd_X7_isWord rfl ⟨rfl, rfl⟩ ⟨Nat.le_of_ble_eq_true rfl, Nat.le_of_ble_eq_true rfl⟩ (by decide) (by decide) rfl (Nat.le_of_ble_eq_true rfl) dX7_textureInto_34 ?_
      refine r_if_eq C0 (tgt := 44) (by decide) dX7_textureInto_37 (fun q12 => ?_) (fun q12 => ?_)
      · have hf := ie_t hf q12
        refine r_iconst C0 (v := (-1)) dX7_textureInto_44 rfl ?_
        exact B45   _ _   _ hf
      · have hf := ie_f hf q12
        refine r_iconst C0 (v := 2) dX7_textureInto_40 rfl ?_
        refine r_goto C0 (tgt := 45) (by decide) dX7_textureInto_41 ?_
        exact B45   _ _   _ hf
    · have hf := ie_f hf q8
      refine r_iconst C0 (v := 1) dX7_textureInto_27 rfl ?_
      refine r_goto C0 (tgt := 45) (by decide) dX7_textureInto_28 ?_
      exact B45   _ _   _ hf
  · have hf := ie_f hf q4
    refine r_iconst C0 (v := 0) dX7_textureInto_14 rfl ?_
    refine r_goto C0 (tgt := 45) (by decide) dX7_textureInto_15 ?_
    exact B45   _ _   _ hf
theorem dX3_readArgument_0 : decode cX3_readArgument 0 = .ok (.aload_n 0, 1) := by decide +kernel
theorem dX3_readArgument_1 : decode cX3_readArgument 1 = .ok (.invokevirtual 74, 3) := by decide +kernel
theorem dX3_readArgument_4 : decode cX3_readArgument 4 = .ok (.iload_n 2, 1) := by decide +kernel
theorem dX3_readArgument_5 : decode cX3_readArgument 5 = .ok (.bipush 108, 2) := by decide +kernel
theorem dX3_readArgument_7 : decode cX3_readArgument 7 = .ok (.if_icmp .eq 9, 3) := by decide +kernel
theorem dX3_readArgument_10 : decode cX3_readArgument 10 = .ok (.iload_n 2, 1) := by decide +kernel
theorem dX3_readArgument_11 : decode cX3_readArgument 11 = .ok (.bipush 116, 2) := by decide +kernel
theorem dX3_readArgument_13 : decode cX3_readArgument 13 = .ok (.if_icmp .ne 49, 3) := by decide +kernel
theorem dX3_readArgument_16 : decode cX3_readArgument 16 = .ok (.iload_n 2, 1) := by decide +kernel
theorem dX3_readArgument_17 : decode cX3_readArgument 17 = .ok (.bipush 108, 2) := by decide +kernel
theorem dX3_readArgument_19 : decode cX3_readArgument 19 = .ok (.if_icmp .ne 10, 3) := by decide +kernel
theorem dX3_readArgument_22 : decode cX3_readArgument 22 = .ok (.aload_n 0, 1) := by decide +kernel
theorem dX3_readArgument_23 : decode cX3_readArgument 23 = .ok (.invokevirtual 130, 3) := by decide +kernel
theorem dX3_readArgument_26 : decode cX3_readArgument 26 = .ok (.goto 7, 3) := by decide +kernel
theorem dX3_readArgument_29 : decode cX3_readArgument 29 = .ok (.aload_n 0, 1) := by decide +kernel
theorem dX3_readArgument_30 : decode cX3_readArgument 30 = .ok (.invokevirtual 133, 3) := by decide +kernel
theorem dX3_readArgument_33 : decode cX3_readArgument 33 = .ok (.istore 4, 2) := by decide +kernel
theorem dX3_readArgument_35 : decode cX3_readArgument 35 = .ok (.aload_n 0, 1) := by decide +kernel
theorem dX3_readArgument_36 : decode cX3_readArgument 36 = .ok (.iload_n 3, 1) := by decide +kernel
theorem dX3_readArgument_37 : decode cX3_readArgument 37 = .ok (.iload 4, 2) := by decide +kernel
theorem dX3_readArgument_39 : decode cX3_readArgument 39 = .ok (.invokevirtual 136, 3) := by decide +kernel
theorem dX3_readArgument_42 : decode cX3_readArgument 42 = .ok (.iload 4, 2) := by decide +kernel
theorem dX3_readArgument_44 : decode cX3_readArgument 44 = .ok (.iconst (-1), 1) := by decide +kernel
theorem dX3_readArgument_45 : decode cX3_readArgument 45 = .ok (.if_icmp .ne 11, 3) := by decide +kernel
theorem dX3_readArgument_48 : decode cX3_readArgument 48 = .ok (.aload_n 0, 1) := by decide +kernel
theorem dX3_readArgument_49 : decode cX3_readArgument 49 = .ok (.iconst 1, 1) := by decide +kernel
theorem dX3_readArgument_50 : decode cX3_readArgument 50 = .ok (.invokevirtual 80, 3) := by decide +kernel
theorem dX3_readArgument_53 : decode cX3_readArgument 53 = .ok (.ifCond .eq 7, 3) := by decide +kernel
theorem dX3_readArgument_56 : decode cX3_readArgument 56 = .ok (.iconst 1, 1) := by decide +kernel
theorem dX3_readArgument_57 : decode cX3_readArgument 57 = .ok (.goto 4, 3) := by decide +kernel
theorem dX3_readArgument_60 : decode cX3_readArgument 60 = .ok (.iconst 0, 1) := by decide +kernel
theorem dX3_readArgument_61 : decode cX3_readArgument 61 = .ok (.ireturn, 1) := by decide +kernel
theorem dX3_readArgument_62 : decode cX3_readArgument 62 = .ok (.aload_n 0, 1) := by decide +kernel
theorem dX3_readArgument_63 : decode cX3_readArgument 63 = .ok (.iload_n 2, 1) := by decide +kernel
theorem dX3_readArgument_64 : decode cX3_readArgument 64 = .ok (.invokestatic 140, 3) := by decide +kernel
theorem dX3_readArgument_67 : decode cX3_readArgument 67 = .ok (.iload_n 2, 1) := by decide +kernel
theorem dX3_readArgument_68 : decode cX3_readArgument 68 = .ok (.aload_n 1, 1) := by decide +kernel
theorem dX3_readArgument_69 : decode cX3_readArgument 69 = .ok (.invokestatic 144, 3) := by decide +kernel
theorem dX3_readArgument_72 : decode cX3_readArgument 72 = .ok (.invokevirtual 148, 3) := by decide +kernel
theorem dX3_readArgument_75 : decode cX3_readArgument 75 = .ok (.ifCond .ne 5, 3) := by decide +kernel
theorem dX3_readArgument_78 : decode cX3_readArgument 78 = .ok (.iconst 0, 1) := by decide +kernel
theorem dX3_readArgument_79 : decode cX3_readArgument 79 = .ok (.ireturn, 1) := by decide +kernel
theorem dX3_readArgument_80 : decode cX3_readArgument 80 = .ok (.aload_n 0, 1) := by decide +kernel
theorem dX3_readArgument_81 : decode cX3_readArgument 81 = .ok (.iload_n 3, 1) := by decide +kernel
theorem dX3_readArgument_82 : decode cX3_readArgument 82 = .ok (.aload_n 0, 1) := by decide +kernel
theorem dX3_readArgument_83 : decode cX3_readArgument 83 = .ok (.getfield 55, 3) := by decide +kernel
theorem dX3_readArgument_86 : decode cX3_readArgument 86 = .ok (.invokevirtual 136, 3) := by decide +kernel
theorem dX3_readArgument_89 : decode cX3_readArgument 89 = .ok (.aload_n 0, 1) := by decide +kernel
theorem dX3_readArgument_90 : decode cX3_readArgument 90 = .ok (.aload_n 1, 1) := by decide +kernel
theorem dX3_readArgument_91 : decode cX3_readArgument 91 = .ok (.iload_n 3, 1) := by decide +kernel
theorem dX3_readArgument_92 : decode cX3_readArgument 92 = .ok (.invokevirtual 151, 3) := by decide +kernel
theorem dX3_readArgument_95 : decode cX3_readArgument 95 = .ok (.ifCond .eq 11, 3) := by decide +kernel
theorem dX3_readArgument_98 : decode cX3_readArgument 98 = .ok (.aload_n 0, 1) := by decide +kernel
theorem dX3_readArgument_99 : decode cX3_readArgument 99 = .ok (.iconst 3, 1) := by decide +kernel
theorem dX3_readArgument_100 : decode cX3_readArgument 100 = .ok (.invokevirtual 80, 3) := by decide +kernel
theorem dX3_readArgument_103 : decode cX3_readArgument 103 = .ok (.ifCond .eq 7, 3) := by decide +kernel
theorem dX3_readArgument_106 : decode cX3_readArgument 106 = .ok (.iconst 1, 1) := by decide +kernel
theorem dX3_readArgument_107 : decode cX3_readArgument 107 = .ok (.goto 4, 3) := by decide +kernel
theorem dX3_readArgument_110 : decode cX3_readArgument 110 = .ok (.iconst 0, 1) := by decide +kernel
theorem dX3_readArgument_111 : decode cX3_readArgument 111 = .ok (.ireturn, 1) := by decide +kernel
theorem hd_X3_readArgument : yX3_readArgument.cls = RX3 ∧ yX3_readArgument.cls ≠ "java/lang/invoke/MethodHandle" ∧ yX3_readArgument.cls ≠ "java/lang/invoke/VarHandle" ∧ (parseMethodDescriptor yX3_readArgument.desc).map (fun d => d.parameters.length) = some 3 := by decide +kernel
set_option maxRecDepth 100000 in
set_option maxHeartbeats 4000000 in
theorem c_X3_readArgument (l : Launch) (D : va_G) (g : xG) (tb : List xQ) (hT : x_T g tb) {a1 : Nat} {a2 : Int32} {a3 : Int32} (h0 : x_rd tb) (h1 : x_mk tb a1) {M : xM} {r : Int32} {M' : xM} (hf : f_X3_readArgument a1 a2 a3 M = some (r, M')) :
    cI l D g tb yX3_readArgument cX3_readArgument 5 .boolean ({ frames := 6, cells := 0, slots := 0, locals := 127 } : Room) [.ref (g.1 3 1777), .ref (g.1 2 a1), .int a2, .int a3] M r M' := by
  refine x_startZ (own := RX3) (by decide +kernel) rfl rfl (Nat.le_of_ble_eq_true rfl) hT ?_
  intro p e s m args below meth c Q C0 hend
  have B33 : ∀ (s0 : Int32)  (M : xM), f_X3_readArgument_c33  a1 a2 a3 s0 M = some (r, M') → WW p l e ({ frames := 6, cells := 0, slots := 0, locals := 127 } : Room) s m args below meth c 0 0 Q 5 D g tb 33 [(0, .ref (g.1 3 1777)), (3, .int a3)] [.int s0] M := by
    intro   s0  M hf
    unfold f_X3_readArgument_c33 at hf
    refine r_istore C0 (lv2 := [(4, .int s0), (0, .ref (g.1 3 1777)), (3, .int a3)]) (by decide) rfl dX3_readArgument_33 ?_
    refine r_aload_n C0 (kk := 0) 1 rfl dX3_readArgument_35 ?_
    refine r_iload_n C0 (kk := 3) 2 rfl dX3_readArgument_36 ?_
    refine r_iload C0 0 rfl dX3_readArgument_37 ?_
    obtain ⟨M33, hc32, hf⟩ := bd_e hf
    refine r_callVv C0 (As := [.int a3, .int s0]) (rest := []) (c_X3_keepArgument l D g tb hT h0 hc32) w2_167 w2_169 wp2_2 w1_5 w2_170 (x_rec3 C0 h0.1) hd_X3_keepArgument rfl ⟨rfl, rfl⟩ ⟨Nat.le_of_ble_eq_true rfl, Nat.le_of_ble_eq_true rfl⟩ (by decide) (by decide) rfl (Nat.le_of_ble_eq_true rfl) dX3_readArgument_39 ?_
    refine r_iload C0 0 rfl dX3_readArgument_42 ?_
    refine r_iconst C0 (v := (-1)) dX3_readArgument_44 rfl ?_
    refine r_icmp_ne C0 (tgt := 56) (by decide) dX3_readArgument_45 (fun q34 => ?_) (fun q34 => ?_)
    · have hf := ie_f hf q34
      refine r_iconst C0 (v := 1) dX3_readArgument_56 rfl ?_
      refine r_goto C0 (tgt := 61) (by decide) dX3_readArgument_57 ?_
      exact hend (by decide) hf dX3_readArgument_61
    · have hf := ie_t hf q34
      refine r_aload_n C0 (kk := 0) 1 rfl dX3_readArgument_48 ?_
      refine r_iconst C0 (v := 1) dX3_readArgument_49 rfl ?_
      obtain ⟨r37, M36, hc35, hf⟩ := bd2_e hf
      refine r_callVi C0 (As := [.int 1]) (rest := []) (c_X3_fail l D g tb hT h0 hc35) w2_97 w2_99 wp1_7 w1_5 w2_100 (x_rec3 C0 h0.1) hd_X3_fail rfl ⟨rfl, rfl⟩ ⟨Nat.le_of_ble_eq_true rfl, Nat.le_of_ble_eq_true rfl⟩ (by decide) (by decide) rfl (Nat.le_of_ble_eq_true rfl) dX3_readArgument_50 ?_
      refine r_if_eq C0 (tgt := 60) (by decide) dX3_readArgument_53 (fun q38 => ?_) (fun q38 => ?_)
      · have hf := ie_t hf q38
        refine r_iconst C0 (v := 0) dX3_readArgument_60 rfl ?_
        exact hend (by decide) hf dX3_readArgument_61
      · have hf := ie_f hf q38
        refine r_iconst C0 (v := 1) dX3_readArgument_56 rfl ?_
        refine r_goto C0 (tgt := 61) (by decide) dX3_readArgument_57 ?_
        exact hend (by decide) hf dX3_readArgument_61
  have B16 : ∀ (M : xM), f_X3_readArgument_c16  a1 a2 a3 M = some (r, M') → WW p l e ({ frames := 6, cells := 0, slots := 0, locals := 127 } : Room) s m args below meth c 0 0 Q 5 D g tb 16 [(0, .ref (g.1 3 1777)), (2, .int a2), (3, .int a3)] [] M := by
    intro     M hf
    unfold f_X3_readArgument_c16 at hf
    refine r_iload_n C0 (kk := 2) 1 rfl dX3_readArgument_16 ?_
    refine r_bipush C0 (v := 108) dX3_readArgument_17 rfl ?_
    refine r_icmp_ne C0 (tgt := 29) (by decide) dX3_readArgument_19 (fun q25 => ?_) (fun q25 => ?_)
    · have hf := ie_f hf q25
      refine r_aload_n C0 (kk := 0) 0 rfl dX3_readArgument_29 ?_
      obtain ⟨r28, M27, hc26, hf⟩ := bd2_e hf
      refine r_callVi C0 (As := []) (rest := []) (c_X3_textureRead l D g tb hT h0 hc26) w2_160 w2_162 wp2_1 w1_5 w2_163 (x_rec3 C0 h0.1) hd_X3_textureRead rfl ⟨rfl, rfl⟩ ⟨Nat.le_of_ble_eq_true rfl, Nat.le_of_ble_eq_true rfl⟩ (by decide) (by decide) rfl (Nat.le_of_ble_eq_true rfl) dX3_readArgument_30 ?_
      refine WW.sub [0, 2] rfl ?_
      exact B33   _   _ hf
    · have hf := ie_t hf q25
      refine r_aload_n C0 (kk := 0) 0 rfl dX3_readArgument_22 ?_
      obtain ⟨r31, M30, hc29, hf⟩ := bd2_e hf
      refine r_callVi C0 (As := []) (rest := []) (c_X3_lanternRead l D g tb hT h0 hc29) w2_152 w2_154 wp2_0 w1_5 w2_155 (x_rec3 C0 h0.1) hd_X3_lanternRead rfl ⟨rfl, rfl⟩ ⟨Nat.le_of_ble_eq_true rfl, Nat.le_of_ble_eq_true rfl⟩ (by decide) (by decide) rfl (Nat.le_of_ble_eq_true rfl) dX3_readArgument_23 ?_
      refine r_goto C0 (tgt := 33) (by decide) dX3_readArgument_26 ?_
      refine WW.sub [0, 2] rfl ?_
      exact B33   _   _ hf
  unfold f_X3_readArgument at hf
  refine r_aload_n C0 (kk := 0) 0 rfl dX3_readArgument_0 ?_
  obtain ⟨M2, hc1, hf⟩ := bd_e hf
  refine r_callVv C0 (As := []) (rest := []) (c_X3_readToken l D g tb hT h0 hc1) w2_74 w2_76 wp1_3 w1_5 w2_77 (x_rec3 C0 h0.1) hd_X3_readToken rfl ⟨rfl, rfl⟩ ⟨Nat.le_of_ble_eq_true rfl, Nat.le_of_ble_eq_true rfl⟩ (by decide) (by decide) rfl (Nat.le_of_ble_eq_true rfl) dX3_readArgument_1 ?_
  refine r_iload_n C0 (kk := 2) 2 rfl dX3_readArgument_4 ?_
  refine r_bipush C0 (v := 108) dX3_readArgument_5 rfl ?_
  refine r_icmp_eq C0 (tgt := 16) (by decide) dX3_readArgument_7 (fun q3 => ?_) (fun q3 => ?_)
  · have hf := ie_t hf q3
    refine WW.sub [0, 2, 3] rfl ?_
    exact B16     _ hf
  · have hf := ie_f hf q3
    refine r_iload_n C0 (kk := 2) 2 rfl dX3_readArgument_10 ?_
    refine r_bipush C0 (v := 116) dX3_readArgument_11 rfl ?_
    refine r_icmp_ne C0 (tgt := 62) (by decide) dX3_readArgument_13 (fun q4 => ?_) (fun q4 => ?_)
    · have hf := ie_f hf q4
      refine r_aload_n C0 (kk := 0) 0 rfl dX3_readArgument_62 ?_
      refine r_iload_n C0 (kk := 2) 2 rfl dX3_readArgument_63 ?_
      obtain ⟨r7, M6, hc5, hf⟩ := bd2_e hf
      refine r_callSi C0 (As := [.int a2]) (rest := [.ref (g.1 3 1777)]) (c_X3_lowest l D g tb hT  hc5) w2_171 w2_172 w1_5 w2_173 hd_X3_lowest rfl ⟨rfl, rfl⟩ ⟨Nat.le_of_ble_eq_true rfl, Nat.le_of_ble_eq_true rfl⟩ (by decide) (by decide) rfl (Nat.le_of_ble_eq_true rfl) dX3_readArgument_64 ?_
      refine r_iload_n C0 (kk := 2) 2 rfl dX3_readArgument_67 ?_
      refine r_aload_n C0 (kk := 1) 1 rfl dX3_readArgument_68 ?_
      obtain ⟨r10, M9, hc8, hf⟩ := bd2_e hf
      refine r_callSi C0 (As := [.int a2, .ref (g.1 2 a1)]) (rest := [.int r7, .ref (g.1 3 1777)]) (c_X3_highest l D g tb hT h1 hc8) w2_174 w2_175 w1_5 w2_176 hd_X3_highest rfl ⟨rfl, rfl⟩ ⟨Nat.le_of_ble_eq_true rfl, Nat.le_of_ble_eq_true rfl⟩ (by decide) (by decide) rfl (Nat.le_of_ble_eq_true rfl) dX3_readArgument_69 ?_
      obtain ⟨r13, M12, hc11, hf⟩ := bd2_e hf
      refine r_callVi C0 (As := [.int r7, .int r10]) (rest := []) (c_X3_isNumberFrom l D g tb hT h0 hc11) w2_105 w2_107 wp1_9 w1_5 w2_108 (x_rec3 C0 h0.1) hd_X3_isNumberFrom rfl ⟨rfl, rfl⟩ ⟨Nat.le_of_ble_eq_true rfl, Nat.le_of_ble_eq_true rfl⟩ (by decide) (by decide) rfl (Nat.le_of_ble_eq_true rfl) dX3_readArgument_72 ?_
      refine r_if_ne C0 (tgt := 80) (by decide) dX3_readArgument_75 (fun q14 => ?_) (fun q14 => ?_)
      · have hf := ie_f hf q14
        refine r_aload_n C0 (kk := 0) 0 rfl dX3_readArgument_80 ?_
        refine r_iload_n C0 (kk := 3) 3 rfl dX3_readArgument_81 ?_
        refine r_aload_n C0 (kk := 0) 0 rfl dX3_readArgument_82 ?_
        refine r_get3 C0 h0.1 9 (by decide) (v := .int (M12 1786)) rfl rfl w1_216 dX3_readArgument_83 ?_
        obtain ⟨M16, hc15, hf⟩ := bd_e hf
        refine r_callVv C0 (As := [.int a3, .int (M12 1786)]) (rest := []) (c_X3_keepArgument l D g tb hT h0 hc15) w2_167 w2_169 wp2_2 w1_5 w2_170 (x_rec3 C0 h0.1) hd_X3_keepArgument rfl ⟨rfl, rfl⟩ ⟨Nat.le_of_ble_eq_true rfl, Nat.le_of_ble_eq_true rfl⟩ (by decide) (by decide) rfl (Nat.le_of_ble_eq_true rfl) dX3_readArgument_86 ?_
        refine r_aload_n C0 (kk := 0) 0 rfl dX3_readArgument_89 ?_
        refine r_aload_n C0 (kk := 1) 1 rfl dX3_readArgument_90 ?_
        refine r_iload_n C0 (kk := 3) 3 rfl dX3_readArgument_91 ?_
        obtain ⟨r19, M18, hc17, hf⟩ := bd2_e hf
        refine r_callVi C0 (As := [.ref (g.1 2 a1), .int a3]) (rest := []) (c_X3_isRefusedBy l D g tb hT h0 h1 hc17) w2_177 w2_179 wp2_3 w1_5 w2_180 (x_rec3 C0 h0.1) hd_X3_isRefusedBy rfl ⟨rfl, rfl⟩ ⟨Nat.le_of_ble_eq_true rfl, Nat.le_of_ble_eq_true rfl⟩ (by decide) (by decide) rfl (Nat.le_of_ble_eq_true rfl) dX3_readArgument_92 ?_
        refine r_if_eq C0 (tgt := 106) (by decide) dX3_readArgument_95 (fun q20 => ?_) (fun q20 => ?_)
        · have hf := ie_t hf q20
          refine r_iconst C0 (v := 1) dX3_readArgument_106 rfl ?_
          refine r_goto C0 (tgt := 111) (by decide) dX3_readArgument_107 ?_
          exact hend (by decide) hf dX3_readArgument_111
        · have hf := ie_f hf q20
          refine r_aload_n C0 (kk := 0) 0 rfl dX3_readArgument_98 ?_
          refine r_iconst C0 (v := 3) dX3_readArgument_99 rfl ?_
          obtain ⟨r23, M22, hc21, hf⟩ := bd2_e hf
          refine r_callVi C0 (As := [.int 3]) (rest := []) (c_X3_fail l D g tb hT h0 hc21) w2_97 w2_99 wp1_7 w1_5 w2_100 (x_rec3 C0 h0.1) hd_X3_fail rfl ⟨rfl, rfl⟩ ⟨Nat.le_of_ble_eq_true rfl, Nat.le_of_ble_eq_true rfl⟩ (by decide) (by decide) rfl (Nat.le_of_ble_eq_true rfl) dX3_readArgument_100 ?_
          refine r_if_eq C0 (tgt := 110) (by decide) dX3_readArgument_103 (fun q24 => ?_) (fun q24 => ?_)
          · have hf := ie_t hf q24
            refine r_iconst C0 (v := 0) dX3_readArgument_110 rfl ?_
            exact hend (by decide) hf dX3_readArgument_111
          · have hf := ie_f hf q24
            refine r_iconst C0 (v := 1) dX3_readArgument_106 rfl ?_
            refine r_goto C0 (tgt := 111) (by decide) dX3_readArgument_107 ?_
            exact hend (by decide) hf dX3_readArgument_111
      · have hf := ie_t hf q14
        refine r_iconst C0 (v := 0) dX3_readArgument_78 rfl ?_
        exact hend (by decide) hf dX3_readArgument_79
    · have hf := ie_t hf q4
      refine WW.sub [0, 2, 3] rfl ?_
      exact B16     _ hf
theorem dX7_argumentsText_0 : decode cX7_argumentsText 0 = .ok (.iload_n 1, 1) := by decide +kernel
theorem dX7_argumentsText_1 : decode cX7_argumentsText 1 = .ok (.tableswitch 307 0 8 #[51, 107, 164, 307, 200, 155, 232, 267, 302], 51) := by decide +kernel
theorem dX7_argumentsText_52 : decode cX7_argumentsText 52 = .ok (.aload_n 0, 1) := by decide +kernel
theorem dX7_argumentsText_53 : decode cX7_argumentsText 53 = .ok (.iconst 0, 1) := by decide +kernel
theorem dX7_argumentsText_54 : decode cX7_argumentsText 54 = .ok (.iconst 0, 1) := by decide +kernel
theorem dX7_argumentsText_55 : decode cX7_argumentsText 55 = .ok (.bipush 99, 2) := by decide +kernel
theorem dX7_argumentsText_57 : decode cX7_argumentsText 57 = .ok (.invokevirtual 212, 3) := by decide +kernel
theorem dX7_argumentsText_60 : decode cX7_argumentsText 60 = .ok (.ifCond .eq 46, 3) := by decide +kernel
theorem dX7_argumentsText_63 : decode cX7_argumentsText 63 = .ok (.aload_n 0, 1) := by decide +kernel
theorem dX7_argumentsText_64 : decode cX7_argumentsText 64 = .ok (.iconst 1, 1) := by decide +kernel
theorem dX7_argumentsText_65 : decode cX7_argumentsText 65 = .ok (.invokevirtual 245, 3) := by decide +kernel
theorem dX7_argumentsText_68 : decode cX7_argumentsText 68 = .ok (.ifCond .eq 38, 3) := by decide +kernel
theorem dX7_argumentsText_71 : decode cX7_argumentsText 71 = .ok (.aload_n 0, 1) := by decide +kernel
theorem dX7_argumentsText_72 : decode cX7_argumentsText 72 = .ok (.iconst 2, 1) := by decide +kernel
theorem dX7_argumentsText_73 : decode cX7_argumentsText 73 = .ok (.invokevirtual 248, 3) := by decide +kernel
theorem dX7_argumentsText_76 : decode cX7_argumentsText 76 = .ok (.ifCond .eq 30, 3) := by decide +kernel
theorem dX7_argumentsText_79 : decode cX7_argumentsText 79 = .ok (.aload_n 0, 1) := by decide +kernel
theorem dX7_argumentsText_80 : decode cX7_argumentsText 80 = .ok (.iconst 3, 1) := by decide +kernel
theorem dX7_argumentsText_81 : decode cX7_argumentsText 81 = .ok (.iconst 1, 1) := by decide +kernel
theorem dX7_argumentsText_82 : decode cX7_argumentsText 82 = .ok (.sipush 999, 3) := by decide +kernel
theorem dX7_argumentsText_85 : decode cX7_argumentsText 85 = .ok (.invokevirtual 212, 3) := by decide +kernel
theorem dX7_argumentsText_88 : decode cX7_argumentsText 88 = .ok (.ifCond .eq 18, 3) := by decide +kernel
theorem dX7_argumentsText_91 : decode cX7_argumentsText 91 = .ok (.aload_n 0, 1) := by decide +kernel
theorem dX7_argumentsText_92 : decode cX7_argumentsText 92 = .ok (.iconst 4, 1) := by decide +kernel
theorem dX7_argumentsText_93 : decode cX7_argumentsText 93 = .ok (.iconst 0, 1) := by decide +kernel
theorem dX7_argumentsText_94 : decode cX7_argumentsText 94 = .ok (.bipush 99, 2) := by decide +kernel
theorem dX7_argumentsText_96 : decode cX7_argumentsText 96 = .ok (.invokevirtual 212, 3) := by decide +kernel
theorem dX7_argumentsText_99 : decode cX7_argumentsText 99 = .ok (.ifCond .eq 7, 3) := by decide +kernel
theorem dX7_argumentsText_102 : decode cX7_argumentsText 102 = .ok (.iconst 1, 1) := by decide +kernel
theorem dX7_argumentsText_103 : decode cX7_argumentsText 103 = .ok (.goto 4, 3) := by decide +kernel
theorem dX7_argumentsText_106 : decode cX7_argumentsText 106 = .ok (.iconst 0, 1) := by decide +kernel
theorem dX7_argumentsText_107 : decode cX7_argumentsText 107 = .ok (.ireturn, 1) := by decide +kernel
theorem dX7_argumentsText_108 : decode cX7_argumentsText 108 = .ok (.aload_n 0, 1) := by decide +kernel
theorem dX7_argumentsText_109 : decode cX7_argumentsText 109 = .ok (.iconst 0, 1) := by decide +kernel
theorem dX7_argumentsText_110 : decode cX7_argumentsText 110 = .ok (.iconst 0, 1) := by decide +kernel
theorem dX7_argumentsText_111 : decode cX7_argumentsText 111 = .ok (.bipush 99, 2) := by decide +kernel
theorem dX7_argumentsText_113 : decode cX7_argumentsText 113 = .ok (.invokevirtual 212, 3) := by decide +kernel
theorem dX7_argumentsText_116 : decode cX7_argumentsText 116 = .ok (.ifCond .eq 38, 3) := by decide +kernel
theorem dX7_argumentsText_119 : decode cX7_argumentsText 119 = .ok (.aload_n 0, 1) := by decide +kernel
theorem dX7_argumentsText_120 : decode cX7_argumentsText 120 = .ok (.iconst 1, 1) := by decide +kernel
theorem dX7_argumentsText_121 : decode cX7_argumentsText 121 = .ok (.iconst 0, 1) := by decide +kernel
theorem dX7_argumentsText_122 : decode cX7_argumentsText 122 = .ok (.sipush 9999, 3) := by decide +kernel
theorem dX7_argumentsText_125 : decode cX7_argumentsText 125 = .ok (.invokevirtual 212, 3) := by decide +kernel
theorem dX7_argumentsText_128 : decode cX7_argumentsText 128 = .ok (.ifCond .eq 26, 3) := by decide +kernel
theorem dX7_argumentsText_131 : decode cX7_argumentsText 131 = .ok (.aload_n 0, 1) := by decide +kernel
theorem dX7_argumentsText_132 : decode cX7_argumentsText 132 = .ok (.iconst 2, 1) := by decide +kernel
theorem dX7_argumentsText_133 : decode cX7_argumentsText 133 = .ok (.invokevirtual 248, 3) := by decide +kernel
theorem dX7_argumentsText_136 : decode cX7_argumentsText 136 = .ok (.ifCond .eq 18, 3) := by decide +kernel
theorem dX7_argumentsText_139 : decode cX7_argumentsText 139 = .ok (.aload_n 0, 1) := by decide +kernel
theorem dX7_argumentsText_140 : decode cX7_argumentsText 140 = .ok (.iconst 3, 1) := by decide +kernel
theorem dX7_argumentsText_141 : decode cX7_argumentsText 141 = .ok (.iconst 1, 1) := by decide +kernel
theorem dX7_argumentsText_142 : decode cX7_argumentsText 142 = .ok (.bipush 20, 2) := by decide +kernel
theorem dX7_argumentsText_144 : decode cX7_argumentsText 144 = .ok (.invokevirtual 212, 3) := by decide +kernel
theorem dX7_argumentsText_147 : decode cX7_argumentsText 147 = .ok (.ifCond .eq 7, 3) := by decide +kernel
theorem dX7_argumentsText_150 : decode cX7_argumentsText 150 = .ok (.iconst 1, 1) := by decide +kernel
theorem dX7_argumentsText_151 : decode cX7_argumentsText 151 = .ok (.goto 4, 3) := by decide +kernel
theorem dX7_argumentsText_154 : decode cX7_argumentsText 154 = .ok (.iconst 0, 1) := by decide +kernel
theorem dX7_argumentsText_155 : decode cX7_argumentsText 155 = .ok (.ireturn, 1) := by decide +kernel
theorem dX7_argumentsText_156 : decode cX7_argumentsText 156 = .ok (.aload_n 0, 1) := by decide +kernel
theorem dX7_argumentsText_157 : decode cX7_argumentsText 157 = .ok (.iconst 0, 1) := by decide +kernel
theorem dX7_argumentsText_158 : decode cX7_argumentsText 158 = .ok (.iconst 1, 1) := by decide +kernel
theorem dX7_argumentsText_159 : decode cX7_argumentsText 159 = .ok (.bipush 100, 2) := by decide +kernel
theorem dX7_argumentsText_161 : decode cX7_argumentsText 161 = .ok (.invokevirtual 212, 3) := by decide +kernel
theorem dX7_argumentsText_164 : decode cX7_argumentsText 164 = .ok (.ireturn, 1) := by decide +kernel
theorem dX7_argumentsText_165 : decode cX7_argumentsText 165 = .ok (.aload_n 0, 1) := by decide +kernel
theorem dX7_argumentsText_166 : decode cX7_argumentsText 166 = .ok (.iconst 0, 1) := by decide +kernel
theorem dX7_argumentsText_167 : decode cX7_argumentsText 167 = .ok (.iconst 0, 1) := by decide +kernel
theorem dX7_argumentsText_168 : decode cX7_argumentsText 168 = .ok (.aload_n 0, 1) := by decide +kernel
theorem dX7_argumentsText_169 : decode cX7_argumentsText 169 = .ok (.getfield 17, 3) := by decide +kernel
theorem dX7_argumentsText_172 : decode cX7_argumentsText 172 = .ok (.bipush 9, 2) := by decide +kernel
theorem dX7_argumentsText_174 : decode cX7_argumentsText 174 = .ok (.iaload, 1) := by decide +kernel
theorem dX7_argumentsText_175 : decode cX7_argumentsText 175 = .ok (.iconst 1, 1) := by decide +kernel
theorem dX7_argumentsText_176 : decode cX7_argumentsText 176 = .ok (.isub, 1) := by decide +kernel
theorem dX7_argumentsText_177 : decode cX7_argumentsText 177 = .ok (.invokevirtual 212, 3) := by decide +kernel
theorem dX7_argumentsText_180 : decode cX7_argumentsText 180 = .ok (.ifCond .eq 19, 3) := by decide +kernel
theorem dX7_argumentsText_183 : decode cX7_argumentsText 183 = .ok (.aload_n 0, 1) := by decide +kernel
theorem dX7_argumentsText_184 : decode cX7_argumentsText 184 = .ok (.iconst 1, 1) := by decide +kernel
theorem dX7_argumentsText_185 : decode cX7_argumentsText 185 = .ok (.iconst 1, 1) := by decide +kernel
theorem dX7_argumentsText_186 : decode cX7_argumentsText 186 = .ok (.sipush 999, 3) := by decide +kernel
theorem dX7_argumentsText_189 : decode cX7_argumentsText 189 = .ok (.invokevirtual 212, 3) := by decide +kernel
theorem dX7_argumentsText_192 : decode cX7_argumentsText 192 = .ok (.ifCond .eq 7, 3) := by decide +kernel
theorem dX7_argumentsText_195 : decode cX7_argumentsText 195 = .ok (.iconst 1, 1) := by decide +kernel
theorem dX7_argumentsText_196 : decode cX7_argumentsText 196 = .ok (.goto 4, 3) := by decide +kernel
theorem dX7_argumentsText_199 : decode cX7_argumentsText 199 = .ok (.iconst 0, 1) := by decide +kernel
theorem dX7_argumentsText_200 : decode cX7_argumentsText 200 = .ok (.ireturn, 1) := by decide +kernel
theorem dX7_argumentsText_201 : decode cX7_argumentsText 201 = .ok (.aload_n 0, 1) := by decide +kernel
theorem dX7_argumentsText_202 : decode cX7_argumentsText 202 = .ok (.iconst 0, 1) := by decide +kernel
theorem dX7_argumentsText_203 : decode cX7_argumentsText 203 = .ok (.iconst 0, 1) := by decide +kernel
theorem dX7_argumentsText_204 : decode cX7_argumentsText 204 = .ok (.aload_n 0, 1) := by decide +kernel
theorem dX7_argumentsText_205 : decode cX7_argumentsText 205 = .ok (.getfield 17, 3) := by decide +kernel
theorem dX7_argumentsText_208 : decode cX7_argumentsText 208 = .ok (.bipush 9, 2) := by decide +kernel
theorem dX7_argumentsText_210 : decode cX7_argumentsText 210 = .ok (.iaload, 1) := by decide +kernel
theorem dX7_argumentsText_211 : decode cX7_argumentsText 211 = .ok (.iconst 1, 1) := by decide +kernel
theorem dX7_argumentsText_212 : decode cX7_argumentsText 212 = .ok (.isub, 1) := by decide +kernel
theorem dX7_argumentsText_213 : decode cX7_argumentsText 213 = .ok (.invokevirtual 212, 3) := by decide +kernel
theorem dX7_argumentsText_216 : decode cX7_argumentsText 216 = .ok (.ifCond .eq 15, 3) := by decide +kernel
theorem dX7_argumentsText_219 : decode cX7_argumentsText 219 = .ok (.aload_n 0, 1) := by decide +kernel
theorem dX7_argumentsText_220 : decode cX7_argumentsText 220 = .ok (.iconst 1, 1) := by decide +kernel
theorem dX7_argumentsText_221 : decode cX7_argumentsText 221 = .ok (.invokevirtual 245, 3) := by decide +kernel
theorem dX7_argumentsText_224 : decode cX7_argumentsText 224 = .ok (.ifCond .eq 7, 3) := by decide +kernel
theorem dX7_argumentsText_227 : decode cX7_argumentsText 227 = .ok (.iconst 1, 1) := by decide +kernel
theorem dX7_argumentsText_228 : decode cX7_argumentsText 228 = .ok (.goto 4, 3) := by decide +kernel
theorem dX7_argumentsText_231 : decode cX7_argumentsText 231 = .ok (.iconst 0, 1) := by decide +kernel
theorem dX7_argumentsText_232 : decode cX7_argumentsText 232 = .ok (.ireturn, 1) := by decide +kernel
theorem dX7_argumentsText_233 : decode cX7_argumentsText 233 = .ok (.aload_n 0, 1) := by decide +kernel
theorem dX7_argumentsText_234 : decode cX7_argumentsText 234 = .ok (.iconst 0, 1) := by decide +kernel
theorem dX7_argumentsText_235 : decode cX7_argumentsText 235 = .ok (.iconst 0, 1) := by decide +kernel
theorem dX7_argumentsText_236 : decode cX7_argumentsText 236 = .ok (.aload_n 0, 1) := by decide +kernel
theorem dX7_argumentsText_237 : decode cX7_argumentsText 237 = .ok (.getfield 17, 3) := by decide +kernel
theorem dX7_argumentsText_240 : decode cX7_argumentsText 240 = .ok (.bipush 9, 2) := by decide +kernel
theorem dX7_argumentsText_242 : decode cX7_argumentsText 242 = .ok (.iaload, 1) := by decide +kernel
theorem dX7_argumentsText_243 : decode cX7_argumentsText 243 = .ok (.iconst 1, 1) := by decide +kernel
theorem dX7_argumentsText_244 : decode cX7_argumentsText 244 = .ok (.isub, 1) := by decide +kernel
theorem dX7_argumentsText_245 : decode cX7_argumentsText 245 = .ok (.invokevirtual 212, 3) := by decide +kernel
theorem dX7_argumentsText_248 : decode cX7_argumentsText 248 = .ok (.ifCond .eq 18, 3) := by decide +kernel
theorem dX7_argumentsText_251 : decode cX7_argumentsText 251 = .ok (.aload_n 0, 1) := by decide +kernel
theorem dX7_argumentsText_252 : decode cX7_argumentsText 252 = .ok (.iconst 1, 1) := by decide +kernel
theorem dX7_argumentsText_253 : decode cX7_argumentsText 253 = .ok (.iconst 0, 1) := by decide +kernel
theorem dX7_argumentsText_254 : decode cX7_argumentsText 254 = .ok (.bipush 99, 2) := by decide +kernel
theorem dX7_argumentsText_256 : decode cX7_argumentsText 256 = .ok (.invokevirtual 212, 3) := by decide +kernel
theorem dX7_argumentsText_259 : decode cX7_argumentsText 259 = .ok (.ifCond .eq 7, 3) := by decide +kernel
theorem dX7_argumentsText_262 : decode cX7_argumentsText 262 = .ok (.iconst 1, 1) := by decide +kernel
theorem dX7_argumentsText_263 : decode cX7_argumentsText 263 = .ok (.goto 4, 3) := by decide +kernel
theorem dX7_argumentsText_266 : decode cX7_argumentsText 266 = .ok (.iconst 0, 1) := by decide +kernel
theorem dX7_argumentsText_267 : decode cX7_argumentsText 267 = .ok (.ireturn, 1) := by decide +kernel
theorem dX7_argumentsText_268 : decode cX7_argumentsText 268 = .ok (.aload_n 0, 1) := by decide +kernel
theorem dX7_argumentsText_269 : decode cX7_argumentsText 269 = .ok (.iconst 0, 1) := by decide +kernel
theorem dX7_argumentsText_270 : decode cX7_argumentsText 270 = .ok (.iconst 0, 1) := by decide +kernel
theorem dX7_argumentsText_271 : decode cX7_argumentsText 271 = .ok (.aload_n 0, 1) := by decide +kernel
theorem dX7_argumentsText_272 : decode cX7_argumentsText 272 = .ok (.getfield 17, 3) := by decide +kernel
theorem dX7_argumentsText_275 : decode cX7_argumentsText 275 = .ok (.bipush 8, 2) := by decide +kernel
theorem dX7_argumentsText_277 : decode cX7_argumentsText 277 = .ok (.iaload, 1) := by decide +kernel
theorem dX7_argumentsText_278 : decode cX7_argumentsText 278 = .ok (.iconst 1, 1) := by decide +kernel
theorem dX7_argumentsText_279 : decode cX7_argumentsText 279 = .ok (.isub, 1) := by decide +kernel
theorem dX7_argumentsText_280 : decode cX7_argumentsText 280 = .ok (.invokevirtual 212, 3) := by decide +kernel
theorem dX7_argumentsText_283 : decode cX7_argumentsText 283 = .ok (.ifCond .eq 18, 3) := by decide +kernel
theorem dX7_argumentsText_286 : decode cX7_argumentsText 286 = .ok (.aload_n 0, 1) := by decide +kernel
theorem dX7_argumentsText_287 : decode cX7_argumentsText 287 = .ok (.iconst 1, 1) := by decide +kernel
theorem dX7_argumentsText_288 : decode cX7_argumentsText 288 = .ok (.iconst 0, 1) := by decide +kernel
theorem dX7_argumentsText_289 : decode cX7_argumentsText 289 = .ok (.bipush 9, 2) := by decide +kernel
theorem dX7_argumentsText_291 : decode cX7_argumentsText 291 = .ok (.invokevirtual 212, 3) := by decide +kernel
theorem dX7_argumentsText_294 : decode cX7_argumentsText 294 = .ok (.ifCond .eq 7, 3) := by decide +kernel
theorem dX7_argumentsText_297 : decode cX7_argumentsText 297 = .ok (.iconst 1, 1) := by decide +kernel
theorem dX7_argumentsText_298 : decode cX7_argumentsText 298 = .ok (.goto 4, 3) := by decide +kernel
theorem dX7_argumentsText_301 : decode cX7_argumentsText 301 = .ok (.iconst 0, 1) := by decide +kernel
theorem dX7_argumentsText_302 : decode cX7_argumentsText 302 = .ok (.ireturn, 1) := by decide +kernel
theorem dX7_argumentsText_303 : decode cX7_argumentsText 303 = .ok (.aload_n 0, 1) := by decide +kernel
theorem dX7_argumentsText_304 : decode cX7_argumentsText 304 = .ok (.invokevirtual 251, 3) := by decide +kernel
theorem dX7_argumentsText_307 : decode cX7_argumentsText 307 = .ok (.ireturn, 1) := by decide +kernel
theorem dX7_argumentsText_308 : decode cX7_argumentsText 308 = .ok (.aload_n 0, 1) := by decide +kernel
theorem dX7_argumentsText_309 : decode cX7_argumentsText 309 = .ok (.iconst 0, 1) := by decide +kernel
theorem dX7_argumentsText_310 : decode cX7_argumentsText 310 = .ok (.iconst 0, 1) := by decide +kernel
theorem dX7_argumentsText_311 : decode cX7_argumentsText 311 = .ok (.aload_n 0, 1) := by decide +kernel
theorem dX7_argumentsText_312 : decode cX7_argumentsText 312 = .ok (.getfield 17, 3) := by decide +kernel
theorem dX7_argumentsText_315 : decode cX7_argumentsText 315 = .ok (.bipush 9, 2) := by decide +kernel
theorem dX7_argumentsText_317 : decode cX7_argumentsText 317 = .ok (.iaload, 1) := by decide +kernel
theorem dX7_argumentsText_318 : decode cX7_argumentsText 318 = .ok (.iconst 1, 1) := by decide +kernel
theorem dX7_argumentsText_319 : decode cX7_argumentsText 319 = .ok (.isub, 1) := by decide +kernel
theorem dX7_argumentsText_320 : decode cX7_argumentsText 320 = .ok (.invokevirtual 212, 3) := by decide +kernel
theorem dX7_argumentsText_323 : decode cX7_argumentsText 323 = .ok (.ifCond .eq 14, 3) := by decide +kernel
theorem dX7_argumentsText_326 : decode cX7_argumentsText 326 = .ok (.aload_n 0, 1) := by decide +kernel
theorem dX7_argumentsText_327 : decode cX7_argumentsText 327 = .ok (.invokevirtual 254, 3) := by decide +kernel
theorem dX7_argumentsText_330 : decode cX7_argumentsText 330 = .ok (.ifCond .eq 7, 3) := by decide +kernel
theorem dX7_argumentsText_333 : decode cX7_argumentsText 333 = .ok (.iconst 1, 1) := by decide +kernel
theorem dX7_argumentsText_334 : decode cX7_argumentsText 334 = .ok (.goto 4, 3) := by decide +kernel
theorem dX7_argumentsText_337 : decode cX7_argumentsText 337 = .ok (.iconst 0, 1) := by decide +kernel
theorem dX7_argumentsText_338 : decode cX7_argumentsText 338 = .ok (.ireturn, 1) := by decide +kernel
theorem hd_X7_argumentsText : yX7_argumentsText.cls = RX7 ∧ yX7_argumentsText.cls ≠ "java/lang/invoke/MethodHandle" ∧ yX7_argumentsText.cls ≠ "java/lang/invoke/VarHandle" ∧ (parseMethodDescriptor yX7_argumentsText.desc).map (fun d => d.parameters.length) = some 1 := by decide +kernel
set_option maxRecDepth 100000 in
set_option maxHeartbeats 4000000 in
theorem c_X7_argumentsText (l : Launch) (D : va_G) (g : xG) (tb : List xQ) (hT : x_T g tb) {a1 : Int32} (h0 : x_md tb) {M : xM} {r : Int32} {M' : xM} (hf : f_X7_argumentsText a1 M = some (r, M')) :
    cI l D g tb yX7_argumentsText cX7_argumentsText 2 .boolean ({ frames := 6, cells := 0, slots := 0, locals := 129 } : Room) [.ref (g.1 5 2500), .int a1] M r M' := by
  refine x_startZ (own := RX7) (by decide +kernel) rfl rfl (Nat.le_of_ble_eq_true rfl) hT ?_
  intro p e s m args below meth c Q C0 hend
  have B308 : ∀ (M : xM), f_X7_argumentsText_c308  a1 M = some (r, M') → WW p l e ({ frames := 6, cells := 0, slots := 0, locals := 129 } : Room) s m args below meth c 0 0 Q 2 D g tb 308 [(0, .ref (g.1 5 2500))] [] M := by
    intro     M hf
    unfold f_X7_argumentsText_c308 at hf
    refine r_aload_n C0 (kk := 0) 0 rfl dX7_argumentsText_308 ?_
    refine r_iconst C0 (v := 0) dX7_argumentsText_309 rfl ?_
    refine r_iconst C0 (v := 0) dX7_argumentsText_310 rfl ?_
    refine r_aload_n C0 (kk := 0) 0 rfl dX7_argumentsText_311 ?_
    refine r_get5 C0 h0.1 5 (by decide) (v := .ref (g.1 6 2520)) rfl rfl w6_221 dX7_argumentsText_312 ?_
    refine r_bipush C0 (v := 9) dX7_argumentsText_315 rfl ?_
    refine r_ialdc C0 h0.2.1 (z := 2529) (by decide) (by decide) dX7_argumentsText_317 ?_
    refine r_iconst C0 (v := 1) dX7_argumentsText_318 rfl ?_
    refine r_isub C0 dX7_argumentsText_319 ?_
    obtain ⟨r88, M87, hc86, hf⟩ := bd2_e hf
    refine r_callVi C0 (As := [.int 0, .int 0, .int ((M 2529) - 1)]) (rest := []) (c_X7_into l D g tb hT h0 hc86) w6_39 w6_41 wp3_5 w1_14 w6_42 (x_rec5 C0 h0.1) hd_X7_into rfl ⟨rfl, rfl⟩ ⟨Nat.le_of_ble_eq_true rfl, Nat.le_of_ble_eq_true rfl⟩ (by decide) (by decide) rfl (Nat.le_of_ble_eq_true rfl) dX7_argumentsText_320 ?_
    refine r_if_eq C0 (tgt := 337) (by decide) dX7_argumentsText_323 (fun q89 => ?_) (fun q89 => ?_)
    · have hf := ie_t hf q89
      refine r_iconst C0 (v := 0) dX7_argumentsText_337 rfl ?_
      exact hend (by decide) hf dX7_argumentsText_338
    · have hf := ie_f hf q89
      refine r_aload_n C0 (kk := 0) 0 rfl dX7_argumentsText_326 ?_
      obtain ⟨r92, M91, hc90, hf⟩ := bd2_e hf
      refine r_callVi C0 (As := []) (rest := []) (c_X7_stockInto l D g tb hT h0 hc90) w6_107 w6_109 wp4_2 w1_14 w6_110 (x_rec5 C0 h0.1) hd_X7_stockInto rfl ⟨rfl, rfl⟩ ⟨Nat.le_of_ble_eq_true rfl, Nat.le_of_ble_eq_true rfl⟩ (by decide) (by decide) rfl (Nat.le_of_ble_eq_true rfl) dX7_argumentsText_327 ?_
      refine r_if_eq C0 (tgt := 337) (by decide) dX7_argumentsText_330 (fun q93 => ?_) (fun q93 => ?_)
      · have hf := ie_t hf q93
        refine r_iconst C0 (v := 0) dX7_argumentsText_337 rfl ?_
        exact hend (by decide) hf dX7_argumentsText_338
      · have hf := ie_f hf q93
        refine r_iconst C0 (v := 1) dX7_argumentsText_333 rfl ?_
        refine r_goto C0 (tgt := 338) (by decide) dX7_argumentsText_334 ?_
        exact hend (by decide) hf dX7_argumentsText_338
  unfold f_X7_argumentsText at hf
  refine r_iload_n C0 (kk := 1) 1 rfl dX7_argumentsText_0 ?_
  rcases Decidable.em (a1 = 0) with q1 | q1
  · have hf := ie_t hf q1
    refine r_tsc C0 (cst := 0) q1 (by decide) (by decide) rfl (tgt := 52) (by decide) dX7_argumentsText_1 ?_
    refine r_aload_n C0 (kk := 0) 0 rfl dX7_argumentsText_52 ?_
    refine r_iconst C0 (v := 0) dX7_argumentsText_53 rfl ?_
    refine r_iconst C0 (v := 0) dX7_argumentsText_54 rfl ?_
    refine r_bipush C0 (v := 99) dX7_argumentsText_55 rfl ?_
    obtain ⟨r4, M3, hc2, hf⟩ := bd2_e hf
    refine r_callVi C0 (As := [.int 0, .int 0, .int 99]) (rest := []) (c_X7_into l D g tb hT h0 hc2) w6_39 w6_41 wp3_5 w1_14 w6_42 (x_rec5 C0 h0.1) hd_X7_into rfl ⟨rfl, rfl⟩ ⟨Nat.le_of_ble_eq_true rfl, Nat.le_of_ble_eq_true rfl⟩ (by decide) (by decide) rfl (Nat.le_of_ble_eq_true rfl) dX7_argumentsText_57 ?_
    refine r_if_eq C0 (tgt := 106) (by decide) dX7_argumentsText_60 (fun q5 => ?_) (fun q5 => ?_)
    · have hf := ie_t hf q5
      refine r_iconst C0 (v := 0) dX7_argumentsText_106 rfl ?_
      exact hend (by decide) hf dX7_argumentsText_107
    · have hf := ie_f hf q5
      refine r_aload_n C0 (kk := 0) 0 rfl dX7_argumentsText_63 ?_
      refine r_iconst C0 (v := 1) dX7_argumentsText_64 rfl ?_
      obtain ⟨r8, M7, hc6, hf⟩ := bd2_e hf
      refine r_callVi C0 (As := [.int 1]) (rest := []) (c_X7_lanternInto l D g tb hT h0 hc6) w6_80 w6_82 wp3_13 w1_14 w6_83 (x_rec5 C0 h0.1) hd_X7_lanternInto rfl ⟨rfl, rfl⟩ ⟨Nat.le_of_ble_eq_true rfl, Nat.le_of_ble_eq_true rfl⟩ (by decide) (by decide) rfl (Nat.le_of_ble_eq_true rfl) dX7_argumentsText_65 ?_
      refine r_if_eq C0 (tgt := 106) (by decide) dX7_argumentsText_68 (fun q9 => ?_) (fun q9 => ?_)
      · have hf := ie_t hf q9
        refine r_iconst C0 (v := 0) dX7_argumentsText_106 rfl ?_
        exact hend (by decide) hf dX7_argumentsText_107
      · have hf := ie_f hf q9
        refine r_aload_n C0 (kk := 0) 0 rfl dX7_argumentsText_71 ?_
        refine r_iconst C0 (v := 2) dX7_argumentsText_72 rfl ?_
        obtain ⟨r12, M11, hc10, hf⟩ := bd2_e hf
        refine r_callVi C0 (As := [.int 2]) (rest := []) (c_X7_textureInto l D g tb hT h0 hc10) w6_92 w6_94 wp3_15 w1_14 w6_95 (x_rec5 C0 h0.1) hd_X7_textureInto rfl ⟨rfl, rfl⟩ ⟨Nat.le_of_ble_eq_true rfl, Nat.le_of_ble_eq_true rfl⟩ (by decide) (by decide) rfl (Nat.le_of_ble_eq_true rfl) dX7_argumentsText_73 ?_
        refine r_if_eq C0 (tgt := 106) (by decide) dX7_argumentsText_76 (fun q13 => ?_) (fun q13 => ?_)
        · have hf := ie_t hf q13
          refine r_iconst C0 (v := 0) dX7_argumentsText_106 rfl ?_
          exact hend (by decide) hf dX7_argumentsText_107
        · have hf := ie_f hf q13
          refine r_aload_n C0 (kk := 0) 0 rfl dX7_argumentsText_79 ?_
          refine r_iconst C0 (v := 3) dX7_argumentsText_80 rfl ?_
          refine r_iconst C0 (v := 1) dX7_argumentsText_81 rfl ?_
          refine r_sipush C0 (v := 999) dX7_argumentsText_82 rfl ?_
          obtain ⟨r16, M15, hc14, hf⟩ := bd2_e hf
          refine r_callVi C0 (As := [.int 3, .int 1, .int 999]) (rest := []) (c_X7_into l D g tb hT h0 hc14) w6_39 w6_41 wp3_5 w1_14 w6_42 (x_rec5 C0 h0.1) hd_X7_into rfl ⟨rfl, rfl⟩ ⟨Nat.le_of_ble_eq_true rfl, Nat.le_of_ble_eq_true rfl⟩ (by decide) (by decide) rfl (Nat.le_of_ble_eq_true rfl) dX7_argumentsText_85 ?_
          refine r_if_eq C0 (tgt := 106) (by decide) dX7_argumentsText_88 (fun q17 => ?_) (fun q17 => ?_)
          · have hf := ie_t hf q17
            refine r_iconst C0 (v := 0) dX7_argumentsText_106 rfl ?_
            exact hend (by decide) hf dX7_argumentsText_107
          · have hf := ie_f hf q17
            refine r_aload_n C0 (kk := 0) 0 rfl dX7_argumentsText_91 ?_
            refine r_iconst C0 (v := 4) dX7_argumentsText_92 rfl ?_
            refine r_iconst C0 (v := 0) dX7_argumentsText_93 rfl ?_
            refine r_bipush C0 (v := 99) dX7_argumentsText_94 rfl ?_
            obtain ⟨r20, M19, hc18, hf⟩ := bd2_e hf
            refine r_callVi C0 (As := [.int 4, .int 0, .int 99]) (rest := []) (c_X7_into l D g tb hT h0 hc18) w6_39 w6_41 wp3_5 w1_14 w6_42 (x_rec5 C0 h0.1) hd_X7_into rfl ⟨rfl, rfl⟩ ⟨Nat.le_of_ble_eq_true rfl, Nat.le_of_ble_eq_true rfl⟩ (by decide) (by decide) rfl (Nat.le_of_ble_eq_true rfl) dX7_argumentsText_96 ?_
            refine r_if_eq C0 (tgt := 106) (by decide) dX7_argumentsText_99 (fun q21 => ?_) (fun q21 => ?_)
            · have hf := ie_t hf q21
              refine r_iconst C0 (v := 0) dX7_argumentsText_106 rfl ?_
              exact hend (by decide) hf dX7_argumentsText_107
            · have hf := ie_f hf q21
              refine r_iconst C0 (v := 1) dX7_argumentsText_102 rfl ?_
              refine r_goto C0 (tgt := 107) (by decide) dX7_argumentsText_103 ?_
              exact hend (by decide) hf dX7_argumentsText_107
  have hf := ie_f hf q1
  have nq1 : Int32.toInt a1 ≠ 0 := fun h => q1 (Int32.toInt_inj.mp h)
  rcases Decidable.em (a1 = 1) with q22 | q22
  · have hf := ie_t hf q22
    refine r_tsc C0 (cst := 1) q22 (by decide) (by decide) rfl (tgt := 108) (by decide) dX7_argumentsText_1 ?_
    refine r_aload_n C0 (kk := 0) 0 rfl dX7_argumentsText_108 ?_
    refine r_iconst C0 (v := 0) dX7_argumentsText_109 rfl ?_
    refine r_iconst C0 (v := 0) dX7_argumentsText_110 rfl ?_
    refine r_bipush C0 (v := 99) dX7_argumentsText_111 rfl ?_
    obtain ⟨r25, M24, hc23, hf⟩ := bd2_e hf
    refine r_callVi C0 (As := [.int 0, .int 0, .int 99]) (rest := []) (c_X7_into l D g tb hT h0 hc23) w6_39 w6_41 wp3_5 w1_14 w6_42 (x_rec5 C0 h0.1) hd_X7_into rfl ⟨rfl, rfl⟩ ⟨Nat.le_of_ble_eq_true rfl, Nat.le_of_ble_eq_true rfl⟩ (by decide) (by decide) rfl (Nat.le_of_ble_eq_true rfl) dX7_argumentsText_113 ?_
    refine r_if_eq C0 (tgt := 154) (by decide) dX7_argumentsText_116 (fun q26 => ?_) (fun q26 => ?_)
    · have hf := ie_t hf q26
      refine r_iconst C0 (v := 0) dX7_argumentsText_154 rfl ?_
      exact hend (by decide) hf dX7_argumentsText_155
    · have hf := ie_f hf q26
      refine r_aload_n C0 (kk := 0) 0 rfl dX7_argumentsText_119 ?_
      refine r_iconst C0 (v := 1) dX7_argumentsText_120 rfl ?_
      refine r_iconst C0 (v := 0) dX7_argumentsText_121 rfl ?_
      refine r_sipush C0 (v := 9999) dX7_argumentsText_122 rfl ?_
      obtain ⟨r29, M28, hc27, hf⟩ := bd2_e hf
      refine r_callVi C0 (As := [.int 1, .int 0, .int 9999]) (rest := []) (c_X7_into l D g tb hT h0 hc27) w6_39 w6_41 wp3_5 w1_14 w6_42 (x_rec5 C0 h0.1) hd_X7_into rfl ⟨rfl, rfl⟩ ⟨Nat.le_of_ble_eq_true rfl, Nat.le_of_ble_eq_true rfl⟩ (by decide) (by decide) rfl (Nat.le_of_ble_eq_true rfl) dX7_argumentsText_125 ?_
      refine r_if_eq C0 (tgt := 154) (by decide) dX7_argumentsText_128 (fun q30 => ?_) (fun q30 => ?_)
      · have hf := ie_t hf q30
        refine r_iconst C0 (v := 0) dX7_argumentsText_154 rfl ?_
        exact hend (by decide) hf dX7_argumentsText_155
      · have hf := ie_f hf q30
        refine r_aload_n C0 (kk := 0) 0 rfl dX7_argumentsText_131 ?_
        refine r_iconst C0 (v := 2) dX7_argumentsText_132 rfl ?_
        obtain ⟨r33, M32, hc31, hf⟩ := bd2_e hf
        refine r_callVi C0 (As := [.int 2]) (rest := []) (c_X7_textureInto l D g tb hT h0 hc31) w6_92 w6_94 wp3_15 w1_14 w6_95 (x_rec5 C0 h0.1) hd_X7_textureInto rfl ⟨rfl, rfl⟩ ⟨Nat.le_of_ble_eq_true rfl, Nat.le_of_ble_eq_true rfl⟩ (by decide) (by decide) rfl (Nat.le_of_ble_eq_true rfl) dX7_argumentsText_133 ?_
        refine r_if_eq C0 (tgt := 154) (by decide) dX7_argumentsText_136 (fun q34 => ?_) (fun q34 => ?_)
        · have hf := ie_t hf q34
          refine r_iconst C0 (v := 0) dX7_argumentsText_154 rfl ?_
          exact hend (by decide) hf dX7_argumentsText_155
        · have hf := ie_f hf q34
          refine r_aload_n C0 (kk := 0) 0 rfl dX7_argumentsText_139 ?_
          refine r_iconst C0 (v := 3) dX7_argumentsText_140 rfl ?_
          refine r_iconst C0 (v := 1) dX7_argumentsText_141 rfl ?_
          refine r_bipush C0 (v := 20) dX7_argumentsText_142 rfl ?_
          obtain ⟨r37, M36, hc35, hf⟩ := bd2_e hf
          refine r_callVi C0 (As := [.int 3, .int 1, .int 20]) (rest := []) (c_X7_into l D g tb hT h0 hc35) w6_39 w6_41 wp3_5 w1_14 w6_42 (x_rec5 C0 h0.1) hd_X7_into rfl ⟨rfl, rfl⟩ ⟨Nat.le_of_ble_eq_true rfl, Nat.le_of_ble_eq_true rfl⟩ (by decide) (by decide) rfl (Nat.le_of_ble_eq_true rfl) dX7_argumentsText_144 ?_
          refine r_if_eq C0 (tgt := 154) (by decide) dX7_argumentsText_147 (fun q38 => ?_) (fun q38 => ?_)
          · have hf := ie_t hf q38
            refine r_iconst C0 (v := 0) dX7_argumentsText_154 rfl ?_
            exact hend (by decide) hf dX7_argumentsText_155
          · have hf := ie_f hf q38
            refine r_iconst C0 (v := 1) dX7_argumentsText_150 rfl ?_
            refine r_goto C0 (tgt := 155) (by decide) dX7_argumentsText_151 ?_
            exact hend (by decide) hf dX7_argumentsText_155
  have hf := ie_f hf q22
  have nq22 : Int32.toInt a1 ≠ 1 := fun h => q22 (Int32.toInt_inj.mp h)
  rcases Decidable.em (a1 = 2) with q39 | q39
  · have hf := ie_t hf q39
    refine r_tsc C0 (cst := 2) q39 (by decide) (by decide) rfl (tgt := 165) (by decide) dX7_argumentsText_1 ?_
    refine r_aload_n C0 (kk := 0) 0 rfl dX7_argumentsText_165 ?_
    refine r_iconst C0 (v := 0) dX7_argumentsText_166 rfl ?_
    refine r_iconst C0 (v := 0) dX7_argumentsText_167 rfl ?_
    refine r_aload_n C0 (kk := 0) 0 rfl dX7_argumentsText_168 ?_
    refine r_get5 C0 h0.1 5 (by decide) (v := .ref (g.1 6 2520)) rfl rfl w6_221 dX7_argumentsText_169 ?_
    refine r_bipush C0 (v := 9) dX7_argumentsText_172 rfl ?_
    refine r_ialdc C0 h0.2.1 (z := 2529) (by decide) (by decide) dX7_argumentsText_174 ?_
    refine r_iconst C0 (v := 1) dX7_argumentsText_175 rfl ?_
    refine r_isub C0 dX7_argumentsText_176 ?_
    obtain ⟨r42, M41, hc40, hf⟩ := bd2_e hf
    refine r_callVi C0 (As := [.int 0, .int 0, .int ((M 2529) - 1)]) (rest := []) (c_X7_into l D g tb hT h0 hc40) w6_39 w6_41 wp3_5 w1_14 w6_42 (x_rec5 C0 h0.1) hd_X7_into rfl ⟨rfl, rfl⟩ ⟨Nat.le_of_ble_eq_true rfl, Nat.le_of_ble_eq_true rfl⟩ (by decide) (by decide) rfl (Nat.le_of_ble_eq_true rfl) dX7_argumentsText_177 ?_
    refine r_if_eq C0 (tgt := 199) (by decide) dX7_argumentsText_180 (fun q43 => ?_) (fun q43 => ?_)
    · have hf := ie_t hf q43
      refine r_iconst C0 (v := 0) dX7_argumentsText_199 rfl ?_
      exact hend (by decide) hf dX7_argumentsText_200
    · have hf := ie_f hf q43
      refine r_aload_n C0 (kk := 0) 0 rfl dX7_argumentsText_183 ?_
      refine r_iconst C0 (v := 1) dX7_argumentsText_184 rfl ?_
      refine r_iconst C0 (v := 1) dX7_argumentsText_185 rfl ?_
      refine r_sipush C0 (v := 999) dX7_argumentsText_186 rfl ?_
      obtain ⟨r46, M45, hc44, hf⟩ := bd2_e hf
      refine r_callVi C0 (As := [.int 1, .int 1, .int 999]) (rest := []) (c_X7_into l D g tb hT h0 hc44) w6_39 w6_41 wp3_5 w1_14 w6_42 (x_rec5 C0 h0.1) hd_X7_into rfl ⟨rfl, rfl⟩ ⟨Nat.le_of_ble_eq_true rfl, Nat.le_of_ble_eq_true rfl⟩ (by decide) (by decide) rfl (Nat.le_of_ble_eq_true rfl) dX7_argumentsText_189 ?_
      refine r_if_eq C0 (tgt := 199) (by decide) dX7_argumentsText_192 (fun q47 => ?_) (fun q47 => ?_)
      · have hf := ie_t hf q47
        refine r_iconst C0 (v := 0) dX7_argumentsText_199 rfl ?_
        exact hend (by decide) hf dX7_argumentsText_200
      · have hf := ie_f hf q47
        refine r_iconst C0 (v := 1) dX7_argumentsText_195 rfl ?_
        refine r_goto C0 (tgt := 200) (by decide) dX7_argumentsText_196 ?_
        exact hend (by decide) hf dX7_argumentsText_200
  have hf := ie_f hf q39
  have nq39 : Int32.toInt a1 ≠ 2 := fun h => q39 (Int32.toInt_inj.mp h)
  rcases Decidable.em (a1 = 3) with q48 | q48
  · have hf := ie_t hf q48
    refine r_tsc C0 (cst := 3) q48 (by decide) (by decide) rfl (tgt := 308) (by decide) dX7_argumentsText_1 ?_
    refine WW.sub [0] rfl ?_
    exact B308     _ hf
  have hf := ie_f hf q48
  have nq48 : Int32.toInt a1 ≠ 3 := fun h => q48 (Int32.toInt_inj.mp h)
  rcases Decidable.em (a1 = 4) with q49 | q49
  · have hf := ie_t hf q49
    refine r_tsc C0 (cst := 4) q49 (by decide) (by decide) rfl (tgt := 201) (by decide) dX7_argumentsText_1 ?_
    refine r_aload_n C0 (kk := 0) 0 rfl dX7_argumentsText_201 ?_
    refine r_iconst C0 (v := 0) dX7_argumentsText_202 rfl ?_
    refine r_iconst C0 (v := 0) dX7_argumentsText_203 rfl ?_
    refine r_aload_n C0 (kk := 0) 0 rfl dX7_argumentsText_204 ?_
    refine r_get5 C0 h0.1 5 (by decide) (v := .ref (g.1 6 2520)) rfl rfl w6_221 dX7_argumentsText_205 ?_
    refine r_bipush C0 (v := 9) dX7_argumentsText_208 rfl ?_
    refine r_ialdc C0 h0.2.1 (z := 2529) (by decide) (by decide) dX7_argumentsText_210 ?_
    refine r_iconst C0 (v := 1) dX7_argumentsText_211 rfl ?_
    refine r_isub C0 dX7_argumentsText_212 ?_
    obtain ⟨r52, M51, hc50, hf⟩ := bd2_e hf
    refine r_callVi C0 (As := [.int 0, .int 0, .int ((M 2529) - 1)]) (rest := []) (c_X7_into l D g tb hT h0 hc50) w6_39 w6_41 wp3_5 w1_14 w6_42 (x_rec5 C0 h0.1) hd_X7_into rfl ⟨rfl, rfl⟩ ⟨Nat.le_of_ble_eq_true rfl, Nat.le_of_ble_eq_true rfl⟩ (by decide) (by decide) rfl (Nat.le_of_ble_eq_true rfl) dX7_argumentsText_213 ?_
    refine r_if_eq C0 (tgt := 231) (by decide) dX7_argumentsText_216 (fun q53 => ?_) (fun q53 => ?_)
    · have hf := ie_t hf q53
      refine r_iconst C0 (v := 0) dX7_argumentsText_231 rfl ?_
      exact hend (by decide) hf dX7_argumentsText_232
    · have hf := ie_f hf q53
      refine r_aload_n C0 (kk := 0) 0 rfl dX7_argumentsText_219 ?_
      refine r_iconst C0 (v := 1) dX7_argumentsText_220 rfl ?_
      obtain ⟨r56, M55, hc54, hf⟩ := bd2_e hf
      refine r_callVi C0 (As := [.int 1]) (rest := []) (c_X7_lanternInto l D g tb hT h0 hc54) w6_80 w6_82 wp3_13 w1_14 w6_83 (x_rec5 C0 h0.1) hd_X7_lanternInto rfl ⟨rfl, rfl⟩ ⟨Nat.le_of_ble_eq_true rfl, Nat.le_of_ble_eq_true rfl⟩ (by decide) (by decide) rfl (Nat.le_of_ble_eq_true rfl) dX7_argumentsText_221 ?_
      refine r_if_eq C0 (tgt := 231) (by decide) dX7_argumentsText_224 (fun q57 => ?_) (fun q57 => ?_)
      · have hf := ie_t hf q57
        refine r_iconst C0 (v := 0) dX7_argumentsText_231 rfl ?_
        exact hend (by decide) hf dX7_argumentsText_232
      · have hf := ie_f hf q57
        refine r_iconst C0 (v := 1) dX7_argumentsText_227 rfl ?_
        refine r_goto C0 (tgt := 232) (by decide) dX7_argumentsText_228 ?_
        exact hend (by decide) hf dX7_argumentsText_232
  have hf := ie_f hf q49
  have nq49 : Int32.toInt a1 ≠ 4 := fun h => q49 (Int32.toInt_inj.mp h)
  rcases Decidable.em (a1 = 5) with q58 | q58
  · have hf := ie_t hf q58
    refine r_tsc C0 (cst := 5) q58 (by decide) (by decide) rfl (tgt := 156) (by decide) dX7_argumentsText_1 ?_
    refine r_aload_n C0 (kk := 0) 0 rfl dX7_argumentsText_156 ?_
    refine r_iconst C0 (v := 0) dX7_argumentsText_157 rfl ?_
    refine r_iconst C0 (v := 1) dX7_argumentsText_158 rfl ?_
    refine r_bipush C0 (v := 100) dX7_argumentsText_159 rfl ?_
    obtain ⟨r61, M60, hc59, hf⟩ := bd2_e hf
    refine r_callVi C0 (As := [.int 0, .int 1, .int 100]) (rest := []) (c_X7_into l D g tb hT h0 hc59) w6_39 w6_41 wp3_5 w1_14 w6_42 (x_rec5 C0 h0.1) hd_X7_into rfl ⟨rfl, rfl⟩ ⟨Nat.le_of_ble_eq_true rfl, Nat.le_of_ble_eq_true rfl⟩ (by decide) (by decide) rfl (Nat.le_of_ble_eq_true rfl) dX7_argumentsText_161 ?_
    obtain ⟨q62, hf⟩ := gd_e hf
    exact hend q62 hf dX7_argumentsText_164
  have hf := ie_f hf q58
  have nq58 : Int32.toInt a1 ≠ 5 := fun h => q58 (Int32.toInt_inj.mp h)
  rcases Decidable.em (a1 = 6) with q63 | q63
  · have hf := ie_t hf q63
    refine r_tsc C0 (cst := 6) q63 (by decide) (by decide) rfl (tgt := 233) (by decide) dX7_argumentsText_1 ?_
    refine r_aload_n C0 (kk := 0) 0 rfl dX7_argumentsText_233 ?_
    refine r_iconst C0 (v := 0) dX7_argumentsText_234 rfl ?_
    refine r_iconst C0 (v := 0) dX7_argumentsText_235 rfl ?_
    refine r_aload_n C0 (kk := 0) 0 rfl dX7_argumentsText_236 ?_
    refine r_get5 C0 h0.1 5 (by decide) (v := .ref (g.1 6 2520)) rfl rfl w6_221 dX7_argumentsText_237 ?_
    refine r_bipush C0 (v := 9) dX7_argumentsText_240 rfl ?_
    refine r_ialdc C0 h0.2.1 (z := 2529) (by decide) (by decide) dX7_argumentsText_242 ?_
    refine r_iconst C0 (v := 1) dX7_argumentsText_243 rfl ?_
    refine r_isub C0 dX7_argumentsText_244 ?_
    obtain ⟨r66, M65, hc64, hf⟩ := bd2_e hf
    refine r_callVi C0 (As := [.int 0, .int 0, .int ((M 2529) - 1)]) (rest := []) (c_X7_into l D g tb hT h0 hc64) w6_39 w6_41 wp3_5 w1_14 w6_42 (x_rec5 C0 h0.1) hd_X7_into rfl ⟨rfl, rfl⟩ ⟨Nat.le_of_ble_eq_true rfl, Nat.le_of_ble_eq_true rfl⟩ (by decide) (by decide) rfl (Nat.le_of_ble_eq_true rfl) dX7_argumentsText_245 ?_
    refine r_if_eq C0 (tgt := 266) (by decide) dX7_argumentsText_248 (fun q67 => ?_) (fun q67 => ?_)
    · have hf := ie_t hf q67
      refine r_iconst C0 (v := 0) dX7_argumentsText_266 rfl ?_
      exact hend (by decide) hf dX7_argumentsText_267
    · have hf := ie_f hf q67
      refine r_aload_n C0 (kk := 0) 0 rfl dX7_argumentsText_251 ?_
      refine r_iconst C0 (v := 1) dX7_argumentsText_252 rfl ?_
      refine r_iconst C0 (v := 0) dX7_argumentsText_253 rfl ?_
      refine r_bipush C0 (v := 99) dX7_argumentsText_254 rfl ?_
      obtain ⟨r70, M69, hc68, hf⟩ := bd2_e hf
      refine r_callVi C0 (As := [.int 1, .int 0, .int 99]) (rest := []) (c_X7_into l D g tb hT h0 hc68) w6_39 w6_41 wp3_5 w1_14 w6_42 (x_rec5 C0 h0.1) hd_X7_into rfl ⟨rfl, rfl⟩ ⟨Nat.le_of_ble_eq_true rfl, Nat.le_of_ble_eq_true rfl⟩ (by decide) (by decide) rfl (Nat.le_of_ble_eq_true rfl) dX7_argumentsText_256 ?_
      refine r_if_eq C0 (tgt := 266) (by decide) dX7_argumentsText_259 (fun q71 => ?_) (fun q71 => ?_)
      · have hf := ie_t hf q71
        refine r_iconst C0 (v := 0) dX7_argumentsText_266 rfl ?_
        exact hend (by decide) hf dX7_argumentsText_267
      · have hf := ie_f hf q71
        refine r_iconst C0 (v := 1) dX7_argumentsText_262 rfl ?_
        refine r_goto C0 (tgt := 267) (by decide) dX7_argumentsText_263 ?_
        exact hend (by decide) hf dX7_argumentsText_267
  have hf := ie_f hf q63
  have nq63 : Int32.toInt a1 ≠ 6 := fun h => q63 (Int32.toInt_inj.mp h)
  rcases Decidable.em (a1 = 7) with q72 | q72
  · have hf := ie_t hf q72
    refine r_tsc C0 (cst := 7) q72 (by decide) (by decide) rfl (tgt := 268) (by decide) dX7_argumentsText_1 ?_
    refine r_aload_n C0 (kk := 0) 0 rfl dX7_argumentsText_268 ?_
    refine r_iconst C0 (v := 0) dX7_argumentsText_269 rfl ?_
    refine r_iconst C0 (v := 0) dX7_argumentsText_270 rfl ?_
    refine r_aload_n C0 (kk := 0) 0 rfl dX7_argumentsText_271 ?_
    refine r_get5 C0 h0.1 5 (by decide) (v := .ref (g.1 6 2520)) rfl rfl w6_221 dX7_argumentsText_272 ?_
    refine r_bipush C0 (v := 8) dX7_argumentsText_275 rfl ?_
    refine r_ialdc C0 h0.2.1 (z := 2528) (by decide) (by decide) dX7_argumentsText_277 ?_
    refine r_iconst C0 (v := 1) dX7_argumentsText_278 rfl ?_
    refine r_isub C0 dX7_argumentsText_279 ?_
    obtain ⟨r75, M74, hc73, hf⟩ := bd2_e hf
    refine r_callVi C0 (As := [.int 0, .int 0, .int ((M 2528) - 1)]) (rest := []) (c_X7_into l D g tb hT h0 hc73) w6_39 w6_41 wp3_5 w1_14 w6_42 (x_rec5 C0 h0.1) hd_X7_into rfl ⟨rfl, rfl⟩ ⟨Nat.le_of_ble_eq_true rfl, Nat.le_of_ble_eq_true rfl⟩ (by decide) (by decide) rfl (Nat.le_of_ble_eq_true rfl) dX7_argumentsText_280 ?_
    refine r_if_eq C0 (tgt := 301) (by decide) dX7_argumentsText_283 (fun q76 => ?_) (fun q76 => ?_)
    · have hf := ie_t hf q76
      refine r_iconst C0 (v := 0) dX7_argumentsText_301 rfl ?_
      exact hend (by decide) hf dX7_argumentsText_302
    · have hf := ie_f hf q76
      refine r_aload_n C0 (kk := 0) 0 rfl dX7_argumentsText_286 ?_
      refine r_iconst C0 (v := 1) dX7_argumentsText_287 rfl ?_
      refine r_iconst C0 (v := 0) dX7_argumentsText_288 rfl ?_
      refine r_bipush C0 (v := 9) dX7_argumentsText_289 rfl ?_
      obtain ⟨r79, M78, hc77, hf⟩ := bd2_e hf
      refine r_callVi C0 (As := [.int 1, .int 0, .int 9]) (rest := []) (c_X7_into l D g tb hT h0 hc77) w6_39 w6_41 wp3_5 w1_14 w6_42 (x_rec5 C0 h0.1) hd_X7_into rfl ⟨rfl, rfl⟩ ⟨Nat.le_of_ble_eq_true rfl, Nat.le_of_ble_eq_true rfl⟩ (by decide) (by decide) rfl (Nat.le_of_ble_eq_true rfl) dX7_argumentsText_291 ?_
      refine r_if_eq C0 (tgt := 301) (by decide) dX7_argumentsText_294 (fun q80 => ?_) (fun q80 => ?_)
      · have hf := ie_t hf q80
        refine r_iconst C0 (v := 0) dX7_argumentsText_301 rfl ?_
        exact hend (by decide) hf dX7_argumentsText_302
      · have hf := ie_f hf q80
        refine r_iconst C0 (v := 1) dX7_argumentsText_297 rfl ?_
        refine r_goto C0 (tgt := 302) (by decide) dX7_argumentsText_298 ?_
        exact hend (by decide) hf dX7_argumentsText_302
  have hf := ie_f hf q72
  have nq72 : Int32.toInt a1 ≠ 7 := fun h => q72 (Int32.toInt_inj.mp h)
  rcases Decidable.em (a1 = 8) with q81 | q81
  · have hf := ie_t hf q81
    refine r_tsc C0 (cst := 8) q81 (by decide) (by decide) rfl (tgt := 303) (by decide) dX7_argumentsText_1 ?_
    refine r_aload_n C0 (kk := 0) 0 rfl dX7_argumentsText_303 ?_
    obtain ⟨r84, M83, hc82, hf⟩ := bd2_e hf
    refine r_callVi C0 (As := []) (rest := []) (c_X7_holderInto l D g tb hT h0 hc82) w6_99 w6_101 wp4_0 w1_14 w6_102 (x_rec5 C0 h0.1) hd_X7_holderInto rfl ⟨rfl, rfl⟩ ⟨Nat.le_of_ble_eq_true rfl, Nat.le_of_ble_eq_true rfl⟩ (by decide) (by decide) rfl (Nat.le_of_ble_eq_true rfl) dX7_argumentsText_304 ?_
    obtain ⟨q85, hf⟩ := gd_e hf
    exact hend q85 hf dX7_argumentsText_307
  have hf := ie_f hf q81
  have nq81 : Int32.toInt a1 ≠ 8 := fun h => q81 (Int32.toInt_inj.mp h)
  refine r_tsd C0 (by omega) (tgt := 308) (by decide) dX7_argumentsText_1 ?_
  refine WW.sub [0] rfl ?_
  exact B308     _ hf
theorem dX3_readHead_0 : decode cX3_readHead 0 = .ok (.aload_n 0, 1) := by decide +kernel
theorem dX3_readHead_1 : decode cX3_readHead 1 = .ok (.ldc 45, 2) := by decide +kernel
theorem dX3_readHead_3 : decode cX3_readHead 3 = .ok (.invokevirtual 47, 3) := by decide +kernel
theorem dX3_readHead_6 : decode cX3_readHead 6 = .ok (.ifCond .eq 13, 3) := by decide +kernel
theorem dX3_readHead_9 : decode cX3_readHead 9 = .ok (.aload_n 0, 1) := by decide +kernel
theorem dX3_readHead_10 : decode cX3_readHead 10 = .ok (.iconst 1, 1) := by decide +kernel
theorem dX3_readHead_11 : decode cX3_readHead 11 = .ok (.bipush 9, 2) := by decide +kernel
theorem dX3_readHead_13 : decode cX3_readHead 13 = .ok (.invokevirtual 51, 3) := by decide +kernel
theorem dX3_readHead_16 : decode cX3_readHead 16 = .ok (.ifCond .ne 5, 3) := by decide +kernel
theorem dX3_readHead_19 : decode cX3_readHead 19 = .ok (.iconst 0, 1) := by decide +kernel
theorem dX3_readHead_20 : decode cX3_readHead 20 = .ok (.ireturn, 1) := by decide +kernel
theorem dX3_readHead_21 : decode cX3_readHead 21 = .ok (.aload_n 0, 1) := by decide +kernel
theorem dX3_readHead_22 : decode cX3_readHead 22 = .ok (.getfield 55, 3) := by decide +kernel
theorem dX3_readHead_25 : decode cX3_readHead 25 = .ok (.istore_n 2, 1) := by decide +kernel
theorem dX3_readHead_26 : decode cX3_readHead 26 = .ok (.aload_n 0, 1) := by decide +kernel
theorem dX3_readHead_27 : decode cX3_readHead 27 = .ok (.iconst 1, 1) := by decide +kernel
theorem dX3_readHead_28 : decode cX3_readHead 28 = .ok (.bipush 60, 2) := by decide +kernel
theorem dX3_readHead_30 : decode cX3_readHead 30 = .ok (.invokevirtual 51, 3) := by decide +kernel
theorem dX3_readHead_33 : decode cX3_readHead 33 = .ok (.ifCond .ne 5, 3) := by decide +kernel
theorem dX3_readHead_36 : decode cX3_readHead 36 = .ok (.iconst 0, 1) := by decide +kernel
theorem dX3_readHead_37 : decode cX3_readHead 37 = .ok (.ireturn, 1) := by decide +kernel
theorem dX3_readHead_38 : decode cX3_readHead 38 = .ok (.aload_n 0, 1) := by decide +kernel
theorem dX3_readHead_39 : decode cX3_readHead 39 = .ok (.getfield 55, 3) := by decide +kernel
theorem dX3_readHead_42 : decode cX3_readHead 42 = .ok (.istore_n 3, 1) := by decide +kernel
theorem dX3_readHead_43 : decode cX3_readHead 43 = .ok (.aload_n 0, 1) := by decide +kernel
theorem dX3_readHead_44 : decode cX3_readHead 44 = .ok (.iconst 0, 1) := by decide +kernel
theorem dX3_readHead_45 : decode cX3_readHead 45 = .ok (.bipush 99, 2) := by decide +kernel
theorem dX3_readHead_47 : decode cX3_readHead 47 = .ok (.invokevirtual 51, 3) := by decide +kernel
theorem dX3_readHead_50 : decode cX3_readHead 50 = .ok (.ifCond .ne 5, 3) := by decide +kernel
theorem dX3_readHead_53 : decode cX3_readHead 53 = .ok (.iconst 0, 1) := by decide +kernel
theorem dX3_readHead_54 : decode cX3_readHead 54 = .ok (.ireturn, 1) := by decide +kernel
theorem dX3_readHead_55 : decode cX3_readHead 55 = .ok (.aload_n 1, 1) := by decide +kernel
theorem dX3_readHead_56 : decode cX3_readHead 56 = .ok (.iload_n 2, 1) := by decide +kernel
theorem dX3_readHead_57 : decode cX3_readHead 57 = .ok (.iload_n 3, 1) := by decide +kernel
theorem dX3_readHead_58 : decode cX3_readHead 58 = .ok (.aload_n 0, 1) := by decide +kernel
theorem dX3_readHead_59 : decode cX3_readHead 59 = .ok (.getfield 55, 3) := by decide +kernel
theorem dX3_readHead_62 : decode cX3_readHead 62 = .ok (.invokevirtual 58, 3) := by decide +kernel
theorem dX3_readHead_65 : decode cX3_readHead 65 = .ok (.aload_n 0, 1) := by decide +kernel
theorem dX3_readHead_66 : decode cX3_readHead 66 = .ok (.invokevirtual 64, 3) := by decide +kernel
theorem dX3_readHead_69 : decode cX3_readHead 69 = .ok (.ifCond .eq 24, 3) := by decide +kernel
theorem dX3_readHead_72 : decode cX3_readHead 72 = .ok (.aload_n 0, 1) := by decide +kernel
theorem dX3_readHead_73 : decode cX3_readHead 73 = .ok (.ldc 68, 2) := by decide +kernel
theorem dX3_readHead_75 : decode cX3_readHead 75 = .ok (.invokevirtual 47, 3) := by decide +kernel
theorem dX3_readHead_78 : decode cX3_readHead 78 = .ok (.ifCond .eq 15, 3) := by decide +kernel
theorem dX3_readHead_81 : decode cX3_readHead 81 = .ok (.aload_n 0, 1) := by decide +kernel
theorem dX3_readHead_82 : decode cX3_readHead 82 = .ok (.aload_n 1, 1) := by decide +kernel
theorem dX3_readHead_83 : decode cX3_readHead 83 = .ok (.invokevirtual 70, 3) := by decide +kernel
theorem dX3_readHead_86 : decode cX3_readHead 86 = .ok (.ifCond .eq 7, 3) := by decide +kernel
theorem dX3_readHead_89 : decode cX3_readHead 89 = .ok (.iconst 1, 1) := by decide +kernel
theorem dX3_readHead_90 : decode cX3_readHead 90 = .ok (.goto 4, 3) := by decide +kernel
theorem dX3_readHead_93 : decode cX3_readHead 93 = .ok (.iconst 0, 1) := by decide +kernel
theorem dX3_readHead_94 : decode cX3_readHead 94 = .ok (.ireturn, 1) := by decide +kernel
theorem hd_X3_readHead : yX3_readHead.cls = RX3 ∧ yX3_readHead.cls ≠ "java/lang/invoke/MethodHandle" ∧ yX3_readHead.cls ≠ "java/lang/invoke/VarHandle" ∧ (parseMethodDescriptor yX3_readHead.desc).map (fun d => d.parameters.length) = some 1 := by decide +kernel
set_option maxRecDepth 100000 in
set_option maxHeartbeats 4000000 in
theorem c_X3_readHead (l : Launch) (D : va_G) (g : xG) (tb : List xQ) (hT : x_T g tb) {a1 : Nat} (h0 : x_rd tb) (h1 : x_mk tb a1) {M : xM} {r : Int32} {M' : xM} (hf : f_X3_readHead a1 M = some (r, M')) :
    cI l D g tb yX3_readHead cX3_readHead 4 .boolean ({ frames := 6, cells := 0, slots := 0, locals := 128 } : Room) [.ref (g.1 3 1777), .ref (g.1 2 a1)] M r M' := by
  refine x_startZ (own := RX3) (by decide +kernel) rfl rfl (Nat.le_of_ble_eq_true rfl) hT ?_
  intro p e s m args below meth c Q C0 hend
  unfold f_X3_readHead at hf
  refine r_aload_n C0 (kk := 0) 0 rfl dX3_readHead_0 ?_
  refine r_ldcs C0 (si := 1) rfl dX3_readHead_1 ?_
  obtain ⟨r3, M2, hc1, hf⟩ := bd2_e hf
  refine r_callVi C0 (As := [.ref (g.1 20 1)]) (rest := []) (c_X3_readWord l D g tb hT h0 (by decide) hc1) w2_70 w2_72 wp1_2 w1_5 w2_73 (x_rec3 C0 h0.1) hd_X3_readWord rfl ⟨rfl, rfl⟩ ⟨Nat.le_of_ble_eq_true rfl, Nat.le_of_ble_eq_true rfl⟩ (by decide) (by decide) rfl (Nat.le_of_ble_eq_true rfl) dX3_readHead_3 ?_
  refine r_if_eq C0 (tgt := 19) (by decide) dX3_readHead_6 (fun q4 => ?_) (fun q4 => ?_)
  · have hf := ie_t hf q4
    refine r_iconst C0 (v := 0) dX3_readHead_19 rfl ?_
    exact hend (by decide) hf dX3_readHead_20
  · have hf := ie_f hf q4
    refine r_aload_n C0 (kk := 0) 0 rfl dX3_readHead_9 ?_
    refine r_iconst C0 (v := 1) dX3_readHead_10 rfl ?_
    refine r_bipush C0 (v := 9) dX3_readHead_11 rfl ?_
    obtain ⟨r7, M6, hc5, hf⟩ := bd2_e hf
    refine r_callVi C0 (As := [.int 1, .int 9]) (rest := []) (c_X3_readNumber l D g tb hT h0 hc5) w2_101 w2_103 wp1_8 w1_5 w2_104 (x_rec3 C0 h0.1) hd_X3_readNumber rfl ⟨rfl, rfl⟩ ⟨Nat.le_of_ble_eq_true rfl, Nat.le_of_ble_eq_true rfl⟩ (by decide) (by decide) rfl (Nat.le_of_ble_eq_true rfl) dX3_readHead_13 ?_
    refine r_if_ne C0 (tgt := 21) (by decide) dX3_readHead_16 (fun q8 => ?_) (fun q8 => ?_)
    · have hf := ie_f hf q8
      refine r_aload_n C0 (kk := 0) 0 rfl dX3_readHead_21 ?_
      refine r_get3 C0 h0.1 9 (by decide) (v := .int (M6 1786)) rfl rfl w1_216 dX3_readHead_22 ?_
      refine r_istore_n C0 (kk := 2) (lv2 := [(2, .int (M6 1786)), (0, .ref (g.1 3 1777)), (1, .ref (g.1 2 a1))]) (by decide) rfl dX3_readHead_25 ?_
      refine r_aload_n C0 (kk := 0) 1 rfl dX3_readHead_26 ?_
      refine r_iconst C0 (v := 1) dX3_readHead_27 rfl ?_
      refine r_bipush C0 (v := 60) dX3_readHead_28 rfl ?_
      obtain ⟨r11, M10, hc9, hf⟩ := bd2_e hf
      refine r_callVi C0 (As := [.int 1, .int 60]) (rest := []) (c_X3_readNumber l D g tb hT h0 hc9) w2_101 w2_103 wp1_8 w1_5 w2_104 (x_rec3 C0 h0.1) hd_X3_readNumber rfl ⟨rfl, rfl⟩ ⟨Nat.le_of_ble_eq_true rfl, Nat.le_of_ble_eq_true rfl⟩ (by decide) (by decide) rfl (Nat.le_of_ble_eq_true rfl) dX3_readHead_30 ?_
      refine r_if_ne C0 (tgt := 38) (by decide) dX3_readHead_33 (fun q12 => ?_) (fun q12 => ?_)
      · have hf := ie_f hf q12
        refine r_aload_n C0 (kk := 0) 1 rfl dX3_readHead_38 ?_
        refine r_get3 C0 h0.1 9 (by decide) (v := .int (M10 1786)) rfl rfl w1_216 dX3_readHead_39 ?_
        refine r_istore_n C0 (kk := 3) (lv2 := [(3, .int (M10 1786)), (2, .int (M6 1786)), (0, .ref (g.1 3 1777)), (1, .ref (g.1 2 a1))]) (by decide) rfl dX3_readHead_42 ?_
        refine r_aload_n C0 (kk := 0) 2 rfl dX3_readHead_43 ?_
        refine r_iconst C0 (v := 0) dX3_readHead_44 rfl ?_
        refine r_bipush C0 (v := 99) dX3_readHead_45 rfl ?_
        obtain ⟨r15, M14, hc13, hf⟩ := bd2_e hf
        refine r_callVi C0 (As := [.int 0, .int 99]) (rest := []) (c_X3_readNumber l D g tb hT h0 hc13) w2_101 w2_103 wp1_8 w1_5 w2_104 (x_rec3 C0 h0.1) hd_X3_readNumber rfl ⟨rfl, rfl⟩ ⟨Nat.le_of_ble_eq_true rfl, Nat.le_of_ble_eq_true rfl⟩ (by decide) (by decide) rfl (Nat.le_of_ble_eq_true rfl) dX3_readHead_47 ?_
        refine r_if_ne C0 (tgt := 55) (by decide) dX3_readHead_50 (fun q16 => ?_) (fun q16 => ?_)
        · have hf := ie_f hf q16
          refine r_aload_n C0 (kk := 1) 3 rfl dX3_readHead_55 ?_
          refine r_iload_n C0 (kk := 2) 1 rfl dX3_readHead_56 ?_
          refine r_iload_n C0 (kk := 3) 0 rfl dX3_readHead_57 ?_
          refine r_aload_n C0 (kk := 0) 2 rfl dX3_readHead_58 ?_
          refine r_get3 C0 h0.1 9 (by decide) (v := .int (M14 1786)) rfl rfl w1_216 dX3_readHead_59 ?_
          obtain ⟨M18, hc17, hf⟩ := bd_e hf
          refine r_callVv C0 (As := [.int (M6 1786), .int (M10 1786), .int (M14 1786)]) (rest := []) (c_X2_reset l D g tb hT h1 hc17) w2_109 w2_110 w2_111 w1_2 w2_112 (x_rec2 C0 h1.1) hd_X2_reset rfl ⟨rfl, rfl⟩ ⟨Nat.le_of_ble_eq_true rfl, Nat.le_of_ble_eq_true rfl⟩ (by decide) (by decide) rfl (Nat.le_of_ble_eq_true rfl) dX3_readHead_62 ?_
          refine r_aload_n C0 (kk := 0) 2 rfl dX3_readHead_65 ?_
          obtain ⟨r21, M20, hc19, hf⟩ := bd2_e hf
          refine r_callVi C0 (As := []) (rest := []) (c_X3_readSemicolon l D g tb hT h0 hc19) w2_113 w2_115 wp1_10 w1_5 w2_116 (x_rec3 C0 h0.1) hd_X3_readSemicolon rfl ⟨rfl, rfl⟩ ⟨Nat.le_of_ble_eq_true rfl, Nat.le_of_ble_eq_true rfl⟩ (by decide) (by decide) rfl (Nat.le_of_ble_eq_true rfl) dX3_readHead_66 ?_
          refine r_if_eq C0 (tgt := 93) (by decide) dX3_readHead_69 (fun q22 => ?_) (fun q22 => ?_)
          · have hf := ie_t hf q22
            refine r_iconst C0 (v := 0) dX3_readHead_93 rfl ?_
            exact hend (by decide) hf dX3_readHead_94
          · have hf := ie_f hf q22
            refine r_aload_n C0 (kk := 0) 2 rfl dX3_readHead_72 ?_
            refine r_ldcs C0 (si := 2) rfl dX3_readHead_73 ?_
            obtain ⟨r25, M24, hc23, hf⟩ := bd2_e hf
            refine r_callVi C0 (As := [.ref (g.1 20 2)]) (rest := []) (c_X3_readWord l D g tb hT h0 (by decide) hc23) w2_70 w2_72 wp1_2 w1_5 w2_73 (x_rec3 C0 h0.1) hd_X3_readWord rfl ⟨rfl, rfl⟩ ⟨Nat.le_of_ble_eq_true rfl, Nat.le_of_ble_eq_true rfl⟩ (by decide) (by decide) rfl (Nat.le_of_ble_eq_true rfl) dX3_readHead_75 ?_
            refine r_if_eq C0 (tgt := 93) (by decide) dX3_readHead_78 (fun q26 => ?_) (fun q26 => ?_)
            · have hf := ie_t hf q26
              refine r_iconst C0 (v := 0) dX3_readHead_93 rfl ?_
              exact hend (by decide) hf dX3_readHead_94
            · have hf := ie_f hf q26
              refine r_aload_n C0 (kk := 0) 2 rfl dX3_readHead_81 ?_
              refine r_aload_n C0 (kk := 1) 3 rfl dX3_readHead_82 ?_
              obtain ⟨r29, M28, hc27, hf⟩ := bd2_e hf
              refine r_callVi C0 (As := [.ref (g.1 2 a1)]) (rest := []) (c_X3_readFog l D g tb hT h0 h1 hc27) w2_118 w2_120 wp1_11 w1_5 w2_121 (x_rec3 C0 h0.1) hd_X3_readFog rfl ⟨rfl, rfl⟩ ⟨Nat.le_of_ble_eq_true rfl, Nat.le_of_ble_eq_true rfl⟩ (by decide) (by decide) rfl (Nat.le_of_ble_eq_true rfl) dX3_readHead_83 ?_
              refine r_if_eq C0 (tgt := 93) (by decide) dX3_readHead_86 (fun q30 => ?_) (fun q30 => ?_)
              · have hf := ie_t hf q30
                refine r_iconst C0 (v := 0) dX3_readHead_93 rfl ?_
                exact hend (by decide) hf dX3_readHead_94
              · have hf := ie_f hf q30
                refine r_iconst C0 (v := 1) dX3_readHead_89 rfl ?_
                refine r_goto C0 (tgt := 94) (by decide) dX3_readHead_90 ?_
                exact hend (by decide) hf dX3_readHead_94
        · have hf := ie_t hf q16
          refine r_iconst C0 (v := 0) dX3_readHead_53 rfl ?_
          exact hend (by decide) hf dX3_readHead_54
      · have hf := ie_t hf q12
        refine r_iconst C0 (v := 0) dX3_readHead_36 rfl ?_
        exact hend (by decide) hf dX3_readHead_37
    · have hf := ie_t hf q8
      refine r_iconst C0 (v := 0) dX3_readHead_19 rfl ?_
      exact hend (by decide) hf dX3_readHead_20
theorem dX3_readCommand_0 : decode cX3_readCommand 0 = .ok (.aload_n 0, 1) := by decide +kernel
theorem dX3_readCommand_1 : decode cX3_readCommand 1 = .ok (.invokevirtual 74, 3) := by decide +kernel
theorem dX3_readCommand_4 : decode cX3_readCommand 4 = .ok (.aload_n 0, 1) := by decide +kernel
theorem dX3_readCommand_5 : decode cX3_readCommand 5 = .ok (.getfield 77, 3) := by decide +kernel
theorem dX3_readCommand_8 : decode cX3_readCommand 8 = .ok (.ifCond .ne 5, 3) := by decide +kernel
theorem dX3_readCommand_11 : decode cX3_readCommand 11 = .ok (.iconst 0, 1) := by decide +kernel
theorem dX3_readCommand_12 : decode cX3_readCommand 12 = .ok (.ireturn, 1) := by decide +kernel
theorem dX3_readCommand_13 : decode cX3_readCommand 13 = .ok (.aload_n 0, 1) := by decide +kernel
theorem dX3_readCommand_14 : decode cX3_readCommand 14 = .ok (.aload_n 0, 1) := by decide +kernel
theorem dX3_readCommand_15 : decode cX3_readCommand 15 = .ok (.invokevirtual 87, 3) := by decide +kernel
theorem dX3_readCommand_18 : decode cX3_readCommand 18 = .ok (.putfield 91, 3) := by decide +kernel
theorem dX3_readCommand_21 : decode cX3_readCommand 21 = .ok (.aload_n 0, 1) := by decide +kernel
theorem dX3_readCommand_22 : decode cX3_readCommand 22 = .ok (.getfield 91, 3) := by decide +kernel
theorem dX3_readCommand_25 : decode cX3_readCommand 25 = .ok (.ifnonnull 9, 3) := by decide +kernel
theorem dX3_readCommand_28 : decode cX3_readCommand 28 = .ok (.aload_n 0, 1) := by decide +kernel
theorem dX3_readCommand_29 : decode cX3_readCommand 29 = .ok (.iconst 1, 1) := by decide +kernel
theorem dX3_readCommand_30 : decode cX3_readCommand 30 = .ok (.invokevirtual 80, 3) := by decide +kernel
theorem dX3_readCommand_33 : decode cX3_readCommand 33 = .ok (.ireturn, 1) := by decide +kernel
theorem dX3_readCommand_34 : decode cX3_readCommand 34 = .ok (.iload_n 2, 1) := by decide +kernel
theorem dX3_readCommand_35 : decode cX3_readCommand 35 = .ok (.bipush 40, 2) := by decide +kernel
theorem dX3_readCommand_37 : decode cX3_readCommand 37 = .ok (.if_icmp .ge 11, 3) := by decide +kernel
theorem dX3_readCommand_40 : decode cX3_readCommand 40 = .ok (.aload_n 0, 1) := by decide +kernel
theorem dX3_readCommand_41 : decode cX3_readCommand 41 = .ok (.aload_n 1, 1) := by decide +kernel
theorem dX3_readCommand_42 : decode cX3_readCommand 42 = .ok (.invokevirtual 95, 3) := by decide +kernel
theorem dX3_readCommand_45 : decode cX3_readCommand 45 = .ok (.ifCond .eq 9, 3) := by decide +kernel
theorem dX3_readCommand_48 : decode cX3_readCommand 48 = .ok (.aload_n 0, 1) := by decide +kernel
theorem dX3_readCommand_49 : decode cX3_readCommand 49 = .ok (.iconst 4, 1) := by decide +kernel
theorem dX3_readCommand_50 : decode cX3_readCommand 50 = .ok (.invokevirtual 80, 3) := by decide +kernel
theorem dX3_readCommand_53 : decode cX3_readCommand 53 = .ok (.ireturn, 1) := by decide +kernel
theorem dX3_readCommand_54 : decode cX3_readCommand 54 = .ok (.iconst 0, 1) := by decide +kernel
theorem dX3_readCommand_55 : decode cX3_readCommand 55 = .ok (.istore_n 3, 1) := by decide +kernel
theorem dX3_readCommand_56 : decode cX3_readCommand 56 = .ok (.iload_n 3, 1) := by decide +kernel
theorem dX3_readCommand_57 : decode cX3_readCommand 57 = .ok (.aload_n 0, 1) := by decide +kernel
theorem dX3_readCommand_58 : decode cX3_readCommand 58 = .ok (.getfield 91, 3) := by decide +kernel
theorem dX3_readCommand_61 : decode cX3_readCommand 61 = .ok (.getfield 98, 3) := by decide +kernel
theorem dX3_readCommand_64 : decode cX3_readCommand 64 = .ok (.invokevirtual 23, 3) := by decide +kernel
theorem dX3_readCommand_67 : decode cX3_readCommand 67 = .ok (.if_icmp .ge 31, 3) := by decide +kernel
theorem dX3_readCommand_70 : decode cX3_readCommand 70 = .ok (.aload_n 0, 1) := by decide +kernel
theorem dX3_readCommand_71 : decode cX3_readCommand 71 = .ok (.aload_n 1, 1) := by decide +kernel
theorem dX3_readCommand_72 : decode cX3_readCommand 72 = .ok (.aload_n 0, 1) := by decide +kernel
theorem dX3_readCommand_73 : decode cX3_readCommand 73 = .ok (.getfield 91, 3) := by decide +kernel
theorem dX3_readCommand_76 : decode cX3_readCommand 76 = .ok (.getfield 98, 3) := by decide +kernel
theorem dX3_readCommand_79 : decode cX3_readCommand 79 = .ok (.iload_n 3, 1) := by decide +kernel
theorem dX3_readCommand_80 : decode cX3_readCommand 80 = .ok (.invokevirtual 29, 3) := by decide +kernel
theorem dX3_readCommand_83 : decode cX3_readCommand 83 = .ok (.iload_n 3, 1) := by decide +kernel
theorem dX3_readCommand_84 : decode cX3_readCommand 84 = .ok (.invokevirtual 104, 3) := by decide +kernel
theorem dX3_readCommand_87 : decode cX3_readCommand 87 = .ok (.ifCond .ne 5, 3) := by decide +kernel
theorem dX3_readCommand_90 : decode cX3_readCommand 90 = .ok (.iconst 0, 1) := by decide +kernel
theorem dX3_readCommand_91 : decode cX3_readCommand 91 = .ok (.ireturn, 1) := by decide +kernel
theorem dX3_readCommand_92 : decode cX3_readCommand 92 = .ok (.iinc 3 1, 3) := by decide +kernel
theorem dX3_readCommand_95 : decode cX3_readCommand 95 = .ok (.goto (-39), 3) := by decide +kernel
theorem dX3_readCommand_98 : decode cX3_readCommand 98 = .ok (.aload_n 0, 1) := by decide +kernel
theorem dX3_readCommand_99 : decode cX3_readCommand 99 = .ok (.invokevirtual 64, 3) := by decide +kernel
theorem dX3_readCommand_102 : decode cX3_readCommand 102 = .ok (.ireturn, 1) := by decide +kernel
theorem hd_X3_readCommand : yX3_readCommand.cls = RX3 ∧ yX3_readCommand.cls ≠ "java/lang/invoke/MethodHandle" ∧ yX3_readCommand.cls ≠ "java/lang/invoke/VarHandle" ∧ (parseMethodDescriptor yX3_readCommand.desc).map (fun d => d.parameters.length) = some 2 := by decide +kernel
set_option maxRecDepth 100000 in
set_option maxHeartbeats 4000000 in
theorem c_X3_readCommand (l : Launch) (D : va_G) (g : xG) (tb : List xQ) (hT : x_T g tb) {a1 : Nat} {a2 : Int32} (h0 : x_rd tb) (h1 : x_mk tb a1) {M : xM} {r : Int32} {M' : xM} (hf : f_X3_readCommand a1 a2 M = some (r, M')) :
    cI l D g tb yX3_readCommand cX3_readCommand 4 .boolean ({ frames := 7, cells := 0, slots := 0, locals := 151 } : Room) [.ref (g.1 3 1777), .ref (g.1 2 a1), .int a2] M r M' := by
  refine x_startZ (own := RX3) (by decide +kernel) rfl rfl (Nat.le_of_ble_eq_true rfl) hT ?_
  intro p e s m args below meth c Q C0 hend
  have B56 : ∀ (k56 : Int32 → xM → Option (Int32 × xM)) (hk56 : ∀ (v3 : Int32)  (M : xM), k56 v3 M = some (r, M') → WW p l e ({ frames := 7, cells := 0, slots := 0, locals := 151 } : Room) s m args below meth c 0 0 Q 4 D g tb 56 [(0, .ref (g.1 3 1777)), (1, .ref (g.1 2 a1)), (3, .int v3)] [] M), ∀ (v3 : Int32)  (M : xM), fb_X3_readCommand_c56 k56 a1 a2 v3 M = some (r, M') → WW p l e ({ frames := 7, cells := 0, slots := 0, locals := 151 } : Room) s m args below meth c 0 0 Q 4 D g tb 56 [(0, .ref (g.1 3 1777)), (1, .ref (g.1 2 a1)), (3, .int v3)] [] M := by
    intro k56 hk56 v3  M hf
    unfold fb_X3_readCommand_c56 at hf
    refine r_iload_n C0 (kk := 3) 2 rfl dX3_readCommand_56 ?_
    refine r_aload_n C0 (kk := 0) 0 rfl dX3_readCommand_57 ?_
    refine r_get3 C0 h0.1 4 (by decide) (v := va_re g.2.2 (x_en (M 1781))) rfl rfl w1_210 dX3_readCommand_58 ?_
    obtain ⟨q25, hf⟩ := gd_e hf
    refine r_vkinds C0 q25 w8_132 dX3_readCommand_61 ?_
    obtain ⟨r28, M27, hc26, hf⟩ := bd2_e hf
    refine r_callVi C0 (As := []) (rest := [.int v3]) (c_J0_length_8abf5 l D g tb hT (x_vk_lt _) hc26) w2_5 w2_6 w2_7 w1_6 w2_8 (x_rec20 C0 (x_vk_lt _)) hd_J0_length_8abf5 rfl ⟨rfl, rfl⟩ ⟨Nat.le_of_ble_eq_true rfl, Nat.le_of_ble_eq_true rfl⟩ (by decide) (by decide) rfl (Nat.le_of_ble_eq_true rfl) dX3_readCommand_64 ?_
    refine r_icmp_ge C0 (tgt := 98) (by decide) dX3_readCommand_67 (fun q29 => ?_) (fun q29 => ?_)
    · have hf := ie_t hf q29
      refine r_aload_n C0 (kk := 0) 0 rfl dX3_readCommand_98 ?_
      obtain ⟨r32, M31, hc30, hf⟩ := bd2_e hf
      refine r_callVi C0 (As := []) (rest := []) (c_X3_readSemicolon l D g tb hT h0 hc30) w2_113 w2_115 wp1_10 w1_5 w2_116 (x_rec3 C0 h0.1) hd_X3_readSemicolon rfl ⟨rfl, rfl⟩ ⟨Nat.le_of_ble_eq_true rfl, Nat.le_of_ble_eq_true rfl⟩ (by decide) (by decide) rfl (Nat.le_of_ble_eq_true rfl) dX3_readCommand_99 ?_
      obtain ⟨q33, hf⟩ := gd_e hf
      exact hend q33 hf dX3_readCommand_102
    · have hf := ie_f hf q29
      refine r_aload_n C0 (kk := 0) 0 rfl dX3_readCommand_70 ?_
      refine r_aload_n C0 (kk := 1) 1 rfl dX3_readCommand_71 ?_
      refine r_aload_n C0 (kk := 0) 0 rfl dX3_readCommand_72 ?_
      refine r_get3 C0 h0.1 4 (by decide) (v := va_re g.2.2 (x_en (M27 1781))) rfl rfl w1_210 dX3_readCommand_73 ?_
      obtain ⟨q34, hf⟩ := gd_e hf
      refine r_vkinds C0 q34 w8_132 dX3_readCommand_76 ?_
      refine r_iload_n C0 (kk := 3) 2 rfl dX3_readCommand_79 ?_
      obtain ⟨r37, M36, hc35, hf⟩ := bd2_e hf
      refine r_callVi C0 (As := [.int v3]) (rest := [.ref (g.1 2 a1), .ref (g.1 3 1777)]) (c_J0_charAt_5068e l D g tb hT (x_vk_lt _) hc35) w2_15 w2_16 w2_17 w1_6 w2_18 (x_rec20 C0 (x_vk_lt _)) hd_J0_charAt_5068e rfl ⟨rfl, rfl⟩ ⟨Nat.le_of_ble_eq_true rfl, Nat.le_of_ble_eq_true rfl⟩ (by decide) (by decide) rfl (Nat.le_of_ble_eq_true rfl) dX3_readCommand_80 ?_
      refine r_iload_n C0 (kk := 3) 2 rfl dX3_readCommand_83 ?_
      obtain ⟨r40, M39, hc38, hf⟩ := bd2_e hf
      refine r_callVi C0 (As := [.ref (g.1 2 a1), .int r37, .int v3]) (rest := []) (c_X3_readArgument l D g tb hT h0 h1 hc38) w2_148 w2_150 wp1_15 w1_5 w2_151 (x_rec3 C0 h0.1) hd_X3_readArgument rfl ⟨rfl, rfl⟩ ⟨Nat.le_of_ble_eq_true rfl, Nat.le_of_ble_eq_true rfl⟩ (by decide) (by decide) rfl (Nat.le_of_ble_eq_true rfl) dX3_readCommand_84 ?_
      refine r_if_ne C0 (tgt := 92) (by decide) dX3_readCommand_87 (fun q41 => ?_) (fun q41 => ?_)
      · have hf := ie_f hf q41
        refine r_iincc C0 2 rfl (k0 := 1) (by decide) (by decide) (lv2 := [(3, .int (v3 + 1)), (0, .ref (g.1 3 1777)), (1, .ref (g.1 2 a1))]) rfl dX3_readCommand_92 ?_
        refine r_goto C0 (tgt := 56) (by decide) dX3_readCommand_95 ?_
        refine WW.sub [1, 2, 0] rfl ?_
        exact hk56 _   _ hf
      · have hf := ie_t hf q41
        refine r_iconst C0 (v := 0) dX3_readCommand_90 rfl ?_
        exact hend (by decide) hf dX3_readCommand_91
  have L56 : ∀ (v3 : Int32)  (M : xM), f_X3_readCommand_c56  a1 a2 v3 M = some (r, M') → WW p l e ({ frames := 7, cells := 0, slots := 0, locals := 151 } : Room) s m args below meth c 0 0 Q 4 D g tb 56 [(0, .ref (g.1 3 1777)), (1, .ref (g.1 2 a1)), (3, .int v3)] [] M := lp_ind (P := fun f => ∀ (v3 : Int32)  (M : xM), f v3 M = some (r, M') → WW p l e ({ frames := 7, cells := 0, slots := 0, locals := 151 } : Room) s m args below meth c 0 0 Q 4 D g tb 56 [(0, .ref (g.1 3 1777)), (1, .ref (g.1 2 a1)), (3, .int v3)] [] M) (fun _ _ h => none_ne h) (fun f hf => B56 f hf) FU
  unfold f_X3_readCommand at hf
  refine r_aload_n C0 (kk := 0) 0 rfl dX3_readCommand_0 ?_
  obtain ⟨M2, hc1, hf⟩ := bd_e hf
  refine r_callVv C0 (As := []) (rest := []) (c_X3_readToken l D g tb hT h0 hc1) w2_74 w2_76 wp1_3 w1_5 w2_77 (x_rec3 C0 h0.1) hd_X3_readToken rfl ⟨rfl, rfl⟩ ⟨Nat.le_of_ble_eq_true rfl, Nat.le_of_ble_eq_true rfl⟩ (by decide) (by decide) rfl (Nat.le_of_ble_eq_true rfl) dX3_readCommand_1 ?_
  refine r_aload_n C0 (kk := 0) 0 rfl dX3_readCommand_4 ?_
  refine r_get3 C0 h0.1 7 (by decide) (v := .int (M2 1784)) rfl rfl w1_214 dX3_readCommand_5 ?_
  refine r_if_ne C0 (tgt := 13) (by decide) dX3_readCommand_8 (fun q3 => ?_) (fun q3 => ?_)
  · have hf := ie_f hf q3
    refine r_aload_n C0 (kk := 0) 0 rfl dX3_readCommand_13 ?_
    refine r_aload_n C0 (kk := 0) 0 rfl dX3_readCommand_14 ?_
    obtain ⟨r6, M5, hc4, hf⟩ := bd2_e hf
    refine r_callVe C0 (As := []) (rest := [.ref (g.1 3 1777)]) (c_X3_verbRead l D g tb hT h0 hc4) w2_134 w2_136 wp1_13 w1_5 w2_137 (x_rec3 C0 h0.1) hd_X3_verbRead rfl ⟨rfl, rfl⟩ ⟨Nat.le_of_ble_eq_true rfl, Nat.le_of_ble_eq_true rfl⟩ (by decide) (by decide) rfl (Nat.le_of_ble_eq_true rfl) dX3_readCommand_15 ?_
    refine r_putv C0 h0.1 w1_210 dX3_readCommand_18 ?_
    refine r_aload_n C0 (kk := 0) 0 rfl dX3_readCommand_21 ?_
    refine r_get3 C0 h0.1 4 (by decide) (v := va_re g.2.2 (x_en ((upd M5 1781 r6) 1781))) rfl rfl w1_210 dX3_readCommand_22 ?_
    refine r_ifnnv C0 (tgt := 34) (by decide) dX3_readCommand_25 (fun q7 => ?_) (fun q7 => ?_)
    · have hf := ie_f hf q7
      refine r_iload_n C0 (kk := 2) 2 rfl dX3_readCommand_34 ?_
      refine r_bipush C0 (v := 40) dX3_readCommand_35 rfl ?_
      refine r_icmp_ge C0 (tgt := 48) (by decide) dX3_readCommand_37 (fun q8 => ?_) (fun q8 => ?_)
      · have hf := ie_t hf q8
        refine r_aload_n C0 (kk := 0) 0 rfl dX3_readCommand_48 ?_
        refine r_iconst C0 (v := 4) dX3_readCommand_49 rfl ?_
        obtain ⟨r11, M10, hc9, hf⟩ := bd2_e hf
        refine r_callVi C0 (As := [.int 4]) (rest := []) (c_X3_fail l D g tb hT h0 hc9) w2_97 w2_99 wp1_7 w1_5 w2_100 (x_rec3 C0 h0.1) hd_X3_fail rfl ⟨rfl, rfl⟩ ⟨Nat.le_of_ble_eq_true rfl, Nat.le_of_ble_eq_true rfl⟩ (by decide) (by decide) rfl (Nat.le_of_ble_eq_true rfl) dX3_readCommand_50 ?_
        obtain ⟨q12, hf⟩ := gd_e hf
        exact hend q12 hf dX3_readCommand_53
      · have hf := ie_f hf q8
        refine r_aload_n C0 (kk := 0) 0 rfl dX3_readCommand_40 ?_
        refine r_aload_n C0 (kk := 1) 1 rfl dX3_readCommand_41 ?_
        obtain ⟨r15, M14, hc13, hf⟩ := bd2_e hf
        refine r_callVi C0 (As := [.ref (g.1 2 a1)]) (rest := []) (c_X3_hasNoRoom l D g tb hT h0 h1 hc13) w2_140 w2_142 wp1_14 w1_5 w2_143 (x_rec3 C0 h0.1) hd_X3_hasNoRoom rfl ⟨rfl, rfl⟩ ⟨Nat.le_of_ble_eq_true rfl, Nat.le_of_ble_eq_true rfl⟩ (by decide) (by decide) rfl (Nat.le_of_ble_eq_true rfl) dX3_readCommand_42 ?_
        refine r_if_eq C0 (tgt := 54) (by decide) dX3_readCommand_45 (fun q16 => ?_) (fun q16 => ?_)
        · have hf := ie_t hf q16
          refine r_iconst C0 (v := 0) dX3_readCommand_54 rfl ?_
          refine r_istore_n C0 (kk := 3) (lv2 := [(3, .int 0), (0, .ref (g.1 3 1777)), (1, .ref (g.1 2 a1)), (2, .int a2)]) (by decide) rfl dX3_readCommand_55 ?_
          refine WW.sub [1, 2, 0] rfl ?_
          exact L56   _   _ hf
        · have hf := ie_f hf q16
          refine r_aload_n C0 (kk := 0) 0 rfl dX3_readCommand_48 ?_
          refine r_iconst C0 (v := 4) dX3_readCommand_49 rfl ?_
          obtain ⟨r19, M18, hc17, hf⟩ := bd2_e hf
          refine r_callVi C0 (As := [.int 4]) (rest := []) (c_X3_fail l D g tb hT h0 hc17) w2_97 w2_99 wp1_7 w1_5 w2_100 (x_rec3 C0 h0.1) hd_X3_fail rfl ⟨rfl, rfl⟩ ⟨Nat.le_of_ble_eq_true rfl, Nat.le_of_ble_eq_true rfl⟩ (by decide) (by decide) rfl (Nat.le_of_ble_eq_true rfl) dX3_readCommand_50 ?_
          obtain ⟨q20, hf⟩ := gd_e hf
          exact hend q20 hf dX3_readCommand_53
    · have hf := ie_t hf q7
      refine r_aload_n C0 (kk := 0) 0 rfl dX3_readCommand_28 ?_
      refine r_iconst C0 (v := 1) dX3_readCommand_29 rfl ?_
      obtain ⟨r23, M22, hc21, hf⟩ := bd2_e hf
      refine r_callVi C0 (As := [.int 1]) (rest := []) (c_X3_fail l D g tb hT h0 hc21) w2_97 w2_99 wp1_7 w1_5 w2_100 (x_rec3 C0 h0.1) hd_X3_fail rfl ⟨rfl, rfl⟩ ⟨Nat.le_of_ble_eq_true rfl, Nat.le_of_ble_eq_true rfl⟩ (by decide) (by decide) rfl (Nat.le_of_ble_eq_true rfl) dX3_readCommand_30 ?_
      obtain ⟨q24, hf⟩ := gd_e hf
      exact hend q24 hf dX3_readCommand_33
  · have hf := ie_t hf q3
    refine r_iconst C0 (v := 0) dX3_readCommand_11 rfl ?_
    exact hend (by decide) hf dX3_readCommand_12
