theorem dX7_act_0 : decode cX7_act 0 = .ok (.aload_n 0, 1) := by decide +kernel
theorem dX7_act_1 : decode cX7_act 1 = .ok (.iload_n 1, 1) := by decide +kernel
theorem dX7_act_2 : decode cX7_act 2 = .ok (.iconst 4, 1) := by decide +kernel
theorem dX7_act_3 : decode cX7_act 3 = .ok (.invokevirtual 73, 3) := by decide +kernel
theorem dX7_act_6 : decode cX7_act 6 = .ok (.iconst (-1), 1) := by decide +kernel
theorem dX7_act_7 : decode cX7_act 7 = .ok (.if_icmp .eq 41, 3) := by decide +kernel
theorem dX7_act_10 : decode cX7_act 10 = .ok (.aload_n 0, 1) := by decide +kernel
theorem dX7_act_11 : decode cX7_act 11 = .ok (.iload_n 1, 1) := by decide +kernel
theorem dX7_act_12 : decode cX7_act 12 = .ok (.aload_n 0, 1) := by decide +kernel
theorem dX7_act_13 : decode cX7_act 13 = .ok (.getfield 17, 3) := by decide +kernel
theorem dX7_act_16 : decode cX7_act 16 = .ok (.bipush 7, 2) := by decide +kernel
theorem dX7_act_18 : decode cX7_act 18 = .ok (.iaload, 1) := by decide +kernel
theorem dX7_act_19 : decode cX7_act 19 = .ok (.invokevirtual 107, 3) := by decide +kernel
theorem dX7_act_22 : decode cX7_act 22 = .ok (.aload_n 0, 1) := by decide +kernel
theorem dX7_act_23 : decode cX7_act 23 = .ok (.iload_n 1, 1) := by decide +kernel
theorem dX7_act_24 : decode cX7_act 24 = .ok (.iconst 0, 1) := by decide +kernel
theorem dX7_act_25 : decode cX7_act 25 = .ok (.invokevirtual 73, 3) := by decide +kernel
theorem dX7_act_28 : decode cX7_act 28 = .ok (.aload_n 0, 1) := by decide +kernel
theorem dX7_act_29 : decode cX7_act 29 = .ok (.getfield 17, 3) := by decide +kernel
theorem dX7_act_32 : decode cX7_act 32 = .ok (.bipush 7, 2) := by decide +kernel
theorem dX7_act_34 : decode cX7_act 34 = .ok (.iaload, 1) := by decide +kernel
theorem dX7_act_35 : decode cX7_act 35 = .ok (.if_icmp .ne 11, 3) := by decide +kernel
theorem dX7_act_38 : decode cX7_act 38 = .ok (.aload_n 0, 1) := by decide +kernel
theorem dX7_act_39 : decode cX7_act 39 = .ok (.iload_n 1, 1) := by decide +kernel
theorem dX7_act_40 : decode cX7_act 40 = .ok (.invokevirtual 111, 3) := by decide +kernel
theorem dX7_act_43 : decode cX7_act 43 = .ok (.goto 4, 3) := by decide +kernel
theorem dX7_act_46 : decode cX7_act 46 = .ok (.iconst 0, 1) := by decide +kernel
theorem dX7_act_47 : decode cX7_act 47 = .ok (.ireturn, 1) := by decide +kernel
theorem dX7_act_48 : decode cX7_act 48 = .ok (.aload_n 0, 1) := by decide +kernel
theorem dX7_act_49 : decode cX7_act 49 = .ok (.iload_n 1, 1) := by decide +kernel
theorem dX7_act_50 : decode cX7_act 50 = .ok (.iload_n 2, 1) := by decide +kernel
theorem dX7_act_51 : decode cX7_act 51 = .ok (.invokevirtual 115, 3) := by decide +kernel
theorem dX7_act_54 : decode cX7_act 54 = .ok (.istore_n 3, 1) := by decide +kernel
theorem dX7_act_55 : decode cX7_act 55 = .ok (.iload_n 3, 1) := by decide +kernel
theorem dX7_act_56 : decode cX7_act 56 = .ok (.iconst (-1), 1) := by decide +kernel
theorem dX7_act_57 : decode cX7_act 57 = .ok (.if_icmp .eq 35, 3) := by decide +kernel
theorem dX7_act_60 : decode cX7_act 60 = .ok (.aload_n 0, 1) := by decide +kernel
theorem dX7_act_61 : decode cX7_act 61 = .ok (.iload_n 1, 1) := by decide +kernel
theorem dX7_act_62 : decode cX7_act 62 = .ok (.aload_n 0, 1) := by decide +kernel
theorem dX7_act_63 : decode cX7_act 63 = .ok (.iload_n 3, 1) := by decide +kernel
theorem dX7_act_64 : decode cX7_act 64 = .ok (.iconst 0, 1) := by decide +kernel
theorem dX7_act_65 : decode cX7_act 65 = .ok (.invokevirtual 63, 3) := by decide +kernel
theorem dX7_act_68 : decode cX7_act 68 = .ok (.invokevirtual 107, 3) := by decide +kernel
theorem dX7_act_71 : decode cX7_act 71 = .ok (.aload_n 0, 1) := by decide +kernel
theorem dX7_act_72 : decode cX7_act 72 = .ok (.iload_n 1, 1) := by decide +kernel
theorem dX7_act_73 : decode cX7_act 73 = .ok (.iconst 0, 1) := by decide +kernel
theorem dX7_act_74 : decode cX7_act 74 = .ok (.invokevirtual 73, 3) := by decide +kernel
theorem dX7_act_77 : decode cX7_act 77 = .ok (.aload_n 0, 1) := by decide +kernel
theorem dX7_act_78 : decode cX7_act 78 = .ok (.iload_n 3, 1) := by decide +kernel
theorem dX7_act_79 : decode cX7_act 79 = .ok (.iconst 0, 1) := by decide +kernel
theorem dX7_act_80 : decode cX7_act 80 = .ok (.invokevirtual 63, 3) := by decide +kernel
theorem dX7_act_83 : decode cX7_act 83 = .ok (.if_icmp .ne 9, 3) := by decide +kernel
theorem dX7_act_86 : decode cX7_act 86 = .ok (.aload_n 0, 1) := by decide +kernel
theorem dX7_act_87 : decode cX7_act 87 = .ok (.iload_n 1, 1) := by decide +kernel
theorem dX7_act_88 : decode cX7_act 88 = .ok (.iload_n 3, 1) := by decide +kernel
theorem dX7_act_89 : decode cX7_act 89 = .ok (.invokevirtual 118, 3) := by decide +kernel
theorem dX7_act_92 : decode cX7_act 92 = .ok (.iconst 0, 1) := by decide +kernel
theorem dX7_act_93 : decode cX7_act 93 = .ok (.ireturn, 1) := by decide +kernel
theorem hd_X7_act : yX7_act.cls = RX7 ∧ yX7_act.cls ≠ "java/lang/invoke/MethodHandle" ∧ yX7_act.cls ≠ "java/lang/invoke/VarHandle" ∧ (parseMethodDescriptor yX7_act.desc).map (fun d => d.parameters.length) = some 2 := by decide +kernel
set_option maxRecDepth 100000 in
set_option maxHeartbeats 4000000 in
theorem c_X7_act (l : Launch) (D : va_G) (g : xG) (tb : List xQ) (hT : x_T g tb) {a1 : Int32} {a2 : Int32} (h0 : x_md tb) {M : xM} {r : Int32} {M' : xM} (hf : f_X7_act a1 a2 M = some (r, M')) :
    cI l D g tb yX7_act cX7_act 4 .int ({ frames := 3, cells := 0, slots := 0, locals := 72 } : Room) [.ref (g.1 5 2500), .int a1, .int a2] M r M' := by
  refine x_startI (own := RX7) (by decide +kernel) rfl rfl (Nat.le_of_ble_eq_true rfl) hT ?_
  intro p e s m args below meth c Q C0 hend
  unfold f_X7_act at hf
  refine r_aload_n C0 (kk := 0) 0 rfl dX7_act_0 ?_
  refine r_iload_n C0 (kk := 1) 1 rfl dX7_act_1 ?_
  refine r_iconst C0 (v := 4) dX7_act_2 rfl ?_
  obtain ⟨r3, M2, hc1, hf⟩ := bd2_e hf
  refine r_callVi C0 (As := [.int a1, .int 4]) (rest := []) (c_X7_by l D g tb hT h0 hc1) w6_103 w6_105 wp4_1 w1_14 w6_106 (x_rec5 C0 h0.1) hd_X7_by rfl ⟨rfl, rfl⟩ ⟨Nat.le_of_ble_eq_true rfl, Nat.le_of_ble_eq_true rfl⟩ (by decide) (by decide) rfl (Nat.le_of_ble_eq_true rfl) dX7_act_3 ?_
  refine r_iconst C0 (v := (-1)) dX7_act_6 rfl ?_
  refine r_icmp_eq C0 (tgt := 48) (by decide) dX7_act_7 (fun q4 => ?_) (fun q4 => ?_)
  · have hf := ie_t hf q4
    refine r_aload_n C0 (kk := 0) 0 rfl dX7_act_48 ?_
    refine r_iload_n C0 (kk := 1) 1 rfl dX7_act_49 ?_
    refine r_iload_n C0 (kk := 2) 2 rfl dX7_act_50 ?_
    obtain ⟨r7, M6, hc5, hf⟩ := bd2_e hf
    refine r_callVi C0 (As := [.int a1, .int a2]) (rest := []) (c_X7_target l D g tb hT h0 hc5) w6_175 w6_177 wp5_2 w1_14 w6_178 (x_rec5 C0 h0.1) hd_X7_target rfl ⟨rfl, rfl⟩ ⟨Nat.le_of_ble_eq_true rfl, Nat.le_of_ble_eq_true rfl⟩ (by decide) (by decide) rfl (Nat.le_of_ble_eq_true rfl) dX7_act_51 ?_
    refine r_istore_n C0 (kk := 3) (lv2 := [(3, .int r7), (0, .ref (g.1 5 2500)), (1, .int a1), (2, .int a2)]) (by decide) rfl dX7_act_54 ?_
    refine r_iload_n C0 (kk := 3) 0 rfl dX7_act_55 ?_
    refine r_iconst C0 (v := (-1)) dX7_act_56 rfl ?_
    refine r_icmp_eq C0 (tgt := 92) (by decide) dX7_act_57 (fun q8 => ?_) (fun q8 => ?_)
    · have hf := ie_t hf q8
      refine r_iconst C0 (v := 0) dX7_act_92 rfl ?_
      exact hend hf dX7_act_93
    · have hf := ie_f hf q8
      refine r_aload_n C0 (kk := 0) 1 rfl dX7_act_60 ?_
      refine r_iload_n C0 (kk := 1) 2 rfl dX7_act_61 ?_
      refine r_aload_n C0 (kk := 0) 1 rfl dX7_act_62 ?_
      refine r_iload_n C0 (kk := 3) 0 rfl dX7_act_63 ?_
      refine r_iconst C0 (v := 0) dX7_act_64 rfl ?_
      obtain ⟨r11, M10, hc9, hf⟩ := bd2_e hf
      refine r_callVi C0 (As := [.int r7, .int 0]) (rest := [.int a1, .ref (g.1 5 2500)]) (c_X7_st l D g tb hT h0 hc9) w6_111 w6_113 wp4_3 w1_14 w6_114 (x_rec5 C0 h0.1) hd_X7_st rfl ⟨rfl, rfl⟩ ⟨Nat.le_of_ble_eq_true rfl, Nat.le_of_ble_eq_true rfl⟩ (by decide) (by decide) rfl (Nat.le_of_ble_eq_true rfl) dX7_act_65 ?_
      obtain ⟨M13, hc12, hf⟩ := bd_e hf
      refine r_callVv C0 (As := [.int a1, .int r11]) (rest := []) (c_X7_walk l D g tb hT h0 hc12) w6_163 w6_165 wp5_0 w1_14 w6_166 (x_rec5 C0 h0.1) hd_X7_walk rfl ⟨rfl, rfl⟩ ⟨Nat.le_of_ble_eq_true rfl, Nat.le_of_ble_eq_true rfl⟩ (by decide) (by decide) rfl (Nat.le_of_ble_eq_true rfl) dX7_act_68 ?_
      refine r_aload_n C0 (kk := 0) 1 rfl dX7_act_71 ?_
      refine r_iload_n C0 (kk := 1) 2 rfl dX7_act_72 ?_
      refine r_iconst C0 (v := 0) dX7_act_73 rfl ?_
      obtain ⟨r16, M15, hc14, hf⟩ := bd2_e hf
      refine r_callVi C0 (As := [.int a1, .int 0]) (rest := []) (c_X7_by l D g tb hT h0 hc14) w6_103 w6_105 wp4_1 w1_14 w6_106 (x_rec5 C0 h0.1) hd_X7_by rfl ⟨rfl, rfl⟩ ⟨Nat.le_of_ble_eq_true rfl, Nat.le_of_ble_eq_true rfl⟩ (by decide) (by decide) rfl (Nat.le_of_ble_eq_true rfl) dX7_act_74 ?_
      refine r_aload_n C0 (kk := 0) 1 rfl dX7_act_77 ?_
      refine r_iload_n C0 (kk := 3) 0 rfl dX7_act_78 ?_
      refine r_iconst C0 (v := 0) dX7_act_79 rfl ?_
      obtain ⟨r19, M18, hc17, hf⟩ := bd2_e hf
      refine r_callVi C0 (As := [.int r7, .int 0]) (rest := [.int r16]) (c_X7_st l D g tb hT h0 hc17) w6_111 w6_113 wp4_3 w1_14 w6_114 (x_rec5 C0 h0.1) hd_X7_st rfl ⟨rfl, rfl⟩ ⟨Nat.le_of_ble_eq_true rfl, Nat.le_of_ble_eq_true rfl⟩ (by decide) (by decide) rfl (Nat.le_of_ble_eq_true rfl) dX7_act_80 ?_
      refine r_icmp_ne C0 (tgt := 92) (by decide) dX7_act_83 (fun q20 => ?_) (fun q20 => ?_)
      · have hf := ie_f hf q20
        refine r_iconst C0 (v := 0) dX7_act_92 rfl ?_
        exact hend hf dX7_act_93
      · have hf := ie_t hf q20
        refine r_aload_n C0 (kk := 0) 1 rfl dX7_act_86 ?_
        refine r_iload_n C0 (kk := 1) 2 rfl dX7_act_87 ?_
        refine r_iload_n C0 (kk := 3) 0 rfl dX7_act_88 ?_
        obtain ⟨M22, hc21, hf⟩ := bd_e hf
        refine r_callVv C0 (As := [.int a1, .int r7]) (rest := []) (c_X7_takes l D g tb hT h0 hc21) w6_189 w6_191 wp5_4 w1_14 w6_192 (x_rec5 C0 h0.1) hd_X7_takes rfl ⟨rfl, rfl⟩ ⟨Nat.le_of_ble_eq_true rfl, Nat.le_of_ble_eq_true rfl⟩ (by decide) (by decide) rfl (Nat.le_of_ble_eq_true rfl) dX7_act_89 ?_
        refine r_iconst C0 (v := 0) dX7_act_92 rfl ?_
        exact hend hf dX7_act_93
  · have hf := ie_f hf q4
    refine r_aload_n C0 (kk := 0) 0 rfl dX7_act_10 ?_
    refine r_iload_n C0 (kk := 1) 1 rfl dX7_act_11 ?_
    refine r_aload_n C0 (kk := 0) 0 rfl dX7_act_12 ?_
    refine r_get5 C0 h0.1 5 (by decide) (v := .ref (g.1 6 2520)) rfl rfl w6_221 dX7_act_13 ?_
    refine r_bipush C0 (v := 7) dX7_act_16 rfl ?_
    refine r_ialdc C0 h0.2.1 (z := 2527) (by decide) (by decide) dX7_act_18 ?_
    obtain ⟨M24, hc23, hf⟩ := bd_e hf
    refine r_callVv C0 (As := [.int a1, .int (M2 2527)]) (rest := []) (c_X7_walk l D g tb hT h0 hc23) w6_163 w6_165 wp5_0 w1_14 w6_166 (x_rec5 C0 h0.1) hd_X7_walk rfl ⟨rfl, rfl⟩ ⟨Nat.le_of_ble_eq_true rfl, Nat.le_of_ble_eq_true rfl⟩ (by decide) (by decide) rfl (Nat.le_of_ble_eq_true rfl) dX7_act_19 ?_
    refine r_aload_n C0 (kk := 0) 0 rfl dX7_act_22 ?_
    refine r_iload_n C0 (kk := 1) 1 rfl dX7_act_23 ?_
    refine r_iconst C0 (v := 0) dX7_act_24 rfl ?_
    obtain ⟨r27, M26, hc25, hf⟩ := bd2_e hf
    refine r_callVi C0 (As := [.int a1, .int 0]) (rest := []) (c_X7_by l D g tb hT h0 hc25) w6_103 w6_105 wp4_1 w1_14 w6_106 (x_rec5 C0 h0.1) hd_X7_by rfl ⟨rfl, rfl⟩ ⟨Nat.le_of_ble_eq_true rfl, Nat.le_of_ble_eq_true rfl⟩ (by decide) (by decide) rfl (Nat.le_of_ble_eq_true rfl) dX7_act_25 ?_
    refine r_aload_n C0 (kk := 0) 0 rfl dX7_act_28 ?_
    refine r_get5 C0 h0.1 5 (by decide) (v := .ref (g.1 6 2520)) rfl rfl w6_221 dX7_act_29 ?_
    refine r_bipush C0 (v := 7) dX7_act_32 rfl ?_
    refine r_ialdc C0 h0.2.1 (z := 2527) (by decide) (by decide) dX7_act_34 ?_
    refine r_icmp_ne C0 (tgt := 46) (by decide) dX7_act_35 (fun q28 => ?_) (fun q28 => ?_)
    · have hf := ie_f hf q28
      refine r_iconst C0 (v := 0) dX7_act_46 rfl ?_
      exact hend hf dX7_act_47
    · have hf := ie_t hf q28
      refine r_aload_n C0 (kk := 0) 0 rfl dX7_act_38 ?_
      refine r_iload_n C0 (kk := 1) 1 rfl dX7_act_39 ?_
      obtain ⟨r31, M30, hc29, hf⟩ := bd2_e hf
      refine r_callVi C0 (As := [.int a1]) (rest := []) (c_X7_pay l D g tb hT h0 hc29) w6_171 w6_173 wp5_1 w1_14 w6_174 (x_rec5 C0 h0.1) hd_X7_pay rfl ⟨rfl, rfl⟩ ⟨Nat.le_of_ble_eq_true rfl, Nat.le_of_ble_eq_true rfl⟩ (by decide) (by decide) rfl (Nat.le_of_ble_eq_true rfl) dX7_act_40 ?_
      refine r_goto C0 (tgt := 47) (by decide) dX7_act_43 ?_
      exact hend hf dX7_act_47
theorem dX7_passMinute_0 : decode cX7_passMinute 0 = .ok (.aload_n 0, 1) := by decide +kernel
theorem dX7_passMinute_1 : decode cX7_passMinute 1 = .ok (.aload_n 0, 1) := by decide +kernel
theorem dX7_passMinute_2 : decode cX7_passMinute 2 = .ok (.getfield 17, 3) := by decide +kernel
theorem dX7_passMinute_5 : decode cX7_passMinute 5 = .ok (.iconst 0, 1) := by decide +kernel
theorem dX7_passMinute_6 : decode cX7_passMinute 6 = .ok (.iaload, 1) := by decide +kernel
theorem dX7_passMinute_7 : decode cX7_passMinute 7 = .ok (.invokevirtual 124, 3) := by decide +kernel
theorem dX7_passMinute_10 : decode cX7_passMinute 10 = .ok (.istore_n 1, 1) := by decide +kernel
theorem dX7_passMinute_11 : decode cX7_passMinute 11 = .ok (.iconst 0, 1) := by decide +kernel
theorem dX7_passMinute_12 : decode cX7_passMinute 12 = .ok (.istore_n 2, 1) := by decide +kernel
theorem dX7_passMinute_13 : decode cX7_passMinute 13 = .ok (.aload_n 0, 1) := by decide +kernel
theorem dX7_passMinute_14 : decode cX7_passMinute 14 = .ok (.iload_n 1, 1) := by decide +kernel
theorem dX7_passMinute_15 : decode cX7_passMinute 15 = .ok (.invokevirtual 127, 3) := by decide +kernel
theorem dX7_passMinute_18 : decode cX7_passMinute 18 = .ok (.aload_n 0, 1) := by decide +kernel
theorem dX7_passMinute_19 : decode cX7_passMinute 19 = .ok (.getfield 17, 3) := by decide +kernel
theorem dX7_passMinute_22 : decode cX7_passMinute 22 = .ok (.iconst 1, 1) := by decide +kernel
theorem dX7_passMinute_23 : decode cX7_passMinute 23 = .ok (.iaload, 1) := by decide +kernel
theorem dX7_passMinute_24 : decode cX7_passMinute 24 = .ok (.iconst 1, 1) := by decide +kernel
theorem dX7_passMinute_25 : decode cX7_passMinute 25 = .ok (.if_icmp .ne 97, 3) := by decide +kernel
theorem dX7_passMinute_28 : decode cX7_passMinute 28 = .ok (.iconst 0, 1) := by decide +kernel
theorem dX7_passMinute_29 : decode cX7_passMinute 29 = .ok (.istore_n 3, 1) := by decide +kernel
theorem dX7_passMinute_30 : decode cX7_passMinute 30 = .ok (.iload_n 3, 1) := by decide +kernel
theorem dX7_passMinute_31 : decode cX7_passMinute 31 = .ok (.aload_n 0, 1) := by decide +kernel
theorem dX7_passMinute_32 : decode cX7_passMinute 32 = .ok (.getfield 17, 3) := by decide +kernel
theorem dX7_passMinute_35 : decode cX7_passMinute 35 = .ok (.bipush 10, 2) := by decide +kernel
theorem dX7_passMinute_37 : decode cX7_passMinute 37 = .ok (.iaload, 1) := by decide +kernel
theorem dX7_passMinute_38 : decode cX7_passMinute 38 = .ok (.if_icmp .ge 18, 3) := by decide +kernel
theorem dX7_passMinute_41 : decode cX7_passMinute 41 = .ok (.iload_n 2, 1) := by decide +kernel
theorem dX7_passMinute_42 : decode cX7_passMinute 42 = .ok (.aload_n 0, 1) := by decide +kernel
theorem dX7_passMinute_43 : decode cX7_passMinute 43 = .ok (.iload_n 3, 1) := by decide +kernel
theorem dX7_passMinute_44 : decode cX7_passMinute 44 = .ok (.iload_n 1, 1) := by decide +kernel
theorem dX7_passMinute_45 : decode cX7_passMinute 45 = .ok (.invokevirtual 130, 3) := by decide +kernel
theorem dX7_passMinute_48 : decode cX7_passMinute 48 = .ok (.iadd, 1) := by decide +kernel
theorem dX7_passMinute_49 : decode cX7_passMinute 49 = .ok (.istore_n 2, 1) := by decide +kernel
theorem dX7_passMinute_50 : decode cX7_passMinute 50 = .ok (.iinc 3 1, 3) := by decide +kernel
theorem dX7_passMinute_53 : decode cX7_passMinute 53 = .ok (.goto (-23), 3) := by decide +kernel
theorem dX7_passMinute_56 : decode cX7_passMinute 56 = .ok (.iconst 0, 1) := by decide +kernel
theorem dX7_passMinute_57 : decode cX7_passMinute 57 = .ok (.istore_n 3, 1) := by decide +kernel
theorem dX7_passMinute_58 : decode cX7_passMinute 58 = .ok (.iload_n 3, 1) := by decide +kernel
theorem dX7_passMinute_59 : decode cX7_passMinute 59 = .ok (.aload_n 0, 1) := by decide +kernel
theorem dX7_passMinute_60 : decode cX7_passMinute 60 = .ok (.getfield 17, 3) := by decide +kernel
theorem dX7_passMinute_63 : decode cX7_passMinute 63 = .ok (.bipush 9, 2) := by decide +kernel
theorem dX7_passMinute_65 : decode cX7_passMinute 65 = .ok (.iaload, 1) := by decide +kernel
theorem dX7_passMinute_66 : decode cX7_passMinute 66 = .ok (.if_icmp .ge 46, 3) := by decide +kernel
theorem dX7_passMinute_69 : decode cX7_passMinute 69 = .ok (.aload_n 0, 1) := by decide +kernel
theorem dX7_passMinute_70 : decode cX7_passMinute 70 = .ok (.iload_n 3, 1) := by decide +kernel
theorem dX7_passMinute_71 : decode cX7_passMinute 71 = .ok (.iconst 4, 1) := by decide +kernel
theorem dX7_passMinute_72 : decode cX7_passMinute 72 = .ok (.invokevirtual 63, 3) := by decide +kernel
theorem dX7_passMinute_75 : decode cX7_passMinute 75 = .ok (.ifCond .le 31, 3) := by decide +kernel
theorem dX7_passMinute_78 : decode cX7_passMinute 78 = .ok (.iload_n 1, 1) := by decide +kernel
theorem dX7_passMinute_79 : decode cX7_passMinute 79 = .ok (.aload_n 0, 1) := by decide +kernel
theorem dX7_passMinute_80 : decode cX7_passMinute 80 = .ok (.iload_n 3, 1) := by decide +kernel
theorem dX7_passMinute_81 : decode cX7_passMinute 81 = .ok (.iconst 1, 1) := by decide +kernel
theorem dX7_passMinute_82 : decode cX7_passMinute 82 = .ok (.invokevirtual 63, 3) := by decide +kernel
theorem dX7_passMinute_85 : decode cX7_passMinute 85 = .ok (.invokestatic 133, 3) := by decide +kernel
theorem dX7_passMinute_88 : decode cX7_passMinute 88 = .ok (.if_icmp .le 18, 3) := by decide +kernel
theorem dX7_passMinute_91 : decode cX7_passMinute 91 = .ok (.aload_n 0, 1) := by decide +kernel
theorem dX7_passMinute_92 : decode cX7_passMinute 92 = .ok (.iload_n 3, 1) := by decide +kernel
theorem dX7_passMinute_93 : decode cX7_passMinute 93 = .ok (.iconst 4, 1) := by decide +kernel
theorem dX7_passMinute_94 : decode cX7_passMinute 94 = .ok (.iconst (-1), 1) := by decide +kernel
theorem dX7_passMinute_95 : decode cX7_passMinute 95 = .ok (.invokevirtual 84, 3) := by decide +kernel
theorem dX7_passMinute_98 : decode cX7_passMinute 98 = .ok (.aload_n 0, 1) := by decide +kernel
theorem dX7_passMinute_99 : decode cX7_passMinute 99 = .ok (.iload_n 3, 1) := by decide +kernel
theorem dX7_passMinute_100 : decode cX7_passMinute 100 = .ok (.bipush 6, 2) := by decide +kernel
theorem dX7_passMinute_102 : decode cX7_passMinute 102 = .ok (.iconst 1, 1) := by decide +kernel
theorem dX7_passMinute_103 : decode cX7_passMinute 103 = .ok (.invokevirtual 84, 3) := by decide +kernel
theorem dX7_passMinute_106 : decode cX7_passMinute 106 = .ok (.iinc 3 1, 3) := by decide +kernel
theorem dX7_passMinute_109 : decode cX7_passMinute 109 = .ok (.goto (-51), 3) := by decide +kernel
theorem dX7_passMinute_112 : decode cX7_passMinute 112 = .ok (.aload_n 0, 1) := by decide +kernel
theorem dX7_passMinute_113 : decode cX7_passMinute 113 = .ok (.getfield 17, 3) := by decide +kernel
theorem dX7_passMinute_116 : decode cX7_passMinute 116 = .ok (.iconst 3, 1) := by decide +kernel
theorem dX7_passMinute_117 : decode cX7_passMinute 117 = .ok (.dup2, 1) := by decide +kernel
theorem dX7_passMinute_118 : decode cX7_passMinute 118 = .ok (.iaload, 1) := by decide +kernel
theorem dX7_passMinute_119 : decode cX7_passMinute 119 = .ok (.iconst 1, 1) := by decide +kernel
theorem dX7_passMinute_120 : decode cX7_passMinute 120 = .ok (.iadd, 1) := by decide +kernel
theorem dX7_passMinute_121 : decode cX7_passMinute 121 = .ok (.iastore, 1) := by decide +kernel
theorem dX7_passMinute_122 : decode cX7_passMinute 122 = .ok (.aload_n 0, 1) := by decide +kernel
theorem dX7_passMinute_123 : decode cX7_passMinute 123 = .ok (.getfield 17, 3) := by decide +kernel
theorem dX7_passMinute_126 : decode cX7_passMinute 126 = .ok (.iconst 0, 1) := by decide +kernel
theorem dX7_passMinute_127 : decode cX7_passMinute 127 = .ok (.dup2, 1) := by decide +kernel
theorem dX7_passMinute_128 : decode cX7_passMinute 128 = .ok (.iaload, 1) := by decide +kernel
theorem dX7_passMinute_129 : decode cX7_passMinute 129 = .ok (.iconst 1, 1) := by decide +kernel
theorem dX7_passMinute_130 : decode cX7_passMinute 130 = .ok (.iadd, 1) := by decide +kernel
theorem dX7_passMinute_131 : decode cX7_passMinute 131 = .ok (.iastore, 1) := by decide +kernel
theorem dX7_passMinute_132 : decode cX7_passMinute 132 = .ok (.iload_n 2, 1) := by decide +kernel
theorem dX7_passMinute_133 : decode cX7_passMinute 133 = .ok (.ireturn, 1) := by decide +kernel
theorem hd_X7_passMinute : yX7_passMinute.cls = RX7 ∧ yX7_passMinute.cls ≠ "java/lang/invoke/MethodHandle" ∧ yX7_passMinute.cls ≠ "java/lang/invoke/VarHandle" ∧ (parseMethodDescriptor yX7_passMinute.desc).map (fun d => d.parameters.length) = some 0 := by decide +kernel
set_option maxRecDepth 100000 in
set_option maxHeartbeats 4000000 in
theorem c_X7_passMinute (l : Launch) (D : va_G) (g : xG) (tb : List xQ) (hT : x_T g tb)  (h0 : x_md tb) {M : xM} {r : Int32} {M' : xM} (hf : f_X7_passMinute  M = some (r, M')) :
    cI l D g tb yX7_passMinute cX7_passMinute 4 .int ({ frames := 4, cells := 0, slots := 0, locals := 95 } : Room) [.ref (g.1 5 2500)] M r M' := by
  refine x_startI (own := RX7) (by decide +kernel) rfl rfl (Nat.le_of_ble_eq_true rfl) hT ?_
  intro p e s m args below meth c Q C0 hend
  have B106 : ∀ (k58 : Int32 → Int32 → Int32 → xM → Option (Int32 × xM)) (hk58 : ∀ (v1 : Int32) (v2 : Int32) (v3 : Int32)  (M : xM), k58 v1 v2 v3 M = some (r, M') → WW p l e ({ frames := 4, cells := 0, slots := 0, locals := 95 } : Room) s m args below meth c 0 0 Q 4 D g tb 58 [(0, .ref (g.1 5 2500)), (1, .int v1), (2, .int v2), (3, .int v3)] [] M), ∀ (v1 : Int32) (v2 : Int32) (v3 : Int32)  (M : xM), f_X7_passMinute_c106 k58  v1 v2 v3 M = some (r, M') → WW p l e ({ frames := 4, cells := 0, slots := 0, locals := 95 } : Room) s m args below meth c 0 0 Q 4 D g tb 106 [(0, .ref (g.1 5 2500)), (1, .int v1), (2, .int v2), (3, .int v3)] [] M := by
    intro k58 hk58 v1 v2 v3  M hf
    unfold f_X7_passMinute_c106 at hf
    refine r_iincc C0 3 rfl (k0 := 1) (by decide) (by decide) (lv2 := [(3, .int (v3 + 1)), (0, .ref (g.1 5 2500)), (1, .int v1), (2, .int v2)]) rfl dX7_passMinute_106 ?_
    refine r_goto C0 (tgt := 58) (by decide) dX7_passMinute_109 ?_
    refine WW.sub [1, 2, 3, 0] rfl ?_
    exact hk58 _ _ _   _ hf
  have B122 : ∀ (v2 : Int32)  (M : xM), f_X7_passMinute_c122   v2 M = some (r, M') → WW p l e ({ frames := 4, cells := 0, slots := 0, locals := 95 } : Room) s m args below meth c 0 0 Q 4 D g tb 122 [(0, .ref (g.1 5 2500)), (2, .int v2)] [] M := by
    intro   v2  M hf
    unfold f_X7_passMinute_c122 at hf
    refine r_aload_n C0 (kk := 0) 0 rfl dX7_passMinute_122 ?_
    refine r_get5 C0 h0.1 5 (by decide) (v := .ref (g.1 6 2520)) rfl rfl w6_221 dX7_passMinute_123 ?_
    refine r_iconst C0 (v := 0) dX7_passMinute_126 rfl ?_
    refine r_dup2 C0 rfl rfl dX7_passMinute_127 ?_
    refine r_ialdc C0 h0.2.1 (z := 2520) (by decide) (by decide) dX7_passMinute_128 ?_
    refine r_iconst C0 (v := 1) dX7_passMinute_129 rfl ?_
    refine r_iadd C0 dX7_passMinute_130 ?_
    refine r_iastc C0 h0.2.1 (z := 2520) (by decide) (by decide) dX7_passMinute_131 ?_
    refine r_iload_n C0 (kk := 2) 1 rfl dX7_passMinute_132 ?_
    exact hend hf dX7_passMinute_133
  have B58 : ∀ (k58 : Int32 → Int32 → Int32 → xM → Option (Int32 × xM)) (hk58 : ∀ (v1 : Int32) (v2 : Int32) (v3 : Int32)  (M : xM), k58 v1 v2 v3 M = some (r, M') → WW p l e ({ frames := 4, cells := 0, slots := 0, locals := 95 } : Room) s m args below meth c 0 0 Q 4 D g tb 58 [(0, .ref (g.1 5 2500)), (1, .int v1), (2, .int v2), (3, .int v3)] [] M), ∀ (v1 : Int32) (v2 : Int32) (v3 : Int32)  (M : xM), fb_X7_passMinute_c58 k58  v1 v2 v3 M = some (r, M') → WW p l e ({ frames := 4, cells := 0, slots := 0, locals := 95 } : Room) s m args below meth c 0 0 Q 4 D g tb 58 [(0, .ref (g.1 5 2500)), (1, .int v1), (2, .int v2), (3, .int v3)] [] M := by
    intro k58 hk58 v1 v2 v3  M hf
    unfold fb_X7_passMinute_c58 at hf
    refine r_iload_n C0 (kk := 3) 3 rfl dX7_passMinute_58 ?_
    refine r_aload_n C0 (kk := 0) 0 rfl dX7_passMinute_59 ?_
    refine r_get5 C0 h0.1 5 (by decide) (v := .ref (g.1 6 2520)) rfl rfl w6_221 dX7_passMinute_60 ?_
    refine r_bipush C0 (v := 9) dX7_passMinute_63 rfl ?_
    refine r_ialdc C0 h0.2.1 (z := 2529) (by decide) (by decide) dX7_passMinute_65 ?_
    refine r_icmp_ge C0 (tgt := 112) (by decide) dX7_passMinute_66 (fun q11 => ?_) (fun q11 => ?_)
    · have hf := ie_t hf q11
      refine r_aload_n C0 (kk := 0) 0 rfl dX7_passMinute_112 ?_
      refine r_get5 C0 h0.1 5 (by decide) (v := .ref (g.1 6 2520)) rfl rfl w6_221 dX7_passMinute_113 ?_
      refine r_iconst C0 (v := 3) dX7_passMinute_116 rfl ?_
      refine r_dup2 C0 rfl rfl dX7_passMinute_117 ?_
      refine r_ialdc C0 h0.2.1 (z := 2523) (by decide) (by decide) dX7_passMinute_118 ?_
      refine r_iconst C0 (v := 1) dX7_passMinute_119 rfl ?_
      refine r_iadd C0 dX7_passMinute_120 ?_
      refine r_iastc C0 h0.2.1 (z := 2523) (by decide) (by decide) dX7_passMinute_121 ?_
      refine WW.sub [0, 2] rfl ?_
      exact B122   _   _ hf
    · have hf := ie_f hf q11
      refine r_aload_n C0 (kk := 0) 0 rfl dX7_passMinute_69 ?_
      refine r_iload_n C0 (kk := 3) 3 rfl dX7_passMinute_70 ?_
      refine r_iconst C0 (v := 4) dX7_passMinute_71 rfl ?_
      obtain ⟨r14, M13, hc12, hf⟩ := bd2_e hf
      refine r_callVi C0 (As := [.int v3, .int 4]) (rest := []) (c_X7_st l D g tb hT h0 hc12) w6_111 w6_113 wp4_3 w1_14 w6_114 (x_rec5 C0 h0.1) hd_X7_st rfl ⟨rfl, rfl⟩ ⟨Nat.le_of_ble_eq_true rfl, Nat.le_of_ble_eq_true rfl⟩ (by decide) (by decide) rfl (Nat.le_of_ble_eq_true rfl) dX7_passMinute_72 ?_
      refine r_if_le C0 (tgt := 106) (by decide) dX7_passMinute_75 (fun q15 => ?_) (fun q15 => ?_)
      · have hf := ie_t hf q15
        exact B106 k58 hk58 _ _ _   _ hf
      · have hf := ie_f hf q15
        refine r_iload_n C0 (kk := 1) 1 rfl dX7_passMinute_78 ?_
        refine r_aload_n C0 (kk := 0) 0 rfl dX7_passMinute_79 ?_
        refine r_iload_n C0 (kk := 3) 3 rfl dX7_passMinute_80 ?_
        refine r_iconst C0 (v := 1) dX7_passMinute_81 rfl ?_
        obtain ⟨r18, M17, hc16, hf⟩ := bd2_e hf
        refine r_callVi C0 (As := [.int v3, .int 1]) (rest := [.int v1]) (c_X7_st l D g tb hT h0 hc16) w6_111 w6_113 wp4_3 w1_14 w6_114 (x_rec5 C0 h0.1) hd_X7_st rfl ⟨rfl, rfl⟩ ⟨Nat.le_of_ble_eq_true rfl, Nat.le_of_ble_eq_true rfl⟩ (by decide) (by decide) rfl (Nat.le_of_ble_eq_true rfl) dX7_passMinute_82 ?_
        obtain ⟨r21, M20, hc19, hf⟩ := bd2_e hf
        refine r_callSi C0 (As := [.int r18]) (rest := [.int v1]) (c_X7_guardOf l D g tb hT  hc19) w6_197 w6_198 w1_14 w6_199 hd_X7_guardOf rfl ⟨rfl, rfl⟩ ⟨Nat.le_of_ble_eq_true rfl, Nat.le_of_ble_eq_true rfl⟩ (by decide) (by decide) rfl (Nat.le_of_ble_eq_true rfl) dX7_passMinute_85 ?_
        refine r_icmp_le C0 (tgt := 106) (by decide) dX7_passMinute_88 (fun q22 => ?_) (fun q22 => ?_)
        · have hf := ie_t hf q22
          exact B106 k58 hk58 _ _ _   _ hf
        · have hf := ie_f hf q22
          refine r_aload_n C0 (kk := 0) 0 rfl dX7_passMinute_91 ?_
          refine r_iload_n C0 (kk := 3) 3 rfl dX7_passMinute_92 ?_
          refine r_iconst C0 (v := 4) dX7_passMinute_93 rfl ?_
          refine r_iconst C0 (v := (-1)) dX7_passMinute_94 rfl ?_
          obtain ⟨M24, hc23, hf⟩ := bd_e hf
          refine r_callVv C0 (As := [.int v3, .int 4, .int (-1)]) (rest := []) (c_X7_more l D g tb hT h0 hc23) w6_123 w6_125 wp4_6 w1_14 w6_126 (x_rec5 C0 h0.1) hd_X7_more rfl ⟨rfl, rfl⟩ ⟨Nat.le_of_ble_eq_true rfl, Nat.le_of_ble_eq_true rfl⟩ (by decide) (by decide) rfl (Nat.le_of_ble_eq_true rfl) dX7_passMinute_95 ?_
          refine r_aload_n C0 (kk := 0) 0 rfl dX7_passMinute_98 ?_
          refine r_iload_n C0 (kk := 3) 3 rfl dX7_passMinute_99 ?_
          refine r_bipush C0 (v := 6) dX7_passMinute_100 rfl ?_
          refine r_iconst C0 (v := 1) dX7_passMinute_102 rfl ?_
          obtain ⟨M26, hc25, hf⟩ := bd_e hf
          refine r_callVv C0 (As := [.int v3, .int 6, .int 1]) (rest := []) (c_X7_more l D g tb hT h0 hc25) w6_123 w6_125 wp4_6 w1_14 w6_126 (x_rec5 C0 h0.1) hd_X7_more rfl ⟨rfl, rfl⟩ ⟨Nat.le_of_ble_eq_true rfl, Nat.le_of_ble_eq_true rfl⟩ (by decide) (by decide) rfl (Nat.le_of_ble_eq_true rfl) dX7_passMinute_103 ?_
          exact B106 k58 hk58 _ _ _   _ hf
  have L58 : ∀ (v1 : Int32) (v2 : Int32) (v3 : Int32)  (M : xM), f_X7_passMinute_c58   v1 v2 v3 M = some (r, M') → WW p l e ({ frames := 4, cells := 0, slots := 0, locals := 95 } : Room) s m args below meth c 0 0 Q 4 D g tb 58 [(0, .ref (g.1 5 2500)), (1, .int v1), (2, .int v2), (3, .int v3)] [] M := lp_ind (P := fun f => ∀ (v1 : Int32) (v2 : Int32) (v3 : Int32)  (M : xM), f v1 v2 v3 M = some (r, M') → WW p l e ({ frames := 4, cells := 0, slots := 0, locals := 95 } : Room) s m args below meth c 0 0 Q 4 D g tb 58 [(0, .ref (g.1 5 2500)), (1, .int v1), (2, .int v2), (3, .int v3)] [] M) (fun _ _ _ _ h => none_ne h) (fun f hf => B58 f hf) FU
  have B30 : ∀ (k30 : Int32 → Int32 → Int32 → xM → Option (Int32 × xM)) (hk30 : ∀ (v1 : Int32) (v2 : Int32) (v3 : Int32)  (M : xM), k30 v1 v2 v3 M = some (r, M') → WW p l e ({ frames := 4, cells := 0, slots := 0, locals := 95 } : Room) s m args below meth c 0 0 Q 4 D g tb 30 [(0, .ref (g.1 5 2500)), (1, .int v1), (2, .int v2), (3, .int v3)] [] M), ∀ (v1 : Int32) (v2 : Int32) (v3 : Int32)  (M : xM), fb_X7_passMinute_c30 k30  v1 v2 v3 M = some (r, M') → WW p l e ({ frames := 4, cells := 0, slots := 0, locals := 95 } : Room) s m args below meth c 0 0 Q 4 D g tb 30 [(0, .ref (g.1 5 2500)), (1, .int v1), (2, .int v2), (3, .int v3)] [] M := by
    intro k30 hk30 v1 v2 v3  M hf
    unfold fb_X7_passMinute_c30 at hf
    refine r_iload_n C0 (kk := 3) 3 rfl dX7_passMinute_30 ?_
    refine r_aload_n C0 (kk := 0) 0 rfl dX7_passMinute_31 ?_
    refine r_get5 C0 h0.1 5 (by decide) (v := .ref (g.1 6 2520)) rfl rfl w6_221 dX7_passMinute_32 ?_
    refine r_bipush C0 (v := 10) dX7_passMinute_35 rfl ?_
    refine r_ialdc C0 h0.2.1 (z := 2530) (by decide) (by decide) dX7_passMinute_37 ?_
    refine r_icmp_ge C0 (tgt := 56) (by decide) dX7_passMinute_38 (fun q7 => ?_) (fun q7 => ?_)
    · have hf := ie_t hf q7
      refine r_iconst C0 (v := 0) dX7_passMinute_56 rfl ?_
      refine r_istore_n C0 (kk := 3) (lv2 := [(3, .int 0), (0, .ref (g.1 5 2500)), (1, .int v1), (2, .int v2)]) (by decide) rfl dX7_passMinute_57 ?_
      refine WW.sub [1, 2, 3, 0] rfl ?_
      exact L58   _ _ _   _ hf
    · have hf := ie_f hf q7
      refine r_iload_n C0 (kk := 2) 2 rfl dX7_passMinute_41 ?_
      refine r_aload_n C0 (kk := 0) 0 rfl dX7_passMinute_42 ?_
      refine r_iload_n C0 (kk := 3) 3 rfl dX7_passMinute_43 ?_
      refine r_iload_n C0 (kk := 1) 1 rfl dX7_passMinute_44 ?_
      obtain ⟨r10, M9, hc8, hf⟩ := bd2_e hf
      refine r_callVi C0 (As := [.int v3, .int v1]) (rest := [.int v2]) (c_X7_act l D g tb hT h0 hc8) w6_159 w6_161 wp4_15 w1_14 w6_162 (x_rec5 C0 h0.1) hd_X7_act rfl ⟨rfl, rfl⟩ ⟨Nat.le_of_ble_eq_true rfl, Nat.le_of_ble_eq_true rfl⟩ (by decide) (by decide) rfl (Nat.le_of_ble_eq_true rfl) dX7_passMinute_45 ?_
      refine r_iadd C0 dX7_passMinute_48 ?_
      refine r_istore_n C0 (kk := 2) (lv2 := [(2, .int (v2 + r10)), (0, .ref (g.1 5 2500)), (1, .int v1), (3, .int v3)]) (by decide) rfl dX7_passMinute_49 ?_
      refine r_iincc C0 3 rfl (k0 := 1) (by decide) (by decide) (lv2 := [(3, .int (v3 + 1)), (2, .int (v2 + r10)), (0, .ref (g.1 5 2500)), (1, .int v1)]) rfl dX7_passMinute_50 ?_
      refine r_goto C0 (tgt := 30) (by decide) dX7_passMinute_53 ?_
      refine WW.sub [2, 3, 1, 0] rfl ?_
      exact hk30 _ _ _   _ hf
  have L30 : ∀ (v1 : Int32) (v2 : Int32) (v3 : Int32)  (M : xM), f_X7_passMinute_c30   v1 v2 v3 M = some (r, M') → WW p l e ({ frames := 4, cells := 0, slots := 0, locals := 95 } : Room) s m args below meth c 0 0 Q 4 D g tb 30 [(0, .ref (g.1 5 2500)), (1, .int v1), (2, .int v2), (3, .int v3)] [] M := lp_ind (P := fun f => ∀ (v1 : Int32) (v2 : Int32) (v3 : Int32)  (M : xM), f v1 v2 v3 M = some (r, M') → WW p l e ({ frames := 4, cells := 0, slots := 0, locals := 95 } : Room) s m args below meth c 0 0 Q 4 D g tb 30 [(0, .ref (g.1 5 2500)), (1, .int v1), (2, .int v2), (3, .int v3)] [] M) (fun _ _ _ _ h => none_ne h) (fun f hf => B30 f hf) FU
  unfold f_X7_passMinute at hf
  refine r_aload_n C0 (kk := 0) 0 rfl dX7_passMinute_0 ?_
  refine r_aload_n C0 (kk := 0) 0 rfl dX7_passMinute_1 ?_
  refine r_get5 C0 h0.1 5 (by decide) (v := .ref (g.1 6 2520)) rfl rfl w6_221 dX7_passMinute_2 ?_
  refine r_iconst C0 (v := 0) dX7_passMinute_5 rfl ?_
  refine r_ialdc C0 h0.2.1 (z := 2520) (by decide) (by decide) dX7_passMinute_6 ?_
  obtain ⟨r3, M2, hc1, hf⟩ := bd2_e hf
  refine r_callVi C0 (As := [.int (M 2520)]) (rest := []) (c_X7_fogAt l D g tb hT h0 hc1) w6_143 w6_145 wp4_11 w1_14 w6_146 (x_rec5 C0 h0.1) hd_X7_fogAt rfl ⟨rfl, rfl⟩ ⟨Nat.le_of_ble_eq_true rfl, Nat.le_of_ble_eq_true rfl⟩ (by decide) (by decide) rfl (Nat.le_of_ble_eq_true rfl) dX7_passMinute_7 ?_
  refine r_istore_n C0 (kk := 1) (lv2 := [(1, .int r3), (0, .ref (g.1 5 2500))]) (by decide) rfl dX7_passMinute_10 ?_
  refine r_iconst C0 (v := 0) dX7_passMinute_11 rfl ?_
  refine r_istore_n C0 (kk := 2) (lv2 := [(2, .int 0), (1, .int r3), (0, .ref (g.1 5 2500))]) (by decide) rfl dX7_passMinute_12 ?_
  refine r_aload_n C0 (kk := 0) 2 rfl dX7_passMinute_13 ?_
  refine r_iload_n C0 (kk := 1) 1 rfl dX7_passMinute_14 ?_
  obtain ⟨M5, hc4, hf⟩ := bd_e hf
  refine r_callVv C0 (As := [.int r3]) (rest := []) (c_X7_stepBell l D g tb hT h0 hc4) w6_147 w6_149 wp4_12 w1_14 w6_150 (x_rec5 C0 h0.1) hd_X7_stepBell rfl ⟨rfl, rfl⟩ ⟨Nat.le_of_ble_eq_true rfl, Nat.le_of_ble_eq_true rfl⟩ (by decide) (by decide) rfl (Nat.le_of_ble_eq_true rfl) dX7_passMinute_15 ?_
  refine r_aload_n C0 (kk := 0) 2 rfl dX7_passMinute_18 ?_
  refine r_get5 C0 h0.1 5 (by decide) (v := .ref (g.1 6 2520)) rfl rfl w6_221 dX7_passMinute_19 ?_
  refine r_iconst C0 (v := 1) dX7_passMinute_22 rfl ?_
  refine r_ialdc C0 h0.2.1 (z := 2521) (by decide) (by decide) dX7_passMinute_23 ?_
  refine r_iconst C0 (v := 1) dX7_passMinute_24 rfl ?_
  refine r_icmp_ne C0 (tgt := 122) (by decide) dX7_passMinute_25 (fun q6 => ?_) (fun q6 => ?_)
  · have hf := ie_f hf q6
    refine WW.sub [2, 0] rfl ?_
    exact B122   _   _ hf
  · have hf := ie_t hf q6
    refine r_iconst C0 (v := 0) dX7_passMinute_28 rfl ?_
    refine r_istore_n C0 (kk := 3) (lv2 := [(3, .int 0), (2, .int 0), (1, .int r3), (0, .ref (g.1 5 2500))]) (by decide) rfl dX7_passMinute_29 ?_
    refine WW.sub [3, 2, 1, 0] rfl ?_
    exact L30   _ _ _   _ hf
theorem dX7_minutesTo_0 : decode cX7_minutesTo 0 = .ok (.aload_n 0, 1) := by decide +kernel
theorem dX7_minutesTo_1 : decode cX7_minutesTo 1 = .ok (.invokevirtual 283, 3) := by decide +kernel
theorem dX7_minutesTo_4 : decode cX7_minutesTo 4 = .ok (.iconst (-1), 1) := by decide +kernel
theorem dX7_minutesTo_5 : decode cX7_minutesTo 5 = .ok (.istore_n 2, 1) := by decide +kernel
theorem dX7_minutesTo_6 : decode cX7_minutesTo 6 = .ok (.iconst 0, 1) := by decide +kernel
theorem dX7_minutesTo_7 : decode cX7_minutesTo 7 = .ok (.istore_n 3, 1) := by decide +kernel
theorem dX7_minutesTo_8 : decode cX7_minutesTo 8 = .ok (.iload_n 3, 1) := by decide +kernel
theorem dX7_minutesTo_9 : decode cX7_minutesTo 9 = .ok (.sipush 200, 3) := by decide +kernel
theorem dX7_minutesTo_12 : decode cX7_minutesTo 12 = .ok (.if_icmp .gt 68, 3) := by decide +kernel
theorem dX7_minutesTo_15 : decode cX7_minutesTo 15 = .ok (.iload_n 2, 1) := by decide +kernel
theorem dX7_minutesTo_16 : decode cX7_minutesTo 16 = .ok (.iconst (-1), 1) := by decide +kernel
theorem dX7_minutesTo_17 : decode cX7_minutesTo 17 = .ok (.if_icmp .ne 63, 3) := by decide +kernel
theorem dX7_minutesTo_20 : decode cX7_minutesTo 20 = .ok (.aload_n 0, 1) := by decide +kernel
theorem dX7_minutesTo_21 : decode cX7_minutesTo 21 = .ok (.getfield 17, 3) := by decide +kernel
theorem dX7_minutesTo_24 : decode cX7_minutesTo 24 = .ok (.iconst 4, 1) := by decide +kernel
theorem dX7_minutesTo_25 : decode cX7_minutesTo 25 = .ok (.iaload, 1) := by decide +kernel
theorem dX7_minutesTo_26 : decode cX7_minutesTo 26 = .ok (.istore 4, 2) := by decide +kernel
theorem dX7_minutesTo_28 : decode cX7_minutesTo 28 = .ok (.aload_n 0, 1) := by decide +kernel
theorem dX7_minutesTo_29 : decode cX7_minutesTo 29 = .ok (.invokevirtual 136, 3) := by decide +kernel
theorem dX7_minutesTo_32 : decode cX7_minutesTo 32 = .ok (.istore 5, 2) := by decide +kernel
theorem dX7_minutesTo_34 : decode cX7_minutesTo 34 = .ok (.iload_n 1, 1) := by decide +kernel
theorem dX7_minutesTo_35 : decode cX7_minutesTo 35 = .ok (.ifCond .eq 10, 3) := by decide +kernel
theorem dX7_minutesTo_38 : decode cX7_minutesTo 38 = .ok (.aload_n 0, 1) := by decide +kernel
theorem dX7_minutesTo_39 : decode cX7_minutesTo 39 = .ok (.getfield 91, 3) := by decide +kernel
theorem dX7_minutesTo_42 : decode cX7_minutesTo 42 = .ok (.goto 19, 3) := by decide +kernel
theorem dX7_minutesTo_45 : decode cX7_minutesTo 45 = .ok (.aload_n 0, 1) := by decide +kernel
theorem dX7_minutesTo_46 : decode cX7_minutesTo 46 = .ok (.getfield 17, 3) := by decide +kernel
theorem dX7_minutesTo_49 : decode cX7_minutesTo 49 = .ok (.iconst 4, 1) := by decide +kernel
theorem dX7_minutesTo_50 : decode cX7_minutesTo 50 = .ok (.iaload, 1) := by decide +kernel
theorem dX7_minutesTo_51 : decode cX7_minutesTo 51 = .ok (.iload 4, 2) := by decide +kernel
theorem dX7_minutesTo_53 : decode cX7_minutesTo 53 = .ok (.if_icmp .le 7, 3) := by decide +kernel
theorem dX7_minutesTo_56 : decode cX7_minutesTo 56 = .ok (.iconst 1, 1) := by decide +kernel
theorem dX7_minutesTo_57 : decode cX7_minutesTo 57 = .ok (.goto 4, 3) := by decide +kernel
theorem dX7_minutesTo_60 : decode cX7_minutesTo 60 = .ok (.iconst 0, 1) := by decide +kernel
theorem dX7_minutesTo_61 : decode cX7_minutesTo 61 = .ok (.istore 6, 2) := by decide +kernel
theorem dX7_minutesTo_63 : decode cX7_minutesTo 63 = .ok (.iload 6, 2) := by decide +kernel
theorem dX7_minutesTo_65 : decode cX7_minutesTo 65 = .ok (.ifCond .eq 7, 3) := by decide +kernel
theorem dX7_minutesTo_68 : decode cX7_minutesTo 68 = .ok (.iload_n 3, 1) := by decide +kernel
theorem dX7_minutesTo_69 : decode cX7_minutesTo 69 = .ok (.goto 4, 3) := by decide +kernel
theorem dX7_minutesTo_72 : decode cX7_minutesTo 72 = .ok (.iconst (-1), 1) := by decide +kernel
theorem dX7_minutesTo_73 : decode cX7_minutesTo 73 = .ok (.istore_n 2, 1) := by decide +kernel
theorem dX7_minutesTo_74 : decode cX7_minutesTo 74 = .ok (.iinc 3 1, 3) := by decide +kernel
theorem dX7_minutesTo_77 : decode cX7_minutesTo 77 = .ok (.goto (-69), 3) := by decide +kernel
theorem dX7_minutesTo_80 : decode cX7_minutesTo 80 = .ok (.aload_n 0, 1) := by decide +kernel
theorem dX7_minutesTo_81 : decode cX7_minutesTo 81 = .ok (.iload_n 2, 1) := by decide +kernel
theorem dX7_minutesTo_82 : decode cX7_minutesTo 82 = .ok (.invokevirtual 292, 3) := by decide +kernel
theorem dX7_minutesTo_85 : decode cX7_minutesTo 85 = .ok (.ireturn, 1) := by decide +kernel
theorem hd_X7_minutesTo : yX7_minutesTo.cls = RX7 ∧ yX7_minutesTo.cls ≠ "java/lang/invoke/MethodHandle" ∧ yX7_minutesTo.cls ≠ "java/lang/invoke/VarHandle" ∧ (parseMethodDescriptor yX7_minutesTo.desc).map (fun d => d.parameters.length) = some 1 := by decide +kernel
set_option maxRecDepth 100000 in
set_option maxHeartbeats 4000000 in
theorem c_X7_minutesTo (l : Launch) (D : va_G) (g : xG) (tb : List xQ) (hT : x_T g tb) {a1 : Int32} (h0 : x_md tb) {M : xM} {r : Int32} {M' : xM} (hf : f_X7_minutesTo a1 M = some (r, M')) :
    cI l D g tb yX7_minutesTo cX7_minutesTo 7 .int ({ frames := 5, cells := 0, slots := 0, locals := 118 } : Room) [.ref (g.1 5 2500), .int a1] M r M' := by
  refine x_startI (own := RX7) (by decide +kernel) rfl rfl (Nat.le_of_ble_eq_true rfl) hT ?_
  intro p e s m args below meth c Q C0 hend
  have B73 : ∀ (k8 : Int32 → Int32 → xM → Option (Int32 × xM)) (hk8 : ∀ (v2 : Int32) (v3 : Int32)  (M : xM), k8 v2 v3 M = some (r, M') → WW p l e ({ frames := 5, cells := 0, slots := 0, locals := 118 } : Room) s m args below meth c 0 0 Q 7 D g tb 8 [(0, .ref (g.1 5 2500)), (1, .int a1), (2, .int v2), (3, .int v3)] [] M), ∀ (v3 : Int32) (s0 : Int32)  (M : xM), f_X7_minutesTo_c73 k8 a1 v3 s0 M = some (r, M') → WW p l e ({ frames := 5, cells := 0, slots := 0, locals := 118 } : Room) s m args below meth c 0 0 Q 7 D g tb 73 [(0, .ref (g.1 5 2500)), (1, .int a1), (3, .int v3)] [.int s0] M := by
    intro k8 hk8 v3 s0  M hf
    unfold f_X7_minutesTo_c73 at hf
    refine r_istore_n C0 (kk := 2) (lv2 := [(2, .int s0), (0, .ref (g.1 5 2500)), (1, .int a1), (3, .int v3)]) (by decide) rfl dX7_minutesTo_73 ?_
    refine r_iincc C0 3 rfl (k0 := 1) (by decide) (by decide) (lv2 := [(3, .int (v3 + 1)), (2, .int s0), (0, .ref (g.1 5 2500)), (1, .int a1)]) rfl dX7_minutesTo_74 ?_
    refine r_goto C0 (tgt := 8) (by decide) dX7_minutesTo_77 ?_
    refine WW.sub [2, 3, 1, 0] rfl ?_
    exact hk8 _ _   _ hf
  have B61 : ∀ (k8 : Int32 → Int32 → xM → Option (Int32 × xM)) (hk8 : ∀ (v2 : Int32) (v3 : Int32)  (M : xM), k8 v2 v3 M = some (r, M') → WW p l e ({ frames := 5, cells := 0, slots := 0, locals := 118 } : Room) s m args below meth c 0 0 Q 7 D g tb 8 [(0, .ref (g.1 5 2500)), (1, .int a1), (2, .int v2), (3, .int v3)] [] M), ∀ (v3 : Int32) (s0 : Int32)  (M : xM), f_X7_minutesTo_c61 k8 a1 v3 s0 M = some (r, M') → WW p l e ({ frames := 5, cells := 0, slots := 0, locals := 118 } : Room) s m args below meth c 0 0 Q 7 D g tb 61 [(0, .ref (g.1 5 2500)), (1, .int a1), (3, .int v3)] [.int s0] M := by
    intro k8 hk8 v3 s0  M hf
    unfold f_X7_minutesTo_c61 at hf
    refine r_istore C0 (lv2 := [(6, .int s0), (0, .ref (g.1 5 2500)), (1, .int a1), (3, .int v3)]) (by decide) rfl dX7_minutesTo_61 ?_
    refine r_iload C0 0 rfl dX7_minutesTo_63 ?_
    refine r_if_eq C0 (tgt := 72) (by decide) dX7_minutesTo_65 (fun q16 => ?_) (fun q16 => ?_)
    · have hf := ie_t hf q16
      refine r_iconst C0 (v := (-1)) dX7_minutesTo_72 rfl ?_
      refine WW.sub [1, 2, 3] rfl ?_
      exact B73 k8 hk8 _ _   _ hf
    · have hf := ie_f hf q16
      refine r_iload_n C0 (kk := 3) 3 rfl dX7_minutesTo_68 ?_
      refine r_goto C0 (tgt := 73) (by decide) dX7_minutesTo_69 ?_
      refine WW.sub [1, 2, 3] rfl ?_
      exact B73 k8 hk8 _ _   _ hf
  have B8 : ∀ (k8 : Int32 → Int32 → xM → Option (Int32 × xM)) (hk8 : ∀ (v2 : Int32) (v3 : Int32)  (M : xM), k8 v2 v3 M = some (r, M') → WW p l e ({ frames := 5, cells := 0, slots := 0, locals := 118 } : Room) s m args below meth c 0 0 Q 7 D g tb 8 [(0, .ref (g.1 5 2500)), (1, .int a1), (2, .int v2), (3, .int v3)] [] M), ∀ (v2 : Int32) (v3 : Int32)  (M : xM), fb_X7_minutesTo_c8 k8 a1 v2 v3 M = some (r, M') → WW p l e ({ frames := 5, cells := 0, slots := 0, locals := 118 } : Room) s m args below meth c 0 0 Q 7 D g tb 8 [(0, .ref (g.1 5 2500)), (1, .int a1), (2, .int v2), (3, .int v3)] [] M := by
    intro k8 hk8 v2 v3  M hf
    unfold fb_X7_minutesTo_c8 at hf
    refine r_iload_n C0 (kk := 3) 3 rfl dX7_minutesTo_8 ?_
    refine r_sipush C0 (v := 200) dX7_minutesTo_9 rfl ?_
    refine r_icmp_gt C0 (tgt := 80) (by decide) dX7_minutesTo_12 (fun q3 => ?_) (fun q3 => ?_)
    · have hf := ie_t hf q3
      refine r_aload_n C0 (kk := 0) 0 rfl dX7_minutesTo_80 ?_
      refine r_iload_n C0 (kk := 2) 2 rfl dX7_minutesTo_81 ?_
      obtain ⟨r6, M5, hc4, hf⟩ := bd2_e hf
      refine r_callVi C0 (As := [.int v2]) (rest := []) (c_X7_leaveTrial l D g tb hT h0 hc4) w6_212 w6_214 wp5_9 w1_14 w6_215 (x_rec5 C0 h0.1) hd_X7_leaveTrial rfl ⟨rfl, rfl⟩ ⟨Nat.le_of_ble_eq_true rfl, Nat.le_of_ble_eq_true rfl⟩ (by decide) (by decide) rfl (Nat.le_of_ble_eq_true rfl) dX7_minutesTo_82 ?_
      exact hend hf dX7_minutesTo_85
    · have hf := ie_f hf q3
      refine r_iload_n C0 (kk := 2) 2 rfl dX7_minutesTo_15 ?_
      refine r_iconst C0 (v := (-1)) dX7_minutesTo_16 rfl ?_
      refine r_icmp_ne C0 (tgt := 80) (by decide) dX7_minutesTo_17 (fun q7 => ?_) (fun q7 => ?_)
      · have hf := ie_f hf q7
        refine r_aload_n C0 (kk := 0) 0 rfl dX7_minutesTo_80 ?_
        refine r_iload_n C0 (kk := 2) 2 rfl dX7_minutesTo_81 ?_
        obtain ⟨r10, M9, hc8, hf⟩ := bd2_e hf
        refine r_callVi C0 (As := [.int v2]) (rest := []) (c_X7_leaveTrial l D g tb hT h0 hc8) w6_212 w6_214 wp5_9 w1_14 w6_215 (x_rec5 C0 h0.1) hd_X7_leaveTrial rfl ⟨rfl, rfl⟩ ⟨Nat.le_of_ble_eq_true rfl, Nat.le_of_ble_eq_true rfl⟩ (by decide) (by decide) rfl (Nat.le_of_ble_eq_true rfl) dX7_minutesTo_82 ?_
        exact hend hf dX7_minutesTo_85
      · have hf := ie_t hf q7
        refine r_aload_n C0 (kk := 0) 0 rfl dX7_minutesTo_20 ?_
        refine r_get5 C0 h0.1 5 (by decide) (v := .ref (g.1 6 2520)) rfl rfl w6_221 dX7_minutesTo_21 ?_
        refine r_iconst C0 (v := 4) dX7_minutesTo_24 rfl ?_
        refine r_ialdc C0 h0.2.1 (z := 2524) (by decide) (by decide) dX7_minutesTo_25 ?_
        refine r_istore C0 (lv2 := [(4, .int (M 2524)), (0, .ref (g.1 5 2500)), (1, .int a1), (2, .int v2), (3, .int v3)]) (by decide) rfl dX7_minutesTo_26 ?_
        refine r_aload_n C0 (kk := 0) 1 rfl dX7_minutesTo_28 ?_
        obtain ⟨r13, M12, hc11, hf⟩ := bd2_e hf
        refine r_callVi C0 (As := []) (rest := []) (c_X7_passMinute l D g tb hT h0 hc11) w6_139 w6_141 wp4_10 w1_14 w6_142 (x_rec5 C0 h0.1) hd_X7_passMinute rfl ⟨rfl, rfl⟩ ⟨Nat.le_of_ble_eq_true rfl, Nat.le_of_ble_eq_true rfl⟩ (by decide) (by decide) rfl (Nat.le_of_ble_eq_true rfl) dX7_minutesTo_29 ?_
        refine r_istore C0 (lv2 := [(5, .int r13), (4, .int (M 2524)), (0, .ref (g.1 5 2500)), (1, .int a1), (2, .int v2), (3, .int v3)]) (by decide) rfl dX7_minutesTo_32 ?_
        refine r_iload_n C0 (kk := 1) 3 rfl dX7_minutesTo_34 ?_
        refine r_if_eq C0 (tgt := 45) (by decide) dX7_minutesTo_35 (fun q14 => ?_) (fun q14 => ?_)
        · have hf := ie_t hf q14
          refine r_aload_n C0 (kk := 0) 2 rfl dX7_minutesTo_45 ?_
          refine r_get5 C0 h0.1 5 (by decide) (v := .ref (g.1 6 2520)) rfl rfl w6_221 dX7_minutesTo_46 ?_
          refine r_iconst C0 (v := 4) dX7_minutesTo_49 rfl ?_
          refine r_ialdc C0 h0.2.1 (z := 2524) (by decide) (by decide) dX7_minutesTo_50 ?_
          refine r_iload C0 1 rfl dX7_minutesTo_51 ?_
          refine r_icmp_le C0 (tgt := 60) (by decide) dX7_minutesTo_53 (fun q15 => ?_) (fun q15 => ?_)
          · have hf := ie_t hf q15
            refine r_iconst C0 (v := 0) dX7_minutesTo_60 rfl ?_
            refine WW.sub [2, 3, 5] rfl ?_
            exact B61 k8 hk8 _ _   _ hf
          · have hf := ie_f hf q15
            refine r_iconst C0 (v := 1) dX7_minutesTo_56 rfl ?_
            refine r_goto C0 (tgt := 61) (by decide) dX7_minutesTo_57 ?_
            refine WW.sub [2, 3, 5] rfl ?_
            exact B61 k8 hk8 _ _   _ hf
        · have hf := ie_f hf q14
          refine r_aload_n C0 (kk := 0) 2 rfl dX7_minutesTo_38 ?_
          refine r_get5 C0 h0.1 12 (by decide) (v := .int (M12 2512)) rfl rfl w6_228 dX7_minutesTo_39 ?_
          refine r_goto C0 (tgt := 61) (by decide) dX7_minutesTo_42 ?_
          refine WW.sub [2, 3, 5] rfl ?_
          exact B61 k8 hk8 _ _   _ hf
  have L8 : ∀ (v2 : Int32) (v3 : Int32)  (M : xM), f_X7_minutesTo_c8  a1 v2 v3 M = some (r, M') → WW p l e ({ frames := 5, cells := 0, slots := 0, locals := 118 } : Room) s m args below meth c 0 0 Q 7 D g tb 8 [(0, .ref (g.1 5 2500)), (1, .int a1), (2, .int v2), (3, .int v3)] [] M := lp_ind (P := fun f => ∀ (v2 : Int32) (v3 : Int32)  (M : xM), f v2 v3 M = some (r, M') → WW p l e ({ frames := 5, cells := 0, slots := 0, locals := 118 } : Room) s m args below meth c 0 0 Q 7 D g tb 8 [(0, .ref (g.1 5 2500)), (1, .int a1), (2, .int v2), (3, .int v3)] [] M) (fun _ _ _ h => none_ne h) (fun f hf => B8 f hf) FU
  unfold f_X7_minutesTo at hf
  refine r_aload_n C0 (kk := 0) 0 rfl dX7_minutesTo_0 ?_
  obtain ⟨M2, hc1, hf⟩ := bd_e hf
  refine r_callVv C0 (As := []) (rest := []) (c_X7_startTrial l D g tb hT h0 hc1) w5_237 w5_239 wp2_14 w1_14 w6_0 (x_rec5 C0 h0.1) hd_X7_startTrial rfl ⟨rfl, rfl⟩ ⟨Nat.le_of_ble_eq_true rfl, Nat.le_of_ble_eq_true rfl⟩ (by decide) (by decide) rfl (Nat.le_of_ble_eq_true rfl) dX7_minutesTo_1 ?_
  refine r_iconst C0 (v := (-1)) dX7_minutesTo_4 rfl ?_
  refine r_istore_n C0 (kk := 2) (lv2 := [(2, .int (-1)), (0, .ref (g.1 5 2500)), (1, .int a1)]) (by decide) rfl dX7_minutesTo_5 ?_
  refine r_iconst C0 (v := 0) dX7_minutesTo_6 rfl ?_
  refine r_istore_n C0 (kk := 3) (lv2 := [(3, .int 0), (2, .int (-1)), (0, .ref (g.1 5 2500)), (1, .int a1)]) (by decide) rfl dX7_minutesTo_7 ?_
  refine WW.sub [2, 3, 1, 0] rfl ?_
  exact L8   _ _   _ hf
theorem dX7_minutesToEnd_0 : decode cX7_minutesToEnd 0 = .ok (.aload_n 0, 1) := by decide +kernel
theorem dX7_minutesToEnd_1 : decode cX7_minutesToEnd 1 = .ok (.iconst 0, 1) := by decide +kernel
theorem dX7_minutesToEnd_2 : decode cX7_minutesToEnd 2 = .ok (.putfield 60, 3) := by decide +kernel
theorem dX7_minutesToEnd_5 : decode cX7_minutesToEnd 5 = .ok (.aload_n 0, 1) := by decide +kernel
theorem dX7_minutesToEnd_6 : decode cX7_minutesToEnd 6 = .ok (.getfield 17, 3) := by decide +kernel
theorem dX7_minutesToEnd_9 : decode cX7_minutesToEnd 9 = .ok (.iconst 1, 1) := by decide +kernel
theorem dX7_minutesToEnd_10 : decode cX7_minutesToEnd 10 = .ok (.iaload, 1) := by decide +kernel
theorem dX7_minutesToEnd_11 : decode cX7_minutesToEnd 11 = .ok (.iconst 1, 1) := by decide +kernel
theorem dX7_minutesToEnd_12 : decode cX7_minutesToEnd 12 = .ok (.if_icmp .ne 11, 3) := by decide +kernel
theorem dX7_minutesToEnd_15 : decode cX7_minutesToEnd 15 = .ok (.aload_n 0, 1) := by decide +kernel
theorem dX7_minutesToEnd_16 : decode cX7_minutesToEnd 16 = .ok (.iconst 1, 1) := by decide +kernel
theorem dX7_minutesToEnd_17 : decode cX7_minutesToEnd 17 = .ok (.invokevirtual 308, 3) := by decide +kernel
theorem dX7_minutesToEnd_20 : decode cX7_minutesToEnd 20 = .ok (.goto 4, 3) := by decide +kernel
theorem dX7_minutesToEnd_23 : decode cX7_minutesToEnd 23 = .ok (.iconst (-1), 1) := by decide +kernel
theorem dX7_minutesToEnd_24 : decode cX7_minutesToEnd 24 = .ok (.ireturn, 1) := by decide +kernel
theorem hd_X7_minutesToEnd : yX7_minutesToEnd.cls = RX7 ∧ yX7_minutesToEnd.cls ≠ "java/lang/invoke/MethodHandle" ∧ yX7_minutesToEnd.cls ≠ "java/lang/invoke/VarHandle" ∧ (parseMethodDescriptor yX7_minutesToEnd.desc).map (fun d => d.parameters.length) = some 0 := by decide +kernel
set_option maxRecDepth 100000 in
set_option maxHeartbeats 4000000 in
theorem c_X7_minutesToEnd (l : Launch) (D : va_G) (g : xG) (tb : List xQ) (hT : x_T g tb)  (h0 : x_md tb) {M : xM} {r : Int32} {M' : xM} (hf : f_X7_minutesToEnd  M = some (r, M')) :
    cI l D g tb yX7_minutesToEnd cX7_minutesToEnd 1 .int ({ frames := 6, cells := 0, slots := 0, locals := 144 } : Room) [.ref (g.1 5 2500)] M r M' := by
  refine x_startI (own := RX7) (by decide +kernel) rfl rfl (Nat.le_of_ble_eq_true rfl) hT ?_
  intro p e s m args below meth c Q C0 hend
  unfold f_X7_minutesToEnd at hf
  refine r_aload_n C0 (kk := 0) 0 rfl dX7_minutesToEnd_0 ?_
  refine r_iconst C0 (v := 0) dX7_minutesToEnd_1 rfl ?_
  refine r_put5 C0 h0.1 4 rfl rfl w6_220 rfl rfl rfl dX7_minutesToEnd_2 ?_
  refine r_aload_n C0 (kk := 0) 0 rfl dX7_minutesToEnd_5 ?_
  refine r_get5 C0 h0.1 5 (by decide) (v := .ref (g.1 6 2520)) rfl rfl w6_221 dX7_minutesToEnd_6 ?_
  refine r_iconst C0 (v := 1) dX7_minutesToEnd_9 rfl ?_
  refine r_ialdc C0 h0.2.1 (z := 2521) (by decide) (by decide) dX7_minutesToEnd_10 ?_
  refine r_iconst C0 (v := 1) dX7_minutesToEnd_11 rfl ?_
  refine r_icmp_ne C0 (tgt := 23) (by decide) dX7_minutesToEnd_12 (fun q1 => ?_) (fun q1 => ?_)
  · have hf := ie_f hf q1
    refine r_iconst C0 (v := (-1)) dX7_minutesToEnd_23 rfl ?_
    exact hend hf dX7_minutesToEnd_24
  · have hf := ie_t hf q1
    refine r_aload_n C0 (kk := 0) 0 rfl dX7_minutesToEnd_15 ?_
    refine r_iconst C0 (v := 1) dX7_minutesToEnd_16 rfl ?_
    obtain ⟨r4, M3, hc2, hf⟩ := bd2_e hf
    refine r_callVi C0 (As := [.int 1]) (rest := []) (c_X7_minutesTo l D g tb hT h0 hc2) w7_117 w7_119 wp5_13 w1_14 w7_120 (x_rec5 C0 h0.1) hd_X7_minutesTo rfl ⟨rfl, rfl⟩ ⟨Nat.le_of_ble_eq_true rfl, Nat.le_of_ble_eq_true rfl⟩ (by decide) (by decide) rfl (Nat.le_of_ble_eq_true rfl) dX7_minutesToEnd_17 ?_
    refine r_goto C0 (tgt := 24) (by decide) dX7_minutesToEnd_20 ?_
    exact hend hf dX7_minutesToEnd_24
theorem dX7_minutesToPay_0 : decode cX7_minutesToPay 0 = .ok (.aload_n 0, 1) := by decide +kernel
theorem dX7_minutesToPay_1 : decode cX7_minutesToPay 1 = .ok (.iload_n 1, 1) := by decide +kernel
theorem dX7_minutesToPay_2 : decode cX7_minutesToPay 2 = .ok (.invokevirtual 314, 3) := by decide +kernel
theorem dX7_minutesToPay_5 : decode cX7_minutesToPay 5 = .ok (.ifCond .ne 5, 3) := by decide +kernel
theorem dX7_minutesToPay_8 : decode cX7_minutesToPay 8 = .ok (.iconst 0, 1) := by decide +kernel
theorem dX7_minutesToPay_9 : decode cX7_minutesToPay 9 = .ok (.ireturn, 1) := by decide +kernel
theorem dX7_minutesToPay_10 : decode cX7_minutesToPay 10 = .ok (.aload_n 0, 1) := by decide +kernel
theorem dX7_minutesToPay_11 : decode cX7_minutesToPay 11 = .ok (.invokevirtual 283, 3) := by decide +kernel
theorem dX7_minutesToPay_14 : decode cX7_minutesToPay 14 = .ok (.aload_n 0, 1) := by decide +kernel
theorem dX7_minutesToPay_15 : decode cX7_minutesToPay 15 = .ok (.iload_n 1, 1) := by decide +kernel
theorem dX7_minutesToPay_16 : decode cX7_minutesToPay 16 = .ok (.bipush 7, 2) := by decide +kernel
theorem dX7_minutesToPay_18 : decode cX7_minutesToPay 18 = .ok (.invokevirtual 73, 3) := by decide +kernel
theorem dX7_minutesToPay_21 : decode cX7_minutesToPay 21 = .ok (.istore_n 2, 1) := by decide +kernel
theorem dX7_minutesToPay_22 : decode cX7_minutesToPay 22 = .ok (.iconst 0, 1) := by decide +kernel
theorem dX7_minutesToPay_23 : decode cX7_minutesToPay 23 = .ok (.istore_n 3, 1) := by decide +kernel
theorem dX7_minutesToPay_24 : decode cX7_minutesToPay 24 = .ok (.iload_n 3, 1) := by decide +kernel
theorem dX7_minutesToPay_25 : decode cX7_minutesToPay 25 = .ok (.sipush 200, 3) := by decide +kernel
theorem dX7_minutesToPay_28 : decode cX7_minutesToPay 28 = .ok (.if_icmp .ge 26, 3) := by decide +kernel
theorem dX7_minutesToPay_31 : decode cX7_minutesToPay 31 = .ok (.aload_n 0, 1) := by decide +kernel
theorem dX7_minutesToPay_32 : decode cX7_minutesToPay 32 = .ok (.iload_n 1, 1) := by decide +kernel
theorem dX7_minutesToPay_33 : decode cX7_minutesToPay 33 = .ok (.bipush 7, 2) := by decide +kernel
theorem dX7_minutesToPay_35 : decode cX7_minutesToPay 35 = .ok (.invokevirtual 73, 3) := by decide +kernel
theorem dX7_minutesToPay_38 : decode cX7_minutesToPay 38 = .ok (.iload_n 2, 1) := by decide +kernel
theorem dX7_minutesToPay_39 : decode cX7_minutesToPay 39 = .ok (.if_icmp .ne 15, 3) := by decide +kernel
theorem dX7_minutesToPay_42 : decode cX7_minutesToPay 42 = .ok (.aload_n 0, 1) := by decide +kernel
theorem dX7_minutesToPay_43 : decode cX7_minutesToPay 43 = .ok (.invokevirtual 136, 3) := by decide +kernel
theorem dX7_minutesToPay_46 : decode cX7_minutesToPay 46 = .ok (.istore 4, 2) := by decide +kernel
theorem dX7_minutesToPay_48 : decode cX7_minutesToPay 48 = .ok (.iinc 3 1, 3) := by decide +kernel
theorem dX7_minutesToPay_51 : decode cX7_minutesToPay 51 = .ok (.goto (-27), 3) := by decide +kernel
theorem dX7_minutesToPay_54 : decode cX7_minutesToPay 54 = .ok (.aload_n 0, 1) := by decide +kernel
theorem dX7_minutesToPay_55 : decode cX7_minutesToPay 55 = .ok (.aload_n 0, 1) := by decide +kernel
theorem dX7_minutesToPay_56 : decode cX7_minutesToPay 56 = .ok (.iload_n 1, 1) := by decide +kernel
theorem dX7_minutesToPay_57 : decode cX7_minutesToPay 57 = .ok (.bipush 7, 2) := by decide +kernel
theorem dX7_minutesToPay_59 : decode cX7_minutesToPay 59 = .ok (.invokevirtual 73, 3) := by decide +kernel
theorem dX7_minutesToPay_62 : decode cX7_minutesToPay 62 = .ok (.iload_n 2, 1) := by decide +kernel
theorem dX7_minutesToPay_63 : decode cX7_minutesToPay 63 = .ok (.if_icmp .ne 7, 3) := by decide +kernel
theorem dX7_minutesToPay_66 : decode cX7_minutesToPay 66 = .ok (.iconst (-1), 1) := by decide +kernel
theorem dX7_minutesToPay_67 : decode cX7_minutesToPay 67 = .ok (.goto 4, 3) := by decide +kernel
theorem dX7_minutesToPay_70 : decode cX7_minutesToPay 70 = .ok (.iload_n 3, 1) := by decide +kernel
theorem dX7_minutesToPay_71 : decode cX7_minutesToPay 71 = .ok (.invokevirtual 292, 3) := by decide +kernel
theorem dX7_minutesToPay_74 : decode cX7_minutesToPay 74 = .ok (.ireturn, 1) := by decide +kernel
theorem hd_X7_minutesToPay : yX7_minutesToPay.cls = RX7 ∧ yX7_minutesToPay.cls ≠ "java/lang/invoke/MethodHandle" ∧ yX7_minutesToPay.cls ≠ "java/lang/invoke/VarHandle" ∧ (parseMethodDescriptor yX7_minutesToPay.desc).map (fun d => d.parameters.length) = some 1 := by decide +kernel
set_option maxRecDepth 100000 in
set_option maxHeartbeats 4000000 in
theorem c_X7_minutesToPay (l : Launch) (D : va_G) (g : xG) (tb : List xQ) (hT : x_T g tb) {a1 : Int32} (h0 : x_md tb) {M : xM} {r : Int32} {M' : xM} (hf : f_X7_minutesToPay a1 M = some (r, M')) :
    cI l D g tb yX7_minutesToPay cX7_minutesToPay 5 .int ({ frames := 5, cells := 0, slots := 0, locals := 118 } : Room) [.ref (g.1 5 2500), .int a1] M r M' := by
  refine x_startI (own := RX7) (by decide +kernel) rfl rfl (Nat.le_of_ble_eq_true rfl) hT ?_
  intro p e s m args below meth c Q C0 hend
  have B54 : ∀ (v2 : Int32) (v3 : Int32)  (M : xM), f_X7_minutesToPay_c54  a1 v2 v3 M = some (r, M') → WW p l e ({ frames := 5, cells := 0, slots := 0, locals := 118 } : Room) s m args below meth c 0 0 Q 5 D g tb 54 [(0, .ref (g.1 5 2500)), (1, .int a1), (2, .int v2), (3, .int v3)] [] M := by
    intro   v2 v3  M hf
    unfold f_X7_minutesToPay_c54 at hf
    refine r_aload_n C0 (kk := 0) 0 rfl dX7_minutesToPay_54 ?_
    refine r_aload_n C0 (kk := 0) 0 rfl dX7_minutesToPay_55 ?_
    refine r_iload_n C0 (kk := 1) 1 rfl dX7_minutesToPay_56 ?_
    refine r_bipush C0 (v := 7) dX7_minutesToPay_57 rfl ?_
    obtain ⟨r20, M19, hc18, hf⟩ := bd2_e hf
    refine r_callVi C0 (As := [.int a1, .int 7]) (rest := [.ref (g.1 5 2500)]) (c_X7_by l D g tb hT h0 hc18) w6_103 w6_105 wp4_1 w1_14 w6_106 (x_rec5 C0 h0.1) hd_X7_by rfl ⟨rfl, rfl⟩ ⟨Nat.le_of_ble_eq_true rfl, Nat.le_of_ble_eq_true rfl⟩ (by decide) (by decide) rfl (Nat.le_of_ble_eq_true rfl) dX7_minutesToPay_59 ?_
    refine r_iload_n C0 (kk := 2) 2 rfl dX7_minutesToPay_62 ?_
    refine r_icmp_ne C0 (tgt := 70) (by decide) dX7_minutesToPay_63 (fun q21 => ?_) (fun q21 => ?_)
    · have hf := ie_f hf q21
      refine r_iload_n C0 (kk := 3) 3 rfl dX7_minutesToPay_70 ?_
      obtain ⟨r24, M23, hc22, hf⟩ := bd2_e hf
      refine r_callVi C0 (As := [.int v3]) (rest := []) (c_X7_leaveTrial l D g tb hT h0 hc22) w6_212 w6_214 wp5_9 w1_14 w6_215 (x_rec5 C0 h0.1) hd_X7_leaveTrial rfl ⟨rfl, rfl⟩ ⟨Nat.le_of_ble_eq_true rfl, Nat.le_of_ble_eq_true rfl⟩ (by decide) (by decide) rfl (Nat.le_of_ble_eq_true rfl) dX7_minutesToPay_71 ?_
      exact hend hf dX7_minutesToPay_74
    · have hf := ie_t hf q21
      refine r_iconst C0 (v := (-1)) dX7_minutesToPay_66 rfl ?_
      refine r_goto C0 (tgt := 71) (by decide) dX7_minutesToPay_67 ?_
      obtain ⟨r27, M26, hc25, hf⟩ := bd2_e hf
      refine r_callVi C0 (As := [.int (-1)]) (rest := []) (c_X7_leaveTrial l D g tb hT h0 hc25) w6_212 w6_214 wp5_9 w1_14 w6_215 (x_rec5 C0 h0.1) hd_X7_leaveTrial rfl ⟨rfl, rfl⟩ ⟨Nat.le_of_ble_eq_true rfl, Nat.le_of_ble_eq_true rfl⟩ (by decide) (by decide) rfl (Nat.le_of_ble_eq_true rfl) dX7_minutesToPay_71 ?_
      exact hend hf dX7_minutesToPay_74
  have B24 : ∀ (k24 : Int32 → Int32 → xM → Option (Int32 × xM)) (hk24 : ∀ (v2 : Int32) (v3 : Int32)  (M : xM), k24 v2 v3 M = some (r, M') → WW p l e ({ frames := 5, cells := 0, slots := 0, locals := 118 } : Room) s m args below meth c 0 0 Q 5 D g tb 24 [(0, .ref (g.1 5 2500)), (1, .int a1), (2, .int v2), (3, .int v3)] [] M), ∀ (v2 : Int32) (v3 : Int32)  (M : xM), fb_X7_minutesToPay_c24 k24 a1 v2 v3 M = some (r, M') → WW p l e ({ frames := 5, cells := 0, slots := 0, locals := 118 } : Room) s m args below meth c 0 0 Q 5 D g tb 24 [(0, .ref (g.1 5 2500)), (1, .int a1), (2, .int v2), (3, .int v3)] [] M := by
    intro k24 hk24 v2 v3  M hf
    unfold fb_X7_minutesToPay_c24 at hf
    refine r_iload_n C0 (kk := 3) 3 rfl dX7_minutesToPay_24 ?_
    refine r_sipush C0 (v := 200) dX7_minutesToPay_25 rfl ?_
    refine r_icmp_ge C0 (tgt := 54) (by decide) dX7_minutesToPay_28 (fun q10 => ?_) (fun q10 => ?_)
    · have hf := ie_t hf q10
      exact B54   _ _   _ hf
    · have hf := ie_f hf q10
      refine r_aload_n C0 (kk := 0) 0 rfl dX7_minutesToPay_31 ?_
      refine r_iload_n C0 (kk := 1) 1 rfl dX7_minutesToPay_32 ?_
      refine r_bipush C0 (v := 7) dX7_minutesToPay_33 rfl ?_
      obtain ⟨r13, M12, hc11, hf⟩ := bd2_e hf
      refine r_callVi C0 (As := [.int a1, .int 7]) (rest := []) (c_X7_by l D g tb hT h0 hc11) w6_103 w6_105 wp4_1 w1_14 w6_106 (x_rec5 C0 h0.1) hd_X7_by rfl ⟨rfl, rfl⟩ ⟨Nat.le_of_ble_eq_true rfl, Nat.le_of_ble_eq_true rfl⟩ (by decide) (by decide) rfl (Nat.le_of_ble_eq_true rfl) dX7_minutesToPay_35 ?_
      refine r_iload_n C0 (kk := 2) 2 rfl dX7_minutesToPay_38 ?_
      refine r_icmp_ne C0 (tgt := 54) (by decide) dX7_minutesToPay_39 (fun q14 => ?_) (fun q14 => ?_)
      · have hf := ie_f hf q14
        exact B54   _ _   _ hf
      · have hf := ie_t hf q14
        refine r_aload_n C0 (kk := 0) 0 rfl dX7_minutesToPay_42 ?_
        obtain ⟨r17, M16, hc15, hf⟩ := bd2_e hf
        refine r_callVi C0 (As := []) (rest := []) (c_X7_passMinute l D g tb hT h0 hc15) w6_139 w6_141 wp4_10 w1_14 w6_142 (x_rec5 C0 h0.1) hd_X7_passMinute rfl ⟨rfl, rfl⟩ ⟨Nat.le_of_ble_eq_true rfl, Nat.le_of_ble_eq_true rfl⟩ (by decide) (by decide) rfl (Nat.le_of_ble_eq_true rfl) dX7_minutesToPay_43 ?_
        refine r_istore C0 (lv2 := [(4, .int r17), (0, .ref (g.1 5 2500)), (1, .int a1), (2, .int v2), (3, .int v3)]) (by decide) rfl dX7_minutesToPay_46 ?_
        refine r_iincc C0 4 rfl (k0 := 1) (by decide) (by decide) (lv2 := [(3, .int (v3 + 1)), (4, .int r17), (0, .ref (g.1 5 2500)), (1, .int a1), (2, .int v2)]) rfl dX7_minutesToPay_48 ?_
        refine r_goto C0 (tgt := 24) (by decide) dX7_minutesToPay_51 ?_
        refine WW.sub [2, 3, 4, 0] rfl ?_
        exact hk24 _ _   _ hf
  have L24 : ∀ (v2 : Int32) (v3 : Int32)  (M : xM), f_X7_minutesToPay_c24  a1 v2 v3 M = some (r, M') → WW p l e ({ frames := 5, cells := 0, slots := 0, locals := 118 } : Room) s m args below meth c 0 0 Q 5 D g tb 24 [(0, .ref (g.1 5 2500)), (1, .int a1), (2, .int v2), (3, .int v3)] [] M := lp_ind (P := fun f => ∀ (v2 : Int32) (v3 : Int32)  (M : xM), f v2 v3 M = some (r, M') → WW p l e ({ frames := 5, cells := 0, slots := 0, locals := 118 } : Room) s m args below meth c 0 0 Q 5 D g tb 24 [(0, .ref (g.1 5 2500)), (1, .int a1), (2, .int v2), (3, .int v3)] [] M) (fun _ _ _ h => none_ne h) (fun f hf => B24 f hf) FU
  unfold f_X7_minutesToPay at hf
  refine r_aload_n C0 (kk := 0) 0 rfl dX7_minutesToPay_0 ?_
  refine r_iload_n C0 (kk := 1) 1 rfl dX7_minutesToPay_1 ?_
  obtain ⟨r3, M2, hc1, hf⟩ := bd2_e hf
  refine r_callVi C0 (As := [.int a1]) (rest := []) (c_X7_isBuyer l D g tb hT h0 hc1) w7_197 w7_199 wp6_2 w1_14 w7_200 (x_rec5 C0 h0.1) hd_X7_isBuyer rfl ⟨rfl, rfl⟩ ⟨Nat.le_of_ble_eq_true rfl, Nat.le_of_ble_eq_true rfl⟩ (by decide) (by decide) rfl (Nat.le_of_ble_eq_true rfl) dX7_minutesToPay_2 ?_
  refine r_if_ne C0 (tgt := 10) (by decide) dX7_minutesToPay_5 (fun q4 => ?_) (fun q4 => ?_)
  · have hf := ie_f hf q4
    refine r_aload_n C0 (kk := 0) 0 rfl dX7_minutesToPay_10 ?_
    obtain ⟨M6, hc5, hf⟩ := bd_e hf
    refine r_callVv C0 (As := []) (rest := []) (c_X7_startTrial l D g tb hT h0 hc5) w5_237 w5_239 wp2_14 w1_14 w6_0 (x_rec5 C0 h0.1) hd_X7_startTrial rfl ⟨rfl, rfl⟩ ⟨Nat.le_of_ble_eq_true rfl, Nat.le_of_ble_eq_true rfl⟩ (by decide) (by decide) rfl (Nat.le_of_ble_eq_true rfl) dX7_minutesToPay_11 ?_
    refine r_aload_n C0 (kk := 0) 0 rfl dX7_minutesToPay_14 ?_
    refine r_iload_n C0 (kk := 1) 1 rfl dX7_minutesToPay_15 ?_
    refine r_bipush C0 (v := 7) dX7_minutesToPay_16 rfl ?_
    obtain ⟨r9, M8, hc7, hf⟩ := bd2_e hf
    refine r_callVi C0 (As := [.int a1, .int 7]) (rest := []) (c_X7_by l D g tb hT h0 hc7) w6_103 w6_105 wp4_1 w1_14 w6_106 (x_rec5 C0 h0.1) hd_X7_by rfl ⟨rfl, rfl⟩ ⟨Nat.le_of_ble_eq_true rfl, Nat.le_of_ble_eq_true rfl⟩ (by decide) (by decide) rfl (Nat.le_of_ble_eq_true rfl) dX7_minutesToPay_18 ?_
    refine r_istore_n C0 (kk := 2) (lv2 := [(2, .int r9), (0, .ref (g.1 5 2500)), (1, .int a1)]) (by decide) rfl dX7_minutesToPay_21 ?_
    refine r_iconst C0 (v := 0) dX7_minutesToPay_22 rfl ?_
    refine r_istore_n C0 (kk := 3) (lv2 := [(3, .int 0), (2, .int r9), (0, .ref (g.1 5 2500)), (1, .int a1)]) (by decide) rfl dX7_minutesToPay_23 ?_
    refine WW.sub [2, 3, 1, 0] rfl ?_
    exact L24   _ _   _ hf
  · have hf := ie_t hf q4
    refine r_iconst C0 (v := 0) dX7_minutesToPay_8 rfl ?_
    exact hend hf dX7_minutesToPay_9
theorem dX7_nextPayer_0 : decode cX7_nextPayer 0 = .ok (.aload_n 0, 1) := by decide +kernel
theorem dX7_nextPayer_1 : decode cX7_nextPayer 1 = .ok (.iconst 0, 1) := by decide +kernel
theorem dX7_nextPayer_2 : decode cX7_nextPayer 2 = .ok (.putfield 60, 3) := by decide +kernel
theorem dX7_nextPayer_5 : decode cX7_nextPayer 5 = .ok (.aload_n 0, 1) := by decide +kernel
theorem dX7_nextPayer_6 : decode cX7_nextPayer 6 = .ok (.invokevirtual 283, 3) := by decide +kernel
theorem dX7_nextPayer_9 : decode cX7_nextPayer 9 = .ok (.iconst (-1), 1) := by decide +kernel
theorem dX7_nextPayer_10 : decode cX7_nextPayer 10 = .ok (.istore_n 1, 1) := by decide +kernel
theorem dX7_nextPayer_11 : decode cX7_nextPayer 11 = .ok (.iconst 0, 1) := by decide +kernel
theorem dX7_nextPayer_12 : decode cX7_nextPayer 12 = .ok (.istore_n 2, 1) := by decide +kernel
theorem dX7_nextPayer_13 : decode cX7_nextPayer 13 = .ok (.iload_n 2, 1) := by decide +kernel
theorem dX7_nextPayer_14 : decode cX7_nextPayer 14 = .ok (.sipush 200, 3) := by decide +kernel
theorem dX7_nextPayer_17 : decode cX7_nextPayer 17 = .ok (.if_icmp .ge 75, 3) := by decide +kernel
theorem dX7_nextPayer_20 : decode cX7_nextPayer 20 = .ok (.iload_n 1, 1) := by decide +kernel
theorem dX7_nextPayer_21 : decode cX7_nextPayer 21 = .ok (.iconst (-1), 1) := by decide +kernel
theorem dX7_nextPayer_22 : decode cX7_nextPayer 22 = .ok (.if_icmp .ne 70, 3) := by decide +kernel
theorem dX7_nextPayer_25 : decode cX7_nextPayer 25 = .ok (.aload_n 0, 1) := by decide +kernel
theorem dX7_nextPayer_26 : decode cX7_nextPayer 26 = .ok (.invokevirtual 136, 3) := by decide +kernel
theorem dX7_nextPayer_29 : decode cX7_nextPayer 29 = .ok (.istore_n 3, 1) := by decide +kernel
theorem dX7_nextPayer_30 : decode cX7_nextPayer 30 = .ok (.aload_n 0, 1) := by decide +kernel
theorem dX7_nextPayer_31 : decode cX7_nextPayer 31 = .ok (.getfield 17, 3) := by decide +kernel
theorem dX7_nextPayer_34 : decode cX7_nextPayer 34 = .ok (.bipush 10, 2) := by decide +kernel
theorem dX7_nextPayer_36 : decode cX7_nextPayer 36 = .ok (.iaload, 1) := by decide +kernel
theorem dX7_nextPayer_37 : decode cX7_nextPayer 37 = .ok (.iconst 1, 1) := by decide +kernel
theorem dX7_nextPayer_38 : decode cX7_nextPayer 38 = .ok (.isub, 1) := by decide +kernel
theorem dX7_nextPayer_39 : decode cX7_nextPayer 39 = .ok (.istore 4, 2) := by decide +kernel
theorem dX7_nextPayer_41 : decode cX7_nextPayer 41 = .ok (.iload 4, 2) := by decide +kernel
theorem dX7_nextPayer_43 : decode cX7_nextPayer 43 = .ok (.ifCond .lt 43, 3) := by decide +kernel
theorem dX7_nextPayer_46 : decode cX7_nextPayer 46 = .ok (.aload_n 0, 1) := by decide +kernel
theorem dX7_nextPayer_47 : decode cX7_nextPayer 47 = .ok (.iload 4, 2) := by decide +kernel
theorem dX7_nextPayer_49 : decode cX7_nextPayer 49 = .ok (.bipush 7, 2) := by decide +kernel
theorem dX7_nextPayer_51 : decode cX7_nextPayer 51 = .ok (.invokevirtual 73, 3) := by decide +kernel
theorem dX7_nextPayer_54 : decode cX7_nextPayer 54 = .ok (.aload_n 0, 1) := by decide +kernel
theorem dX7_nextPayer_55 : decode cX7_nextPayer 55 = .ok (.getfield 23, 3) := by decide +kernel
theorem dX7_nextPayer_58 : decode cX7_nextPayer 58 = .ok (.bipush 77, 2) := by decide +kernel
theorem dX7_nextPayer_60 : decode cX7_nextPayer 60 = .ok (.bipush 8, 2) := by decide +kernel
theorem dX7_nextPayer_62 : decode cX7_nextPayer 62 = .ok (.iload 4, 2) := by decide +kernel
theorem dX7_nextPayer_64 : decode cX7_nextPayer 64 = .ok (.imul, 1) := by decide +kernel
theorem dX7_nextPayer_65 : decode cX7_nextPayer 65 = .ok (.iadd, 1) := by decide +kernel
theorem dX7_nextPayer_66 : decode cX7_nextPayer 66 = .ok (.bipush 7, 2) := by decide +kernel
theorem dX7_nextPayer_68 : decode cX7_nextPayer 68 = .ok (.iadd, 1) := by decide +kernel
theorem dX7_nextPayer_69 : decode cX7_nextPayer 69 = .ok (.iaload, 1) := by decide +kernel
theorem dX7_nextPayer_70 : decode cX7_nextPayer 70 = .ok (.if_icmp .le 8, 3) := by decide +kernel
theorem dX7_nextPayer_73 : decode cX7_nextPayer 73 = .ok (.iload 4, 2) := by decide +kernel
theorem dX7_nextPayer_75 : decode cX7_nextPayer 75 = .ok (.goto 4, 3) := by decide +kernel
theorem dX7_nextPayer_78 : decode cX7_nextPayer 78 = .ok (.iload_n 1, 1) := by decide +kernel
theorem dX7_nextPayer_79 : decode cX7_nextPayer 79 = .ok (.istore_n 1, 1) := by decide +kernel
theorem dX7_nextPayer_80 : decode cX7_nextPayer 80 = .ok (.iinc 4 (-1), 3) := by decide +kernel
theorem dX7_nextPayer_83 : decode cX7_nextPayer 83 = .ok (.goto (-42), 3) := by decide +kernel
theorem dX7_nextPayer_86 : decode cX7_nextPayer 86 = .ok (.iinc 2 1, 3) := by decide +kernel
theorem dX7_nextPayer_89 : decode cX7_nextPayer 89 = .ok (.goto (-76), 3) := by decide +kernel
theorem dX7_nextPayer_92 : decode cX7_nextPayer 92 = .ok (.aload_n 0, 1) := by decide +kernel
theorem dX7_nextPayer_93 : decode cX7_nextPayer 93 = .ok (.iload_n 1, 1) := by decide +kernel
theorem dX7_nextPayer_94 : decode cX7_nextPayer 94 = .ok (.invokevirtual 292, 3) := by decide +kernel
theorem dX7_nextPayer_97 : decode cX7_nextPayer 97 = .ok (.ireturn, 1) := by decide +kernel
theorem hd_X7_nextPayer : yX7_nextPayer.cls = RX7 ∧ yX7_nextPayer.cls ≠ "java/lang/invoke/MethodHandle" ∧ yX7_nextPayer.cls ≠ "java/lang/invoke/VarHandle" ∧ (parseMethodDescriptor yX7_nextPayer.desc).map (fun d => d.parameters.length) = some 0 := by decide +kernel
set_option maxRecDepth 100000 in
set_option maxHeartbeats 4000000 in
theorem c_X7_nextPayer (l : Launch) (D : va_G) (g : xG) (tb : List xQ) (hT : x_T g tb)  (h0 : x_md tb) {M : xM} {r : Int32} {M' : xM} (hf : f_X7_nextPayer  M = some (r, M')) :
    cI l D g tb yX7_nextPayer cX7_nextPayer 5 .int ({ frames := 5, cells := 0, slots := 0, locals := 118 } : Room) [.ref (g.1 5 2500)] M r M' := by
  refine x_startI (own := RX7) (by decide +kernel) rfl rfl (Nat.le_of_ble_eq_true rfl) hT ?_
  intro p e s m args below meth c Q C0 hend
  have B79 : ∀ (k13 : Int32 → Int32 → xM → Option (Int32 × xM)) (k41 : Int32 → Int32 → Int32 → xM → Option (Int32 × xM)) (hk13 : ∀ (v1 : Int32) (v2 : Int32)  (M : xM), k13 v1 v2 M = some (r, M') → WW p l e ({ frames := 5, cells := 0, slots := 0, locals := 118 } : Room) s m args below meth c 0 0 Q 5 D g tb 13 [(0, .ref (g.1 5 2500)), (1, .int v1), (2, .int v2)] [] M) (hk41 : ∀ (v1 : Int32) (v2 : Int32) (v4 : Int32)  (M : xM), k41 v1 v2 v4 M = some (r, M') → WW p l e ({ frames := 5, cells := 0, slots := 0, locals := 118 } : Room) s m args below meth c 0 0 Q 5 D g tb 41 [(0, .ref (g.1 5 2500)), (1, .int v1), (2, .int v2), (4, .int v4)] [] M), ∀ (v2 : Int32) (v4 : Int32) (s0 : Int32)  (M : xM), f_X7_nextPayer_c79 k13 k41  v2 v4 s0 M = some (r, M') → WW p l e ({ frames := 5, cells := 0, slots := 0, locals := 118 } : Room) s m args below meth c 0 0 Q 5 D g tb 79 [(0, .ref (g.1 5 2500)), (2, .int v2), (4, .int v4)] [.int s0] M := by
    intro k13 k41 hk13 hk41 v2 v4 s0  M hf
    unfold f_X7_nextPayer_c79 at hf
    refine r_istore_n C0 (kk := 1) (lv2 := [(1, .int s0), (0, .ref (g.1 5 2500)), (2, .int v2), (4, .int v4)]) (by decide) rfl dX7_nextPayer_79 ?_
    refine r_iincc C0 3 rfl (k0 := (-1)) (by decide) (by decide) (lv2 := [(4, .int (v4 + (-1))), (1, .int s0), (0, .ref (g.1 5 2500)), (2, .int v2)]) rfl dX7_nextPayer_80 ?_
    refine r_goto C0 (tgt := 41) (by decide) dX7_nextPayer_83 ?_
    refine WW.sub [2, 1, 3, 0] rfl ?_
    exact hk41 _ _ _   _ hf
  have B41 : ∀ (k13 : Int32 → Int32 → xM → Option (Int32 × xM)) (k41 : Int32 → Int32 → Int32 → xM → Option (Int32 × xM)) (hk13 : ∀ (v1 : Int32) (v2 : Int32)  (M : xM), k13 v1 v2 M = some (r, M') → WW p l e ({ frames := 5, cells := 0, slots := 0, locals := 118 } : Room) s m args below meth c 0 0 Q 5 D g tb 13 [(0, .ref (g.1 5 2500)), (1, .int v1), (2, .int v2)] [] M) (hk41 : ∀ (v1 : Int32) (v2 : Int32) (v4 : Int32)  (M : xM), k41 v1 v2 v4 M = some (r, M') → WW p l e ({ frames := 5, cells := 0, slots := 0, locals := 118 } : Room) s m args below meth c 0 0 Q 5 D g tb 41 [(0, .ref (g.1 5 2500)), (1, .int v1), (2, .int v2), (4, .int v4)] [] M), ∀ (v1 : Int32) (v2 : Int32) (v4 : Int32)  (M : xM), fb_X7_nextPayer_c41 k13 k41  v1 v2 v4 M = some (r, M') → WW p l e ({ frames := 5, cells := 0, slots := 0, locals := 118 } : Room) s m args below meth c 0 0 Q 5 D g tb 41 [(0, .ref (g.1 5 2500)), (1, .int v1), (2, .int v2), (4, .int v4)] [] M := by
    intro k13 k41 hk13 hk41 v1 v2 v4  M hf
    unfold fb_X7_nextPayer_c41 at hf
    refine r_iload C0 3 rfl dX7_nextPayer_41 ?_
    refine r_if_lt C0 (tgt := 86) (by decide) dX7_nextPayer_43 (fun q14 => ?_) (fun q14 => ?_)
    · have hf := ie_t hf q14
      refine r_iincc C0 2 rfl (k0 := 1) (by decide) (by decide) (lv2 := [(2, .int (v2 + 1)), (0, .ref (g.1 5 2500)), (1, .int v1), (4, .int v4)]) rfl dX7_nextPayer_86 ?_
      refine r_goto C0 (tgt := 13) (by decide) dX7_nextPayer_89 ?_
      refine WW.sub [1, 2, 0] rfl ?_
      exact hk13 _ _   _ hf
    · have hf := ie_f hf q14
      refine r_aload_n C0 (kk := 0) 0 rfl dX7_nextPayer_46 ?_
      refine r_iload C0 3 rfl dX7_nextPayer_47 ?_
      refine r_bipush C0 (v := 7) dX7_nextPayer_49 rfl ?_
      obtain ⟨r17, M16, hc15, hf⟩ := bd2_e hf
      refine r_callVi C0 (As := [.int v4, .int 7]) (rest := []) (c_X7_by l D g tb hT h0 hc15) w6_103 w6_105 wp4_1 w1_14 w6_106 (x_rec5 C0 h0.1) hd_X7_by rfl ⟨rfl, rfl⟩ ⟨Nat.le_of_ble_eq_true rfl, Nat.le_of_ble_eq_true rfl⟩ (by decide) (by decide) rfl (Nat.le_of_ble_eq_true rfl) dX7_nextPayer_51 ?_
      refine r_aload_n C0 (kk := 0) 0 rfl dX7_nextPayer_54 ?_
      refine r_get5 C0 h0.1 7 (by decide) (v := .ref (g.1 6 2770)) rfl rfl w6_223 dX7_nextPayer_55 ?_
      refine r_bipush C0 (v := 77) dX7_nextPayer_58 rfl ?_
      refine r_bipush C0 (v := 8) dX7_nextPayer_60 rfl ?_
      refine r_iload C0 3 rfl dX7_nextPayer_62 ?_
      refine r_imul C0 dX7_nextPayer_64 ?_
      refine r_iadd C0 dX7_nextPayer_65 ?_
      refine r_bipush C0 (v := 7) dX7_nextPayer_66 rfl ?_
      refine r_iadd C0 dX7_nextPayer_68 ?_
      obtain ⟨q18, hf⟩ := gd_e hf
      refine r_ialdc C0 h0.2.2.2.1 q18 rfl dX7_nextPayer_69 ?_
      refine r_icmp_le C0 (tgt := 78) (by decide) dX7_nextPayer_70 (fun q19 => ?_) (fun q19 => ?_)
      · have hf := ie_t hf q19
        refine r_iload_n C0 (kk := 1) 1 rfl dX7_nextPayer_78 ?_
        refine WW.sub [0, 2, 3] rfl ?_
        exact B79 k13 k41 hk13 hk41 _ _ _   _ hf
      · have hf := ie_f hf q19
        refine r_iload C0 3 rfl dX7_nextPayer_73 ?_
        refine r_goto C0 (tgt := 79) (by decide) dX7_nextPayer_75 ?_
        refine WW.sub [0, 2, 3] rfl ?_
        exact B79 k13 k41 hk13 hk41 _ _ _   _ hf
  have L41 : ∀ (k13 : Int32 → Int32 → xM → Option (Int32 × xM)) (hk13 : ∀ (v1 : Int32) (v2 : Int32)  (M : xM), k13 v1 v2 M = some (r, M') → WW p l e ({ frames := 5, cells := 0, slots := 0, locals := 118 } : Room) s m args below meth c 0 0 Q 5 D g tb 13 [(0, .ref (g.1 5 2500)), (1, .int v1), (2, .int v2)] [] M), ∀ (v1 : Int32) (v2 : Int32) (v4 : Int32)  (M : xM), f_X7_nextPayer_c41 k13  v1 v2 v4 M = some (r, M') → WW p l e ({ frames := 5, cells := 0, slots := 0, locals := 118 } : Room) s m args below meth c 0 0 Q 5 D g tb 41 [(0, .ref (g.1 5 2500)), (1, .int v1), (2, .int v2), (4, .int v4)] [] M := fun k13 hk13 => lp_ind (P := fun f => ∀ (v1 : Int32) (v2 : Int32) (v4 : Int32)  (M : xM), f v1 v2 v4 M = some (r, M') → WW p l e ({ frames := 5, cells := 0, slots := 0, locals := 118 } : Room) s m args below meth c 0 0 Q 5 D g tb 41 [(0, .ref (g.1 5 2500)), (1, .int v1), (2, .int v2), (4, .int v4)] [] M) (fun _ _ _ _ h => none_ne h) (fun f hf => B41 k13 f hk13 hf) FU
  have B13 : ∀ (k13 : Int32 → Int32 → xM → Option (Int32 × xM)) (hk13 : ∀ (v1 : Int32) (v2 : Int32)  (M : xM), k13 v1 v2 M = some (r, M') → WW p l e ({ frames := 5, cells := 0, slots := 0, locals := 118 } : Room) s m args below meth c 0 0 Q 5 D g tb 13 [(0, .ref (g.1 5 2500)), (1, .int v1), (2, .int v2)] [] M), ∀ (v1 : Int32) (v2 : Int32)  (M : xM), fb_X7_nextPayer_c13 k13  v1 v2 M = some (r, M') → WW p l e ({ frames := 5, cells := 0, slots := 0, locals := 118 } : Room) s m args below meth c 0 0 Q 5 D g tb 13 [(0, .ref (g.1 5 2500)), (1, .int v1), (2, .int v2)] [] M := by
    intro k13 hk13 v1 v2  M hf
    unfold fb_X7_nextPayer_c13 at hf
    refine r_iload_n C0 (kk := 2) 2 rfl dX7_nextPayer_13 ?_
    refine r_sipush C0 (v := 200) dX7_nextPayer_14 rfl ?_
    refine r_icmp_ge C0 (tgt := 92) (by decide) dX7_nextPayer_17 (fun q3 => ?_) (fun q3 => ?_)
    · have hf := ie_t hf q3
      refine r_aload_n C0 (kk := 0) 0 rfl dX7_nextPayer_92 ?_
      refine r_iload_n C0 (kk := 1) 1 rfl dX7_nextPayer_93 ?_
      obtain ⟨r6, M5, hc4, hf⟩ := bd2_e hf
      refine r_callVi C0 (As := [.int v1]) (rest := []) (c_X7_leaveTrial l D g tb hT h0 hc4) w6_212 w6_214 wp5_9 w1_14 w6_215 (x_rec5 C0 h0.1) hd_X7_leaveTrial rfl ⟨rfl, rfl⟩ ⟨Nat.le_of_ble_eq_true rfl, Nat.le_of_ble_eq_true rfl⟩ (by decide) (by decide) rfl (Nat.le_of_ble_eq_true rfl) dX7_nextPayer_94 ?_
      exact hend hf dX7_nextPayer_97
    · have hf := ie_f hf q3
      refine r_iload_n C0 (kk := 1) 1 rfl dX7_nextPayer_20 ?_
      refine r_iconst C0 (v := (-1)) dX7_nextPayer_21 rfl ?_
      refine r_icmp_ne C0 (tgt := 92) (by decide) dX7_nextPayer_22 (fun q7 => ?_) (fun q7 => ?_)
      · have hf := ie_f hf q7
        refine r_aload_n C0 (kk := 0) 0 rfl dX7_nextPayer_92 ?_
        refine r_iload_n C0 (kk := 1) 1 rfl dX7_nextPayer_93 ?_
        obtain ⟨r10, M9, hc8, hf⟩ := bd2_e hf
        refine r_callVi C0 (As := [.int v1]) (rest := []) (c_X7_leaveTrial l D g tb hT h0 hc8) w6_212 w6_214 wp5_9 w1_14 w6_215 (x_rec5 C0 h0.1) hd_X7_leaveTrial rfl ⟨rfl, rfl⟩ ⟨Nat.le_of_ble_eq_true rfl, Nat.le_of_ble_eq_true rfl⟩ (by decide) (by decide) rfl (Nat.le_of_ble_eq_true rfl) dX7_nextPayer_94 ?_
        exact hend hf dX7_nextPayer_97
      · have hf := ie_t hf q7
        refine r_aload_n C0 (kk := 0) 0 rfl dX7_nextPayer_25 ?_
        obtain ⟨r13, M12, hc11, hf⟩ := bd2_e hf
        refine r_callVi C0 (As := []) (rest := []) (c_X7_passMinute l D g tb hT h0 hc11) w6_139 w6_141 wp4_10 w1_14 w6_142 (x_rec5 C0 h0.1) hd_X7_passMinute rfl ⟨rfl, rfl⟩ ⟨Nat.le_of_ble_eq_true rfl, Nat.le_of_ble_eq_true rfl⟩ (by decide) (by decide) rfl (Nat.le_of_ble_eq_true rfl) dX7_nextPayer_26 ?_
        refine r_istore_n C0 (kk := 3) (lv2 := [(3, .int r13), (0, .ref (g.1 5 2500)), (1, .int v1), (2, .int v2)]) (by decide) rfl dX7_nextPayer_29 ?_
        refine r_aload_n C0 (kk := 0) 1 rfl dX7_nextPayer_30 ?_
        refine r_get5 C0 h0.1 5 (by decide) (v := .ref (g.1 6 2520)) rfl rfl w6_221 dX7_nextPayer_31 ?_
        refine r_bipush C0 (v := 10) dX7_nextPayer_34 rfl ?_
        refine r_ialdc C0 h0.2.1 (z := 2530) (by decide) (by decide) dX7_nextPayer_36 ?_
        refine r_iconst C0 (v := 1) dX7_nextPayer_37 rfl ?_
        refine r_isub C0 dX7_nextPayer_38 ?_
        refine r_istore C0 (lv2 := [(4, .int ((M12 2530) - 1)), (3, .int r13), (0, .ref (g.1 5 2500)), (1, .int v1), (2, .int v2)]) (by decide) rfl dX7_nextPayer_39 ?_
        refine WW.sub [2, 3, 4, 0] rfl ?_
        exact L41 k13 hk13 _ _ _   _ hf
  have L13 : ∀ (v1 : Int32) (v2 : Int32)  (M : xM), f_X7_nextPayer_c13   v1 v2 M = some (r, M') → WW p l e ({ frames := 5, cells := 0, slots := 0, locals := 118 } : Room) s m args below meth c 0 0 Q 5 D g tb 13 [(0, .ref (g.1 5 2500)), (1, .int v1), (2, .int v2)] [] M := lp_ind (P := fun f => ∀ (v1 : Int32) (v2 : Int32)  (M : xM), f v1 v2 M = some (r, M') → WW p l e ({ frames := 5, cells := 0, slots := 0, locals := 118 } : Room) s m args below meth c 0 0 Q 5 D g tb 13 [(0, .ref (g.1 5 2500)), (1, .int v1), (2, .int v2)] [] M) (fun _ _ _ h => none_ne h) (fun f hf => B13 f hf) FU
  unfold f_X7_nextPayer at hf
  refine r_aload_n C0 (kk := 0) 0 rfl dX7_nextPayer_0 ?_
  refine r_iconst C0 (v := 0) dX7_nextPayer_1 rfl ?_
  refine r_put5 C0 h0.1 4 rfl rfl w6_220 rfl rfl rfl dX7_nextPayer_2 ?_
  refine r_aload_n C0 (kk := 0) 0 rfl dX7_nextPayer_5 ?_
  obtain ⟨M2, hc1, hf⟩ := bd_e hf
  refine r_callVv C0 (As := []) (rest := []) (c_X7_startTrial l D g tb hT h0 hc1) w5_237 w5_239 wp2_14 w1_14 w6_0 (x_rec5 C0 h0.1) hd_X7_startTrial rfl ⟨rfl, rfl⟩ ⟨Nat.le_of_ble_eq_true rfl, Nat.le_of_ble_eq_true rfl⟩ (by decide) (by decide) rfl (Nat.le_of_ble_eq_true rfl) dX7_nextPayer_6 ?_
  refine r_iconst C0 (v := (-1)) dX7_nextPayer_9 rfl ?_
  refine r_istore_n C0 (kk := 1) (lv2 := [(1, .int (-1)), (0, .ref (g.1 5 2500))]) (by decide) rfl dX7_nextPayer_10 ?_
  refine r_iconst C0 (v := 0) dX7_nextPayer_11 rfl ?_
  refine r_istore_n C0 (kk := 2) (lv2 := [(2, .int 0), (1, .int (-1)), (0, .ref (g.1 5 2500))]) (by decide) rfl dX7_nextPayer_12 ?_
  refine WW.sub [2, 1, 0] rfl ?_
  exact L13   _ _   _ hf
theorem dX7_passAll_0 : decode cX7_passAll 0 = .ok (.iconst 0, 1) := by decide +kernel
theorem dX7_passAll_1 : decode cX7_passAll 1 = .ok (.istore_n 2, 1) := by decide +kernel
theorem dX7_passAll_2 : decode cX7_passAll 2 = .ok (.iconst 0, 1) := by decide +kernel
theorem dX7_passAll_3 : decode cX7_passAll 3 = .ok (.istore_n 3, 1) := by decide +kernel
theorem dX7_passAll_4 : decode cX7_passAll 4 = .ok (.iload_n 3, 1) := by decide +kernel
theorem dX7_passAll_5 : decode cX7_passAll 5 = .ok (.iload_n 1, 1) := by decide +kernel
theorem dX7_passAll_6 : decode cX7_passAll 6 = .ok (.if_icmp .ge 16, 3) := by decide +kernel
theorem dX7_passAll_9 : decode cX7_passAll 9 = .ok (.iload_n 2, 1) := by decide +kernel
theorem dX7_passAll_10 : decode cX7_passAll 10 = .ok (.aload_n 0, 1) := by decide +kernel
theorem dX7_passAll_11 : decode cX7_passAll 11 = .ok (.invokevirtual 136, 3) := by decide +kernel
theorem dX7_passAll_14 : decode cX7_passAll 14 = .ok (.iadd, 1) := by decide +kernel
theorem dX7_passAll_15 : decode cX7_passAll 15 = .ok (.istore_n 2, 1) := by decide +kernel
theorem dX7_passAll_16 : decode cX7_passAll 16 = .ok (.iinc 3 1, 3) := by decide +kernel
theorem dX7_passAll_19 : decode cX7_passAll 19 = .ok (.goto (-15), 3) := by decide +kernel
theorem dX7_passAll_22 : decode cX7_passAll 22 = .ok (.iload_n 2, 1) := by decide +kernel
theorem dX7_passAll_23 : decode cX7_passAll 23 = .ok (.ireturn, 1) := by decide +kernel
theorem hd_X7_passAll : yX7_passAll.cls = RX7 ∧ yX7_passAll.cls ≠ "java/lang/invoke/MethodHandle" ∧ yX7_passAll.cls ≠ "java/lang/invoke/VarHandle" ∧ (parseMethodDescriptor yX7_passAll.desc).map (fun d => d.parameters.length) = some 1 := by decide +kernel
set_option maxRecDepth 100000 in
set_option maxHeartbeats 4000000 in
theorem c_X7_passAll (l : Launch) (D : va_G) (g : xG) (tb : List xQ) (hT : x_T g tb) {a1 : Int32} (h0 : x_md tb) {M : xM} {r : Int32} {M' : xM} (hf : f_X7_passAll a1 M = some (r, M')) :
    cI l D g tb yX7_passAll cX7_passAll 4 .int ({ frames := 5, cells := 0, slots := 0, locals := 118 } : Room) [.ref (g.1 5 2500), .int a1] M r M' := by
  refine x_startI (own := RX7) (by decide +kernel) rfl rfl (Nat.le_of_ble_eq_true rfl) hT ?_
  intro p e s m args below meth c Q C0 hend
  have B4 : ∀ (k4 : Int32 → Int32 → xM → Option (Int32 × xM)) (hk4 : ∀ (v2 : Int32) (v3 : Int32)  (M : xM), k4 v2 v3 M = some (r, M') → WW p l e ({ frames := 5, cells := 0, slots := 0, locals := 118 } : Room) s m args below meth c 0 0 Q 4 D g tb 4 [(0, .ref (g.1 5 2500)), (1, .int a1), (2, .int v2), (3, .int v3)] [] M), ∀ (v2 : Int32) (v3 : Int32)  (M : xM), fb_X7_passAll_c4 k4 a1 v2 v3 M = some (r, M') → WW p l e ({ frames := 5, cells := 0, slots := 0, locals := 118 } : Room) s m args below meth c 0 0 Q 4 D g tb 4 [(0, .ref (g.1 5 2500)), (1, .int a1), (2, .int v2), (3, .int v3)] [] M := by
    intro k4 hk4 v2 v3  M hf
    unfold fb_X7_passAll_c4 at hf
    refine r_iload_n C0 (kk := 3) 3 rfl dX7_passAll_4 ?_
    refine r_iload_n C0 (kk := 1) 1 rfl dX7_passAll_5 ?_
    refine r_icmp_ge C0 (tgt := 22) (by decide) dX7_passAll_6 (fun q1 => ?_) (fun q1 => ?_)
    · have hf := ie_t hf q1
      refine r_iload_n C0 (kk := 2) 2 rfl dX7_passAll_22 ?_
      exact hend hf dX7_passAll_23
    · have hf := ie_f hf q1
      refine r_iload_n C0 (kk := 2) 2 rfl dX7_passAll_9 ?_
      refine r_aload_n C0 (kk := 0) 0 rfl dX7_passAll_10 ?_
      obtain ⟨r4, M3, hc2, hf⟩ := bd2_e hf
      refine r_callVi C0 (As := []) (rest := [.int v2]) (c_X7_passMinute l D g tb hT h0 hc2) w6_139 w6_141 wp4_10 w1_14 w6_142 (x_rec5 C0 h0.1) hd_X7_passMinute rfl ⟨rfl, rfl⟩ ⟨Nat.le_of_ble_eq_true rfl, Nat.le_of_ble_eq_true rfl⟩ (by decide) (by decide) rfl (Nat.le_of_ble_eq_true rfl) dX7_passAll_11 ?_
      refine r_iadd C0 dX7_passAll_14 ?_
      refine r_istore_n C0 (kk := 2) (lv2 := [(2, .int (v2 + r4)), (0, .ref (g.1 5 2500)), (1, .int a1), (3, .int v3)]) (by decide) rfl dX7_passAll_15 ?_
      refine r_iincc C0 3 rfl (k0 := 1) (by decide) (by decide) (lv2 := [(3, .int (v3 + 1)), (2, .int (v2 + r4)), (0, .ref (g.1 5 2500)), (1, .int a1)]) rfl dX7_passAll_16 ?_
      refine r_goto C0 (tgt := 4) (by decide) dX7_passAll_19 ?_
      refine WW.sub [2, 3, 1, 0] rfl ?_
      exact hk4 _ _   _ hf
  have L4 : ∀ (v2 : Int32) (v3 : Int32)  (M : xM), f_X7_passAll_c4  a1 v2 v3 M = some (r, M') → WW p l e ({ frames := 5, cells := 0, slots := 0, locals := 118 } : Room) s m args below meth c 0 0 Q 4 D g tb 4 [(0, .ref (g.1 5 2500)), (1, .int a1), (2, .int v2), (3, .int v3)] [] M := lp_ind (P := fun f => ∀ (v2 : Int32) (v3 : Int32)  (M : xM), f v2 v3 M = some (r, M') → WW p l e ({ frames := 5, cells := 0, slots := 0, locals := 118 } : Room) s m args below meth c 0 0 Q 4 D g tb 4 [(0, .ref (g.1 5 2500)), (1, .int a1), (2, .int v2), (3, .int v3)] [] M) (fun _ _ _ h => none_ne h) (fun f hf => B4 f hf) FU
  unfold f_X7_passAll at hf
  refine r_iconst C0 (v := 0) dX7_passAll_0 rfl ?_
  refine r_istore_n C0 (kk := 2) (lv2 := [(2, .int 0), (0, .ref (g.1 5 2500)), (1, .int a1)]) (by decide) rfl dX7_passAll_1 ?_
  refine r_iconst C0 (v := 0) dX7_passAll_2 rfl ?_
  refine r_istore_n C0 (kk := 3) (lv2 := [(3, .int 0), (2, .int 0), (0, .ref (g.1 5 2500)), (1, .int a1)]) (by decide) rfl dX7_passAll_3 ?_
  refine WW.sub [2, 3, 1, 0] rfl ?_
  exact L4   _ _   _ hf
theorem dX7_minutesToBell_0 : decode cX7_minutesToBell 0 = .ok (.aload_n 0, 1) := by decide +kernel
theorem dX7_minutesToBell_1 : decode cX7_minutesToBell 1 = .ok (.iconst 0, 1) := by decide +kernel
theorem dX7_minutesToBell_2 : decode cX7_minutesToBell 2 = .ok (.putfield 60, 3) := by decide +kernel
theorem dX7_minutesToBell_5 : decode cX7_minutesToBell 5 = .ok (.aload_n 0, 1) := by decide +kernel
theorem dX7_minutesToBell_6 : decode cX7_minutesToBell 6 = .ok (.iconst 0, 1) := by decide +kernel
theorem dX7_minutesToBell_7 : decode cX7_minutesToBell 7 = .ok (.invokevirtual 308, 3) := by decide +kernel
theorem dX7_minutesToBell_10 : decode cX7_minutesToBell 10 = .ok (.ireturn, 1) := by decide +kernel
theorem hd_X7_minutesToBell : yX7_minutesToBell.cls = RX7 ∧ yX7_minutesToBell.cls ≠ "java/lang/invoke/MethodHandle" ∧ yX7_minutesToBell.cls ≠ "java/lang/invoke/VarHandle" ∧ (parseMethodDescriptor yX7_minutesToBell.desc).map (fun d => d.parameters.length) = some 0 := by decide +kernel
set_option maxRecDepth 100000 in
set_option maxHeartbeats 4000000 in
theorem c_X7_minutesToBell (l : Launch) (D : va_G) (g : xG) (tb : List xQ) (hT : x_T g tb)  (h0 : x_md tb) {M : xM} {r : Int32} {M' : xM} (hf : f_X7_minutesToBell  M = some (r, M')) :
    cI l D g tb yX7_minutesToBell cX7_minutesToBell 1 .int ({ frames := 6, cells := 0, slots := 0, locals := 144 } : Room) [.ref (g.1 5 2500)] M r M' := by
  refine x_startI (own := RX7) (by decide +kernel) rfl rfl (Nat.le_of_ble_eq_true rfl) hT ?_
  intro p e s m args below meth c Q C0 hend
  unfold f_X7_minutesToBell at hf
  refine r_aload_n C0 (kk := 0) 0 rfl dX7_minutesToBell_0 ?_
  refine r_iconst C0 (v := 0) dX7_minutesToBell_1 rfl ?_
  refine r_put5 C0 h0.1 4 rfl rfl w6_220 rfl rfl rfl dX7_minutesToBell_2 ?_
  refine r_aload_n C0 (kk := 0) 0 rfl dX7_minutesToBell_5 ?_
  refine r_iconst C0 (v := 0) dX7_minutesToBell_6 rfl ?_
  obtain ⟨r3, M2, hc1, hf⟩ := bd2_e hf
  refine r_callVi C0 (As := [.int 0]) (rest := []) (c_X7_minutesTo l D g tb hT h0 hc1) w7_117 w7_119 wp5_13 w1_14 w7_120 (x_rec5 C0 h0.1) hd_X7_minutesTo rfl ⟨rfl, rfl⟩ ⟨Nat.le_of_ble_eq_true rfl, Nat.le_of_ble_eq_true rfl⟩ (by decide) (by decide) rfl (Nat.le_of_ble_eq_true rfl) dX7_minutesToBell_7 ?_
  exact hend hf dX7_minutesToBell_10
theorem dX7_bestBellPosition_0 : decode cX7_bestBellPosition 0 = .ok (.aload_n 0, 1) := by decide +kernel
theorem dX7_bestBellPosition_1 : decode cX7_bestBellPosition 1 = .ok (.iconst 0, 1) := by decide +kernel
theorem dX7_bestBellPosition_2 : decode cX7_bestBellPosition 2 = .ok (.putfield 60, 3) := by decide +kernel
theorem dX7_bestBellPosition_5 : decode cX7_bestBellPosition 5 = .ok (.iconst 0, 1) := by decide +kernel
theorem dX7_bestBellPosition_6 : decode cX7_bestBellPosition 6 = .ok (.istore_n 1, 1) := by decide +kernel
theorem dX7_bestBellPosition_7 : decode cX7_bestBellPosition 7 = .ok (.iconst (-1), 1) := by decide +kernel
theorem dX7_bestBellPosition_8 : decode cX7_bestBellPosition 8 = .ok (.istore_n 2, 1) := by decide +kernel
theorem dX7_bestBellPosition_9 : decode cX7_bestBellPosition 9 = .ok (.iconst 0, 1) := by decide +kernel
theorem dX7_bestBellPosition_10 : decode cX7_bestBellPosition 10 = .ok (.istore_n 3, 1) := by decide +kernel
theorem dX7_bestBellPosition_11 : decode cX7_bestBellPosition 11 = .ok (.iload_n 3, 1) := by decide +kernel
theorem dX7_bestBellPosition_12 : decode cX7_bestBellPosition 12 = .ok (.bipush 100, 2) := by decide +kernel
theorem dX7_bestBellPosition_14 : decode cX7_bestBellPosition 14 = .ok (.if_icmp .ge 52, 3) := by decide +kernel
theorem dX7_bestBellPosition_17 : decode cX7_bestBellPosition 17 = .ok (.aload_n 0, 1) := by decide +kernel
theorem dX7_bestBellPosition_18 : decode cX7_bestBellPosition 18 = .ok (.invokevirtual 283, 3) := by decide +kernel
theorem dX7_bestBellPosition_21 : decode cX7_bestBellPosition 21 = .ok (.aload_n 0, 1) := by decide +kernel
theorem dX7_bestBellPosition_22 : decode cX7_bestBellPosition 22 = .ok (.getfield 17, 3) := by decide +kernel
theorem dX7_bestBellPosition_25 : decode cX7_bestBellPosition 25 = .ok (.bipush 7, 2) := by decide +kernel
theorem dX7_bestBellPosition_27 : decode cX7_bestBellPosition 27 = .ok (.iload_n 3, 1) := by decide +kernel
theorem dX7_bestBellPosition_28 : decode cX7_bestBellPosition 28 = .ok (.iastore, 1) := by decide +kernel
theorem dX7_bestBellPosition_29 : decode cX7_bestBellPosition 29 = .ok (.aload_n 0, 1) := by decide +kernel
theorem dX7_bestBellPosition_30 : decode cX7_bestBellPosition 30 = .ok (.bipush 60, 2) := by decide +kernel
theorem dX7_bestBellPosition_32 : decode cX7_bestBellPosition 32 = .ok (.invokevirtual 271, 3) := by decide +kernel
theorem dX7_bestBellPosition_35 : decode cX7_bestBellPosition 35 = .ok (.istore 4, 2) := by decide +kernel
theorem dX7_bestBellPosition_37 : decode cX7_bestBellPosition 37 = .ok (.aload_n 0, 1) := by decide +kernel
theorem dX7_bestBellPosition_38 : decode cX7_bestBellPosition 38 = .ok (.aload_n 0, 1) := by decide +kernel
theorem dX7_bestBellPosition_39 : decode cX7_bestBellPosition 39 = .ok (.bipush 7, 2) := by decide +kernel
theorem dX7_bestBellPosition_41 : decode cX7_bestBellPosition 41 = .ok (.invokevirtual 326, 3) := by decide +kernel
theorem dX7_bestBellPosition_44 : decode cX7_bestBellPosition 44 = .ok (.invokevirtual 292, 3) := by decide +kernel
theorem dX7_bestBellPosition_47 : decode cX7_bestBellPosition 47 = .ok (.istore 5, 2) := by decide +kernel
theorem dX7_bestBellPosition_49 : decode cX7_bestBellPosition 49 = .ok (.iload 5, 2) := by decide +kernel
theorem dX7_bestBellPosition_51 : decode cX7_bestBellPosition 51 = .ok (.iload_n 2, 1) := by decide +kernel
theorem dX7_bestBellPosition_52 : decode cX7_bestBellPosition 52 = .ok (.if_icmp .le 8, 3) := by decide +kernel
theorem dX7_bestBellPosition_55 : decode cX7_bestBellPosition 55 = .ok (.iload_n 3, 1) := by decide +kernel
theorem dX7_bestBellPosition_56 : decode cX7_bestBellPosition 56 = .ok (.istore_n 1, 1) := by decide +kernel
theorem dX7_bestBellPosition_57 : decode cX7_bestBellPosition 57 = .ok (.iload 5, 2) := by decide +kernel
theorem dX7_bestBellPosition_59 : decode cX7_bestBellPosition 59 = .ok (.istore_n 2, 1) := by decide +kernel
theorem dX7_bestBellPosition_60 : decode cX7_bestBellPosition 60 = .ok (.iinc 3 1, 3) := by decide +kernel
theorem dX7_bestBellPosition_63 : decode cX7_bestBellPosition 63 = .ok (.goto (-52), 3) := by decide +kernel
theorem dX7_bestBellPosition_66 : decode cX7_bestBellPosition 66 = .ok (.iload_n 1, 1) := by decide +kernel
theorem dX7_bestBellPosition_67 : decode cX7_bestBellPosition 67 = .ok (.ireturn, 1) := by decide +kernel
theorem hd_X7_bestBellPosition : yX7_bestBellPosition.cls = RX7 ∧ yX7_bestBellPosition.cls ≠ "java/lang/invoke/MethodHandle" ∧ yX7_bestBellPosition.cls ≠ "java/lang/invoke/VarHandle" ∧ (parseMethodDescriptor yX7_bestBellPosition.desc).map (fun d => d.parameters.length) = some 0 := by decide +kernel
set_option maxRecDepth 100000 in
set_option maxHeartbeats 4000000 in
theorem c_X7_bestBellPosition (l : Launch) (D : va_G) (g : xG) (tb : List xQ) (hT : x_T g tb)  (h0 : x_md tb) {M : xM} {r : Int32} {M' : xM} (hf : f_X7_bestBellPosition  M = some (r, M')) :
    cI l D g tb yX7_bestBellPosition cX7_bestBellPosition 6 .int ({ frames := 6, cells := 0, slots := 0, locals := 141 } : Room) [.ref (g.1 5 2500)] M r M' := by
  refine x_startI (own := RX7) (by decide +kernel) rfl rfl (Nat.le_of_ble_eq_true rfl) hT ?_
  intro p e s m args below meth c Q C0 hend
  have B11 : ∀ (k11 : Int32 → Int32 → Int32 → xM → Option (Int32 × xM)) (hk11 : ∀ (v1 : Int32) (v2 : Int32) (v3 : Int32)  (M : xM), k11 v1 v2 v3 M = some (r, M') → WW p l e ({ frames := 6, cells := 0, slots := 0, locals := 141 } : Room) s m args below meth c 0 0 Q 6 D g tb 11 [(0, .ref (g.1 5 2500)), (1, .int v1), (2, .int v2), (3, .int v3)] [] M), ∀ (v1 : Int32) (v2 : Int32) (v3 : Int32)  (M : xM), fb_X7_bestBellPosition_c11 k11  v1 v2 v3 M = some (r, M') → WW p l e ({ frames := 6, cells := 0, slots := 0, locals := 141 } : Room) s m args below meth c 0 0 Q 6 D g tb 11 [(0, .ref (g.1 5 2500)), (1, .int v1), (2, .int v2), (3, .int v3)] [] M := by
    intro k11 hk11 v1 v2 v3  M hf
    unfold fb_X7_bestBellPosition_c11 at hf
    refine r_iload_n C0 (kk := 3) 3 rfl dX7_bestBellPosition_11 ?_
    refine r_bipush C0 (v := 100) dX7_bestBellPosition_12 rfl ?_
    refine r_icmp_ge C0 (tgt := 66) (by decide) dX7_bestBellPosition_14 (fun q1 => ?_) (fun q1 => ?_)
    · have hf := ie_t hf q1
      refine r_iload_n C0 (kk := 1) 1 rfl dX7_bestBellPosition_66 ?_
      exact hend hf dX7_bestBellPosition_67
    · have hf := ie_f hf q1
      refine r_aload_n C0 (kk := 0) 0 rfl dX7_bestBellPosition_17 ?_
      obtain ⟨M3, hc2, hf⟩ := bd_e hf
      refine r_callVv C0 (As := []) (rest := []) (c_X7_startTrial l D g tb hT h0 hc2) w5_237 w5_239 wp2_14 w1_14 w6_0 (x_rec5 C0 h0.1) hd_X7_startTrial rfl ⟨rfl, rfl⟩ ⟨Nat.le_of_ble_eq_true rfl, Nat.le_of_ble_eq_true rfl⟩ (by decide) (by decide) rfl (Nat.le_of_ble_eq_true rfl) dX7_bestBellPosition_18 ?_
      refine r_aload_n C0 (kk := 0) 0 rfl dX7_bestBellPosition_21 ?_
      refine r_get5 C0 h0.1 5 (by decide) (v := .ref (g.1 6 2520)) rfl rfl w6_221 dX7_bestBellPosition_22 ?_
      refine r_bipush C0 (v := 7) dX7_bestBellPosition_25 rfl ?_
      refine r_iload_n C0 (kk := 3) 3 rfl dX7_bestBellPosition_27 ?_
      refine r_iastc C0 h0.2.1 (z := 2527) (by decide) (by decide) dX7_bestBellPosition_28 ?_
      refine r_aload_n C0 (kk := 0) 0 rfl dX7_bestBellPosition_29 ?_
      refine r_bipush C0 (v := 60) dX7_bestBellPosition_30 rfl ?_
      obtain ⟨r6, M5, hc4, hf⟩ := bd2_e hf
      refine r_callVi C0 (As := [.int 60]) (rest := []) (c_X7_passAll l D g tb hT h0 hc4) w6_135 w6_137 wp4_9 w1_14 w6_138 (x_rec5 C0 h0.1) hd_X7_passAll rfl ⟨rfl, rfl⟩ ⟨Nat.le_of_ble_eq_true rfl, Nat.le_of_ble_eq_true rfl⟩ (by decide) (by decide) rfl (Nat.le_of_ble_eq_true rfl) dX7_bestBellPosition_32 ?_
      refine r_istore C0 (lv2 := [(4, .int r6), (0, .ref (g.1 5 2500)), (1, .int v1), (2, .int v2), (3, .int v3)]) (by decide) rfl dX7_bestBellPosition_35 ?_
      refine r_aload_n C0 (kk := 0) 1 rfl dX7_bestBellPosition_37 ?_
      refine r_aload_n C0 (kk := 0) 1 rfl dX7_bestBellPosition_38 ?_
      refine r_bipush C0 (v := 7) dX7_bestBellPosition_39 rfl ?_
      obtain ⟨r9, M8, hc7, hf⟩ := bd2_e hf
      refine r_callVi C0 (As := [.int 7]) (rest := [.ref (g.1 5 2500)]) (c_X7_sumOf l D g tb hT h0 hc7) w8_1 w8_3 wp6_3 w1_14 w8_4 (x_rec5 C0 h0.1) hd_X7_sumOf rfl ⟨rfl, rfl⟩ ⟨Nat.le_of_ble_eq_true rfl, Nat.le_of_ble_eq_true rfl⟩ (by decide) (by decide) rfl (Nat.le_of_ble_eq_true rfl) dX7_bestBellPosition_41 ?_
      obtain ⟨r12, M11, hc10, hf⟩ := bd2_e hf
      refine r_callVi C0 (As := [.int r9]) (rest := []) (c_X7_leaveTrial l D g tb hT h0 hc10) w6_212 w6_214 wp5_9 w1_14 w6_215 (x_rec5 C0 h0.1) hd_X7_leaveTrial rfl ⟨rfl, rfl⟩ ⟨Nat.le_of_ble_eq_true rfl, Nat.le_of_ble_eq_true rfl⟩ (by decide) (by decide) rfl (Nat.le_of_ble_eq_true rfl) dX7_bestBellPosition_44 ?_
      refine r_istore C0 (lv2 := [(5, .int r12), (4, .int r6), (0, .ref (g.1 5 2500)), (1, .int v1), (2, .int v2), (3, .int v3)]) (by decide) rfl dX7_bestBellPosition_47 ?_
      refine r_iload C0 0 rfl dX7_bestBellPosition_49 ?_
      refine r_iload_n C0 (kk := 2) 4 rfl dX7_bestBellPosition_51 ?_
      refine r_icmp_le C0 (tgt := 60) (by decide) dX7_bestBellPosition_52 (fun q13 => ?_) (fun q13 => ?_)
      · have hf := ie_t hf q13
        refine r_iincc C0 5 rfl (k0 := 1) (by decide) (by decide) (lv2 := [(3, .int (v3 + 1)), (5, .int r12), (4, .int r6), (0, .ref (g.1 5 2500)), (1, .int v1), (2, .int v2)]) rfl dX7_bestBellPosition_60 ?_
        refine r_goto C0 (tgt := 11) (by decide) dX7_bestBellPosition_63 ?_
        refine WW.sub [3, 4, 5, 0] rfl ?_
        exact hk11 _ _ _   _ hf
      · have hf := ie_f hf q13
        refine r_iload_n C0 (kk := 3) 5 rfl dX7_bestBellPosition_55 ?_
        refine r_istore_n C0 (kk := 1) (lv2 := [(1, .int v3), (5, .int r12), (4, .int r6), (0, .ref (g.1 5 2500)), (2, .int v2), (3, .int v3)]) (by decide) rfl dX7_bestBellPosition_56 ?_
        refine r_iload C0 1 rfl dX7_bestBellPosition_57 ?_
        refine r_istore_n C0 (kk := 2) (lv2 := [(2, .int r12), (1, .int v3), (5, .int r12), (4, .int r6), (0, .ref (g.1 5 2500)), (3, .int v3)]) (by decide) rfl dX7_bestBellPosition_59 ?_
        refine r_iincc C0 5 rfl (k0 := 1) (by decide) (by decide) (lv2 := [(3, .int (v3 + 1)), (2, .int r12), (1, .int v3), (5, .int r12), (4, .int r6), (0, .ref (g.1 5 2500))]) rfl dX7_bestBellPosition_60 ?_
        refine r_goto C0 (tgt := 11) (by decide) dX7_bestBellPosition_63 ?_
        refine WW.sub [5, 2, 1, 0] rfl ?_
        exact hk11 _ _ _   _ hf
  have L11 : ∀ (v1 : Int32) (v2 : Int32) (v3 : Int32)  (M : xM), f_X7_bestBellPosition_c11   v1 v2 v3 M = some (r, M') → WW p l e ({ frames := 6, cells := 0, slots := 0, locals := 141 } : Room) s m args below meth c 0 0 Q 6 D g tb 11 [(0, .ref (g.1 5 2500)), (1, .int v1), (2, .int v2), (3, .int v3)] [] M := lp_ind (P := fun f => ∀ (v1 : Int32) (v2 : Int32) (v3 : Int32)  (M : xM), f v1 v2 v3 M = some (r, M') → WW p l e ({ frames := 6, cells := 0, slots := 0, locals := 141 } : Room) s m args below meth c 0 0 Q 6 D g tb 11 [(0, .ref (g.1 5 2500)), (1, .int v1), (2, .int v2), (3, .int v3)] [] M) (fun _ _ _ _ h => none_ne h) (fun f hf => B11 f hf) FU
  unfold f_X7_bestBellPosition at hf
  refine r_aload_n C0 (kk := 0) 0 rfl dX7_bestBellPosition_0 ?_
  refine r_iconst C0 (v := 0) dX7_bestBellPosition_1 rfl ?_
  refine r_put5 C0 h0.1 4 rfl rfl w6_220 rfl rfl rfl dX7_bestBellPosition_2 ?_
  refine r_iconst C0 (v := 0) dX7_bestBellPosition_5 rfl ?_
  refine r_istore_n C0 (kk := 1) (lv2 := [(1, .int 0), (0, .ref (g.1 5 2500))]) (by decide) rfl dX7_bestBellPosition_6 ?_
  refine r_iconst C0 (v := (-1)) dX7_bestBellPosition_7 rfl ?_
  refine r_istore_n C0 (kk := 2) (lv2 := [(2, .int (-1)), (1, .int 0), (0, .ref (g.1 5 2500))]) (by decide) rfl dX7_bestBellPosition_8 ?_
  refine r_iconst C0 (v := 0) dX7_bestBellPosition_9 rfl ?_
  refine r_istore_n C0 (kk := 3) (lv2 := [(3, .int 0), (2, .int (-1)), (1, .int 0), (0, .ref (g.1 5 2500))]) (by decide) rfl dX7_bestBellPosition_10 ?_
  refine WW.sub [3, 2, 1, 0] rfl ?_
  exact L11   _ _ _   _ hf
theorem dX7_earnedIn_0 : decode cX7_earnedIn 0 = .ok (.aload_n 0, 1) := by decide +kernel
theorem dX7_earnedIn_1 : decode cX7_earnedIn 1 = .ok (.iload_n 2, 1) := by decide +kernel
theorem dX7_earnedIn_2 : decode cX7_earnedIn 2 = .ok (.invokevirtual 271, 3) := by decide +kernel
theorem dX7_earnedIn_5 : decode cX7_earnedIn 5 = .ok (.istore_n 3, 1) := by decide +kernel
theorem dX7_earnedIn_6 : decode cX7_earnedIn 6 = .ok (.aload_n 0, 1) := by decide +kernel
theorem dX7_earnedIn_7 : decode cX7_earnedIn 7 = .ok (.aload_n 0, 1) := by decide +kernel
theorem dX7_earnedIn_8 : decode cX7_earnedIn 8 = .ok (.iload_n 1, 1) := by decide +kernel
theorem dX7_earnedIn_9 : decode cX7_earnedIn 9 = .ok (.bipush 7, 2) := by decide +kernel
theorem dX7_earnedIn_11 : decode cX7_earnedIn 11 = .ok (.invokevirtual 63, 3) := by decide +kernel
theorem dX7_earnedIn_14 : decode cX7_earnedIn 14 = .ok (.invokevirtual 292, 3) := by decide +kernel
theorem dX7_earnedIn_17 : decode cX7_earnedIn 17 = .ok (.ireturn, 1) := by decide +kernel
theorem hd_X7_earnedIn : yX7_earnedIn.cls = RX7 ∧ yX7_earnedIn.cls ≠ "java/lang/invoke/MethodHandle" ∧ yX7_earnedIn.cls ≠ "java/lang/invoke/VarHandle" ∧ (parseMethodDescriptor yX7_earnedIn.desc).map (fun d => d.parameters.length) = some 2 := by decide +kernel
set_option maxRecDepth 100000 in
set_option maxHeartbeats 4000000 in
theorem c_X7_earnedIn (l : Launch) (D : va_G) (g : xG) (tb : List xQ) (hT : x_T g tb) {a1 : Int32} {a2 : Int32} (h0 : x_md tb) {M : xM} {r : Int32} {M' : xM} (hf : f_X7_earnedIn a1 a2 M = some (r, M')) :
    cI l D g tb yX7_earnedIn cX7_earnedIn 4 .int ({ frames := 6, cells := 0, slots := 0, locals := 141 } : Room) [.ref (g.1 5 2500), .int a1, .int a2] M r M' := by
  refine x_startI (own := RX7) (by decide +kernel) rfl rfl (Nat.le_of_ble_eq_true rfl) hT ?_
  intro p e s m args below meth c Q C0 hend
  unfold f_X7_earnedIn at hf
  refine r_aload_n C0 (kk := 0) 0 rfl dX7_earnedIn_0 ?_
  refine r_iload_n C0 (kk := 2) 2 rfl dX7_earnedIn_1 ?_
  obtain ⟨r3, M2, hc1, hf⟩ := bd2_e hf
  refine r_callVi C0 (As := [.int a2]) (rest := []) (c_X7_passAll l D g tb hT h0 hc1) w6_135 w6_137 wp4_9 w1_14 w6_138 (x_rec5 C0 h0.1) hd_X7_passAll rfl ⟨rfl, rfl⟩ ⟨Nat.le_of_ble_eq_true rfl, Nat.le_of_ble_eq_true rfl⟩ (by decide) (by decide) rfl (Nat.le_of_ble_eq_true rfl) dX7_earnedIn_2 ?_
  refine r_istore_n C0 (kk := 3) (lv2 := [(3, .int r3), (0, .ref (g.1 5 2500)), (1, .int a1), (2, .int a2)]) (by decide) rfl dX7_earnedIn_5 ?_
  refine r_aload_n C0 (kk := 0) 1 rfl dX7_earnedIn_6 ?_
  refine r_aload_n C0 (kk := 0) 1 rfl dX7_earnedIn_7 ?_
  refine r_iload_n C0 (kk := 1) 2 rfl dX7_earnedIn_8 ?_
  refine r_bipush C0 (v := 7) dX7_earnedIn_9 rfl ?_
  obtain ⟨r6, M5, hc4, hf⟩ := bd2_e hf
  refine r_callVi C0 (As := [.int a1, .int 7]) (rest := [.ref (g.1 5 2500)]) (c_X7_st l D g tb hT h0 hc4) w6_111 w6_113 wp4_3 w1_14 w6_114 (x_rec5 C0 h0.1) hd_X7_st rfl ⟨rfl, rfl⟩ ⟨Nat.le_of_ble_eq_true rfl, Nat.le_of_ble_eq_true rfl⟩ (by decide) (by decide) rfl (Nat.le_of_ble_eq_true rfl) dX7_earnedIn_11 ?_
  obtain ⟨r9, M8, hc7, hf⟩ := bd2_e hf
  refine r_callVi C0 (As := [.int r6]) (rest := []) (c_X7_leaveTrial l D g tb hT h0 hc7) w6_212 w6_214 wp5_9 w1_14 w6_215 (x_rec5 C0 h0.1) hd_X7_leaveTrial rfl ⟨rfl, rfl⟩ ⟨Nat.le_of_ble_eq_true rfl, Nat.le_of_ble_eq_true rfl⟩ (by decide) (by decide) rfl (Nat.le_of_ble_eq_true rfl) dX7_earnedIn_14 ?_
  exact hend hf dX7_earnedIn_17
theorem dX7_best_0 : decode cX7_best 0 = .ok (.iload_n 3, 1) := by decide +kernel
theorem dX7_best_1 : decode cX7_best 1 = .ok (.istore 5, 2) := by decide +kernel
theorem dX7_best_3 : decode cX7_best 3 = .ok (.iconst (-1), 1) := by decide +kernel
theorem dX7_best_4 : decode cX7_best 4 = .ok (.istore 6, 2) := by decide +kernel
theorem dX7_best_6 : decode cX7_best 6 = .ok (.iload_n 3, 1) := by decide +kernel
theorem dX7_best_7 : decode cX7_best 7 = .ok (.istore 7, 2) := by decide +kernel
theorem dX7_best_9 : decode cX7_best 9 = .ok (.iload 7, 2) := by decide +kernel
theorem dX7_best_11 : decode cX7_best 11 = .ok (.iload 4, 2) := by decide +kernel
theorem dX7_best_13 : decode cX7_best 13 = .ok (.if_icmp .gt 53, 3) := by decide +kernel
theorem dX7_best_16 : decode cX7_best 16 = .ok (.aload_n 0, 1) := by decide +kernel
theorem dX7_best_17 : decode cX7_best 17 = .ok (.invokevirtual 283, 3) := by decide +kernel
theorem dX7_best_20 : decode cX7_best 20 = .ok (.aload_n 0, 1) := by decide +kernel
theorem dX7_best_21 : decode cX7_best 21 = .ok (.getfield 17, 3) := by decide +kernel
theorem dX7_best_24 : decode cX7_best 24 = .ok (.bipush 23, 2) := by decide +kernel
theorem dX7_best_26 : decode cX7_best 26 = .ok (.bipush 9, 2) := by decide +kernel
theorem dX7_best_28 : decode cX7_best 28 = .ok (.iload_n 1, 1) := by decide +kernel
theorem dX7_best_29 : decode cX7_best 29 = .ok (.imul, 1) := by decide +kernel
theorem dX7_best_30 : decode cX7_best 30 = .ok (.iadd, 1) := by decide +kernel
theorem dX7_best_31 : decode cX7_best 31 = .ok (.iload_n 2, 1) := by decide +kernel
theorem dX7_best_32 : decode cX7_best 32 = .ok (.iadd, 1) := by decide +kernel
theorem dX7_best_33 : decode cX7_best 33 = .ok (.iload 7, 2) := by decide +kernel
theorem dX7_best_35 : decode cX7_best 35 = .ok (.iastore, 1) := by decide +kernel
theorem dX7_best_36 : decode cX7_best 36 = .ok (.aload_n 0, 1) := by decide +kernel
theorem dX7_best_37 : decode cX7_best 37 = .ok (.iload_n 1, 1) := by decide +kernel
theorem dX7_best_38 : decode cX7_best 38 = .ok (.bipush 60, 2) := by decide +kernel
theorem dX7_best_40 : decode cX7_best 40 = .ok (.invokevirtual 332, 3) := by decide +kernel
theorem dX7_best_43 : decode cX7_best 43 = .ok (.istore 8, 2) := by decide +kernel
theorem dX7_best_45 : decode cX7_best 45 = .ok (.iload 8, 2) := by decide +kernel
theorem dX7_best_47 : decode cX7_best 47 = .ok (.iload 6, 2) := by decide +kernel
theorem dX7_best_49 : decode cX7_best 49 = .ok (.if_icmp .le 11, 3) := by decide +kernel
theorem dX7_best_52 : decode cX7_best 52 = .ok (.iload 7, 2) := by decide +kernel
theorem dX7_best_54 : decode cX7_best 54 = .ok (.istore 5, 2) := by decide +kernel
theorem dX7_best_56 : decode cX7_best 56 = .ok (.iload 8, 2) := by decide +kernel
theorem dX7_best_58 : decode cX7_best 58 = .ok (.istore 6, 2) := by decide +kernel
theorem dX7_best_60 : decode cX7_best 60 = .ok (.iinc 7 1, 3) := by decide +kernel
theorem dX7_best_63 : decode cX7_best 63 = .ok (.goto (-54), 3) := by decide +kernel
theorem dX7_best_66 : decode cX7_best 66 = .ok (.iload 5, 2) := by decide +kernel
theorem dX7_best_68 : decode cX7_best 68 = .ok (.ireturn, 1) := by decide +kernel
theorem hd_X7_best : yX7_best.cls = RX7 ∧ yX7_best.cls ≠ "java/lang/invoke/MethodHandle" ∧ yX7_best.cls ≠ "java/lang/invoke/VarHandle" ∧ (parseMethodDescriptor yX7_best.desc).map (fun d => d.parameters.length) = some 4 := by decide +kernel
set_option maxRecDepth 100000 in
set_option maxHeartbeats 4000000 in
theorem c_X7_best (l : Launch) (D : va_G) (g : xG) (tb : List xQ) (hT : x_T g tb) {a1 : Int32} {a2 : Int32} {a3 : Int32} {a4 : Int32} (h0 : x_md tb) {M : xM} {r : Int32} {M' : xM} (hf : f_X7_best a1 a2 a3 a4 M = some (r, M')) :
    cI l D g tb yX7_best cX7_best 9 .int ({ frames := 7, cells := 0, slots := 0, locals := 164 } : Room) [.ref (g.1 5 2500), .int a1, .int a2, .int a3, .int a4] M r M' := by
  refine x_startI (own := RX7) (by decide +kernel) rfl rfl (Nat.le_of_ble_eq_true rfl) hT ?_
  intro p e s m args below meth c Q C0 hend
  have B9 : ∀ (k9 : Int32 → Int32 → Int32 → xM → Option (Int32 × xM)) (hk9 : ∀ (v5 : Int32) (v6 : Int32) (v7 : Int32)  (M : xM), k9 v5 v6 v7 M = some (r, M') → WW p l e ({ frames := 7, cells := 0, slots := 0, locals := 164 } : Room) s m args below meth c 0 0 Q 9 D g tb 9 [(0, .ref (g.1 5 2500)), (1, .int a1), (2, .int a2), (4, .int a4), (5, .int v5), (6, .int v6), (7, .int v7)] [] M), ∀ (v5 : Int32) (v6 : Int32) (v7 : Int32)  (M : xM), fb_X7_best_c9 k9 a1 a2 a3 a4 v5 v6 v7 M = some (r, M') → WW p l e ({ frames := 7, cells := 0, slots := 0, locals := 164 } : Room) s m args below meth c 0 0 Q 9 D g tb 9 [(0, .ref (g.1 5 2500)), (1, .int a1), (2, .int a2), (4, .int a4), (5, .int v5), (6, .int v6), (7, .int v7)] [] M := by
    intro k9 hk9 v5 v6 v7  M hf
    unfold fb_X7_best_c9 at hf
    refine r_iload C0 6 rfl dX7_best_9 ?_
    refine r_iload C0 3 rfl dX7_best_11 ?_
    refine r_icmp_gt C0 (tgt := 66) (by decide) dX7_best_13 (fun q1 => ?_) (fun q1 => ?_)
    · have hf := ie_t hf q1
      refine r_iload C0 4 rfl dX7_best_66 ?_
      exact hend hf dX7_best_68
    · have hf := ie_f hf q1
      refine r_aload_n C0 (kk := 0) 0 rfl dX7_best_16 ?_
      obtain ⟨M3, hc2, hf⟩ := bd_e hf
      refine r_callVv C0 (As := []) (rest := []) (c_X7_startTrial l D g tb hT h0 hc2) w5_237 w5_239 wp2_14 w1_14 w6_0 (x_rec5 C0 h0.1) hd_X7_startTrial rfl ⟨rfl, rfl⟩ ⟨Nat.le_of_ble_eq_true rfl, Nat.le_of_ble_eq_true rfl⟩ (by decide) (by decide) rfl (Nat.le_of_ble_eq_true rfl) dX7_best_17 ?_
      refine r_aload_n C0 (kk := 0) 0 rfl dX7_best_20 ?_
      refine r_get5 C0 h0.1 5 (by decide) (v := .ref (g.1 6 2520)) rfl rfl w6_221 dX7_best_21 ?_
      refine r_bipush C0 (v := 23) dX7_best_24 rfl ?_
      refine r_bipush C0 (v := 9) dX7_best_26 rfl ?_
      refine r_iload_n C0 (kk := 1) 1 rfl dX7_best_28 ?_
      refine r_imul C0 dX7_best_29 ?_
      refine r_iadd C0 dX7_best_30 ?_
      refine r_iload_n C0 (kk := 2) 2 rfl dX7_best_31 ?_
      refine r_iadd C0 dX7_best_32 ?_
      refine r_iload C0 6 rfl dX7_best_33 ?_
      obtain ⟨q4, hf⟩ := gd_e hf
      refine r_iastc C0 h0.2.1 q4 rfl dX7_best_35 ?_
      refine r_aload_n C0 (kk := 0) 0 rfl dX7_best_36 ?_
      refine r_iload_n C0 (kk := 1) 1 rfl dX7_best_37 ?_
      refine r_bipush C0 (v := 60) dX7_best_38 rfl ?_
      obtain ⟨r7, M6, hc5, hf⟩ := bd2_e hf
      refine r_callVi C0 (As := [.int a1, .int 60]) (rest := []) (c_X7_earnedIn l D g tb hT h0 hc5) w8_34 w8_36 wp6_4 w1_14 w8_37 (x_rec5 C0 h0.1) hd_X7_earnedIn rfl ⟨rfl, rfl⟩ ⟨Nat.le_of_ble_eq_true rfl, Nat.le_of_ble_eq_true rfl⟩ (by decide) (by decide) rfl (Nat.le_of_ble_eq_true rfl) dX7_best_40 ?_
      refine r_istore C0 (lv2 := [(8, .int r7), (0, .ref (g.1 5 2500)), (1, .int a1), (2, .int a2), (4, .int a4), (5, .int v5), (6, .int v6), (7, .int v7)]) (by decide) rfl dX7_best_43 ?_
      refine r_iload C0 0 rfl dX7_best_45 ?_
      refine r_iload C0 6 rfl dX7_best_47 ?_
      refine r_icmp_le C0 (tgt := 60) (by decide) dX7_best_49 (fun q8 => ?_) (fun q8 => ?_)
      · have hf := ie_t hf q8
        refine r_iincc C0 7 rfl (k0 := 1) (by decide) (by decide) (lv2 := [(7, .int (v7 + 1)), (8, .int r7), (0, .ref (g.1 5 2500)), (1, .int a1), (2, .int a2), (4, .int a4), (5, .int v5), (6, .int v6)]) rfl dX7_best_60 ?_
        refine r_goto C0 (tgt := 9) (by decide) dX7_best_63 ?_
        refine WW.sub [2, 3, 4, 5, 6, 7, 0] rfl ?_
        exact hk9 _ _ _   _ hf
      · have hf := ie_f hf q8
        refine r_iload C0 7 rfl dX7_best_52 ?_
        refine r_istore C0 (lv2 := [(5, .int v7), (8, .int r7), (0, .ref (g.1 5 2500)), (1, .int a1), (2, .int a2), (4, .int a4), (6, .int v6), (7, .int v7)]) (by decide) rfl dX7_best_54 ?_
        refine r_iload C0 1 rfl dX7_best_56 ?_
        refine r_istore C0 (lv2 := [(6, .int r7), (5, .int v7), (8, .int r7), (0, .ref (g.1 5 2500)), (1, .int a1), (2, .int a2), (4, .int a4), (7, .int v7)]) (by decide) rfl dX7_best_58 ?_
        refine r_iincc C0 7 rfl (k0 := 1) (by decide) (by decide) (lv2 := [(7, .int (v7 + 1)), (6, .int r7), (5, .int v7), (8, .int r7), (0, .ref (g.1 5 2500)), (1, .int a1), (2, .int a2), (4, .int a4)]) rfl dX7_best_60 ?_
        refine r_goto C0 (tgt := 9) (by decide) dX7_best_63 ?_
        refine WW.sub [4, 5, 6, 7, 2, 1, 0] rfl ?_
        exact hk9 _ _ _   _ hf
  have L9 : ∀ (v5 : Int32) (v6 : Int32) (v7 : Int32)  (M : xM), f_X7_best_c9  a1 a2 a3 a4 v5 v6 v7 M = some (r, M') → WW p l e ({ frames := 7, cells := 0, slots := 0, locals := 164 } : Room) s m args below meth c 0 0 Q 9 D g tb 9 [(0, .ref (g.1 5 2500)), (1, .int a1), (2, .int a2), (4, .int a4), (5, .int v5), (6, .int v6), (7, .int v7)] [] M := lp_ind (P := fun f => ∀ (v5 : Int32) (v6 : Int32) (v7 : Int32)  (M : xM), f v5 v6 v7 M = some (r, M') → WW p l e ({ frames := 7, cells := 0, slots := 0, locals := 164 } : Room) s m args below meth c 0 0 Q 9 D g tb 9 [(0, .ref (g.1 5 2500)), (1, .int a1), (2, .int a2), (4, .int a4), (5, .int v5), (6, .int v6), (7, .int v7)] [] M) (fun _ _ _ _ h => none_ne h) (fun f hf => B9 f hf) FU
  unfold f_X7_best at hf
  refine r_iload_n C0 (kk := 3) 3 rfl dX7_best_0 ?_
  refine r_istore C0 (lv2 := [(5, .int a3), (0, .ref (g.1 5 2500)), (1, .int a1), (2, .int a2), (3, .int a3), (4, .int a4)]) (by decide) rfl dX7_best_1 ?_
  refine r_iconst C0 (v := (-1)) dX7_best_3 rfl ?_
  refine r_istore C0 (lv2 := [(6, .int (-1)), (5, .int a3), (0, .ref (g.1 5 2500)), (1, .int a1), (2, .int a2), (3, .int a3), (4, .int a4)]) (by decide) rfl dX7_best_4 ?_
  refine r_iload_n C0 (kk := 3) 5 rfl dX7_best_6 ?_
  refine r_istore C0 (lv2 := [(7, .int a3), (6, .int (-1)), (5, .int a3), (0, .ref (g.1 5 2500)), (1, .int a1), (2, .int a2), (3, .int a3), (4, .int a4)]) (by decide) rfl dX7_best_7 ?_
  refine WW.sub [3, 4, 5, 7, 2, 1, 0] rfl ?_
  exact L9   _ _ _   _ hf
theorem dX7_bestLantern_0 : decode cX7_bestLantern 0 = .ok (.aload_n 0, 1) := by decide +kernel
theorem dX7_bestLantern_1 : decode cX7_bestLantern 1 = .ok (.iload_n 1, 1) := by decide +kernel
theorem dX7_bestLantern_2 : decode cX7_bestLantern 2 = .ok (.invokevirtual 311, 3) := by decide +kernel
theorem dX7_bestLantern_5 : decode cX7_bestLantern 5 = .ok (.ifCond .eq 14, 3) := by decide +kernel
theorem dX7_bestLantern_8 : decode cX7_bestLantern 8 = .ok (.aload_n 0, 1) := by decide +kernel
theorem dX7_bestLantern_9 : decode cX7_bestLantern 9 = .ok (.iload_n 1, 1) := by decide +kernel
theorem dX7_bestLantern_10 : decode cX7_bestLantern 10 = .ok (.iconst 1, 1) := by decide +kernel
theorem dX7_bestLantern_11 : decode cX7_bestLantern 11 = .ok (.iconst 0, 1) := by decide +kernel
theorem dX7_bestLantern_12 : decode cX7_bestLantern 12 = .ok (.iconst 3, 1) := by decide +kernel
theorem dX7_bestLantern_13 : decode cX7_bestLantern 13 = .ok (.invokevirtual 335, 3) := by decide +kernel
theorem dX7_bestLantern_16 : decode cX7_bestLantern 16 = .ok (.goto 4, 3) := by decide +kernel
theorem dX7_bestLantern_19 : decode cX7_bestLantern 19 = .ok (.iconst 0, 1) := by decide +kernel
theorem dX7_bestLantern_20 : decode cX7_bestLantern 20 = .ok (.ireturn, 1) := by decide +kernel
theorem hd_X7_bestLantern : yX7_bestLantern.cls = RX7 ∧ yX7_bestLantern.cls ≠ "java/lang/invoke/MethodHandle" ∧ yX7_bestLantern.cls ≠ "java/lang/invoke/VarHandle" ∧ (parseMethodDescriptor yX7_bestLantern.desc).map (fun d => d.parameters.length) = some 1 := by decide +kernel
set_option maxRecDepth 100000 in
set_option maxHeartbeats 4000000 in
theorem c_X7_bestLantern (l : Launch) (D : va_G) (g : xG) (tb : List xQ) (hT : x_T g tb) {a1 : Int32} (h0 : x_md tb) {M : xM} {r : Int32} {M' : xM} (hf : f_X7_bestLantern a1 M = some (r, M')) :
    cI l D g tb yX7_bestLantern cX7_bestLantern 2 .int ({ frames := 8, cells := 0, slots := 0, locals := 192 } : Room) [.ref (g.1 5 2500), .int a1] M r M' := by
  refine x_startI (own := RX7) (by decide +kernel) rfl rfl (Nat.le_of_ble_eq_true rfl) hT ?_
  intro p e s m args below meth c Q C0 hend
  unfold f_X7_bestLantern at hf
  refine r_aload_n C0 (kk := 0) 0 rfl dX7_bestLantern_0 ?_
  refine r_iload_n C0 (kk := 1) 1 rfl dX7_bestLantern_1 ?_
  obtain ⟨r3, M2, hc1, hf⟩ := bd2_e hf
  refine r_callVi C0 (As := [.int a1]) (rest := []) (c_X7_isStall l D g tb hT h0 hc1) w7_137 w7_139 wp5_15 w1_14 w7_140 (x_rec5 C0 h0.1) hd_X7_isStall rfl ⟨rfl, rfl⟩ ⟨Nat.le_of_ble_eq_true rfl, Nat.le_of_ble_eq_true rfl⟩ (by decide) (by decide) rfl (Nat.le_of_ble_eq_true rfl) dX7_bestLantern_2 ?_
  refine r_if_eq C0 (tgt := 19) (by decide) dX7_bestLantern_5 (fun q4 => ?_) (fun q4 => ?_)
  · have hf := ie_t hf q4
    refine r_iconst C0 (v := 0) dX7_bestLantern_19 rfl ?_
    exact hend hf dX7_bestLantern_20
  · have hf := ie_f hf q4
    refine r_aload_n C0 (kk := 0) 0 rfl dX7_bestLantern_8 ?_
    refine r_iload_n C0 (kk := 1) 1 rfl dX7_bestLantern_9 ?_
    refine r_iconst C0 (v := 1) dX7_bestLantern_10 rfl ?_
    refine r_iconst C0 (v := 0) dX7_bestLantern_11 rfl ?_
    refine r_iconst C0 (v := 3) dX7_bestLantern_12 rfl ?_
    obtain ⟨r7, M6, hc5, hf⟩ := bd2_e hf
    refine r_callVi C0 (As := [.int a1, .int 1, .int 0, .int 3]) (rest := []) (c_X7_best l D g tb hT h0 hc5) w8_42 w8_44 wp6_5 w1_14 w8_45 (x_rec5 C0 h0.1) hd_X7_best rfl ⟨rfl, rfl⟩ ⟨Nat.le_of_ble_eq_true rfl, Nat.le_of_ble_eq_true rfl⟩ (by decide) (by decide) rfl (Nat.le_of_ble_eq_true rfl) dX7_bestLantern_13 ?_
    refine r_goto C0 (tgt := 20) (by decide) dX7_bestLantern_16 ?_
    exact hend hf dX7_bestLantern_20
theorem dX7_passMinutes_0 : decode cX7_passMinutes 0 = .ok (.aload_n 0, 1) := by decide +kernel
theorem dX7_passMinutes_1 : decode cX7_passMinutes 1 = .ok (.iconst 0, 1) := by decide +kernel
theorem dX7_passMinutes_2 : decode cX7_passMinutes 2 = .ok (.putfield 60, 3) := by decide +kernel
theorem dX7_passMinutes_5 : decode cX7_passMinutes 5 = .ok (.aload_n 0, 1) := by decide +kernel
theorem dX7_passMinutes_6 : decode cX7_passMinutes 6 = .ok (.iload_n 1, 1) := by decide +kernel
theorem dX7_passMinutes_7 : decode cX7_passMinutes 7 = .ok (.iconst 1, 1) := by decide +kernel
theorem dX7_passMinutes_8 : decode cX7_passMinutes 8 = .ok (.bipush 100, 2) := by decide +kernel
theorem dX7_passMinutes_10 : decode cX7_passMinutes 10 = .ok (.invokestatic 147, 3) := by decide +kernel
theorem dX7_passMinutes_13 : decode cX7_passMinutes 13 = .ok (.iconst 1, 1) := by decide +kernel
theorem dX7_passMinutes_14 : decode cX7_passMinutes 14 = .ok (.invokevirtual 304, 3) := by decide +kernel
theorem dX7_passMinutes_17 : decode cX7_passMinutes 17 = .ok (.ifCond .eq 5, 3) := by decide +kernel
theorem dX7_passMinutes_20 : decode cX7_passMinutes 20 = .ok (.iconst 0, 1) := by decide +kernel
theorem dX7_passMinutes_21 : decode cX7_passMinutes 21 = .ok (.ireturn, 1) := by decide +kernel
theorem dX7_passMinutes_22 : decode cX7_passMinutes 22 = .ok (.aload_n 0, 1) := by decide +kernel
theorem dX7_passMinutes_23 : decode cX7_passMinutes 23 = .ok (.invokevirtual 338, 3) := by decide +kernel
theorem dX7_passMinutes_26 : decode cX7_passMinutes 26 = .ok (.aload_n 0, 1) := by decide +kernel
theorem dX7_passMinutes_27 : decode cX7_passMinutes 27 = .ok (.iload_n 1, 1) := by decide +kernel
theorem dX7_passMinutes_28 : decode cX7_passMinutes 28 = .ok (.invokevirtual 271, 3) := by decide +kernel
theorem dX7_passMinutes_31 : decode cX7_passMinutes 31 = .ok (.ireturn, 1) := by decide +kernel
theorem hd_X7_passMinutes : yX7_passMinutes.cls = RX7 ∧ yX7_passMinutes.cls ≠ "java/lang/invoke/MethodHandle" ∧ yX7_passMinutes.cls ≠ "java/lang/invoke/VarHandle" ∧ (parseMethodDescriptor yX7_passMinutes.desc).map (fun d => d.parameters.length) = some 1 := by decide +kernel
set_option maxRecDepth 100000 in
set_option maxHeartbeats 4000000 in
theorem c_X7_passMinutes (l : Launch) (D : va_G) (g : xG) (tb : List xQ) (hT : x_T g tb) {a1 : Int32} (h0 : x_md tb) {M : xM} {r : Int32} {M' : xM} (hf : f_X7_passMinutes a1 M = some (r, M')) :
    cI l D g tb yX7_passMinutes cX7_passMinutes 2 .int ({ frames := 6, cells := 0, slots := 0, locals := 141 } : Room) [.ref (g.1 5 2500), .int a1] M r M' := by
  refine x_startI (own := RX7) (by decide +kernel) rfl rfl (Nat.le_of_ble_eq_true rfl) hT ?_
  intro p e s m args below meth c Q C0 hend
  unfold f_X7_passMinutes at hf
  refine r_aload_n C0 (kk := 0) 0 rfl dX7_passMinutes_0 ?_
  refine r_iconst C0 (v := 0) dX7_passMinutes_1 rfl ?_
  refine r_put5 C0 h0.1 4 rfl rfl w6_220 rfl rfl rfl dX7_passMinutes_2 ?_
  refine r_aload_n C0 (kk := 0) 0 rfl dX7_passMinutes_5 ?_
  refine r_iload_n C0 (kk := 1) 1 rfl dX7_passMinutes_6 ?_
  refine r_iconst C0 (v := 1) dX7_passMinutes_7 rfl ?_
  refine r_bipush C0 (v := 100) dX7_passMinutes_8 rfl ?_
  obtain ⟨r3, M2, hc1, hf⟩ := bd2_e hf
  refine r_callSi C0 (As := [.int a1, .int 1, .int 100]) (rest := [.ref (g.1 5 2500)]) (c_X7_inRange l D g tb hT  hc1) w6_12 w6_13 w1_14 w6_14 hd_X7_inRange rfl ⟨rfl, rfl⟩ ⟨Nat.le_of_ble_eq_true rfl, Nat.le_of_ble_eq_true rfl⟩ (by decide) (by decide) rfl (Nat.le_of_ble_eq_true rfl) dX7_passMinutes_10 ?_
  refine r_iconst C0 (v := 1) dX7_passMinutes_13 rfl ?_
  obtain ⟨r6, M5, hc4, hf⟩ := bd2_e hf
  refine r_callVi C0 (As := [.int r3, .int 1]) (rest := []) (c_X7_fails l D g tb hT h0 hc4) w7_93 w7_95 wp5_12 w1_14 w7_96 (x_rec5 C0 h0.1) hd_X7_fails rfl ⟨rfl, rfl⟩ ⟨Nat.le_of_ble_eq_true rfl, Nat.le_of_ble_eq_true rfl⟩ (by decide) (by decide) rfl (Nat.le_of_ble_eq_true rfl) dX7_passMinutes_14 ?_
  refine r_if_eq C0 (tgt := 22) (by decide) dX7_passMinutes_17 (fun q7 => ?_) (fun q7 => ?_)
  · have hf := ie_t hf q7
    refine r_aload_n C0 (kk := 0) 0 rfl dX7_passMinutes_22 ?_
    obtain ⟨M9, hc8, hf⟩ := bd_e hf
    refine r_callVv C0 (As := []) (rest := []) (c_X7_record l D g tb hT h0 hc8) w8_54 w8_56 wp6_6 w1_14 w8_57 (x_rec5 C0 h0.1) hd_X7_record rfl ⟨rfl, rfl⟩ ⟨Nat.le_of_ble_eq_true rfl, Nat.le_of_ble_eq_true rfl⟩ (by decide) (by decide) rfl (Nat.le_of_ble_eq_true rfl) dX7_passMinutes_23 ?_
    refine r_aload_n C0 (kk := 0) 0 rfl dX7_passMinutes_26 ?_
    refine r_iload_n C0 (kk := 1) 1 rfl dX7_passMinutes_27 ?_
    obtain ⟨r12, M11, hc10, hf⟩ := bd2_e hf
    refine r_callVi C0 (As := [.int a1]) (rest := []) (c_X7_passAll l D g tb hT h0 hc10) w6_135 w6_137 wp4_9 w1_14 w6_138 (x_rec5 C0 h0.1) hd_X7_passAll rfl ⟨rfl, rfl⟩ ⟨Nat.le_of_ble_eq_true rfl, Nat.le_of_ble_eq_true rfl⟩ (by decide) (by decide) rfl (Nat.le_of_ble_eq_true rfl) dX7_passMinutes_28 ?_
    exact hend hf dX7_passMinutes_31
  · have hf := ie_f hf q7
    refine r_iconst C0 (v := 0) dX7_passMinutes_20 rfl ?_
    exact hend hf dX7_passMinutes_21
theorem dX7_does_0 : decode cX7_does 0 = .ok (.iload_n 1, 1) := by decide +kernel
theorem dX7_does_1 : decode cX7_does 1 = .ok (.tableswitch 232 0 8 #[51, 86, 126, 232, 151, 115, 176, 201, 221], 51) := by decide +kernel
theorem dX7_does_52 : decode cX7_does 52 = .ok (.aload_n 0, 1) := by decide +kernel
theorem dX7_does_53 : decode cX7_does 53 = .ok (.aload_n 0, 1) := by decide +kernel
theorem dX7_does_54 : decode cX7_does 54 = .ok (.getfield 36, 3) := by decide +kernel
theorem dX7_does_57 : decode cX7_does 57 = .ok (.iconst 0, 1) := by decide +kernel
theorem dX7_does_58 : decode cX7_does 58 = .ok (.iaload, 1) := by decide +kernel
theorem dX7_does_59 : decode cX7_does 59 = .ok (.aload_n 0, 1) := by decide +kernel
theorem dX7_does_60 : decode cX7_does 60 = .ok (.getfield 36, 3) := by decide +kernel
theorem dX7_does_63 : decode cX7_does 63 = .ok (.iconst 1, 1) := by decide +kernel
theorem dX7_does_64 : decode cX7_does 64 = .ok (.iaload, 1) := by decide +kernel
theorem dX7_does_65 : decode cX7_does 65 = .ok (.aload_n 0, 1) := by decide +kernel
theorem dX7_does_66 : decode cX7_does 66 = .ok (.getfield 36, 3) := by decide +kernel
theorem dX7_does_69 : decode cX7_does 69 = .ok (.iconst 2, 1) := by decide +kernel
theorem dX7_does_70 : decode cX7_does 70 = .ok (.iaload, 1) := by decide +kernel
theorem dX7_does_71 : decode cX7_does 71 = .ok (.aload_n 0, 1) := by decide +kernel
theorem dX7_does_72 : decode cX7_does 72 = .ok (.getfield 36, 3) := by decide +kernel
theorem dX7_does_75 : decode cX7_does 75 = .ok (.iconst 3, 1) := by decide +kernel
theorem dX7_does_76 : decode cX7_does 76 = .ok (.iaload, 1) := by decide +kernel
theorem dX7_does_77 : decode cX7_does 77 = .ok (.aload_n 0, 1) := by decide +kernel
theorem dX7_does_78 : decode cX7_does 78 = .ok (.getfield 36, 3) := by decide +kernel
theorem dX7_does_81 : decode cX7_does 81 = .ok (.iconst 4, 1) := by decide +kernel
theorem dX7_does_82 : decode cX7_does 82 = .ok (.iaload, 1) := by decide +kernel
theorem dX7_does_83 : decode cX7_does 83 = .ok (.invokevirtual 263, 3) := by decide +kernel
theorem dX7_does_86 : decode cX7_does 86 = .ok (.ireturn, 1) := by decide +kernel
theorem dX7_does_87 : decode cX7_does 87 = .ok (.aload_n 0, 1) := by decide +kernel
theorem dX7_does_88 : decode cX7_does 88 = .ok (.aload_n 0, 1) := by decide +kernel
theorem dX7_does_89 : decode cX7_does 89 = .ok (.getfield 36, 3) := by decide +kernel
theorem dX7_does_92 : decode cX7_does 92 = .ok (.iconst 0, 1) := by decide +kernel
theorem dX7_does_93 : decode cX7_does 93 = .ok (.iaload, 1) := by decide +kernel
theorem dX7_does_94 : decode cX7_does 94 = .ok (.aload_n 0, 1) := by decide +kernel
theorem dX7_does_95 : decode cX7_does 95 = .ok (.getfield 36, 3) := by decide +kernel
theorem dX7_does_98 : decode cX7_does 98 = .ok (.iconst 1, 1) := by decide +kernel
theorem dX7_does_99 : decode cX7_does 99 = .ok (.iaload, 1) := by decide +kernel
theorem dX7_does_100 : decode cX7_does 100 = .ok (.aload_n 0, 1) := by decide +kernel
theorem dX7_does_101 : decode cX7_does 101 = .ok (.getfield 36, 3) := by decide +kernel
theorem dX7_does_104 : decode cX7_does 104 = .ok (.iconst 2, 1) := by decide +kernel
theorem dX7_does_105 : decode cX7_does 105 = .ok (.iaload, 1) := by decide +kernel
theorem dX7_does_106 : decode cX7_does 106 = .ok (.aload_n 0, 1) := by decide +kernel
theorem dX7_does_107 : decode cX7_does 107 = .ok (.getfield 36, 3) := by decide +kernel
theorem dX7_does_110 : decode cX7_does 110 = .ok (.iconst 3, 1) := by decide +kernel
theorem dX7_does_111 : decode cX7_does 111 = .ok (.iaload, 1) := by decide +kernel
theorem dX7_does_112 : decode cX7_does 112 = .ok (.invokevirtual 267, 3) := by decide +kernel
theorem dX7_does_115 : decode cX7_does 115 = .ok (.ireturn, 1) := by decide +kernel
theorem dX7_does_116 : decode cX7_does 116 = .ok (.aload_n 0, 1) := by decide +kernel
theorem dX7_does_117 : decode cX7_does 117 = .ok (.aload_n 0, 1) := by decide +kernel
theorem dX7_does_118 : decode cX7_does 118 = .ok (.getfield 36, 3) := by decide +kernel
theorem dX7_does_121 : decode cX7_does 121 = .ok (.iconst 0, 1) := by decide +kernel
theorem dX7_does_122 : decode cX7_does 122 = .ok (.iaload, 1) := by decide +kernel
theorem dX7_does_123 : decode cX7_does 123 = .ok (.invokevirtual 271, 3) := by decide +kernel
theorem dX7_does_126 : decode cX7_does 126 = .ok (.ireturn, 1) := by decide +kernel
theorem dX7_does_127 : decode cX7_does 127 = .ok (.aload_n 0, 1) := by decide +kernel
theorem dX7_does_128 : decode cX7_does 128 = .ok (.bipush 23, 2) := by decide +kernel
theorem dX7_does_130 : decode cX7_does 130 = .ok (.bipush 9, 2) := by decide +kernel
theorem dX7_does_132 : decode cX7_does 132 = .ok (.aload_n 0, 1) := by decide +kernel
theorem dX7_does_133 : decode cX7_does 133 = .ok (.getfield 36, 3) := by decide +kernel
theorem dX7_does_136 : decode cX7_does 136 = .ok (.iconst 0, 1) := by decide +kernel
theorem dX7_does_137 : decode cX7_does 137 = .ok (.iaload, 1) := by decide +kernel
theorem dX7_does_138 : decode cX7_does 138 = .ok (.imul, 1) := by decide +kernel
theorem dX7_does_139 : decode cX7_does 139 = .ok (.iadd, 1) := by decide +kernel
theorem dX7_does_140 : decode cX7_does 140 = .ok (.iconst 3, 1) := by decide +kernel
theorem dX7_does_141 : decode cX7_does 141 = .ok (.iadd, 1) := by decide +kernel
theorem dX7_does_142 : decode cX7_does 142 = .ok (.aload_n 0, 1) := by decide +kernel
theorem dX7_does_143 : decode cX7_does 143 = .ok (.getfield 36, 3) := by decide +kernel
theorem dX7_does_146 : decode cX7_does 146 = .ok (.iconst 1, 1) := by decide +kernel
theorem dX7_does_147 : decode cX7_does 147 = .ok (.iaload, 1) := by decide +kernel
theorem dX7_does_148 : decode cX7_does 148 = .ok (.invokevirtual 274, 3) := by decide +kernel
theorem dX7_does_151 : decode cX7_does 151 = .ok (.ireturn, 1) := by decide +kernel
theorem dX7_does_152 : decode cX7_does 152 = .ok (.aload_n 0, 1) := by decide +kernel
theorem dX7_does_153 : decode cX7_does 153 = .ok (.bipush 23, 2) := by decide +kernel
theorem dX7_does_155 : decode cX7_does 155 = .ok (.bipush 9, 2) := by decide +kernel
theorem dX7_does_157 : decode cX7_does 157 = .ok (.aload_n 0, 1) := by decide +kernel
theorem dX7_does_158 : decode cX7_does 158 = .ok (.getfield 36, 3) := by decide +kernel
theorem dX7_does_161 : decode cX7_does 161 = .ok (.iconst 0, 1) := by decide +kernel
theorem dX7_does_162 : decode cX7_does 162 = .ok (.iaload, 1) := by decide +kernel
theorem dX7_does_163 : decode cX7_does 163 = .ok (.imul, 1) := by decide +kernel
theorem dX7_does_164 : decode cX7_does 164 = .ok (.iadd, 1) := by decide +kernel
theorem dX7_does_165 : decode cX7_does 165 = .ok (.iconst 1, 1) := by decide +kernel
theorem dX7_does_166 : decode cX7_does 166 = .ok (.iadd, 1) := by decide +kernel
theorem dX7_does_167 : decode cX7_does 167 = .ok (.aload_n 0, 1) := by decide +kernel
theorem dX7_does_168 : decode cX7_does 168 = .ok (.getfield 36, 3) := by decide +kernel
theorem dX7_does_171 : decode cX7_does 171 = .ok (.iconst 1, 1) := by decide +kernel
theorem dX7_does_172 : decode cX7_does 172 = .ok (.iaload, 1) := by decide +kernel
theorem dX7_does_173 : decode cX7_does 173 = .ok (.invokevirtual 274, 3) := by decide +kernel
theorem dX7_does_176 : decode cX7_does 176 = .ok (.ireturn, 1) := by decide +kernel
theorem dX7_does_177 : decode cX7_does 177 = .ok (.aload_n 0, 1) := by decide +kernel
theorem dX7_does_178 : decode cX7_does 178 = .ok (.bipush 23, 2) := by decide +kernel
theorem dX7_does_180 : decode cX7_does 180 = .ok (.bipush 9, 2) := by decide +kernel
theorem dX7_does_182 : decode cX7_does 182 = .ok (.aload_n 0, 1) := by decide +kernel
theorem dX7_does_183 : decode cX7_does 183 = .ok (.getfield 36, 3) := by decide +kernel
theorem dX7_does_186 : decode cX7_does 186 = .ok (.iconst 0, 1) := by decide +kernel
theorem dX7_does_187 : decode cX7_does 187 = .ok (.iaload, 1) := by decide +kernel
theorem dX7_does_188 : decode cX7_does 188 = .ok (.imul, 1) := by decide +kernel
theorem dX7_does_189 : decode cX7_does 189 = .ok (.iadd, 1) := by decide +kernel
theorem dX7_does_190 : decode cX7_does 190 = .ok (.iconst 0, 1) := by decide +kernel
theorem dX7_does_191 : decode cX7_does 191 = .ok (.iadd, 1) := by decide +kernel
theorem dX7_does_192 : decode cX7_does 192 = .ok (.aload_n 0, 1) := by decide +kernel
theorem dX7_does_193 : decode cX7_does 193 = .ok (.getfield 36, 3) := by decide +kernel
theorem dX7_does_196 : decode cX7_does 196 = .ok (.iconst 1, 1) := by decide +kernel
theorem dX7_does_197 : decode cX7_does 197 = .ok (.iaload, 1) := by decide +kernel
theorem dX7_does_198 : decode cX7_does 198 = .ok (.invokevirtual 274, 3) := by decide +kernel
theorem dX7_does_201 : decode cX7_does 201 = .ok (.ireturn, 1) := by decide +kernel
theorem dX7_does_202 : decode cX7_does 202 = .ok (.aload_n 0, 1) := by decide +kernel
theorem dX7_does_203 : decode cX7_does 203 = .ok (.bipush 11, 2) := by decide +kernel
theorem dX7_does_205 : decode cX7_does 205 = .ok (.aload_n 0, 1) := by decide +kernel
theorem dX7_does_206 : decode cX7_does 206 = .ok (.getfield 36, 3) := by decide +kernel
theorem dX7_does_209 : decode cX7_does 209 = .ok (.iconst 0, 1) := by decide +kernel
theorem dX7_does_210 : decode cX7_does 210 = .ok (.iaload, 1) := by decide +kernel
theorem dX7_does_211 : decode cX7_does 211 = .ok (.iadd, 1) := by decide +kernel
theorem dX7_does_212 : decode cX7_does 212 = .ok (.aload_n 0, 1) := by decide +kernel
theorem dX7_does_213 : decode cX7_does 213 = .ok (.getfield 36, 3) := by decide +kernel
theorem dX7_does_216 : decode cX7_does 216 = .ok (.iconst 1, 1) := by decide +kernel
theorem dX7_does_217 : decode cX7_does 217 = .ok (.iaload, 1) := by decide +kernel
theorem dX7_does_218 : decode cX7_does 218 = .ok (.invokevirtual 274, 3) := by decide +kernel
theorem dX7_does_221 : decode cX7_does 221 = .ok (.ireturn, 1) := by decide +kernel
theorem dX7_does_222 : decode cX7_does 222 = .ok (.aload_n 0, 1) := by decide +kernel
theorem dX7_does_223 : decode cX7_does 223 = .ok (.aload_n 0, 1) := by decide +kernel
theorem dX7_does_224 : decode cX7_does 224 = .ok (.getfield 36, 3) := by decide +kernel
theorem dX7_does_227 : decode cX7_does 227 = .ok (.iconst 0, 1) := by decide +kernel
theorem dX7_does_228 : decode cX7_does 228 = .ok (.iaload, 1) := by decide +kernel
theorem dX7_does_229 : decode cX7_does 229 = .ok (.invokevirtual 277, 3) := by decide +kernel
theorem dX7_does_232 : decode cX7_does 232 = .ok (.ireturn, 1) := by decide +kernel
theorem dX7_does_233 : decode cX7_does 233 = .ok (.aload_n 0, 1) := by decide +kernel
theorem dX7_does_234 : decode cX7_does 234 = .ok (.aload_n 0, 1) := by decide +kernel
theorem dX7_does_235 : decode cX7_does 235 = .ok (.getfield 36, 3) := by decide +kernel
theorem dX7_does_238 : decode cX7_does 238 = .ok (.iconst 0, 1) := by decide +kernel
theorem dX7_does_239 : decode cX7_does 239 = .ok (.iaload, 1) := by decide +kernel
theorem dX7_does_240 : decode cX7_does 240 = .ok (.aload_n 0, 1) := by decide +kernel
theorem dX7_does_241 : decode cX7_does 241 = .ok (.getfield 36, 3) := by decide +kernel
theorem dX7_does_244 : decode cX7_does 244 = .ok (.iconst 1, 1) := by decide +kernel
theorem dX7_does_245 : decode cX7_does 245 = .ok (.iaload, 1) := by decide +kernel
theorem dX7_does_246 : decode cX7_does 246 = .ok (.invokevirtual 280, 3) := by decide +kernel
theorem dX7_does_249 : decode cX7_does 249 = .ok (.ireturn, 1) := by decide +kernel
theorem hd_X7_does : yX7_does.cls = RX7 ∧ yX7_does.cls ≠ "java/lang/invoke/MethodHandle" ∧ yX7_does.cls ≠ "java/lang/invoke/VarHandle" ∧ (parseMethodDescriptor yX7_does.desc).map (fun d => d.parameters.length) = some 1 := by decide +kernel
set_option maxRecDepth 100000 in
set_option maxHeartbeats 4000000 in
theorem c_X7_does (l : Launch) (D : va_G) (g : xG) (tb : List xQ) (hT : x_T g tb) {a1 : Int32} (h0 : x_md tb) {M : xM} {r : Int32} {M' : xM} (hf : f_X7_does a1 M = some (r, M')) :
    cI l D g tb yX7_does cX7_does 2 .int ({ frames := 6, cells := 0, slots := 0, locals := 141 } : Room) [.ref (g.1 5 2500), .int a1] M r M' := by
  refine x_startI (own := RX7) (by decide +kernel) rfl rfl (Nat.le_of_ble_eq_true rfl) hT ?_
  intro p e s m args below meth c Q C0 hend
  have B233 : ∀ (M : xM), f_X7_does_c233  a1 M = some (r, M') → WW p l e ({ frames := 6, cells := 0, slots := 0, locals := 141 } : Room) s m args below meth c 0 0 Q 2 D g tb 233 [(0, .ref (g.1 5 2500))] [] M := by
    intro     M hf
    unfold f_X7_does_c233 at hf
    refine r_aload_n C0 (kk := 0) 0 rfl dX7_does_233 ?_
    refine r_aload_n C0 (kk := 0) 0 rfl dX7_does_234 ?_
    refine r_get5 C0 h0.1 13 (by decide) (v := .ref (g.1 6 4147)) rfl rfl w6_229 dX7_does_235 ?_
    refine r_iconst C0 (v := 0) dX7_does_238 rfl ?_
    refine r_ialdc C0 h0.2.2.2.2.2.2.2.1 (z := 4147) (by decide) (by decide) dX7_does_239 ?_
    refine r_aload_n C0 (kk := 0) 0 rfl dX7_does_240 ?_
    refine r_get5 C0 h0.1 13 (by decide) (v := .ref (g.1 6 4147)) rfl rfl w6_229 dX7_does_241 ?_
    refine r_iconst C0 (v := 1) dX7_does_244 rfl ?_
    refine r_ialdc C0 h0.2.2.2.2.2.2.2.1 (z := 4148) (by decide) (by decide) dX7_does_245 ?_
    obtain ⟨r36, M35, hc34, hf⟩ := bd2_e hf
    refine r_callVi C0 (As := [.int (M 4147), .int (M 4148)]) (rest := []) (c_X7_doStock l D g tb hT h0 hc34) w6_208 w6_210 wp5_8 w1_14 w6_211 (x_rec5 C0 h0.1) hd_X7_doStock rfl ⟨rfl, rfl⟩ ⟨Nat.le_of_ble_eq_true rfl, Nat.le_of_ble_eq_true rfl⟩ (by decide) (by decide) rfl (Nat.le_of_ble_eq_true rfl) dX7_does_246 ?_
    exact hend hf dX7_does_249
  unfold f_X7_does at hf
  refine r_iload_n C0 (kk := 1) 1 rfl dX7_does_0 ?_
  rcases Decidable.em (a1 = 0) with q1 | q1
  · have hf := ie_t hf q1
    refine r_tsc C0 (cst := 0) q1 (by decide) (by decide) rfl (tgt := 52) (by decide) dX7_does_1 ?_
    refine r_aload_n C0 (kk := 0) 0 rfl dX7_does_52 ?_
    refine r_aload_n C0 (kk := 0) 0 rfl dX7_does_53 ?_
    refine r_get5 C0 h0.1 13 (by decide) (v := .ref (g.1 6 4147)) rfl rfl w6_229 dX7_does_54 ?_
    refine r_iconst C0 (v := 0) dX7_does_57 rfl ?_
    refine r_ialdc C0 h0.2.2.2.2.2.2.2.1 (z := 4147) (by decide) (by decide) dX7_does_58 ?_
    refine r_aload_n C0 (kk := 0) 0 rfl dX7_does_59 ?_
    refine r_get5 C0 h0.1 13 (by decide) (v := .ref (g.1 6 4147)) rfl rfl w6_229 dX7_does_60 ?_
    refine r_iconst C0 (v := 1) dX7_does_63 rfl ?_
    refine r_ialdc C0 h0.2.2.2.2.2.2.2.1 (z := 4148) (by decide) (by decide) dX7_does_64 ?_
    refine r_aload_n C0 (kk := 0) 0 rfl dX7_does_65 ?_
    refine r_get5 C0 h0.1 13 (by decide) (v := .ref (g.1 6 4147)) rfl rfl w6_229 dX7_does_66 ?_
    refine r_iconst C0 (v := 2) dX7_does_69 rfl ?_
    refine r_ialdc C0 h0.2.2.2.2.2.2.2.1 (z := 4149) (by decide) (by decide) dX7_does_70 ?_
    refine r_aload_n C0 (kk := 0) 0 rfl dX7_does_71 ?_
    refine r_get5 C0 h0.1 13 (by decide) (v := .ref (g.1 6 4147)) rfl rfl w6_229 dX7_does_72 ?_
    refine r_iconst C0 (v := 3) dX7_does_75 rfl ?_
    refine r_ialdc C0 h0.2.2.2.2.2.2.2.1 (z := 4150) (by decide) (by decide) dX7_does_76 ?_
    refine r_aload_n C0 (kk := 0) 0 rfl dX7_does_77 ?_
    refine r_get5 C0 h0.1 13 (by decide) (v := .ref (g.1 6 4147)) rfl rfl w6_229 dX7_does_78 ?_
    refine r_iconst C0 (v := 4) dX7_does_81 rfl ?_
    refine r_ialdc C0 h0.2.2.2.2.2.2.2.1 (z := 4151) (by decide) (by decide) dX7_does_82 ?_
    obtain ⟨r4, M3, hc2, hf⟩ := bd2_e hf
    refine r_callVi C0 (As := [.int (M 4147), .int (M 4148), .int (M 4149), .int (M 4150), .int (M 4151)]) (rest := []) (c_X7_doStall l D g tb hT h0 hc2) w6_119 w6_121 wp4_5 w1_14 w6_122 (x_rec5 C0 h0.1) hd_X7_doStall rfl ⟨rfl, rfl⟩ ⟨Nat.le_of_ble_eq_true rfl, Nat.le_of_ble_eq_true rfl⟩ (by decide) (by decide) rfl (Nat.le_of_ble_eq_true rfl) dX7_does_83 ?_
    exact hend hf dX7_does_86
  have hf := ie_f hf q1
  have nq1 : Int32.toInt a1 ≠ 0 := fun h => q1 (Int32.toInt_inj.mp h)
  rcases Decidable.em (a1 = 1) with q5 | q5
  · have hf := ie_t hf q5
    refine r_tsc C0 (cst := 1) q5 (by decide) (by decide) rfl (tgt := 87) (by decide) dX7_does_1 ?_
    refine r_aload_n C0 (kk := 0) 0 rfl dX7_does_87 ?_
    refine r_aload_n C0 (kk := 0) 0 rfl dX7_does_88 ?_
    refine r_get5 C0 h0.1 13 (by decide) (v := .ref (g.1 6 4147)) rfl rfl w6_229 dX7_does_89 ?_
    refine r_iconst C0 (v := 0) dX7_does_92 rfl ?_
    refine r_ialdc C0 h0.2.2.2.2.2.2.2.1 (z := 4147) (by decide) (by decide) dX7_does_93 ?_
    refine r_aload_n C0 (kk := 0) 0 rfl dX7_does_94 ?_
    refine r_get5 C0 h0.1 13 (by decide) (v := .ref (g.1 6 4147)) rfl rfl w6_229 dX7_does_95 ?_
    refine r_iconst C0 (v := 1) dX7_does_98 rfl ?_
    refine r_ialdc C0 h0.2.2.2.2.2.2.2.1 (z := 4148) (by decide) (by decide) dX7_does_99 ?_
    refine r_aload_n C0 (kk := 0) 0 rfl dX7_does_100 ?_
    refine r_get5 C0 h0.1 13 (by decide) (v := .ref (g.1 6 4147)) rfl rfl w6_229 dX7_does_101 ?_
    refine r_iconst C0 (v := 2) dX7_does_104 rfl ?_
    refine r_ialdc C0 h0.2.2.2.2.2.2.2.1 (z := 4149) (by decide) (by decide) dX7_does_105 ?_
    refine r_aload_n C0 (kk := 0) 0 rfl dX7_does_106 ?_
    refine r_get5 C0 h0.1 13 (by decide) (v := .ref (g.1 6 4147)) rfl rfl w6_229 dX7_does_107 ?_
    refine r_iconst C0 (v := 3) dX7_does_110 rfl ?_
    refine r_ialdc C0 h0.2.2.2.2.2.2.2.1 (z := 4150) (by decide) (by decide) dX7_does_111 ?_
    obtain ⟨r8, M7, hc6, hf⟩ := bd2_e hf
    refine r_callVi C0 (As := [.int (M 4147), .int (M 4148), .int (M 4149), .int (M 4150)]) (rest := []) (c_X7_doBuyer l D g tb hT h0 hc6) w6_127 w6_129 wp4_7 w1_14 w6_130 (x_rec5 C0 h0.1) hd_X7_doBuyer rfl ⟨rfl, rfl⟩ ⟨Nat.le_of_ble_eq_true rfl, Nat.le_of_ble_eq_true rfl⟩ (by decide) (by decide) rfl (Nat.le_of_ble_eq_true rfl) dX7_does_112 ?_
    exact hend hf dX7_does_115
  have hf := ie_f hf q5
  have nq5 : Int32.toInt a1 ≠ 1 := fun h => q5 (Int32.toInt_inj.mp h)
  rcases Decidable.em (a1 = 2) with q9 | q9
  · have hf := ie_t hf q9
    refine r_tsc C0 (cst := 2) q9 (by decide) (by decide) rfl (tgt := 127) (by decide) dX7_does_1 ?_
    refine r_aload_n C0 (kk := 0) 0 rfl dX7_does_127 ?_
    refine r_bipush C0 (v := 23) dX7_does_128 rfl ?_
    refine r_bipush C0 (v := 9) dX7_does_130 rfl ?_
    refine r_aload_n C0 (kk := 0) 0 rfl dX7_does_132 ?_
    refine r_get5 C0 h0.1 13 (by decide) (v := .ref (g.1 6 4147)) rfl rfl w6_229 dX7_does_133 ?_
    refine r_iconst C0 (v := 0) dX7_does_136 rfl ?_
    refine r_ialdc C0 h0.2.2.2.2.2.2.2.1 (z := 4147) (by decide) (by decide) dX7_does_137 ?_
    refine r_imul C0 dX7_does_138 ?_
    refine r_iadd C0 dX7_does_139 ?_
    refine r_iconst C0 (v := 3) dX7_does_140 rfl ?_
    refine r_iadd C0 dX7_does_141 ?_
    refine r_aload_n C0 (kk := 0) 0 rfl dX7_does_142 ?_
    refine r_get5 C0 h0.1 13 (by decide) (v := .ref (g.1 6 4147)) rfl rfl w6_229 dX7_does_143 ?_
    refine r_iconst C0 (v := 1) dX7_does_146 rfl ?_
    refine r_ialdc C0 h0.2.2.2.2.2.2.2.1 (z := 4148) (by decide) (by decide) dX7_does_147 ?_
    obtain ⟨r12, M11, hc10, hf⟩ := bd2_e hf
    refine r_callVi C0 (As := [.int ((23 + (9 * (M 4147))) + 3), .int (M 4148)]) (rest := []) (c_X7_lays l D g tb hT h0 hc10) w6_200 w6_202 wp5_6 w1_14 w6_203 (x_rec5 C0 h0.1) hd_X7_lays rfl ⟨rfl, rfl⟩ ⟨Nat.le_of_ble_eq_true rfl, Nat.le_of_ble_eq_true rfl⟩ (by decide) (by decide) rfl (Nat.le_of_ble_eq_true rfl) dX7_does_148 ?_
    exact hend hf dX7_does_151
  have hf := ie_f hf q9
  have nq9 : Int32.toInt a1 ≠ 2 := fun h => q9 (Int32.toInt_inj.mp h)
  rcases Decidable.em (a1 = 3) with q13 | q13
  · have hf := ie_t hf q13
    refine r_tsc C0 (cst := 3) q13 (by decide) (by decide) rfl (tgt := 233) (by decide) dX7_does_1 ?_
    refine WW.sub [0] rfl ?_
    exact B233     _ hf
  have hf := ie_f hf q13
  have nq13 : Int32.toInt a1 ≠ 3 := fun h => q13 (Int32.toInt_inj.mp h)
  rcases Decidable.em (a1 = 4) with q14 | q14
  · have hf := ie_t hf q14
    refine r_tsc C0 (cst := 4) q14 (by decide) (by decide) rfl (tgt := 152) (by decide) dX7_does_1 ?_
    refine r_aload_n C0 (kk := 0) 0 rfl dX7_does_152 ?_
    refine r_bipush C0 (v := 23) dX7_does_153 rfl ?_
    refine r_bipush C0 (v := 9) dX7_does_155 rfl ?_
    refine r_aload_n C0 (kk := 0) 0 rfl dX7_does_157 ?_
    refine r_get5 C0 h0.1 13 (by decide) (v := .ref (g.1 6 4147)) rfl rfl w6_229 dX7_does_158 ?_
    refine r_iconst C0 (v := 0) dX7_does_161 rfl ?_
    refine r_ialdc C0 h0.2.2.2.2.2.2.2.1 (z := 4147) (by decide) (by decide) dX7_does_162 ?_
    refine r_imul C0 dX7_does_163 ?_
    refine r_iadd C0 dX7_does_164 ?_
    refine r_iconst C0 (v := 1) dX7_does_165 rfl ?_
    refine r_iadd C0 dX7_does_166 ?_
    refine r_aload_n C0 (kk := 0) 0 rfl dX7_does_167 ?_
    refine r_get5 C0 h0.1 13 (by decide) (v := .ref (g.1 6 4147)) rfl rfl w6_229 dX7_does_168 ?_
    refine r_iconst C0 (v := 1) dX7_does_171 rfl ?_
    refine r_ialdc C0 h0.2.2.2.2.2.2.2.1 (z := 4148) (by decide) (by decide) dX7_does_172 ?_
    obtain ⟨r17, M16, hc15, hf⟩ := bd2_e hf
    refine r_callVi C0 (As := [.int ((23 + (9 * (M 4147))) + 1), .int (M 4148)]) (rest := []) (c_X7_lays l D g tb hT h0 hc15) w6_200 w6_202 wp5_6 w1_14 w6_203 (x_rec5 C0 h0.1) hd_X7_lays rfl ⟨rfl, rfl⟩ ⟨Nat.le_of_ble_eq_true rfl, Nat.le_of_ble_eq_true rfl⟩ (by decide) (by decide) rfl (Nat.le_of_ble_eq_true rfl) dX7_does_173 ?_
    exact hend hf dX7_does_176
  have hf := ie_f hf q14
  have nq14 : Int32.toInt a1 ≠ 4 := fun h => q14 (Int32.toInt_inj.mp h)
  rcases Decidable.em (a1 = 5) with q18 | q18
  · have hf := ie_t hf q18
    refine r_tsc C0 (cst := 5) q18 (by decide) (by decide) rfl (tgt := 116) (by decide) dX7_does_1 ?_
    refine r_aload_n C0 (kk := 0) 0 rfl dX7_does_116 ?_
    refine r_aload_n C0 (kk := 0) 0 rfl dX7_does_117 ?_
    refine r_get5 C0 h0.1 13 (by decide) (v := .ref (g.1 6 4147)) rfl rfl w6_229 dX7_does_118 ?_
    refine r_iconst C0 (v := 0) dX7_does_121 rfl ?_
    refine r_ialdc C0 h0.2.2.2.2.2.2.2.1 (z := 4147) (by decide) (by decide) dX7_does_122 ?_
    obtain ⟨r21, M20, hc19, hf⟩ := bd2_e hf
    refine r_callVi C0 (As := [.int (M 4147)]) (rest := []) (c_X7_passAll l D g tb hT h0 hc19) w6_135 w6_137 wp4_9 w1_14 w6_138 (x_rec5 C0 h0.1) hd_X7_passAll rfl ⟨rfl, rfl⟩ ⟨Nat.le_of_ble_eq_true rfl, Nat.le_of_ble_eq_true rfl⟩ (by decide) (by decide) rfl (Nat.le_of_ble_eq_true rfl) dX7_does_123 ?_
    exact hend hf dX7_does_126
  have hf := ie_f hf q18
  have nq18 : Int32.toInt a1 ≠ 5 := fun h => q18 (Int32.toInt_inj.mp h)
  rcases Decidable.em (a1 = 6) with q22 | q22
  · have hf := ie_t hf q22
    refine r_tsc C0 (cst := 6) q22 (by decide) (by decide) rfl (tgt := 177) (by decide) dX7_does_1 ?_
    refine r_aload_n C0 (kk := 0) 0 rfl dX7_does_177 ?_
    refine r_bipush C0 (v := 23) dX7_does_178 rfl ?_
    refine r_bipush C0 (v := 9) dX7_does_180 rfl ?_
    refine r_aload_n C0 (kk := 0) 0 rfl dX7_does_182 ?_
    refine r_get5 C0 h0.1 13 (by decide) (v := .ref (g.1 6 4147)) rfl rfl w6_229 dX7_does_183 ?_
    refine r_iconst C0 (v := 0) dX7_does_186 rfl ?_
    refine r_ialdc C0 h0.2.2.2.2.2.2.2.1 (z := 4147) (by decide) (by decide) dX7_does_187 ?_
    refine r_imul C0 dX7_does_188 ?_
    refine r_iadd C0 dX7_does_189 ?_
    refine r_iconst C0 (v := 0) dX7_does_190 rfl ?_
    refine r_iadd C0 dX7_does_191 ?_
    refine r_aload_n C0 (kk := 0) 0 rfl dX7_does_192 ?_
    refine r_get5 C0 h0.1 13 (by decide) (v := .ref (g.1 6 4147)) rfl rfl w6_229 dX7_does_193 ?_
    refine r_iconst C0 (v := 1) dX7_does_196 rfl ?_
    refine r_ialdc C0 h0.2.2.2.2.2.2.2.1 (z := 4148) (by decide) (by decide) dX7_does_197 ?_
    obtain ⟨r25, M24, hc23, hf⟩ := bd2_e hf
    refine r_callVi C0 (As := [.int ((23 + (9 * (M 4147))) + 0), .int (M 4148)]) (rest := []) (c_X7_lays l D g tb hT h0 hc23) w6_200 w6_202 wp5_6 w1_14 w6_203 (x_rec5 C0 h0.1) hd_X7_lays rfl ⟨rfl, rfl⟩ ⟨Nat.le_of_ble_eq_true rfl, Nat.le_of_ble_eq_true rfl⟩ (by decide) (by decide) rfl (Nat.le_of_ble_eq_true rfl) dX7_does_198 ?_
    exact hend hf dX7_does_201
  have hf := ie_f hf q22
  have nq22 : Int32.toInt a1 ≠ 6 := fun h => q22 (Int32.toInt_inj.mp h)
  rcases Decidable.em (a1 = 7) with q26 | q26
  · have hf := ie_t hf q26
    refine r_tsc C0 (cst := 7) q26 (by decide) (by decide) rfl (tgt := 202) (by decide) dX7_does_1 ?_
    refine r_aload_n C0 (kk := 0) 0 rfl dX7_does_202 ?_
    refine r_bipush C0 (v := 11) dX7_does_203 rfl ?_
    refine r_aload_n C0 (kk := 0) 0 rfl dX7_does_205 ?_
    refine r_get5 C0 h0.1 13 (by decide) (v := .ref (g.1 6 4147)) rfl rfl w6_229 dX7_does_206 ?_
    refine r_iconst C0 (v := 0) dX7_does_209 rfl ?_
    refine r_ialdc C0 h0.2.2.2.2.2.2.2.1 (z := 4147) (by decide) (by decide) dX7_does_210 ?_
    refine r_iadd C0 dX7_does_211 ?_
    refine r_aload_n C0 (kk := 0) 0 rfl dX7_does_212 ?_
    refine r_get5 C0 h0.1 13 (by decide) (v := .ref (g.1 6 4147)) rfl rfl w6_229 dX7_does_213 ?_
    refine r_iconst C0 (v := 1) dX7_does_216 rfl ?_
    refine r_ialdc C0 h0.2.2.2.2.2.2.2.1 (z := 4148) (by decide) (by decide) dX7_does_217 ?_
    obtain ⟨r29, M28, hc27, hf⟩ := bd2_e hf
    refine r_callVi C0 (As := [.int (11 + (M 4147)), .int (M 4148)]) (rest := []) (c_X7_lays l D g tb hT h0 hc27) w6_200 w6_202 wp5_6 w1_14 w6_203 (x_rec5 C0 h0.1) hd_X7_lays rfl ⟨rfl, rfl⟩ ⟨Nat.le_of_ble_eq_true rfl, Nat.le_of_ble_eq_true rfl⟩ (by decide) (by decide) rfl (Nat.le_of_ble_eq_true rfl) dX7_does_218 ?_
    exact hend hf dX7_does_221
  have hf := ie_f hf q26
  have nq26 : Int32.toInt a1 ≠ 7 := fun h => q26 (Int32.toInt_inj.mp h)
  rcases Decidable.em (a1 = 8) with q30 | q30
  · have hf := ie_t hf q30
    refine r_tsc C0 (cst := 8) q30 (by decide) (by decide) rfl (tgt := 222) (by decide) dX7_does_1 ?_
    refine r_aload_n C0 (kk := 0) 0 rfl dX7_does_222 ?_
    refine r_aload_n C0 (kk := 0) 0 rfl dX7_does_223 ?_
    refine r_get5 C0 h0.1 13 (by decide) (v := .ref (g.1 6 4147)) rfl rfl w6_229 dX7_does_224 ?_
    refine r_iconst C0 (v := 0) dX7_does_227 rfl ?_
    refine r_ialdc C0 h0.2.2.2.2.2.2.2.1 (z := 4147) (by decide) (by decide) dX7_does_228 ?_
    obtain ⟨r33, M32, hc31, hf⟩ := bd2_e hf
    refine r_callVi C0 (As := [.int (M 4147)]) (rest := []) (c_X7_doBack l D g tb hT h0 hc31) w6_204 w6_206 wp5_7 w1_14 w6_207 (x_rec5 C0 h0.1) hd_X7_doBack rfl ⟨rfl, rfl⟩ ⟨Nat.le_of_ble_eq_true rfl, Nat.le_of_ble_eq_true rfl⟩ (by decide) (by decide) rfl (Nat.le_of_ble_eq_true rfl) dX7_does_229 ?_
    exact hend hf dX7_does_232
  have hf := ie_f hf q30
  have nq30 : Int32.toInt a1 ≠ 8 := fun h => q30 (Int32.toInt_inj.mp h)
  refine r_tsd C0 (by omega) (tgt := 233) (by decide) dX7_does_1 ?_
  refine WW.sub [0] rfl ?_
  exact B233     _ hf
