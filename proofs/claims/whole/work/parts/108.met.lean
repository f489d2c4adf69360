theorem dX7_stockInto_0 : decode cX7_stockInto 0 = .ok (.aload_n 0, 1) := by decide +kernel
theorem dX7_stockInto_1 : decode cX7_stockInto 1 = .ok (.iconst 0, 1) := by decide +kernel
theorem dX7_stockInto_2 : decode cX7_stockInto 2 = .ok (.bipush 99, 2) := by decide +kernel
theorem dX7_stockInto_4 : decode cX7_stockInto 4 = .ok (.invokevirtual 187, 3) := by decide +kernel
theorem dX7_stockInto_7 : decode cX7_stockInto 7 = .ok (.ifCond .ne 5, 3) := by decide +kernel
theorem dX7_stockInto_10 : decode cX7_stockInto 10 = .ok (.iconst 0, 1) := by decide +kernel
theorem dX7_stockInto_11 : decode cX7_stockInto 11 = .ok (.ireturn, 1) := by decide +kernel
theorem dX7_stockInto_12 : decode cX7_stockInto 12 = .ok (.aload_n 0, 1) := by decide +kernel
theorem dX7_stockInto_13 : decode cX7_stockInto 13 = .ok (.aload_n 0, 1) := by decide +kernel
theorem dX7_stockInto_14 : decode cX7_stockInto 14 = .ok (.getfield 36, 3) := by decide +kernel
theorem dX7_stockInto_17 : decode cX7_stockInto 17 = .ok (.iconst 0, 1) := by decide +kernel
theorem dX7_stockInto_18 : decode cX7_stockInto 18 = .ok (.iaload, 1) := by decide +kernel
theorem dX7_stockInto_19 : decode cX7_stockInto 19 = .ok (.iconst 4, 1) := by decide +kernel
theorem dX7_stockInto_20 : decode cX7_stockInto 20 = .ok (.invokevirtual 63, 3) := by decide +kernel
theorem dX7_stockInto_23 : decode cX7_stockInto 23 = .ok (.aload_n 0, 1) := by decide +kernel
theorem dX7_stockInto_24 : decode cX7_stockInto 24 = .ok (.getfield 166, 3) := by decide +kernel
theorem dX7_stockInto_27 : decode cX7_stockInto 27 = .ok (.iadd, 1) := by decide +kernel
theorem dX7_stockInto_28 : decode cX7_stockInto 28 = .ok (.bipush 99, 2) := by decide +kernel
theorem dX7_stockInto_30 : decode cX7_stockInto 30 = .ok (.if_icmp .le 9, 3) := by decide +kernel
theorem dX7_stockInto_33 : decode cX7_stockInto 33 = .ok (.aload_n 0, 1) := by decide +kernel
theorem dX7_stockInto_34 : decode cX7_stockInto 34 = .ok (.iconst 3, 1) := by decide +kernel
theorem dX7_stockInto_35 : decode cX7_stockInto 35 = .ok (.invokevirtual 177, 3) := by decide +kernel
theorem dX7_stockInto_38 : decode cX7_stockInto 38 = .ok (.ireturn, 1) := by decide +kernel
theorem dX7_stockInto_39 : decode cX7_stockInto 39 = .ok (.aload_n 0, 1) := by decide +kernel
theorem dX7_stockInto_40 : decode cX7_stockInto 40 = .ok (.getfield 36, 3) := by decide +kernel
theorem dX7_stockInto_43 : decode cX7_stockInto 43 = .ok (.iconst 1, 1) := by decide +kernel
theorem dX7_stockInto_44 : decode cX7_stockInto 44 = .ok (.aload_n 0, 1) := by decide +kernel
theorem dX7_stockInto_45 : decode cX7_stockInto 45 = .ok (.getfield 166, 3) := by decide +kernel
theorem dX7_stockInto_48 : decode cX7_stockInto 48 = .ok (.iastore, 1) := by decide +kernel
theorem dX7_stockInto_49 : decode cX7_stockInto 49 = .ok (.aload_n 0, 1) := by decide +kernel
theorem dX7_stockInto_50 : decode cX7_stockInto 50 = .ok (.invokevirtual 180, 3) := by decide +kernel
theorem dX7_stockInto_53 : decode cX7_stockInto 53 = .ok (.iconst 1, 1) := by decide +kernel
theorem dX7_stockInto_54 : decode cX7_stockInto 54 = .ok (.ireturn, 1) := by decide +kernel
theorem hd_X7_stockInto : yX7_stockInto.cls = RX7 ∧ yX7_stockInto.cls ≠ "java/lang/invoke/MethodHandle" ∧ yX7_stockInto.cls ≠ "java/lang/invoke/VarHandle" ∧ (parseMethodDescriptor yX7_stockInto.desc).map (fun d => d.parameters.length) = some 0 := by decide +kernel
set_option maxRecDepth 100000 in
set_option maxHeartbeats 4000000 in
theorem c_X7_stockInto (l : Launch) (D : va_G) (g : xG) (tb : List xQ) (hT : x_T g tb)  (h0 : x_md tb) {M : xM} {r : Int32} {M' : xM} (hf : f_X7_stockInto  M = some (r, M')) :
    cI l D g tb yX7_stockInto cX7_stockInto 1 .boolean ({ frames := 3, cells := 0, slots := 0, locals := 63 } : Room) [.ref (g.1 5 2500)] M r M' := by
  refine x_startZ (own := RX7) (by decide +kernel) rfl rfl (Nat.le_of_ble_eq_true rfl) hT ?_
  intro p e s m args below meth c Q C0 hend
  unfold f_X7_stockInto at hf
  refine r_aload_n C0 (kk := 0) 0 rfl dX7_stockInto_0 ?_
  refine r_iconst C0 (v := 0) dX7_stockInto_1 rfl ?_
  refine r_bipush C0 (v := 99) dX7_stockInto_2 rfl ?_
  obtain ⟨r3, M2, hc1, hf⟩ := bd2_e hf
  refine r_callVi C0 (As := [.int 0, .int 99]) (rest := []) (c_X7_numberIn l D g tb hT h0 hc1) w6_43 w6_45 wp3_6 w1_14 w6_46 (x_rec5 C0 h0.1) hd_X7_numberIn rfl ⟨rfl, rfl⟩ ⟨Nat.le_of_ble_eq_true rfl, Nat.le_of_ble_eq_true rfl⟩ (by decide) (by decide) rfl (Nat.le_of_ble_eq_true rfl) dX7_stockInto_4 ?_
  refine r_if_ne C0 (tgt := 12) (by decide) dX7_stockInto_7 (fun q4 => ?_) (fun q4 => ?_)
  · have hf := ie_f hf q4
    refine r_aload_n C0 (kk := 0) 0 rfl dX7_stockInto_12 ?_
    refine r_aload_n C0 (kk := 0) 0 rfl dX7_stockInto_13 ?_
    refine r_get5 C0 h0.1 13 (by decide) (v := .ref (g.1 6 4147)) rfl rfl w6_229 dX7_stockInto_14 ?_
    refine r_iconst C0 (v := 0) dX7_stockInto_17 rfl ?_
    refine r_ialdc C0 h0.2.2.2.2.2.2.2.1 (z := 4147) (by decide) (by decide) dX7_stockInto_18 ?_
    refine r_iconst C0 (v := 4) dX7_stockInto_19 rfl ?_
    obtain ⟨r7, M6, hc5, hf⟩ := bd2_e hf
    refine r_callVi C0 (As := [.int (M2 4147), .int 4]) (rest := []) (c_X7_st l D g tb hT h0 hc5) w6_111 w6_113 wp4_3 w1_14 w6_114 (x_rec5 C0 h0.1) hd_X7_st rfl ⟨rfl, rfl⟩ ⟨Nat.le_of_ble_eq_true rfl, Nat.le_of_ble_eq_true rfl⟩ (by decide) (by decide) rfl (Nat.le_of_ble_eq_true rfl) dX7_stockInto_20 ?_
    refine r_aload_n C0 (kk := 0) 0 rfl dX7_stockInto_23 ?_
    refine r_get5 C0 h0.1 18 (by decide) (v := .int (M6 2518)) rfl rfl w6_234 dX7_stockInto_24 ?_
    refine r_iadd C0 dX7_stockInto_27 ?_
    refine r_bipush C0 (v := 99) dX7_stockInto_28 rfl ?_
    refine r_icmp_le C0 (tgt := 39) (by decide) dX7_stockInto_30 (fun q8 => ?_) (fun q8 => ?_)
    · have hf := ie_t hf q8
      refine r_aload_n C0 (kk := 0) 0 rfl dX7_stockInto_39 ?_
      refine r_get5 C0 h0.1 13 (by decide) (v := .ref (g.1 6 4147)) rfl rfl w6_229 dX7_stockInto_40 ?_
      refine r_iconst C0 (v := 1) dX7_stockInto_43 rfl ?_
      refine r_aload_n C0 (kk := 0) 0 rfl dX7_stockInto_44 ?_
      refine r_get5 C0 h0.1 18 (by decide) (v := .int (M6 2518)) rfl rfl w6_234 dX7_stockInto_45 ?_
      refine r_iastc C0 h0.2.2.2.2.2.2.2.1 (z := 4148) (by decide) (by decide) dX7_stockInto_48 ?_
      refine r_aload_n C0 (kk := 0) 0 rfl dX7_stockInto_49 ?_
      obtain ⟨M10, hc9, hf⟩ := bd_e hf
      refine r_callVv C0 (As := []) (rest := []) (c_X7_next l D g tb hT h0 hc9) w6_5 w6_7 wp3_0 w1_14 w6_8 (x_rec5 C0 h0.1) hd_X7_next rfl ⟨rfl, rfl⟩ ⟨Nat.le_of_ble_eq_true rfl, Nat.le_of_ble_eq_true rfl⟩ (by decide) (by decide) rfl (Nat.le_of_ble_eq_true rfl) dX7_stockInto_50 ?_
      refine r_iconst C0 (v := 1) dX7_stockInto_53 rfl ?_
      exact hend (by decide) hf dX7_stockInto_54
    · have hf := ie_f hf q8
      refine r_aload_n C0 (kk := 0) 0 rfl dX7_stockInto_33 ?_
      refine r_iconst C0 (v := 3) dX7_stockInto_34 rfl ?_
      obtain ⟨r13, M12, hc11, hf⟩ := bd2_e hf
      refine r_callVi C0 (As := [.int 3]) (rest := []) (c_X7_wrong l D g tb hT h0 hc11) w6_35 w6_37 wp3_4 w1_14 w6_38 (x_rec5 C0 h0.1) hd_X7_wrong rfl ⟨rfl, rfl⟩ ⟨Nat.le_of_ble_eq_true rfl, Nat.le_of_ble_eq_true rfl⟩ (by decide) (by decide) rfl (Nat.le_of_ble_eq_true rfl) dX7_stockInto_35 ?_
      obtain ⟨q14, hf⟩ := gd_e hf
      exact hend q14 hf dX7_stockInto_38
  · have hf := ie_t hf q4
    refine r_iconst C0 (v := 0) dX7_stockInto_10 rfl ?_
    exact hend (by decide) hf dX7_stockInto_11
theorem dX7_stepBell_0 : decode cX7_stepBell 0 = .ok (.aload_n 0, 1) := by decide +kernel
theorem dX7_stepBell_1 : decode cX7_stepBell 1 = .ok (.iconst 0, 1) := by decide +kernel
theorem dX7_stepBell_2 : decode cX7_stepBell 2 = .ok (.putfield 91, 3) := by decide +kernel
theorem dX7_stepBell_5 : decode cX7_stepBell 5 = .ok (.iload_n 1, 1) := by decide +kernel
theorem dX7_stepBell_6 : decode cX7_stepBell 6 = .ok (.aload_n 0, 1) := by decide +kernel
theorem dX7_stepBell_7 : decode cX7_stepBell 7 = .ok (.getfield 17, 3) := by decide +kernel
theorem dX7_stepBell_10 : decode cX7_stepBell 10 = .ok (.iconst 5, 1) := by decide +kernel
theorem dX7_stepBell_11 : decode cX7_stepBell 11 = .ok (.iaload, 1) := by decide +kernel
theorem dX7_stepBell_12 : decode cX7_stepBell 12 = .ok (.if_icmp .ge 10, 3) := by decide +kernel
theorem dX7_stepBell_15 : decode cX7_stepBell 15 = .ok (.aload_n 0, 1) := by decide +kernel
theorem dX7_stepBell_16 : decode cX7_stepBell 16 = .ok (.getfield 17, 3) := by decide +kernel
theorem dX7_stepBell_19 : decode cX7_stepBell 19 = .ok (.iconst 2, 1) := by decide +kernel
theorem dX7_stepBell_20 : decode cX7_stepBell 20 = .ok (.iconst 1, 1) := by decide +kernel
theorem dX7_stepBell_21 : decode cX7_stepBell 21 = .ok (.iastore, 1) := by decide +kernel
theorem dX7_stepBell_22 : decode cX7_stepBell 22 = .ok (.aload_n 0, 1) := by decide +kernel
theorem dX7_stepBell_23 : decode cX7_stepBell 23 = .ok (.getfield 17, 3) := by decide +kernel
theorem dX7_stepBell_26 : decode cX7_stepBell 26 = .ok (.iconst 1, 1) := by decide +kernel
theorem dX7_stepBell_27 : decode cX7_stepBell 27 = .ok (.iaload, 1) := by decide +kernel
theorem dX7_stepBell_28 : decode cX7_stepBell 28 = .ok (.iconst 1, 1) := by decide +kernel
theorem dX7_stepBell_29 : decode cX7_stepBell 29 = .ok (.if_icmp .ne 36, 3) := by decide +kernel
theorem dX7_stepBell_32 : decode cX7_stepBell 32 = .ok (.iload_n 1, 1) := by decide +kernel
theorem dX7_stepBell_33 : decode cX7_stepBell 33 = .ok (.aload_n 0, 1) := by decide +kernel
theorem dX7_stepBell_34 : decode cX7_stepBell 34 = .ok (.getfield 17, 3) := by decide +kernel
theorem dX7_stepBell_37 : decode cX7_stepBell 37 = .ok (.iconst 5, 1) := by decide +kernel
theorem dX7_stepBell_38 : decode cX7_stepBell 38 = .ok (.iaload, 1) := by decide +kernel
theorem dX7_stepBell_39 : decode cX7_stepBell 39 = .ok (.if_icmp .lt 19, 3) := by decide +kernel
theorem dX7_stepBell_42 : decode cX7_stepBell 42 = .ok (.aload_n 0, 1) := by decide +kernel
theorem dX7_stepBell_43 : decode cX7_stepBell 43 = .ok (.getfield 17, 3) := by decide +kernel
theorem dX7_stepBell_46 : decode cX7_stepBell 46 = .ok (.iconst 3, 1) := by decide +kernel
theorem dX7_stepBell_47 : decode cX7_stepBell 47 = .ok (.iaload, 1) := by decide +kernel
theorem dX7_stepBell_48 : decode cX7_stepBell 48 = .ok (.aload_n 0, 1) := by decide +kernel
theorem dX7_stepBell_49 : decode cX7_stepBell 49 = .ok (.getfield 17, 3) := by decide +kernel
theorem dX7_stepBell_52 : decode cX7_stepBell 52 = .ok (.bipush 6, 2) := by decide +kernel
theorem dX7_stepBell_54 : decode cX7_stepBell 54 = .ok (.iaload, 1) := by decide +kernel
theorem dX7_stepBell_55 : decode cX7_stepBell 55 = .ok (.if_icmp .ne 61, 3) := by decide +kernel
theorem dX7_stepBell_58 : decode cX7_stepBell 58 = .ok (.aload_n 0, 1) := by decide +kernel
theorem dX7_stepBell_59 : decode cX7_stepBell 59 = .ok (.invokevirtual 95, 3) := by decide +kernel
theorem dX7_stepBell_62 : decode cX7_stepBell 62 = .ok (.goto 54, 3) := by decide +kernel
theorem dX7_stepBell_65 : decode cX7_stepBell 65 = .ok (.aload_n 0, 1) := by decide +kernel
theorem dX7_stepBell_66 : decode cX7_stepBell 66 = .ok (.getfield 17, 3) := by decide +kernel
theorem dX7_stepBell_69 : decode cX7_stepBell 69 = .ok (.iconst 2, 1) := by decide +kernel
theorem dX7_stepBell_70 : decode cX7_stepBell 70 = .ok (.iaload, 1) := by decide +kernel
theorem dX7_stepBell_71 : decode cX7_stepBell 71 = .ok (.iconst 1, 1) := by decide +kernel
theorem dX7_stepBell_72 : decode cX7_stepBell 72 = .ok (.if_icmp .ne 44, 3) := by decide +kernel
theorem dX7_stepBell_75 : decode cX7_stepBell 75 = .ok (.iload_n 1, 1) := by decide +kernel
theorem dX7_stepBell_76 : decode cX7_stepBell 76 = .ok (.aload_n 0, 1) := by decide +kernel
theorem dX7_stepBell_77 : decode cX7_stepBell 77 = .ok (.getfield 17, 3) := by decide +kernel
theorem dX7_stepBell_80 : decode cX7_stepBell 80 = .ok (.iconst 5, 1) := by decide +kernel
theorem dX7_stepBell_81 : decode cX7_stepBell 81 = .ok (.iaload, 1) := by decide +kernel
theorem dX7_stepBell_82 : decode cX7_stepBell 82 = .ok (.if_icmp .lt 34, 3) := by decide +kernel
theorem dX7_stepBell_85 : decode cX7_stepBell 85 = .ok (.aload_n 0, 1) := by decide +kernel
theorem dX7_stepBell_86 : decode cX7_stepBell 86 = .ok (.getfield 17, 3) := by decide +kernel
theorem dX7_stepBell_89 : decode cX7_stepBell 89 = .ok (.iconst 1, 1) := by decide +kernel
theorem dX7_stepBell_90 : decode cX7_stepBell 90 = .ok (.iconst 1, 1) := by decide +kernel
theorem dX7_stepBell_91 : decode cX7_stepBell 91 = .ok (.iastore, 1) := by decide +kernel
theorem dX7_stepBell_92 : decode cX7_stepBell 92 = .ok (.aload_n 0, 1) := by decide +kernel
theorem dX7_stepBell_93 : decode cX7_stepBell 93 = .ok (.getfield 17, 3) := by decide +kernel
theorem dX7_stepBell_96 : decode cX7_stepBell 96 = .ok (.iconst 3, 1) := by decide +kernel
theorem dX7_stepBell_97 : decode cX7_stepBell 97 = .ok (.iconst 0, 1) := by decide +kernel
theorem dX7_stepBell_98 : decode cX7_stepBell 98 = .ok (.iastore, 1) := by decide +kernel
theorem dX7_stepBell_99 : decode cX7_stepBell 99 = .ok (.aload_n 0, 1) := by decide +kernel
theorem dX7_stepBell_100 : decode cX7_stepBell 100 = .ok (.getfield 17, 3) := by decide +kernel
theorem dX7_stepBell_103 : decode cX7_stepBell 103 = .ok (.iconst 2, 1) := by decide +kernel
theorem dX7_stepBell_104 : decode cX7_stepBell 104 = .ok (.iconst 0, 1) := by decide +kernel
theorem dX7_stepBell_105 : decode cX7_stepBell 105 = .ok (.iastore, 1) := by decide +kernel
theorem dX7_stepBell_106 : decode cX7_stepBell 106 = .ok (.aload_n 0, 1) := by decide +kernel
theorem dX7_stepBell_107 : decode cX7_stepBell 107 = .ok (.getfield 17, 3) := by decide +kernel
theorem dX7_stepBell_110 : decode cX7_stepBell 110 = .ok (.iconst 4, 1) := by decide +kernel
theorem dX7_stepBell_111 : decode cX7_stepBell 111 = .ok (.dup2, 1) := by decide +kernel
theorem dX7_stepBell_112 : decode cX7_stepBell 112 = .ok (.iaload, 1) := by decide +kernel
theorem dX7_stepBell_113 : decode cX7_stepBell 113 = .ok (.iconst 1, 1) := by decide +kernel
theorem dX7_stepBell_114 : decode cX7_stepBell 114 = .ok (.iadd, 1) := by decide +kernel
theorem dX7_stepBell_115 : decode cX7_stepBell 115 = .ok (.iastore, 1) := by decide +kernel
theorem dX7_stepBell_116 : decode cX7_stepBell 116 = .ok (.return_, 1) := by decide +kernel
theorem hd_X7_stepBell : yX7_stepBell.cls = RX7 ∧ yX7_stepBell.cls ≠ "java/lang/invoke/MethodHandle" ∧ yX7_stepBell.cls ≠ "java/lang/invoke/VarHandle" ∧ (parseMethodDescriptor yX7_stepBell.desc).map (fun d => d.parameters.length) = some 1 := by decide +kernel
set_option maxRecDepth 100000 in
set_option maxHeartbeats 4000000 in
theorem c_X7_stepBell (l : Launch) (D : va_G) (g : xG) (tb : List xQ) (hT : x_T g tb) {a1 : Int32} (h0 : x_md tb) {M M' : xM} (hf : f_X7_stepBell a1 M = some M') :
    cV l D g tb yX7_stepBell cX7_stepBell 2 ({ frames := 3, cells := 0, slots := 0, locals := 65 } : Room) [.ref (g.1 5 2500), .int a1] M M' := by
  refine x_startV (own := RX7) (by decide +kernel) rfl rfl (Nat.le_of_ble_eq_true rfl) hT ?_
  intro p e s m args below meth c Q C0 hend
  have B22 : ∀ (M : xM), f_X7_stepBell_c22  a1 M = some M' → WW p l e ({ frames := 3, cells := 0, slots := 0, locals := 65 } : Room) s m args below meth c 0 0 Q 2 D g tb 22 [(0, .ref (g.1 5 2500)), (1, .int a1)] [] M := by
    intro     M hf
    unfold f_X7_stepBell_c22 at hf
    refine r_aload_n C0 (kk := 0) 0 rfl dX7_stepBell_22 ?_
    refine r_get5 C0 h0.1 5 (by decide) (v := .ref (g.1 6 2520)) rfl rfl w6_221 dX7_stepBell_23 ?_
    refine r_iconst C0 (v := 1) dX7_stepBell_26 rfl ?_
    refine r_ialdc C0 h0.2.1 (z := 2521) (by decide) (by decide) dX7_stepBell_27 ?_
    refine r_iconst C0 (v := 1) dX7_stepBell_28 rfl ?_
    refine r_icmp_ne C0 (tgt := 65) (by decide) dX7_stepBell_29 (fun q2 => ?_) (fun q2 => ?_)
    · have hf := ie_f hf q2
      refine r_aload_n C0 (kk := 0) 0 rfl dX7_stepBell_65 ?_
      refine r_get5 C0 h0.1 5 (by decide) (v := .ref (g.1 6 2520)) rfl rfl w6_221 dX7_stepBell_66 ?_
      refine r_iconst C0 (v := 2) dX7_stepBell_69 rfl ?_
      refine r_ialdc C0 h0.2.1 (z := 2522) (by decide) (by decide) dX7_stepBell_70 ?_
      refine r_iconst C0 (v := 1) dX7_stepBell_71 rfl ?_
      refine r_icmp_ne C0 (tgt := 116) (by decide) dX7_stepBell_72 (fun q3 => ?_) (fun q3 => ?_)
      · have hf := ie_f hf q3
        exact hend hf dX7_stepBell_116
      · have hf := ie_t hf q3
        refine r_iload_n C0 (kk := 1) 1 rfl dX7_stepBell_75 ?_
        refine r_aload_n C0 (kk := 0) 0 rfl dX7_stepBell_76 ?_
        refine r_get5 C0 h0.1 5 (by decide) (v := .ref (g.1 6 2520)) rfl rfl w6_221 dX7_stepBell_77 ?_
        refine r_iconst C0 (v := 5) dX7_stepBell_80 rfl ?_
        refine r_ialdc C0 h0.2.1 (z := 2525) (by decide) (by decide) dX7_stepBell_81 ?_
        refine r_icmp_lt C0 (tgt := 116) (by decide) dX7_stepBell_82 (fun q4 => ?_) (fun q4 => ?_)
        · have hf := ie_t hf q4
          exact hend hf dX7_stepBell_116
        · have hf := ie_f hf q4
          refine r_aload_n C0 (kk := 0) 0 rfl dX7_stepBell_85 ?_
          refine r_get5 C0 h0.1 5 (by decide) (v := .ref (g.1 6 2520)) rfl rfl w6_221 dX7_stepBell_86 ?_
          refine r_iconst C0 (v := 1) dX7_stepBell_89 rfl ?_
          refine r_iconst C0 (v := 1) dX7_stepBell_90 rfl ?_
          refine r_iastc C0 h0.2.1 (z := 2521) (by decide) (by decide) dX7_stepBell_91 ?_
          refine r_aload_n C0 (kk := 0) 0 rfl dX7_stepBell_92 ?_
          refine r_get5 C0 h0.1 5 (by decide) (v := .ref (g.1 6 2520)) rfl rfl w6_221 dX7_stepBell_93 ?_
          refine r_iconst C0 (v := 3) dX7_stepBell_96 rfl ?_
          refine r_iconst C0 (v := 0) dX7_stepBell_97 rfl ?_
          refine r_iastc C0 h0.2.1 (z := 2523) (by decide) (by decide) dX7_stepBell_98 ?_
          refine r_aload_n C0 (kk := 0) 0 rfl dX7_stepBell_99 ?_
          refine r_get5 C0 h0.1 5 (by decide) (v := .ref (g.1 6 2520)) rfl rfl w6_221 dX7_stepBell_100 ?_
          refine r_iconst C0 (v := 2) dX7_stepBell_103 rfl ?_
          refine r_iconst C0 (v := 0) dX7_stepBell_104 rfl ?_
          refine r_iastc C0 h0.2.1 (z := 2522) (by decide) (by decide) dX7_stepBell_105 ?_
          refine r_aload_n C0 (kk := 0) 0 rfl dX7_stepBell_106 ?_
          refine r_get5 C0 h0.1 5 (by decide) (v := .ref (g.1 6 2520)) rfl rfl w6_221 dX7_stepBell_107 ?_
          refine r_iconst C0 (v := 4) dX7_stepBell_110 rfl ?_
          refine r_dup2 C0 rfl rfl dX7_stepBell_111 ?_
          refine r_ialdc C0 h0.2.1 (z := 2524) (by decide) (by decide) dX7_stepBell_112 ?_
          refine r_iconst C0 (v := 1) dX7_stepBell_113 rfl ?_
          refine r_iadd C0 dX7_stepBell_114 ?_
          refine r_iastc C0 h0.2.1 (z := 2524) (by decide) (by decide) dX7_stepBell_115 ?_
          exact hend hf dX7_stepBell_116
    · have hf := ie_t hf q2
      refine r_iload_n C0 (kk := 1) 1 rfl dX7_stepBell_32 ?_
      refine r_aload_n C0 (kk := 0) 0 rfl dX7_stepBell_33 ?_
      refine r_get5 C0 h0.1 5 (by decide) (v := .ref (g.1 6 2520)) rfl rfl w6_221 dX7_stepBell_34 ?_
      refine r_iconst C0 (v := 5) dX7_stepBell_37 rfl ?_
      refine r_ialdc C0 h0.2.1 (z := 2525) (by decide) (by decide) dX7_stepBell_38 ?_
      refine r_icmp_lt C0 (tgt := 58) (by decide) dX7_stepBell_39 (fun q5 => ?_) (fun q5 => ?_)
      · have hf := ie_t hf q5
        refine r_aload_n C0 (kk := 0) 0 rfl dX7_stepBell_58 ?_
        obtain ⟨M7, hc6, hf⟩ := bd_e hf
        refine r_callVv C0 (As := []) (rest := []) (c_X7_endBell l D g tb hT h0 hc6) w6_151 w6_153 wp4_13 w1_14 w6_154 (x_rec5 C0 h0.1) hd_X7_endBell rfl ⟨rfl, rfl⟩ ⟨Nat.le_of_ble_eq_true rfl, Nat.le_of_ble_eq_true rfl⟩ (by decide) (by decide) rfl (Nat.le_of_ble_eq_true rfl) dX7_stepBell_59 ?_
        refine r_goto C0 (tgt := 116) (by decide) dX7_stepBell_62 ?_
        exact hend hf dX7_stepBell_116
      · have hf := ie_f hf q5
        refine r_aload_n C0 (kk := 0) 0 rfl dX7_stepBell_42 ?_
        refine r_get5 C0 h0.1 5 (by decide) (v := .ref (g.1 6 2520)) rfl rfl w6_221 dX7_stepBell_43 ?_
        refine r_iconst C0 (v := 3) dX7_stepBell_46 rfl ?_
        refine r_ialdc C0 h0.2.1 (z := 2523) (by decide) (by decide) dX7_stepBell_47 ?_
        refine r_aload_n C0 (kk := 0) 0 rfl dX7_stepBell_48 ?_
        refine r_get5 C0 h0.1 5 (by decide) (v := .ref (g.1 6 2520)) rfl rfl w6_221 dX7_stepBell_49 ?_
        refine r_bipush C0 (v := 6) dX7_stepBell_52 rfl ?_
        refine r_ialdc C0 h0.2.1 (z := 2526) (by decide) (by decide) dX7_stepBell_54 ?_
        refine r_icmp_ne C0 (tgt := 116) (by decide) dX7_stepBell_55 (fun q8 => ?_) (fun q8 => ?_)
        · have hf := ie_f hf q8
          exact hend hf dX7_stepBell_116
        · have hf := ie_t hf q8
          refine r_aload_n C0 (kk := 0) 0 rfl dX7_stepBell_58 ?_
          obtain ⟨M10, hc9, hf⟩ := bd_e hf
          refine r_callVv C0 (As := []) (rest := []) (c_X7_endBell l D g tb hT h0 hc9) w6_151 w6_153 wp4_13 w1_14 w6_154 (x_rec5 C0 h0.1) hd_X7_endBell rfl ⟨rfl, rfl⟩ ⟨Nat.le_of_ble_eq_true rfl, Nat.le_of_ble_eq_true rfl⟩ (by decide) (by decide) rfl (Nat.le_of_ble_eq_true rfl) dX7_stepBell_59 ?_
          refine r_goto C0 (tgt := 116) (by decide) dX7_stepBell_62 ?_
          exact hend hf dX7_stepBell_116
  unfold f_X7_stepBell at hf
  refine r_aload_n C0 (kk := 0) 0 rfl dX7_stepBell_0 ?_
  refine r_iconst C0 (v := 0) dX7_stepBell_1 rfl ?_
  refine r_put5 C0 h0.1 12 rfl rfl w6_228 rfl rfl rfl dX7_stepBell_2 ?_
  refine r_iload_n C0 (kk := 1) 1 rfl dX7_stepBell_5 ?_
  refine r_aload_n C0 (kk := 0) 0 rfl dX7_stepBell_6 ?_
  refine r_get5 C0 h0.1 5 (by decide) (v := .ref (g.1 6 2520)) rfl rfl w6_221 dX7_stepBell_7 ?_
  refine r_iconst C0 (v := 5) dX7_stepBell_10 rfl ?_
  refine r_ialdc C0 h0.2.1 (z := 2525) (by decide) (by decide) dX7_stepBell_11 ?_
  refine r_icmp_ge C0 (tgt := 22) (by decide) dX7_stepBell_12 (fun q1 => ?_) (fun q1 => ?_)
  · have hf := ie_t hf q1
    exact B22     _ hf
  · have hf := ie_f hf q1
    refine r_aload_n C0 (kk := 0) 0 rfl dX7_stepBell_15 ?_
    refine r_get5 C0 h0.1 5 (by decide) (v := .ref (g.1 6 2520)) rfl rfl w6_221 dX7_stepBell_16 ?_
    refine r_iconst C0 (v := 2) dX7_stepBell_19 rfl ?_
    refine r_iconst C0 (v := 1) dX7_stepBell_20 rfl ?_
    refine r_iastc C0 h0.2.1 (z := 2522) (by decide) (by decide) dX7_stepBell_21 ?_
    exact B22     _ hf
theorem dX7_target_0 : decode cX7_target 0 = .ok (.aload_n 0, 1) := by decide +kernel
theorem dX7_target_1 : decode cX7_target 1 = .ok (.iload_n 1, 1) := by decide +kernel
theorem dX7_target_2 : decode cX7_target 2 = .ok (.iconst 0, 1) := by decide +kernel
theorem dX7_target_3 : decode cX7_target 3 = .ok (.invokevirtual 73, 3) := by decide +kernel
theorem dX7_target_6 : decode cX7_target 6 = .ok (.istore_n 3, 1) := by decide +kernel
theorem dX7_target_7 : decode cX7_target 7 = .ok (.iconst (-1), 1) := by decide +kernel
theorem dX7_target_8 : decode cX7_target 8 = .ok (.istore 4, 2) := by decide +kernel
theorem dX7_target_10 : decode cX7_target 10 = .ok (.iconst 0, 1) := by decide +kernel
theorem dX7_target_11 : decode cX7_target 11 = .ok (.istore 5, 2) := by decide +kernel
theorem dX7_target_13 : decode cX7_target 13 = .ok (.iload 5, 2) := by decide +kernel
theorem dX7_target_15 : decode cX7_target 15 = .ok (.aload_n 0, 1) := by decide +kernel
theorem dX7_target_16 : decode cX7_target 16 = .ok (.getfield 17, 3) := by decide +kernel
theorem dX7_target_19 : decode cX7_target 19 = .ok (.bipush 9, 2) := by decide +kernel
theorem dX7_target_21 : decode cX7_target 21 = .ok (.iaload, 1) := by decide +kernel
theorem dX7_target_22 : decode cX7_target 22 = .ok (.if_icmp .ge 99, 3) := by decide +kernel
theorem dX7_target_25 : decode cX7_target 25 = .ok (.aload_n 0, 1) := by decide +kernel
theorem dX7_target_26 : decode cX7_target 26 = .ok (.iload_n 1, 1) := by decide +kernel
theorem dX7_target_27 : decode cX7_target 27 = .ok (.bipush 6, 2) := by decide +kernel
theorem dX7_target_29 : decode cX7_target 29 = .ok (.invokevirtual 73, 3) := by decide +kernel
theorem dX7_target_32 : decode cX7_target 32 = .ok (.iload 5, 2) := by decide +kernel
theorem dX7_target_34 : decode cX7_target 34 = .ok (.invokestatic 76, 3) := by decide +kernel
theorem dX7_target_37 : decode cX7_target 37 = .ok (.ifCond .ne 18, 3) := by decide +kernel
theorem dX7_target_40 : decode cX7_target 40 = .ok (.aload_n 0, 1) := by decide +kernel
theorem dX7_target_41 : decode cX7_target 41 = .ok (.iload 5, 2) := by decide +kernel
theorem dX7_target_43 : decode cX7_target 43 = .ok (.iload_n 3, 1) := by decide +kernel
theorem dX7_target_44 : decode cX7_target 44 = .ok (.iload_n 2, 1) := by decide +kernel
theorem dX7_target_45 : decode cX7_target 45 = .ok (.invokevirtual 80, 3) := by decide +kernel
theorem dX7_target_48 : decode cX7_target 48 = .ok (.ifCond .eq 7, 3) := by decide +kernel
theorem dX7_target_51 : decode cX7_target 51 = .ok (.iconst 1, 1) := by decide +kernel
theorem dX7_target_52 : decode cX7_target 52 = .ok (.goto 4, 3) := by decide +kernel
theorem dX7_target_55 : decode cX7_target 55 = .ok (.iconst 0, 1) := by decide +kernel
theorem dX7_target_56 : decode cX7_target 56 = .ok (.istore 6, 2) := by decide +kernel
theorem dX7_target_58 : decode cX7_target 58 = .ok (.iload 4, 2) := by decide +kernel
theorem dX7_target_60 : decode cX7_target 60 = .ok (.iconst (-1), 1) := by decide +kernel
theorem dX7_target_61 : decode cX7_target 61 = .ok (.if_icmp .eq 28, 3) := by decide +kernel
theorem dX7_target_64 : decode cX7_target 64 = .ok (.aload_n 0, 1) := by decide +kernel
theorem dX7_target_65 : decode cX7_target 65 = .ok (.iload 5, 2) := by decide +kernel
theorem dX7_target_67 : decode cX7_target 67 = .ok (.iconst 0, 1) := by decide +kernel
theorem dX7_target_68 : decode cX7_target 68 = .ok (.invokevirtual 63, 3) := by decide +kernel
theorem dX7_target_71 : decode cX7_target 71 = .ok (.iload_n 3, 1) := by decide +kernel
theorem dX7_target_72 : decode cX7_target 72 = .ok (.invokestatic 67, 3) := by decide +kernel
theorem dX7_target_75 : decode cX7_target 75 = .ok (.aload_n 0, 1) := by decide +kernel
theorem dX7_target_76 : decode cX7_target 76 = .ok (.iload 4, 2) := by decide +kernel
theorem dX7_target_78 : decode cX7_target 78 = .ok (.iconst 0, 1) := by decide +kernel
theorem dX7_target_79 : decode cX7_target 79 = .ok (.invokevirtual 63, 3) := by decide +kernel
theorem dX7_target_82 : decode cX7_target 82 = .ok (.iload_n 3, 1) := by decide +kernel
theorem dX7_target_83 : decode cX7_target 83 = .ok (.invokestatic 67, 3) := by decide +kernel
theorem dX7_target_86 : decode cX7_target 86 = .ok (.if_icmp .ge 7, 3) := by decide +kernel
theorem dX7_target_89 : decode cX7_target 89 = .ok (.iconst 1, 1) := by decide +kernel
theorem dX7_target_90 : decode cX7_target 90 = .ok (.goto 4, 3) := by decide +kernel
theorem dX7_target_93 : decode cX7_target 93 = .ok (.iconst 0, 1) := by decide +kernel
theorem dX7_target_94 : decode cX7_target 94 = .ok (.istore 7, 2) := by decide +kernel
theorem dX7_target_96 : decode cX7_target 96 = .ok (.iload 6, 2) := by decide +kernel
theorem dX7_target_98 : decode cX7_target 98 = .ok (.ifCond .eq 13, 3) := by decide +kernel
theorem dX7_target_101 : decode cX7_target 101 = .ok (.iload 7, 2) := by decide +kernel
theorem dX7_target_103 : decode cX7_target 103 = .ok (.ifCond .eq 8, 3) := by decide +kernel
theorem dX7_target_106 : decode cX7_target 106 = .ok (.iload 5, 2) := by decide +kernel
theorem dX7_target_108 : decode cX7_target 108 = .ok (.goto 5, 3) := by decide +kernel
theorem dX7_target_111 : decode cX7_target 111 = .ok (.iload 4, 2) := by decide +kernel
theorem dX7_target_113 : decode cX7_target 113 = .ok (.istore 4, 2) := by decide +kernel
theorem dX7_target_115 : decode cX7_target 115 = .ok (.iinc 5 1, 3) := by decide +kernel
theorem dX7_target_118 : decode cX7_target 118 = .ok (.goto (-105), 3) := by decide +kernel
theorem dX7_target_121 : decode cX7_target 121 = .ok (.iload 4, 2) := by decide +kernel
theorem dX7_target_123 : decode cX7_target 123 = .ok (.ireturn, 1) := by decide +kernel
theorem hd_X7_target : yX7_target.cls = RX7 ∧ yX7_target.cls ≠ "java/lang/invoke/MethodHandle" ∧ yX7_target.cls ≠ "java/lang/invoke/VarHandle" ∧ (parseMethodDescriptor yX7_target.desc).map (fun d => d.parameters.length) = some 2 := by decide +kernel
set_option maxRecDepth 100000 in
set_option maxHeartbeats 4000000 in
theorem c_X7_target (l : Launch) (D : va_G) (g : xG) (tb : List xQ) (hT : x_T g tb) {a1 : Int32} {a2 : Int32} (h0 : x_md tb) {M : xM} {r : Int32} {M' : xM} (hf : f_X7_target a1 a2 M = some (r, M')) :
    cI l D g tb yX7_target cX7_target 8 .int ({ frames := 2, cells := 0, slots := 0, locals := 45 } : Room) [.ref (g.1 5 2500), .int a1, .int a2] M r M' := by
  refine x_startI (own := RX7) (by decide +kernel) rfl rfl (Nat.le_of_ble_eq_true rfl) hT ?_
  intro p e s m args below meth c Q C0 hend
  have B113 : ∀ (k13 : Int32 → Int32 → Int32 → xM → Option (Int32 × xM)) (hk13 : ∀ (v3 : Int32) (v4 : Int32) (v5 : Int32)  (M : xM), k13 v3 v4 v5 M = some (r, M') → WW p l e ({ frames := 2, cells := 0, slots := 0, locals := 45 } : Room) s m args below meth c 0 0 Q 8 D g tb 13 [(0, .ref (g.1 5 2500)), (1, .int a1), (2, .int a2), (3, .int v3), (4, .int v4), (5, .int v5)] [] M), ∀ (v3 : Int32) (v5 : Int32) (s0 : Int32)  (M : xM), f_X7_target_c113 k13 a1 a2 v3 v5 s0 M = some (r, M') → WW p l e ({ frames := 2, cells := 0, slots := 0, locals := 45 } : Room) s m args below meth c 0 0 Q 8 D g tb 113 [(0, .ref (g.1 5 2500)), (1, .int a1), (2, .int a2), (3, .int v3), (5, .int v5)] [.int s0] M := by
    intro k13 hk13 v3 v5 s0  M hf
    unfold f_X7_target_c113 at hf
    refine r_istore C0 (lv2 := [(4, .int s0), (0, .ref (g.1 5 2500)), (1, .int a1), (2, .int a2), (3, .int v3), (5, .int v5)]) (by decide) rfl dX7_target_113 ?_
    refine r_iincc C0 5 rfl (k0 := 1) (by decide) (by decide) (lv2 := [(5, .int (v5 + 1)), (4, .int s0), (0, .ref (g.1 5 2500)), (1, .int a1), (2, .int a2), (3, .int v3)]) rfl dX7_target_115 ?_
    refine r_goto C0 (tgt := 13) (by decide) dX7_target_118 ?_
    refine WW.sub [2, 3, 4, 5, 1, 0] rfl ?_
    exact hk13 _ _ _   _ hf
  have B111 : ∀ (k13 : Int32 → Int32 → Int32 → xM → Option (Int32 × xM)) (hk13 : ∀ (v3 : Int32) (v4 : Int32) (v5 : Int32)  (M : xM), k13 v3 v4 v5 M = some (r, M') → WW p l e ({ frames := 2, cells := 0, slots := 0, locals := 45 } : Room) s m args below meth c 0 0 Q 8 D g tb 13 [(0, .ref (g.1 5 2500)), (1, .int a1), (2, .int a2), (3, .int v3), (4, .int v4), (5, .int v5)] [] M), ∀ (v3 : Int32) (v4 : Int32) (v5 : Int32)  (M : xM), f_X7_target_c111 k13 a1 a2 v3 v4 v5 M = some (r, M') → WW p l e ({ frames := 2, cells := 0, slots := 0, locals := 45 } : Room) s m args below meth c 0 0 Q 8 D g tb 111 [(0, .ref (g.1 5 2500)), (1, .int a1), (2, .int a2), (3, .int v3), (4, .int v4), (5, .int v5)] [] M := by
    intro k13 hk13 v3 v4 v5  M hf
    unfold f_X7_target_c111 at hf
    refine r_iload C0 4 rfl dX7_target_111 ?_
    refine WW.sub [0, 1, 2, 3, 5] rfl ?_
    exact B113 k13 hk13 _ _ _   _ hf
  have B94 : ∀ (k13 : Int32 → Int32 → Int32 → xM → Option (Int32 × xM)) (hk13 : ∀ (v3 : Int32) (v4 : Int32) (v5 : Int32)  (M : xM), k13 v3 v4 v5 M = some (r, M') → WW p l e ({ frames := 2, cells := 0, slots := 0, locals := 45 } : Room) s m args below meth c 0 0 Q 8 D g tb 13 [(0, .ref (g.1 5 2500)), (1, .int a1), (2, .int a2), (3, .int v3), (4, .int v4), (5, .int v5)] [] M), ∀ (v3 : Int32) (v4 : Int32) (v5 : Int32) (v6 : Int32) (s0 : Int32)  (M : xM), f_X7_target_c94 k13 a1 a2 v3 v4 v5 v6 s0 M = some (r, M') → WW p l e ({ frames := 2, cells := 0, slots := 0, locals := 45 } : Room) s m args below meth c 0 0 Q 8 D g tb 94 [(0, .ref (g.1 5 2500)), (1, .int a1), (2, .int a2), (3, .int v3), (4, .int v4), (5, .int v5), (6, .int v6)] [.int s0] M := by
    intro k13 hk13 v3 v4 v5 v6 s0  M hf
    unfold f_X7_target_c94 at hf
    refine r_istore C0 (lv2 := [(7, .int s0), (0, .ref (g.1 5 2500)), (1, .int a1), (2, .int a2), (3, .int v3), (4, .int v4), (5, .int v5), (6, .int v6)]) (by decide) rfl dX7_target_94 ?_
    refine r_iload C0 7 rfl dX7_target_96 ?_
    refine r_if_eq C0 (tgt := 111) (by decide) dX7_target_98 (fun q30 => ?_) (fun q30 => ?_)
    · have hf := ie_t hf q30
      refine WW.sub [1, 2, 3, 4, 5, 6] rfl ?_
      exact B111 k13 hk13 _ _ _   _ hf
    · have hf := ie_f hf q30
      refine r_iload C0 0 rfl dX7_target_101 ?_
      refine r_if_eq C0 (tgt := 111) (by decide) dX7_target_103 (fun q31 => ?_) (fun q31 => ?_)
      · have hf := ie_t hf q31
        refine WW.sub [1, 2, 3, 4, 5, 6] rfl ?_
        exact B111 k13 hk13 _ _ _   _ hf
      · have hf := ie_f hf q31
        refine r_iload C0 6 rfl dX7_target_106 ?_
        refine r_goto C0 (tgt := 113) (by decide) dX7_target_108 ?_
        refine WW.sub [1, 2, 3, 4, 6] rfl ?_
        exact B113 k13 hk13 _ _ _   _ hf
  have B89 : ∀ (k13 : Int32 → Int32 → Int32 → xM → Option (Int32 × xM)) (hk13 : ∀ (v3 : Int32) (v4 : Int32) (v5 : Int32)  (M : xM), k13 v3 v4 v5 M = some (r, M') → WW p l e ({ frames := 2, cells := 0, slots := 0, locals := 45 } : Room) s m args below meth c 0 0 Q 8 D g tb 13 [(0, .ref (g.1 5 2500)), (1, .int a1), (2, .int a2), (3, .int v3), (4, .int v4), (5, .int v5)] [] M), ∀ (v3 : Int32) (v4 : Int32) (v5 : Int32) (v6 : Int32)  (M : xM), f_X7_target_c89 k13 a1 a2 v3 v4 v5 v6 M = some (r, M') → WW p l e ({ frames := 2, cells := 0, slots := 0, locals := 45 } : Room) s m args below meth c 0 0 Q 8 D g tb 89 [(0, .ref (g.1 5 2500)), (1, .int a1), (2, .int a2), (3, .int v3), (4, .int v4), (5, .int v5), (6, .int v6)] [] M := by
    intro k13 hk13 v3 v4 v5 v6  M hf
    unfold f_X7_target_c89 at hf
    refine r_iconst C0 (v := 1) dX7_target_89 rfl ?_
    refine r_goto C0 (tgt := 94) (by decide) dX7_target_90 ?_
    exact B94 k13 hk13 _ _ _ _ _   _ hf
  have B56 : ∀ (k13 : Int32 → Int32 → Int32 → xM → Option (Int32 × xM)) (hk13 : ∀ (v3 : Int32) (v4 : Int32) (v5 : Int32)  (M : xM), k13 v3 v4 v5 M = some (r, M') → WW p l e ({ frames := 2, cells := 0, slots := 0, locals := 45 } : Room) s m args below meth c 0 0 Q 8 D g tb 13 [(0, .ref (g.1 5 2500)), (1, .int a1), (2, .int a2), (3, .int v3), (4, .int v4), (5, .int v5)] [] M), ∀ (v3 : Int32) (v4 : Int32) (v5 : Int32) (s0 : Int32)  (M : xM), f_X7_target_c56 k13 a1 a2 v3 v4 v5 s0 M = some (r, M') → WW p l e ({ frames := 2, cells := 0, slots := 0, locals := 45 } : Room) s m args below meth c 0 0 Q 8 D g tb 56 [(0, .ref (g.1 5 2500)), (1, .int a1), (2, .int a2), (3, .int v3), (4, .int v4), (5, .int v5)] [.int s0] M := by
    intro k13 hk13 v3 v4 v5 s0  M hf
    unfold f_X7_target_c56 at hf
    refine r_istore C0 (lv2 := [(6, .int s0), (0, .ref (g.1 5 2500)), (1, .int a1), (2, .int a2), (3, .int v3), (4, .int v4), (5, .int v5)]) (by decide) rfl dX7_target_56 ?_
    refine r_iload C0 5 rfl dX7_target_58 ?_
    refine r_iconst C0 (v := (-1)) dX7_target_60 rfl ?_
    refine r_icmp_eq C0 (tgt := 89) (by decide) dX7_target_61 (fun q16 => ?_) (fun q16 => ?_)
    · have hf := ie_t hf q16
      refine WW.sub [1, 2, 3, 4, 5, 6, 0] rfl ?_
      exact B89 k13 hk13 _ _ _ _   _ hf
    · have hf := ie_f hf q16
      refine r_aload_n C0 (kk := 0) 1 rfl dX7_target_64 ?_
      refine r_iload C0 6 rfl dX7_target_65 ?_
      refine r_iconst C0 (v := 0) dX7_target_67 rfl ?_
      obtain ⟨r19, M18, hc17, hf⟩ := bd2_e hf
      refine r_callVi C0 (As := [.int v5, .int 0]) (rest := []) (c_X7_st l D g tb hT h0 hc17) w6_111 w6_113 wp4_3 w1_14 w6_114 (x_rec5 C0 h0.1) hd_X7_st rfl ⟨rfl, rfl⟩ ⟨Nat.le_of_ble_eq_true rfl, Nat.le_of_ble_eq_true rfl⟩ (by decide) (by decide) rfl (Nat.le_of_ble_eq_true rfl) dX7_target_68 ?_
      refine r_iload_n C0 (kk := 3) 4 rfl dX7_target_71 ?_
      obtain ⟨r22, M21, hc20, hf⟩ := bd2_e hf
      refine r_callSi C0 (As := [.int r19, .int v3]) (rest := []) (c_X7_apart l D g tb hT  hc20) w6_167 w6_168 w1_14 w6_169 hd_X7_apart rfl ⟨rfl, rfl⟩ ⟨Nat.le_of_ble_eq_true rfl, Nat.le_of_ble_eq_true rfl⟩ (by decide) (by decide) rfl (Nat.le_of_ble_eq_true rfl) dX7_target_72 ?_
      refine r_aload_n C0 (kk := 0) 1 rfl dX7_target_75 ?_
      refine r_iload C0 5 rfl dX7_target_76 ?_
      refine r_iconst C0 (v := 0) dX7_target_78 rfl ?_
      obtain ⟨r25, M24, hc23, hf⟩ := bd2_e hf
      refine r_callVi C0 (As := [.int v4, .int 0]) (rest := [.int r22]) (c_X7_st l D g tb hT h0 hc23) w6_111 w6_113 wp4_3 w1_14 w6_114 (x_rec5 C0 h0.1) hd_X7_st rfl ⟨rfl, rfl⟩ ⟨Nat.le_of_ble_eq_true rfl, Nat.le_of_ble_eq_true rfl⟩ (by decide) (by decide) rfl (Nat.le_of_ble_eq_true rfl) dX7_target_79 ?_
      refine r_iload_n C0 (kk := 3) 4 rfl dX7_target_82 ?_
      obtain ⟨r28, M27, hc26, hf⟩ := bd2_e hf
      refine r_callSi C0 (As := [.int r25, .int v3]) (rest := [.int r22]) (c_X7_apart l D g tb hT  hc26) w6_167 w6_168 w1_14 w6_169 hd_X7_apart rfl ⟨rfl, rfl⟩ ⟨Nat.le_of_ble_eq_true rfl, Nat.le_of_ble_eq_true rfl⟩ (by decide) (by decide) rfl (Nat.le_of_ble_eq_true rfl) dX7_target_83 ?_
      refine r_icmp_ge C0 (tgt := 93) (by decide) dX7_target_86 (fun q29 => ?_) (fun q29 => ?_)
      · have hf := ie_t hf q29
        refine r_iconst C0 (v := 0) dX7_target_93 rfl ?_
        refine WW.sub [1, 2, 3, 4, 5, 6, 0] rfl ?_
        exact B94 k13 hk13 _ _ _ _ _   _ hf
      · have hf := ie_f hf q29
        refine WW.sub [1, 2, 3, 4, 5, 6, 0] rfl ?_
        exact B89 k13 hk13 _ _ _ _   _ hf
  have B55 : ∀ (k13 : Int32 → Int32 → Int32 → xM → Option (Int32 × xM)) (hk13 : ∀ (v3 : Int32) (v4 : Int32) (v5 : Int32)  (M : xM), k13 v3 v4 v5 M = some (r, M') → WW p l e ({ frames := 2, cells := 0, slots := 0, locals := 45 } : Room) s m args below meth c 0 0 Q 8 D g tb 13 [(0, .ref (g.1 5 2500)), (1, .int a1), (2, .int a2), (3, .int v3), (4, .int v4), (5, .int v5)] [] M), ∀ (v3 : Int32) (v4 : Int32) (v5 : Int32)  (M : xM), f_X7_target_c55 k13 a1 a2 v3 v4 v5 M = some (r, M') → WW p l e ({ frames := 2, cells := 0, slots := 0, locals := 45 } : Room) s m args below meth c 0 0 Q 8 D g tb 55 [(0, .ref (g.1 5 2500)), (1, .int a1), (2, .int a2), (3, .int v3), (4, .int v4), (5, .int v5)] [] M := by
    intro k13 hk13 v3 v4 v5  M hf
    unfold f_X7_target_c55 at hf
    refine r_iconst C0 (v := 0) dX7_target_55 rfl ?_
    exact B56 k13 hk13 _ _ _ _   _ hf
  have B13 : ∀ (k13 : Int32 → Int32 → Int32 → xM → Option (Int32 × xM)) (hk13 : ∀ (v3 : Int32) (v4 : Int32) (v5 : Int32)  (M : xM), k13 v3 v4 v5 M = some (r, M') → WW p l e ({ frames := 2, cells := 0, slots := 0, locals := 45 } : Room) s m args below meth c 0 0 Q 8 D g tb 13 [(0, .ref (g.1 5 2500)), (1, .int a1), (2, .int a2), (3, .int v3), (4, .int v4), (5, .int v5)] [] M), ∀ (v3 : Int32) (v4 : Int32) (v5 : Int32)  (M : xM), fb_X7_target_c13 k13 a1 a2 v3 v4 v5 M = some (r, M') → WW p l e ({ frames := 2, cells := 0, slots := 0, locals := 45 } : Room) s m args below meth c 0 0 Q 8 D g tb 13 [(0, .ref (g.1 5 2500)), (1, .int a1), (2, .int a2), (3, .int v3), (4, .int v4), (5, .int v5)] [] M := by
    intro k13 hk13 v3 v4 v5  M hf
    unfold fb_X7_target_c13 at hf
    refine r_iload C0 5 rfl dX7_target_13 ?_
    refine r_aload_n C0 (kk := 0) 0 rfl dX7_target_15 ?_
    refine r_get5 C0 h0.1 5 (by decide) (v := .ref (g.1 6 2520)) rfl rfl w6_221 dX7_target_16 ?_
    refine r_bipush C0 (v := 9) dX7_target_19 rfl ?_
    refine r_ialdc C0 h0.2.1 (z := 2529) (by decide) (by decide) dX7_target_21 ?_
    refine r_icmp_ge C0 (tgt := 121) (by decide) dX7_target_22 (fun q4 => ?_) (fun q4 => ?_)
    · have hf := ie_t hf q4
      refine r_iload C0 4 rfl dX7_target_121 ?_
      exact hend hf dX7_target_123
    · have hf := ie_f hf q4
      refine r_aload_n C0 (kk := 0) 0 rfl dX7_target_25 ?_
      refine r_iload_n C0 (kk := 1) 1 rfl dX7_target_26 ?_
      refine r_bipush C0 (v := 6) dX7_target_27 rfl ?_
      obtain ⟨r7, M6, hc5, hf⟩ := bd2_e hf
      refine r_callVi C0 (As := [.int a1, .int 6]) (rest := []) (c_X7_by l D g tb hT h0 hc5) w6_103 w6_105 wp4_1 w1_14 w6_106 (x_rec5 C0 h0.1) hd_X7_by rfl ⟨rfl, rfl⟩ ⟨Nat.le_of_ble_eq_true rfl, Nat.le_of_ble_eq_true rfl⟩ (by decide) (by decide) rfl (Nat.le_of_ble_eq_true rfl) dX7_target_29 ?_
      refine r_iload C0 5 rfl dX7_target_32 ?_
      obtain ⟨r10, M9, hc8, hf⟩ := bd2_e hf
      refine r_callSi C0 (As := [.int r7, .int v5]) (rest := []) (c_X7_has l D g tb hT  hc8) w6_179 w6_180 w1_14 w6_181 hd_X7_has rfl ⟨rfl, rfl⟩ ⟨Nat.le_of_ble_eq_true rfl, Nat.le_of_ble_eq_true rfl⟩ (by decide) (by decide) rfl (Nat.le_of_ble_eq_true rfl) dX7_target_34 ?_
      refine r_if_ne C0 (tgt := 55) (by decide) dX7_target_37 (fun q11 => ?_) (fun q11 => ?_)
      · have hf := ie_f hf q11
        exact B55 k13 hk13 _ _ _   _ hf
      · have hf := ie_t hf q11
        refine r_aload_n C0 (kk := 0) 0 rfl dX7_target_40 ?_
        refine r_iload C0 5 rfl dX7_target_41 ?_
        refine r_iload_n C0 (kk := 3) 3 rfl dX7_target_43 ?_
        refine r_iload_n C0 (kk := 2) 2 rfl dX7_target_44 ?_
        obtain ⟨r14, M13, hc12, hf⟩ := bd2_e hf
        refine r_callVi C0 (As := [.int v5, .int v3, .int a2]) (rest := []) (c_X7_isSeen l D g tb hT h0 hc12) w6_182 w6_184 wp5_3 w1_14 w6_185 (x_rec5 C0 h0.1) hd_X7_isSeen rfl ⟨rfl, rfl⟩ ⟨Nat.le_of_ble_eq_true rfl, Nat.le_of_ble_eq_true rfl⟩ (by decide) (by decide) rfl (Nat.le_of_ble_eq_true rfl) dX7_target_45 ?_
        refine r_if_eq C0 (tgt := 55) (by decide) dX7_target_48 (fun q15 => ?_) (fun q15 => ?_)
        · have hf := ie_t hf q15
          exact B55 k13 hk13 _ _ _   _ hf
        · have hf := ie_f hf q15
          refine r_iconst C0 (v := 1) dX7_target_51 rfl ?_
          refine r_goto C0 (tgt := 56) (by decide) dX7_target_52 ?_
          exact B56 k13 hk13 _ _ _ _   _ hf
  have L13 : ∀ (v3 : Int32) (v4 : Int32) (v5 : Int32)  (M : xM), f_X7_target_c13  a1 a2 v3 v4 v5 M = some (r, M') → WW p l e ({ frames := 2, cells := 0, slots := 0, locals := 45 } : Room) s m args below meth c 0 0 Q 8 D g tb 13 [(0, .ref (g.1 5 2500)), (1, .int a1), (2, .int a2), (3, .int v3), (4, .int v4), (5, .int v5)] [] M := lp_ind (P := fun f => ∀ (v3 : Int32) (v4 : Int32) (v5 : Int32)  (M : xM), f v3 v4 v5 M = some (r, M') → WW p l e ({ frames := 2, cells := 0, slots := 0, locals := 45 } : Room) s m args below meth c 0 0 Q 8 D g tb 13 [(0, .ref (g.1 5 2500)), (1, .int a1), (2, .int a2), (3, .int v3), (4, .int v4), (5, .int v5)] [] M) (fun _ _ _ _ h => none_ne h) (fun f hf => B13 f hf) FU
  unfold f_X7_target at hf
  refine r_aload_n C0 (kk := 0) 0 rfl dX7_target_0 ?_
  refine r_iload_n C0 (kk := 1) 1 rfl dX7_target_1 ?_
  refine r_iconst C0 (v := 0) dX7_target_2 rfl ?_
  obtain ⟨r3, M2, hc1, hf⟩ := bd2_e hf
  refine r_callVi C0 (As := [.int a1, .int 0]) (rest := []) (c_X7_by l D g tb hT h0 hc1) w6_103 w6_105 wp4_1 w1_14 w6_106 (x_rec5 C0 h0.1) hd_X7_by rfl ⟨rfl, rfl⟩ ⟨Nat.le_of_ble_eq_true rfl, Nat.le_of_ble_eq_true rfl⟩ (by decide) (by decide) rfl (Nat.le_of_ble_eq_true rfl) dX7_target_3 ?_
  refine r_istore_n C0 (kk := 3) (lv2 := [(3, .int r3), (0, .ref (g.1 5 2500)), (1, .int a1), (2, .int a2)]) (by decide) rfl dX7_target_6 ?_
  refine r_iconst C0 (v := (-1)) dX7_target_7 rfl ?_
  refine r_istore C0 (lv2 := [(4, .int (-1)), (3, .int r3), (0, .ref (g.1 5 2500)), (1, .int a1), (2, .int a2)]) (by decide) rfl dX7_target_8 ?_
  refine r_iconst C0 (v := 0) dX7_target_10 rfl ?_
  refine r_istore C0 (lv2 := [(5, .int 0), (4, .int (-1)), (3, .int r3), (0, .ref (g.1 5 2500)), (1, .int a1), (2, .int a2)]) (by decide) rfl dX7_target_11 ?_
  refine WW.sub [3, 4, 5, 2, 1, 0] rfl ?_
  exact L13   _ _ _   _ hf
theorem dX7_positionOf_0 : decode cX7_positionOf 0 = .ok (.aload_n 0, 1) := by decide +kernel
theorem dX7_positionOf_1 : decode cX7_positionOf 1 = .ok (.iload_n 1, 1) := by decide +kernel
theorem dX7_positionOf_2 : decode cX7_positionOf 2 = .ok (.iconst 0, 1) := by decide +kernel
theorem dX7_positionOf_3 : decode cX7_positionOf 3 = .ok (.invokevirtual 317, 3) := by decide +kernel
theorem dX7_positionOf_6 : decode cX7_positionOf 6 = .ok (.ireturn, 1) := by decide +kernel
theorem hd_X7_positionOf : yX7_positionOf.cls = RX7 ∧ yX7_positionOf.cls ≠ "java/lang/invoke/MethodHandle" ∧ yX7_positionOf.cls ≠ "java/lang/invoke/VarHandle" ∧ (parseMethodDescriptor yX7_positionOf.desc).map (fun d => d.parameters.length) = some 1 := by decide +kernel
set_option maxRecDepth 100000 in
set_option maxHeartbeats 4000000 in
theorem c_X7_positionOf (l : Launch) (D : va_G) (g : xG) (tb : List xQ) (hT : x_T g tb) {a1 : Int32} (h0 : x_md tb) {M : xM} {r : Int32} {M' : xM} (hf : f_X7_positionOf a1 M = some (r, M')) :
    cI l D g tb yX7_positionOf cX7_positionOf 2 .int ({ frames := 3, cells := 0, slots := 0, locals := 65 } : Room) [.ref (g.1 5 2500), .int a1] M r M' := by
  refine x_startI (own := RX7) (by decide +kernel) rfl rfl (Nat.le_of_ble_eq_true rfl) hT ?_
  intro p e s m args below meth c Q C0 hend
  unfold f_X7_positionOf at hf
  refine r_aload_n C0 (kk := 0) 0 rfl dX7_positionOf_0 ?_
  refine r_iload_n C0 (kk := 1) 1 rfl dX7_positionOf_1 ?_
  refine r_iconst C0 (v := 0) dX7_positionOf_2 rfl ?_
  obtain ⟨r3, M2, hc1, hf⟩ := bd2_e hf
  refine r_callVi C0 (As := [.int a1, .int 0]) (rest := []) (c_X7_asked l D g tb hT h0 hc1) w7_133 w7_135 wp5_14 w1_14 w7_136 (x_rec5 C0 h0.1) hd_X7_asked rfl ⟨rfl, rfl⟩ ⟨Nat.le_of_ble_eq_true rfl, Nat.le_of_ble_eq_true rfl⟩ (by decide) (by decide) rfl (Nat.le_of_ble_eq_true rfl) dX7_positionOf_3 ?_
  exact hend hf dX7_positionOf_6
theorem dX7_placeOf_0 : decode cX7_placeOf 0 = .ok (.aload_n 0, 1) := by decide +kernel
theorem dX7_placeOf_1 : decode cX7_placeOf 1 = .ok (.iload_n 1, 1) := by decide +kernel
theorem dX7_placeOf_2 : decode cX7_placeOf 2 = .ok (.iconst 0, 1) := by decide +kernel
theorem dX7_placeOf_3 : decode cX7_placeOf 3 = .ok (.invokevirtual 323, 3) := by decide +kernel
theorem dX7_placeOf_6 : decode cX7_placeOf 6 = .ok (.ireturn, 1) := by decide +kernel
theorem hd_X7_placeOf : yX7_placeOf.cls = RX7 ∧ yX7_placeOf.cls ≠ "java/lang/invoke/MethodHandle" ∧ yX7_placeOf.cls ≠ "java/lang/invoke/VarHandle" ∧ (parseMethodDescriptor yX7_placeOf.desc).map (fun d => d.parameters.length) = some 1 := by decide +kernel
set_option maxRecDepth 100000 in
set_option maxHeartbeats 4000000 in
theorem c_X7_placeOf (l : Launch) (D : va_G) (g : xG) (tb : List xQ) (hT : x_T g tb) {a1 : Int32} (h0 : x_md tb) {M : xM} {r : Int32} {M' : xM} (hf : f_X7_placeOf a1 M = some (r, M')) :
    cI l D g tb yX7_placeOf cX7_placeOf 2 .int ({ frames := 3, cells := 0, slots := 0, locals := 65 } : Room) [.ref (g.1 5 2500), .int a1] M r M' := by
  refine x_startI (own := RX7) (by decide +kernel) rfl rfl (Nat.le_of_ble_eq_true rfl) hT ?_
  intro p e s m args below meth c Q C0 hend
  unfold f_X7_placeOf at hf
  refine r_aload_n C0 (kk := 0) 0 rfl dX7_placeOf_0 ?_
  refine r_iload_n C0 (kk := 1) 1 rfl dX7_placeOf_1 ?_
  refine r_iconst C0 (v := 0) dX7_placeOf_2 rfl ?_
  obtain ⟨r3, M2, hc1, hf⟩ := bd2_e hf
  refine r_callVi C0 (As := [.int a1, .int 0]) (rest := []) (c_X7_askedOf l D g tb hT h0 hc1) w7_193 w7_195 wp6_1 w1_14 w7_196 (x_rec5 C0 h0.1) hd_X7_askedOf rfl ⟨rfl, rfl⟩ ⟨Nat.le_of_ble_eq_true rfl, Nat.le_of_ble_eq_true rfl⟩ (by decide) (by decide) rfl (Nat.le_of_ble_eq_true rfl) dX7_placeOf_3 ?_
  exact hend hf dX7_placeOf_6
theorem dX7_targetOf_0 : decode cX7_targetOf 0 = .ok (.aload_n 0, 1) := by decide +kernel
theorem dX7_targetOf_1 : decode cX7_targetOf 1 = .ok (.iload_n 1, 1) := by decide +kernel
theorem dX7_targetOf_2 : decode cX7_targetOf 2 = .ok (.invokevirtual 314, 3) := by decide +kernel
theorem dX7_targetOf_5 : decode cX7_targetOf 5 = .ok (.ifCond .ne 5, 3) := by decide +kernel
theorem dX7_targetOf_8 : decode cX7_targetOf 8 = .ok (.iconst 0, 1) := by decide +kernel
theorem dX7_targetOf_9 : decode cX7_targetOf 9 = .ok (.ireturn, 1) := by decide +kernel
theorem dX7_targetOf_10 : decode cX7_targetOf 10 = .ok (.aload_n 0, 1) := by decide +kernel
theorem dX7_targetOf_11 : decode cX7_targetOf 11 = .ok (.iload_n 1, 1) := by decide +kernel
theorem dX7_targetOf_12 : decode cX7_targetOf 12 = .ok (.iconst 4, 1) := by decide +kernel
theorem dX7_targetOf_13 : decode cX7_targetOf 13 = .ok (.invokevirtual 73, 3) := by decide +kernel
theorem dX7_targetOf_16 : decode cX7_targetOf 16 = .ok (.iconst (-1), 1) := by decide +kernel
theorem dX7_targetOf_17 : decode cX7_targetOf 17 = .ok (.if_icmp .eq 7, 3) := by decide +kernel
theorem dX7_targetOf_20 : decode cX7_targetOf 20 = .ok (.iconst (-1), 1) := by decide +kernel
theorem dX7_targetOf_21 : decode cX7_targetOf 21 = .ok (.goto 18, 3) := by decide +kernel
theorem dX7_targetOf_24 : decode cX7_targetOf 24 = .ok (.aload_n 0, 1) := by decide +kernel
theorem dX7_targetOf_25 : decode cX7_targetOf 25 = .ok (.iload_n 1, 1) := by decide +kernel
theorem dX7_targetOf_26 : decode cX7_targetOf 26 = .ok (.aload_n 0, 1) := by decide +kernel
theorem dX7_targetOf_27 : decode cX7_targetOf 27 = .ok (.aload_n 0, 1) := by decide +kernel
theorem dX7_targetOf_28 : decode cX7_targetOf 28 = .ok (.getfield 17, 3) := by decide +kernel
theorem dX7_targetOf_31 : decode cX7_targetOf 31 = .ok (.iconst 0, 1) := by decide +kernel
theorem dX7_targetOf_32 : decode cX7_targetOf 32 = .ok (.iaload, 1) := by decide +kernel
theorem dX7_targetOf_33 : decode cX7_targetOf 33 = .ok (.invokevirtual 124, 3) := by decide +kernel
theorem dX7_targetOf_36 : decode cX7_targetOf 36 = .ok (.invokevirtual 115, 3) := by decide +kernel
theorem dX7_targetOf_39 : decode cX7_targetOf 39 = .ok (.ireturn, 1) := by decide +kernel
theorem hd_X7_targetOf : yX7_targetOf.cls = RX7 ∧ yX7_targetOf.cls ≠ "java/lang/invoke/MethodHandle" ∧ yX7_targetOf.cls ≠ "java/lang/invoke/VarHandle" ∧ (parseMethodDescriptor yX7_targetOf.desc).map (fun d => d.parameters.length) = some 1 := by decide +kernel
set_option maxRecDepth 100000 in
set_option maxHeartbeats 4000000 in
theorem c_X7_targetOf (l : Launch) (D : va_G) (g : xG) (tb : List xQ) (hT : x_T g tb) {a1 : Int32} (h0 : x_md tb) {M : xM} {r : Int32} {M' : xM} (hf : f_X7_targetOf a1 M = some (r, M')) :
    cI l D g tb yX7_targetOf cX7_targetOf 2 .int ({ frames := 3, cells := 0, slots := 0, locals := 72 } : Room) [.ref (g.1 5 2500), .int a1] M r M' := by
  refine x_startI (own := RX7) (by decide +kernel) rfl rfl (Nat.le_of_ble_eq_true rfl) hT ?_
  intro p e s m args below meth c Q C0 hend
  unfold f_X7_targetOf at hf
  refine r_aload_n C0 (kk := 0) 0 rfl dX7_targetOf_0 ?_
  refine r_iload_n C0 (kk := 1) 1 rfl dX7_targetOf_1 ?_
  obtain ⟨r3, M2, hc1, hf⟩ := bd2_e hf
  refine r_callVi C0 (As := [.int a1]) (rest := []) (c_X7_isBuyer l D g tb hT h0 hc1) w7_197 w7_199 wp6_2 w1_14 w7_200 (x_rec5 C0 h0.1) hd_X7_isBuyer rfl ⟨rfl, rfl⟩ ⟨Nat.le_of_ble_eq_true rfl, Nat.le_of_ble_eq_true rfl⟩ (by decide) (by decide) rfl (Nat.le_of_ble_eq_true rfl) dX7_targetOf_2 ?_
  refine r_if_ne C0 (tgt := 10) (by decide) dX7_targetOf_5 (fun q4 => ?_) (fun q4 => ?_)
  · have hf := ie_f hf q4
    refine r_aload_n C0 (kk := 0) 0 rfl dX7_targetOf_10 ?_
    refine r_iload_n C0 (kk := 1) 1 rfl dX7_targetOf_11 ?_
    refine r_iconst C0 (v := 4) dX7_targetOf_12 rfl ?_
    obtain ⟨r7, M6, hc5, hf⟩ := bd2_e hf
    refine r_callVi C0 (As := [.int a1, .int 4]) (rest := []) (c_X7_by l D g tb hT h0 hc5) w6_103 w6_105 wp4_1 w1_14 w6_106 (x_rec5 C0 h0.1) hd_X7_by rfl ⟨rfl, rfl⟩ ⟨Nat.le_of_ble_eq_true rfl, Nat.le_of_ble_eq_true rfl⟩ (by decide) (by decide) rfl (Nat.le_of_ble_eq_true rfl) dX7_targetOf_13 ?_
    refine r_iconst C0 (v := (-1)) dX7_targetOf_16 rfl ?_
    refine r_icmp_eq C0 (tgt := 24) (by decide) dX7_targetOf_17 (fun q8 => ?_) (fun q8 => ?_)
    · have hf := ie_t hf q8
      refine r_aload_n C0 (kk := 0) 0 rfl dX7_targetOf_24 ?_
      refine r_iload_n C0 (kk := 1) 1 rfl dX7_targetOf_25 ?_
      refine r_aload_n C0 (kk := 0) 0 rfl dX7_targetOf_26 ?_
      refine r_aload_n C0 (kk := 0) 0 rfl dX7_targetOf_27 ?_
      refine r_get5 C0 h0.1 5 (by decide) (v := .ref (g.1 6 2520)) rfl rfl w6_221 dX7_targetOf_28 ?_
      refine r_iconst C0 (v := 0) dX7_targetOf_31 rfl ?_
      refine r_ialdc C0 h0.2.1 (z := 2520) (by decide) (by decide) dX7_targetOf_32 ?_
      obtain ⟨r11, M10, hc9, hf⟩ := bd2_e hf
      refine r_callVi C0 (As := [.int (M6 2520)]) (rest := [.int a1, .ref (g.1 5 2500)]) (c_X7_fogAt l D g tb hT h0 hc9) w6_143 w6_145 wp4_11 w1_14 w6_146 (x_rec5 C0 h0.1) hd_X7_fogAt rfl ⟨rfl, rfl⟩ ⟨Nat.le_of_ble_eq_true rfl, Nat.le_of_ble_eq_true rfl⟩ (by decide) (by decide) rfl (Nat.le_of_ble_eq_true rfl) dX7_targetOf_33 ?_
      obtain ⟨r14, M13, hc12, hf⟩ := bd2_e hf
      refine r_callVi C0 (As := [.int a1, .int r11]) (rest := []) (c_X7_target l D g tb hT h0 hc12) w6_175 w6_177 wp5_2 w1_14 w6_178 (x_rec5 C0 h0.1) hd_X7_target rfl ⟨rfl, rfl⟩ ⟨Nat.le_of_ble_eq_true rfl, Nat.le_of_ble_eq_true rfl⟩ (by decide) (by decide) rfl (Nat.le_of_ble_eq_true rfl) dX7_targetOf_36 ?_
      exact hend hf dX7_targetOf_39
    · have hf := ie_f hf q8
      refine r_iconst C0 (v := (-1)) dX7_targetOf_20 rfl ?_
      refine r_goto C0 (tgt := 39) (by decide) dX7_targetOf_21 ?_
      exact hend hf dX7_targetOf_39
  · have hf := ie_t hf q4
    refine r_iconst C0 (v := 0) dX7_targetOf_8 rfl ?_
    exact hend hf dX7_targetOf_9
theorem dX2_pass_0 : decode cX2_pass 0 = .ok (.iconst 0, 1) := by decide +kernel
theorem dX2_pass_1 : decode cX2_pass 1 = .ok (.istore_n 2, 1) := by decide +kernel
theorem dX2_pass_2 : decode cX2_pass 2 = .ok (.iload_n 2, 1) := by decide +kernel
theorem dX2_pass_3 : decode cX2_pass 3 = .ok (.iload_n 1, 1) := by decide +kernel
theorem dX2_pass_4 : decode cX2_pass 4 = .ok (.if_icmp .ge 89, 3) := by decide +kernel
theorem dX2_pass_7 : decode cX2_pass 7 = .ok (.aload_n 0, 1) := by decide +kernel
theorem dX2_pass_8 : decode cX2_pass 8 = .ok (.invokevirtual 128, 3) := by decide +kernel
theorem dX2_pass_11 : decode cX2_pass 11 = .ok (.istore_n 3, 1) := by decide +kernel
theorem dX2_pass_12 : decode cX2_pass 12 = .ok (.aload_n 0, 1) := by decide +kernel
theorem dX2_pass_13 : decode cX2_pass 13 = .ok (.iload_n 3, 1) := by decide +kernel
theorem dX2_pass_14 : decode cX2_pass 14 = .ok (.invokevirtual 132, 3) := by decide +kernel
theorem dX2_pass_17 : decode cX2_pass 17 = .ok (.aload_n 0, 1) := by decide +kernel
theorem dX2_pass_18 : decode cX2_pass 18 = .ok (.getfield 51, 3) := by decide +kernel
theorem dX2_pass_21 : decode cX2_pass 21 = .ok (.ifCond .eq 62, 3) := by decide +kernel
theorem dX2_pass_24 : decode cX2_pass 24 = .ok (.iconst 0, 1) := by decide +kernel
theorem dX2_pass_25 : decode cX2_pass 25 = .ok (.istore 4, 2) := by decide +kernel
theorem dX2_pass_27 : decode cX2_pass 27 = .ok (.iload 4, 2) := by decide +kernel
theorem dX2_pass_29 : decode cX2_pass 29 = .ok (.aload_n 0, 1) := by decide +kernel
theorem dX2_pass_30 : decode cX2_pass 30 = .ok (.getfield 33, 3) := by decide +kernel
theorem dX2_pass_33 : decode cX2_pass 33 = .ok (.if_icmp .ge 21, 3) := by decide +kernel
theorem dX2_pass_36 : decode cX2_pass 36 = .ok (.aload_n 0, 1) := by decide +kernel
theorem dX2_pass_37 : decode cX2_pass 37 = .ok (.aload_n 0, 1) := by decide +kernel
theorem dX2_pass_38 : decode cX2_pass 38 = .ok (.getfield 19, 3) := by decide +kernel
theorem dX2_pass_41 : decode cX2_pass 41 = .ok (.iload 4, 2) := by decide +kernel
theorem dX2_pass_43 : decode cX2_pass 43 = .ok (.aaload, 1) := by decide +kernel
theorem dX2_pass_44 : decode cX2_pass 44 = .ok (.iload_n 3, 1) := by decide +kernel
theorem dX2_pass_45 : decode cX2_pass 45 = .ok (.invokevirtual 135, 3) := by decide +kernel
theorem dX2_pass_48 : decode cX2_pass 48 = .ok (.iinc 4 1, 3) := by decide +kernel
theorem dX2_pass_51 : decode cX2_pass 51 = .ok (.goto (-24), 3) := by decide +kernel
theorem dX2_pass_54 : decode cX2_pass 54 = .ok (.iconst 0, 1) := by decide +kernel
theorem dX2_pass_55 : decode cX2_pass 55 = .ok (.istore 4, 2) := by decide +kernel
theorem dX2_pass_57 : decode cX2_pass 57 = .ok (.iload 4, 2) := by decide +kernel
theorem dX2_pass_59 : decode cX2_pass 59 = .ok (.aload_n 0, 1) := by decide +kernel
theorem dX2_pass_60 : decode cX2_pass 60 = .ok (.getfield 29, 3) := by decide +kernel
theorem dX2_pass_63 : decode cX2_pass 63 = .ok (.if_icmp .ge 20, 3) := by decide +kernel
theorem dX2_pass_66 : decode cX2_pass 66 = .ok (.aload_n 0, 1) := by decide +kernel
theorem dX2_pass_67 : decode cX2_pass 67 = .ok (.getfield 11, 3) := by decide +kernel
theorem dX2_pass_70 : decode cX2_pass 70 = .ok (.iload 4, 2) := by decide +kernel
theorem dX2_pass_72 : decode cX2_pass 72 = .ok (.aaload, 1) := by decide +kernel
theorem dX2_pass_73 : decode cX2_pass 73 = .ok (.iload_n 3, 1) := by decide +kernel
theorem dX2_pass_74 : decode cX2_pass 74 = .ok (.invokevirtual 139, 3) := by decide +kernel
theorem dX2_pass_77 : decode cX2_pass 77 = .ok (.iinc 4 1, 3) := by decide +kernel
theorem dX2_pass_80 : decode cX2_pass 80 = .ok (.goto (-23), 3) := by decide +kernel
theorem dX2_pass_83 : decode cX2_pass 83 = .ok (.aload_n 0, 1) := by decide +kernel
theorem dX2_pass_84 : decode cX2_pass 84 = .ok (.invokevirtual 142, 3) := by decide +kernel
theorem dX2_pass_87 : decode cX2_pass 87 = .ok (.iinc 2 1, 3) := by decide +kernel
theorem dX2_pass_90 : decode cX2_pass 90 = .ok (.goto (-88), 3) := by decide +kernel
theorem dX2_pass_93 : decode cX2_pass 93 = .ok (.return_, 1) := by decide +kernel
theorem hd_X2_pass : yX2_pass.cls = RX2 ∧ yX2_pass.cls ≠ "java/lang/invoke/MethodHandle" ∧ yX2_pass.cls ≠ "java/lang/invoke/VarHandle" ∧ (parseMethodDescriptor yX2_pass.desc).map (fun d => d.parameters.length) = some 1 := by decide +kernel
set_option maxRecDepth 100000 in
set_option maxHeartbeats 4000000 in
theorem c_X2_pass (l : Launch) (D : va_G) (g : xG) (tb : List xQ) (hT : x_T g tb) {a0 : Nat} {a1 : Int32} (h0 : x_mk tb a0) {M M' : xM} (hf : f_X2_pass a0 a1 M = some M') :
    cV l D g tb yX2_pass cX2_pass 5 ({ frames := 3, cells := 0, slots := 0, locals := 72 } : Room) [.ref (g.1 2 a0), .int a1] M M' := by
  refine x_startV (own := RX2) (by decide +kernel) rfl rfl (Nat.le_of_ble_eq_true rfl) hT ?_
  intro p e s m args below meth c Q C0 hend
  have B83 : ∀ (k2 : Int32 → xM → Option xM) (hk2 : ∀ (v2 : Int32)  (M : xM), k2 v2 M = some M' → WW p l e ({ frames := 3, cells := 0, slots := 0, locals := 72 } : Room) s m args below meth c 0 0 Q 5 D g tb 2 [(0, .ref (g.1 2 a0)), (1, .int a1), (2, .int v2)] [] M), ∀ (v2 : Int32)  (M : xM), f_X2_pass_c83 k2 a0 a1 v2 M = some M' → WW p l e ({ frames := 3, cells := 0, slots := 0, locals := 72 } : Room) s m args below meth c 0 0 Q 5 D g tb 83 [(0, .ref (g.1 2 a0)), (1, .int a1), (2, .int v2)] [] M := by
    intro k2 hk2 v2  M hf
    unfold f_X2_pass_c83 at hf
    refine r_aload_n C0 (kk := 0) 0 rfl dX2_pass_83 ?_
    obtain ⟨M9, hc8, hf⟩ := bd_e hf
    refine r_callVv C0 (As := []) (rest := []) (c_X2_countMinute l D g tb hT h0 hc8) w3_75 w3_76 w3_77 w1_2 w3_78 (x_rec2 C0 h0.1) hd_X2_countMinute rfl ⟨rfl, rfl⟩ ⟨Nat.le_of_ble_eq_true rfl, Nat.le_of_ble_eq_true rfl⟩ (by decide) (by decide) rfl (Nat.le_of_ble_eq_true rfl) dX2_pass_84 ?_
    refine r_iincc C0 2 rfl (k0 := 1) (by decide) (by decide) (lv2 := [(2, .int (v2 + 1)), (0, .ref (g.1 2 a0)), (1, .int a1)]) rfl dX2_pass_87 ?_
    refine r_goto C0 (tgt := 2) (by decide) dX2_pass_90 ?_
    refine WW.sub [1, 2, 0] rfl ?_
    exact hk2 _   _ hf
  have B57 : ∀ (k2 : Int32 → xM → Option xM) (k57 : Int32 → Int32 → Int32 → xM → Option xM) (hk2 : ∀ (v2 : Int32)  (M : xM), k2 v2 M = some M' → WW p l e ({ frames := 3, cells := 0, slots := 0, locals := 72 } : Room) s m args below meth c 0 0 Q 5 D g tb 2 [(0, .ref (g.1 2 a0)), (1, .int a1), (2, .int v2)] [] M) (hk57 : ∀ (v2 : Int32) (v3 : Int32) (v4 : Int32)  (M : xM), k57 v2 v3 v4 M = some M' → WW p l e ({ frames := 3, cells := 0, slots := 0, locals := 72 } : Room) s m args below meth c 0 0 Q 5 D g tb 57 [(0, .ref (g.1 2 a0)), (1, .int a1), (2, .int v2), (3, .int v3), (4, .int v4)] [] M), ∀ (v2 : Int32) (v3 : Int32) (v4 : Int32)  (M : xM), fb_X2_pass_c57 k2 k57 a0 a1 v2 v3 v4 M = some M' → WW p l e ({ frames := 3, cells := 0, slots := 0, locals := 72 } : Room) s m args below meth c 0 0 Q 5 D g tb 57 [(0, .ref (g.1 2 a0)), (1, .int a1), (2, .int v2), (3, .int v3), (4, .int v4)] [] M := by
    intro k2 k57 hk2 hk57 v2 v3 v4  M hf
    unfold fb_X2_pass_c57 at hf
    refine r_iload C0 4 rfl dX2_pass_57 ?_
    refine r_aload_n C0 (kk := 0) 0 rfl dX2_pass_59 ?_
    refine r_get2 C0 h0.1 1 (by decide) (v := .int (M (a0 + 9))) rfl rfl w1_138 dX2_pass_60 ?_
    refine r_icmp_ge C0 (tgt := 83) (by decide) dX2_pass_63 (fun q15 => ?_) (fun q15 => ?_)
    · have hf := ie_t hf q15
      refine WW.sub [0, 1, 2] rfl ?_
      exact B83 k2 hk2 _   _ hf
    · have hf := ie_f hf q15
      refine r_aload_n C0 (kk := 0) 0 rfl dX2_pass_66 ?_
      refine r_get2 C0 h0.1 0 (by decide) (v := .ref (g.1 10 (a0 + 23))) rfl rfl w1_135 dX2_pass_67 ?_
      refine r_iload C0 4 rfl dX2_pass_70 ?_
      obtain ⟨q16, hf⟩ := gd_e hf
      have hm17 : ((0, ((a0 + 23) + 9 * v4.toNatClampNeg), 0) : xQ) ∈ tb := h0.2.2.2.2.1 _ (inb_lt q16)
      refine r_aald10 C0 h0.2.1 (inb_in q16) dX2_pass_72 ?_
      refine r_iload_n C0 (kk := 3) 3 rfl dX2_pass_73 ?_
      obtain ⟨M19, hc18, hf⟩ := bd_e hf
      refine r_callVv C0 (As := [.int v3]) (rest := []) (c_X4_letMistIn l D g tb hT hm17 hc18) w3_67 w3_68 w3_69 w1_3 w3_70 (x_rec0 C0 hm17) hd_X4_letMistIn rfl ⟨rfl, rfl⟩ ⟨Nat.le_of_ble_eq_true rfl, Nat.le_of_ble_eq_true rfl⟩ (by decide) (by decide) rfl (Nat.le_of_ble_eq_true rfl) dX2_pass_74 ?_
      refine r_iincc C0 4 rfl (k0 := 1) (by decide) (by decide) (lv2 := [(4, .int (v4 + 1)), (0, .ref (g.1 2 a0)), (1, .int a1), (2, .int v2), (3, .int v3)]) rfl dX2_pass_77 ?_
      refine r_goto C0 (tgt := 57) (by decide) dX2_pass_80 ?_
      refine WW.sub [1, 2, 3, 4, 0] rfl ?_
      exact hk57 _ _ _   _ hf
  have L57 : ∀ (k2 : Int32 → xM → Option xM) (hk2 : ∀ (v2 : Int32)  (M : xM), k2 v2 M = some M' → WW p l e ({ frames := 3, cells := 0, slots := 0, locals := 72 } : Room) s m args below meth c 0 0 Q 5 D g tb 2 [(0, .ref (g.1 2 a0)), (1, .int a1), (2, .int v2)] [] M), ∀ (v2 : Int32) (v3 : Int32) (v4 : Int32)  (M : xM), f_X2_pass_c57 k2 a0 a1 v2 v3 v4 M = some M' → WW p l e ({ frames := 3, cells := 0, slots := 0, locals := 72 } : Room) s m args below meth c 0 0 Q 5 D g tb 57 [(0, .ref (g.1 2 a0)), (1, .int a1), (2, .int v2), (3, .int v3), (4, .int v4)] [] M := fun k2 hk2 => lp_ind (P := fun f => ∀ (v2 : Int32) (v3 : Int32) (v4 : Int32)  (M : xM), f v2 v3 v4 M = some M' → WW p l e ({ frames := 3, cells := 0, slots := 0, locals := 72 } : Room) s m args below meth c 0 0 Q 5 D g tb 57 [(0, .ref (g.1 2 a0)), (1, .int a1), (2, .int v2), (3, .int v3), (4, .int v4)] [] M) (fun _ _ _ _ h => none_ne h) (fun f hf => B57 k2 f hk2 hf) FU
  have B27 : ∀ (k2 : Int32 → xM → Option xM) (k27 : Int32 → Int32 → Int32 → xM → Option xM) (hk2 : ∀ (v2 : Int32)  (M : xM), k2 v2 M = some M' → WW p l e ({ frames := 3, cells := 0, slots := 0, locals := 72 } : Room) s m args below meth c 0 0 Q 5 D g tb 2 [(0, .ref (g.1 2 a0)), (1, .int a1), (2, .int v2)] [] M) (hk27 : ∀ (v2 : Int32) (v3 : Int32) (v4 : Int32)  (M : xM), k27 v2 v3 v4 M = some M' → WW p l e ({ frames := 3, cells := 0, slots := 0, locals := 72 } : Room) s m args below meth c 0 0 Q 5 D g tb 27 [(0, .ref (g.1 2 a0)), (1, .int a1), (2, .int v2), (3, .int v3), (4, .int v4)] [] M), ∀ (v2 : Int32) (v3 : Int32) (v4 : Int32)  (M : xM), fb_X2_pass_c27 k2 k27 a0 a1 v2 v3 v4 M = some M' → WW p l e ({ frames := 3, cells := 0, slots := 0, locals := 72 } : Room) s m args below meth c 0 0 Q 5 D g tb 27 [(0, .ref (g.1 2 a0)), (1, .int a1), (2, .int v2), (3, .int v3), (4, .int v4)] [] M := by
    intro k2 k27 hk2 hk27 v2 v3 v4  M hf
    unfold fb_X2_pass_c27 at hf
    refine r_iload C0 4 rfl dX2_pass_27 ?_
    refine r_aload_n C0 (kk := 0) 0 rfl dX2_pass_29 ?_
    refine r_get2 C0 h0.1 3 (by decide) (v := .int (M (a0 + 10))) rfl rfl w1_144 dX2_pass_30 ?_
    refine r_icmp_ge C0 (tgt := 54) (by decide) dX2_pass_33 (fun q10 => ?_) (fun q10 => ?_)
    · have hf := ie_t hf q10
      refine r_iconst C0 (v := 0) dX2_pass_54 rfl ?_
      refine r_istore C0 (lv2 := [(4, .int 0), (0, .ref (g.1 2 a0)), (1, .int a1), (2, .int v2), (3, .int v3)]) (by decide) rfl dX2_pass_55 ?_
      refine WW.sub [1, 2, 3, 4, 0] rfl ?_
      exact L57 k2 hk2 _ _ _   _ hf
    · have hf := ie_f hf q10
      refine r_aload_n C0 (kk := 0) 0 rfl dX2_pass_36 ?_
      refine r_aload_n C0 (kk := 0) 0 rfl dX2_pass_37 ?_
      refine r_get2 C0 h0.1 2 (by decide) (v := .ref (g.1 11 (a0 + 77))) rfl rfl w1_141 dX2_pass_38 ?_
      refine r_iload C0 4 rfl dX2_pass_41 ?_
      obtain ⟨q11, hf⟩ := gd_e hf
      have hm12 : ((1, ((a0 + 77) + 8 * v4.toNatClampNeg), 0) : xQ) ∈ tb := h0.2.2.2.2.2 _ (inb_lt q11)
      refine r_aald11 C0 h0.2.2.1 (inb_in q11) dX2_pass_43 ?_
      refine r_iload_n C0 (kk := 3) 3 rfl dX2_pass_44 ?_
      obtain ⟨M14, hc13, hf⟩ := bd_e hf
      refine r_callVv C0 (As := [.ref (g.1 1 ((a0 + 77) + 8 * v4.toNatClampNeg)), .int v3]) (rest := []) (c_X2_letAct l D g tb hT h0 hm12 hc13) w3_32 w3_34 wp2_4 w1_2 w3_35 (x_rec2 C0 h0.1) hd_X2_letAct rfl ⟨rfl, rfl⟩ ⟨Nat.le_of_ble_eq_true rfl, Nat.le_of_ble_eq_true rfl⟩ (by decide) (by decide) rfl (Nat.le_of_ble_eq_true rfl) dX2_pass_45 ?_
      refine r_iincc C0 4 rfl (k0 := 1) (by decide) (by decide) (lv2 := [(4, .int (v4 + 1)), (0, .ref (g.1 2 a0)), (1, .int a1), (2, .int v2), (3, .int v3)]) rfl dX2_pass_48 ?_
      refine r_goto C0 (tgt := 27) (by decide) dX2_pass_51 ?_
      refine WW.sub [1, 2, 3, 4, 0] rfl ?_
      exact hk27 _ _ _   _ hf
  have L27 : ∀ (k2 : Int32 → xM → Option xM) (hk2 : ∀ (v2 : Int32)  (M : xM), k2 v2 M = some M' → WW p l e ({ frames := 3, cells := 0, slots := 0, locals := 72 } : Room) s m args below meth c 0 0 Q 5 D g tb 2 [(0, .ref (g.1 2 a0)), (1, .int a1), (2, .int v2)] [] M), ∀ (v2 : Int32) (v3 : Int32) (v4 : Int32)  (M : xM), f_X2_pass_c27 k2 a0 a1 v2 v3 v4 M = some M' → WW p l e ({ frames := 3, cells := 0, slots := 0, locals := 72 } : Room) s m args below meth c 0 0 Q 5 D g tb 27 [(0, .ref (g.1 2 a0)), (1, .int a1), (2, .int v2), (3, .int v3), (4, .int v4)] [] M := fun k2 hk2 => lp_ind (P := fun f => ∀ (v2 : Int32) (v3 : Int32) (v4 : Int32)  (M : xM), f v2 v3 v4 M = some M' → WW p l e ({ frames := 3, cells := 0, slots := 0, locals := 72 } : Room) s m args below meth c 0 0 Q 5 D g tb 27 [(0, .ref (g.1 2 a0)), (1, .int a1), (2, .int v2), (3, .int v3), (4, .int v4)] [] M) (fun _ _ _ _ h => none_ne h) (fun f hf => B27 k2 f hk2 hf) FU
  have B2 : ∀ (k2 : Int32 → xM → Option xM) (hk2 : ∀ (v2 : Int32)  (M : xM), k2 v2 M = some M' → WW p l e ({ frames := 3, cells := 0, slots := 0, locals := 72 } : Room) s m args below meth c 0 0 Q 5 D g tb 2 [(0, .ref (g.1 2 a0)), (1, .int a1), (2, .int v2)] [] M), ∀ (v2 : Int32)  (M : xM), fb_X2_pass_c2 k2 a0 a1 v2 M = some M' → WW p l e ({ frames := 3, cells := 0, slots := 0, locals := 72 } : Room) s m args below meth c 0 0 Q 5 D g tb 2 [(0, .ref (g.1 2 a0)), (1, .int a1), (2, .int v2)] [] M := by
    intro k2 hk2 v2  M hf
    unfold fb_X2_pass_c2 at hf
    refine r_iload_n C0 (kk := 2) 2 rfl dX2_pass_2 ?_
    refine r_iload_n C0 (kk := 1) 1 rfl dX2_pass_3 ?_
    refine r_icmp_ge C0 (tgt := 93) (by decide) dX2_pass_4 (fun q1 => ?_) (fun q1 => ?_)
    · have hf := ie_t hf q1
      exact hend hf dX2_pass_93
    · have hf := ie_f hf q1
      refine r_aload_n C0 (kk := 0) 0 rfl dX2_pass_7 ?_
      obtain ⟨r4, M3, hc2, hf⟩ := bd2_e hf
      refine r_callVi C0 (As := []) (rest := []) (c_X2_densityNow l D g tb hT h0 hc2) w3_20 w3_21 w3_22 w1_2 w3_23 (x_rec2 C0 h0.1) hd_X2_densityNow rfl ⟨rfl, rfl⟩ ⟨Nat.le_of_ble_eq_true rfl, Nat.le_of_ble_eq_true rfl⟩ (by decide) (by decide) rfl (Nat.le_of_ble_eq_true rfl) dX2_pass_8 ?_
      refine r_istore_n C0 (kk := 3) (lv2 := [(3, .int r4), (0, .ref (g.1 2 a0)), (1, .int a1), (2, .int v2)]) (by decide) rfl dX2_pass_11 ?_
      refine r_aload_n C0 (kk := 0) 1 rfl dX2_pass_12 ?_
      refine r_iload_n C0 (kk := 3) 0 rfl dX2_pass_13 ?_
      obtain ⟨M6, hc5, hf⟩ := bd_e hf
      refine r_callVv C0 (As := [.int r4]) (rest := []) (c_X2_moveBell l D g tb hT h0 hc5) w3_28 w3_29 w3_30 w1_2 w3_31 (x_rec2 C0 h0.1) hd_X2_moveBell rfl ⟨rfl, rfl⟩ ⟨Nat.le_of_ble_eq_true rfl, Nat.le_of_ble_eq_true rfl⟩ (by decide) (by decide) rfl (Nat.le_of_ble_eq_true rfl) dX2_pass_14 ?_
      refine r_aload_n C0 (kk := 0) 1 rfl dX2_pass_17 ?_
      refine r_get2 C0 h0.1 10 (by decide) (v := .int (M6 (a0 + 1))) rfl rfl w1_160 dX2_pass_18 ?_
      refine r_if_eq C0 (tgt := 83) (by decide) dX2_pass_21 (fun q7 => ?_) (fun q7 => ?_)
      · have hf := ie_t hf q7
        refine WW.sub [1, 2, 3] rfl ?_
        exact B83 k2 hk2 _   _ hf
      · have hf := ie_f hf q7
        refine r_iconst C0 (v := 0) dX2_pass_24 rfl ?_
        refine r_istore C0 (lv2 := [(4, .int 0), (3, .int r4), (0, .ref (g.1 2 a0)), (1, .int a1), (2, .int v2)]) (by decide) rfl dX2_pass_25 ?_
        refine WW.sub [2, 3, 4, 1, 0] rfl ?_
        exact L27 k2 hk2 _ _ _   _ hf
  have L2 : ∀ (v2 : Int32)  (M : xM), f_X2_pass_c2  a0 a1 v2 M = some M' → WW p l e ({ frames := 3, cells := 0, slots := 0, locals := 72 } : Room) s m args below meth c 0 0 Q 5 D g tb 2 [(0, .ref (g.1 2 a0)), (1, .int a1), (2, .int v2)] [] M := lp_ind (P := fun f => ∀ (v2 : Int32)  (M : xM), f v2 M = some M' → WW p l e ({ frames := 3, cells := 0, slots := 0, locals := 72 } : Room) s m args below meth c 0 0 Q 5 D g tb 2 [(0, .ref (g.1 2 a0)), (1, .int a1), (2, .int v2)] [] M) (fun _ _ h => none_ne h) (fun f hf => B2 f hf) FU
  unfold f_X2_pass at hf
  refine r_iconst C0 (v := 0) dX2_pass_0 rfl ?_
  refine r_istore_n C0 (kk := 2) (lv2 := [(2, .int 0), (0, .ref (g.1 2 a0)), (1, .int a1)]) (by decide) rfl dX2_pass_1 ?_
  refine WW.sub [1, 2, 0] rfl ?_
  exact L2   _   _ hf
theorem dX6_nextPayer_0 : decode cX6_nextPayer 0 = .ok (.aload_n 0, 1) := by decide +kernel
theorem dX6_nextPayer_1 : decode cX6_nextPayer 1 = .ok (.getfield 19, 3) := by decide +kernel
theorem dX6_nextPayer_4 : decode cX6_nextPayer 4 = .ok (.aload_n 0, 1) := by decide +kernel
theorem dX6_nextPayer_5 : decode cX6_nextPayer 5 = .ok (.getfield 10, 3) := by decide +kernel
theorem dX6_nextPayer_8 : decode cX6_nextPayer 8 = .ok (.invokevirtual 69, 3) := by decide +kernel
theorem dX6_nextPayer_11 : decode cX6_nextPayer 11 = .ok (.iconst 1, 1) := by decide +kernel
theorem dX6_nextPayer_12 : decode cX6_nextPayer 12 = .ok (.istore_n 1, 1) := by decide +kernel
theorem dX6_nextPayer_13 : decode cX6_nextPayer 13 = .ok (.iload_n 1, 1) := by decide +kernel
theorem dX6_nextPayer_14 : decode cX6_nextPayer 14 = .ok (.sipush 200, 3) := by decide +kernel
theorem dX6_nextPayer_17 : decode cX6_nextPayer 17 = .ok (.if_icmp .gt 65, 3) := by decide +kernel
theorem dX6_nextPayer_20 : decode cX6_nextPayer 20 = .ok (.aload_n 0, 1) := by decide +kernel
theorem dX6_nextPayer_21 : decode cX6_nextPayer 21 = .ok (.getfield 19, 3) := by decide +kernel
theorem dX6_nextPayer_24 : decode cX6_nextPayer 24 = .ok (.iconst 1, 1) := by decide +kernel
theorem dX6_nextPayer_25 : decode cX6_nextPayer 25 = .ok (.invokevirtual 276, 3) := by decide +kernel
theorem dX6_nextPayer_28 : decode cX6_nextPayer 28 = .ok (.iconst 0, 1) := by decide +kernel
theorem dX6_nextPayer_29 : decode cX6_nextPayer 29 = .ok (.istore_n 2, 1) := by decide +kernel
theorem dX6_nextPayer_30 : decode cX6_nextPayer 30 = .ok (.iload_n 2, 1) := by decide +kernel
theorem dX6_nextPayer_31 : decode cX6_nextPayer 31 = .ok (.aload_n 0, 1) := by decide +kernel
theorem dX6_nextPayer_32 : decode cX6_nextPayer 32 = .ok (.getfield 10, 3) := by decide +kernel
theorem dX6_nextPayer_35 : decode cX6_nextPayer 35 = .ok (.getfield 211, 3) := by decide +kernel
theorem dX6_nextPayer_38 : decode cX6_nextPayer 38 = .ok (.if_icmp .ge 38, 3) := by decide +kernel
theorem dX6_nextPayer_41 : decode cX6_nextPayer 41 = .ok (.aload_n 0, 1) := by decide +kernel
theorem dX6_nextPayer_42 : decode cX6_nextPayer 42 = .ok (.getfield 19, 3) := by decide +kernel
theorem dX6_nextPayer_45 : decode cX6_nextPayer 45 = .ok (.getfield 258, 3) := by decide +kernel
theorem dX6_nextPayer_48 : decode cX6_nextPayer 48 = .ok (.iload_n 2, 1) := by decide +kernel
theorem dX6_nextPayer_49 : decode cX6_nextPayer 49 = .ok (.aaload, 1) := by decide +kernel
theorem dX6_nextPayer_50 : decode cX6_nextPayer 50 = .ok (.getfield 239, 3) := by decide +kernel
theorem dX6_nextPayer_53 : decode cX6_nextPayer 53 = .ok (.aload_n 0, 1) := by decide +kernel
theorem dX6_nextPayer_54 : decode cX6_nextPayer 54 = .ok (.getfield 10, 3) := by decide +kernel
theorem dX6_nextPayer_57 : decode cX6_nextPayer 57 = .ok (.getfield 258, 3) := by decide +kernel
theorem dX6_nextPayer_60 : decode cX6_nextPayer 60 = .ok (.iload_n 2, 1) := by decide +kernel
theorem dX6_nextPayer_61 : decode cX6_nextPayer 61 = .ok (.aaload, 1) := by decide +kernel
theorem dX6_nextPayer_62 : decode cX6_nextPayer 62 = .ok (.getfield 239, 3) := by decide +kernel
theorem dX6_nextPayer_65 : decode cX6_nextPayer 65 = .ok (.if_icmp .le 5, 3) := by decide +kernel
theorem dX6_nextPayer_68 : decode cX6_nextPayer 68 = .ok (.iload_n 2, 1) := by decide +kernel
theorem dX6_nextPayer_69 : decode cX6_nextPayer 69 = .ok (.ireturn, 1) := by decide +kernel
theorem dX6_nextPayer_70 : decode cX6_nextPayer 70 = .ok (.iinc 2 1, 3) := by decide +kernel
theorem dX6_nextPayer_73 : decode cX6_nextPayer 73 = .ok (.goto (-43), 3) := by decide +kernel
theorem dX6_nextPayer_76 : decode cX6_nextPayer 76 = .ok (.iinc 1 1, 3) := by decide +kernel
theorem dX6_nextPayer_79 : decode cX6_nextPayer 79 = .ok (.goto (-66), 3) := by decide +kernel
theorem dX6_nextPayer_82 : decode cX6_nextPayer 82 = .ok (.iconst (-1), 1) := by decide +kernel
theorem dX6_nextPayer_83 : decode cX6_nextPayer 83 = .ok (.ireturn, 1) := by decide +kernel
theorem hd_X6_nextPayer : yX6_nextPayer.cls = RX6 ∧ yX6_nextPayer.cls ≠ "java/lang/invoke/MethodHandle" ∧ yX6_nextPayer.cls ≠ "java/lang/invoke/VarHandle" ∧ (parseMethodDescriptor yX6_nextPayer.desc).map (fun d => d.parameters.length) = some 0 := by decide +kernel
set_option maxRecDepth 100000 in
set_option maxHeartbeats 4000000 in
theorem c_X6_nextPayer (l : Launch) (D : va_G) (g : xG) (tb : List xQ) (hT : x_T g tb)  (h0 : x_fb tb) {M : xM} {r : Int32} {M' : xM} (hf : f_X6_nextPayer  M = some (r, M')) :
    cI l D g tb yX6_nextPayer cX6_nextPayer 3 .int ({ frames := 4, cells := 0, slots := 0, locals := 96 } : Room) [.ref (g.1 4 1664)] M r M' := by
  refine x_startI (own := RX6) (by decide +kernel) rfl rfl (Nat.le_of_ble_eq_true rfl) hT ?_
  intro p e s m args below meth c Q C0 hend
  have B30 : ∀ (k13 : Int32 → xM → Option (Int32 × xM)) (k30 : Int32 → Int32 → xM → Option (Int32 × xM)) (hk13 : ∀ (v1 : Int32)  (M : xM), k13 v1 M = some (r, M') → WW p l e ({ frames := 4, cells := 0, slots := 0, locals := 96 } : Room) s m args below meth c 0 0 Q 3 D g tb 13 [(0, .ref (g.1 4 1664)), (1, .int v1)] [] M) (hk30 : ∀ (v1 : Int32) (v2 : Int32)  (M : xM), k30 v1 v2 M = some (r, M') → WW p l e ({ frames := 4, cells := 0, slots := 0, locals := 96 } : Room) s m args below meth c 0 0 Q 3 D g tb 30 [(0, .ref (g.1 4 1664)), (1, .int v1), (2, .int v2)] [] M), ∀ (v1 : Int32) (v2 : Int32)  (M : xM), fb_X6_nextPayer_c30 k13 k30  v1 v2 M = some (r, M') → WW p l e ({ frames := 4, cells := 0, slots := 0, locals := 96 } : Room) s m args below meth c 0 0 Q 3 D g tb 30 [(0, .ref (g.1 4 1664)), (1, .int v1), (2, .int v2)] [] M := by
    intro k13 k30 hk13 hk30 v1 v2  M hf
    unfold fb_X6_nextPayer_c30 at hf
    refine r_iload_n C0 (kk := 2) 2 rfl dX6_nextPayer_30 ?_
    refine r_aload_n C0 (kk := 0) 0 rfl dX6_nextPayer_31 ?_
    refine r_get4 C0 h0.1 0 (by decide) (v := .ref (g.1 2 0)) rfl rfl w3_102 dX6_nextPayer_32 ?_
    refine r_get2 C0 h0.2.1.1 3 (by decide) (v := .int (M 10)) rfl rfl w1_146 dX6_nextPayer_35 ?_
    refine r_icmp_ge C0 (tgt := 76) (by decide) dX6_nextPayer_38 (fun q6 => ?_) (fun q6 => ?_)
    · have hf := ie_t hf q6
      refine r_iincc C0 1 rfl (k0 := 1) (by decide) (by decide) (lv2 := [(1, .int (v1 + 1)), (0, .ref (g.1 4 1664)), (2, .int v2)]) rfl dX6_nextPayer_76 ?_
      refine r_goto C0 (tgt := 13) (by decide) dX6_nextPayer_79 ?_
      refine WW.sub [1, 0] rfl ?_
      exact hk13 _   _ hf
    · have hf := ie_f hf q6
      refine r_aload_n C0 (kk := 0) 0 rfl dX6_nextPayer_41 ?_
      refine r_get4 C0 h0.1 2 (by decide) (v := .ref (g.1 2 256)) rfl rfl w3_104 dX6_nextPayer_42 ?_
      refine r_get2 C0 h0.2.2.2.1.1 2 (by decide) (v := .ref (g.1 11 333)) rfl rfl w1_143 dX6_nextPayer_45 ?_
      refine r_iload_n C0 (kk := 2) 2 rfl dX6_nextPayer_48 ?_
      obtain ⟨q7, hf⟩ := gd_e hf
      have hm8 : ((1, (333 + 8 * v2.toNatClampNeg), 0) : xQ) ∈ tb := h0.2.2.2.1.2.2.2.2.2 _ (inb_lt q7)
      refine r_aald11 C0 h0.2.2.2.1.2.2.1 (inb_in q7) dX6_nextPayer_49 ?_
      refine r_get1 C0 hm8 7 (by decide) (v := .int (M ((333 + 8 * v2.toNatClampNeg) + 7))) rfl rfl w1_117 dX6_nextPayer_50 ?_
      refine r_aload_n C0 (kk := 0) 0 rfl dX6_nextPayer_53 ?_
      refine r_get4 C0 h0.1 0 (by decide) (v := .ref (g.1 2 0)) rfl rfl w3_102 dX6_nextPayer_54 ?_
      refine r_get2 C0 h0.2.1.1 2 (by decide) (v := .ref (g.1 11 77)) rfl rfl w1_143 dX6_nextPayer_57 ?_
      refine r_iload_n C0 (kk := 2) 2 rfl dX6_nextPayer_60 ?_
      obtain ⟨q9, hf⟩ := gd_e hf
      have hm10 : ((1, (77 + 8 * v2.toNatClampNeg), 0) : xQ) ∈ tb := h0.2.1.2.2.2.2.2 _ (inb_lt q9)
      refine r_aald11 C0 h0.2.1.2.2.1 (inb_in q9) dX6_nextPayer_61 ?_
      refine r_get1 C0 hm10 7 (by decide) (v := .int (M ((77 + 8 * v2.toNatClampNeg) + 7))) rfl rfl w1_117 dX6_nextPayer_62 ?_
      refine r_icmp_le C0 (tgt := 70) (by decide) dX6_nextPayer_65 (fun q11 => ?_) (fun q11 => ?_)
      · have hf := ie_t hf q11
        refine r_iincc C0 2 rfl (k0 := 1) (by decide) (by decide) (lv2 := [(2, .int (v2 + 1)), (0, .ref (g.1 4 1664)), (1, .int v1)]) rfl dX6_nextPayer_70 ?_
        refine r_goto C0 (tgt := 30) (by decide) dX6_nextPayer_73 ?_
        refine WW.sub [1, 2, 0] rfl ?_
        exact hk30 _ _   _ hf
      · have hf := ie_f hf q11
        refine r_iload_n C0 (kk := 2) 2 rfl dX6_nextPayer_68 ?_
        exact hend hf dX6_nextPayer_69
  have L30 : ∀ (k13 : Int32 → xM → Option (Int32 × xM)) (hk13 : ∀ (v1 : Int32)  (M : xM), k13 v1 M = some (r, M') → WW p l e ({ frames := 4, cells := 0, slots := 0, locals := 96 } : Room) s m args below meth c 0 0 Q 3 D g tb 13 [(0, .ref (g.1 4 1664)), (1, .int v1)] [] M), ∀ (v1 : Int32) (v2 : Int32)  (M : xM), f_X6_nextPayer_c30 k13  v1 v2 M = some (r, M') → WW p l e ({ frames := 4, cells := 0, slots := 0, locals := 96 } : Room) s m args below meth c 0 0 Q 3 D g tb 30 [(0, .ref (g.1 4 1664)), (1, .int v1), (2, .int v2)] [] M := fun k13 hk13 => lp_ind (P := fun f => ∀ (v1 : Int32) (v2 : Int32)  (M : xM), f v1 v2 M = some (r, M') → WW p l e ({ frames := 4, cells := 0, slots := 0, locals := 96 } : Room) s m args below meth c 0 0 Q 3 D g tb 30 [(0, .ref (g.1 4 1664)), (1, .int v1), (2, .int v2)] [] M) (fun _ _ _ h => none_ne h) (fun f hf => B30 k13 f hk13 hf) FU
  have B13 : ∀ (k13 : Int32 → xM → Option (Int32 × xM)) (hk13 : ∀ (v1 : Int32)  (M : xM), k13 v1 M = some (r, M') → WW p l e ({ frames := 4, cells := 0, slots := 0, locals := 96 } : Room) s m args below meth c 0 0 Q 3 D g tb 13 [(0, .ref (g.1 4 1664)), (1, .int v1)] [] M), ∀ (v1 : Int32)  (M : xM), fb_X6_nextPayer_c13 k13  v1 M = some (r, M') → WW p l e ({ frames := 4, cells := 0, slots := 0, locals := 96 } : Room) s m args below meth c 0 0 Q 3 D g tb 13 [(0, .ref (g.1 4 1664)), (1, .int v1)] [] M := by
    intro k13 hk13 v1  M hf
    unfold fb_X6_nextPayer_c13 at hf
    refine r_iload_n C0 (kk := 1) 1 rfl dX6_nextPayer_13 ?_
    refine r_sipush C0 (v := 200) dX6_nextPayer_14 rfl ?_
    refine r_icmp_gt C0 (tgt := 82) (by decide) dX6_nextPayer_17 (fun q3 => ?_) (fun q3 => ?_)
    · have hf := ie_t hf q3
      refine r_iconst C0 (v := (-1)) dX6_nextPayer_82 rfl ?_
      exact hend hf dX6_nextPayer_83
    · have hf := ie_f hf q3
      refine r_aload_n C0 (kk := 0) 0 rfl dX6_nextPayer_20 ?_
      refine r_get4 C0 h0.1 2 (by decide) (v := .ref (g.1 2 256)) rfl rfl w3_104 dX6_nextPayer_21 ?_
      refine r_iconst C0 (v := 1) dX6_nextPayer_24 rfl ?_
      obtain ⟨M5, hc4, hf⟩ := bd_e hf
      refine r_callVv C0 (As := [.int 1]) (rest := []) (c_X2_pass l D g tb hT h0.2.2.2.1 hc4) w4_19 w3_17 w3_18 w1_2 w3_19 (x_rec2 C0 h0.2.2.2.1.1) hd_X2_pass rfl ⟨rfl, rfl⟩ ⟨Nat.le_of_ble_eq_true rfl, Nat.le_of_ble_eq_true rfl⟩ (by decide) (by decide) rfl (Nat.le_of_ble_eq_true rfl) dX6_nextPayer_25 ?_
      refine r_iconst C0 (v := 0) dX6_nextPayer_28 rfl ?_
      refine r_istore_n C0 (kk := 2) (lv2 := [(2, .int 0), (0, .ref (g.1 4 1664)), (1, .int v1)]) (by decide) rfl dX6_nextPayer_29 ?_
      refine WW.sub [1, 2, 0] rfl ?_
      exact L30 k13 hk13 _ _   _ hf
  have L13 : ∀ (v1 : Int32)  (M : xM), f_X6_nextPayer_c13   v1 M = some (r, M') → WW p l e ({ frames := 4, cells := 0, slots := 0, locals := 96 } : Room) s m args below meth c 0 0 Q 3 D g tb 13 [(0, .ref (g.1 4 1664)), (1, .int v1)] [] M := lp_ind (P := fun f => ∀ (v1 : Int32)  (M : xM), f v1 M = some (r, M') → WW p l e ({ frames := 4, cells := 0, slots := 0, locals := 96 } : Room) s m args below meth c 0 0 Q 3 D g tb 13 [(0, .ref (g.1 4 1664)), (1, .int v1)] [] M) (fun _ _ h => none_ne h) (fun f hf => B13 f hf) FU
  unfold f_X6_nextPayer at hf
  refine r_aload_n C0 (kk := 0) 0 rfl dX6_nextPayer_0 ?_
  refine r_get4 C0 h0.1 2 (by decide) (v := .ref (g.1 2 256)) rfl rfl w3_104 dX6_nextPayer_1 ?_
  refine r_aload_n C0 (kk := 0) 0 rfl dX6_nextPayer_4 ?_
  refine r_get4 C0 h0.1 0 (by decide) (v := .ref (g.1 2 0)) rfl rfl w3_102 dX6_nextPayer_5 ?_
  obtain ⟨M2, hc1, hf⟩ := bd_e hf
  refine r_callVv C0 (As := [.ref (g.1 2 0)]) (rest := []) (c_X2_copyFrom l D g tb hT h0.2.2.2.1 h0.2.1 hc1) w3_86 w3_87 w3_88 w1_2 w3_89 (x_rec2 C0 h0.2.2.2.1.1) hd_X2_copyFrom rfl ⟨rfl, rfl⟩ ⟨Nat.le_of_ble_eq_true rfl, Nat.le_of_ble_eq_true rfl⟩ (by decide) (by decide) rfl (Nat.le_of_ble_eq_true rfl) dX6_nextPayer_8 ?_
  refine r_iconst C0 (v := 1) dX6_nextPayer_11 rfl ?_
  refine r_istore_n C0 (kk := 1) (lv2 := [(1, .int 1), (0, .ref (g.1 4 1664))]) (by decide) rfl dX6_nextPayer_12 ?_
  refine WW.sub [1, 0] rfl ?_
  exact L13   _   _ hf
theorem dX6_bestBellPosition_0 : decode cX6_bestBellPosition 0 = .ok (.iconst (-1), 1) := by decide +kernel
theorem dX6_bestBellPosition_1 : decode cX6_bestBellPosition 1 = .ok (.istore_n 1, 1) := by decide +kernel
theorem dX6_bestBellPosition_2 : decode cX6_bestBellPosition 2 = .ok (.iconst (-1), 1) := by decide +kernel
theorem dX6_bestBellPosition_3 : decode cX6_bestBellPosition 3 = .ok (.istore_n 2, 1) := by decide +kernel
theorem dX6_bestBellPosition_4 : decode cX6_bestBellPosition 4 = .ok (.iconst 0, 1) := by decide +kernel
theorem dX6_bestBellPosition_5 : decode cX6_bestBellPosition 5 = .ok (.istore_n 3, 1) := by decide +kernel
theorem dX6_bestBellPosition_6 : decode cX6_bestBellPosition 6 = .ok (.iload_n 3, 1) := by decide +kernel
theorem dX6_bestBellPosition_7 : decode cX6_bestBellPosition 7 = .ok (.bipush 99, 2) := by decide +kernel
theorem dX6_bestBellPosition_9 : decode cX6_bestBellPosition 9 = .ok (.if_icmp .gt 57, 3) := by decide +kernel
theorem dX6_bestBellPosition_12 : decode cX6_bestBellPosition 12 = .ok (.aload_n 0, 1) := by decide +kernel
theorem dX6_bestBellPosition_13 : decode cX6_bestBellPosition 13 = .ok (.getfield 19, 3) := by decide +kernel
theorem dX6_bestBellPosition_16 : decode cX6_bestBellPosition 16 = .ok (.aload_n 0, 1) := by decide +kernel
theorem dX6_bestBellPosition_17 : decode cX6_bestBellPosition 17 = .ok (.getfield 10, 3) := by decide +kernel
theorem dX6_bestBellPosition_20 : decode cX6_bestBellPosition 20 = .ok (.invokevirtual 69, 3) := by decide +kernel
theorem dX6_bestBellPosition_23 : decode cX6_bestBellPosition 23 = .ok (.aload_n 0, 1) := by decide +kernel
theorem dX6_bestBellPosition_24 : decode cX6_bestBellPosition 24 = .ok (.getfield 19, 3) := by decide +kernel
theorem dX6_bestBellPosition_27 : decode cX6_bestBellPosition 27 = .ok (.iload_n 3, 1) := by decide +kernel
theorem dX6_bestBellPosition_28 : decode cX6_bestBellPosition 28 = .ok (.putfield 110, 3) := by decide +kernel
theorem dX6_bestBellPosition_31 : decode cX6_bestBellPosition 31 = .ok (.aload_n 0, 1) := by decide +kernel
theorem dX6_bestBellPosition_32 : decode cX6_bestBellPosition 32 = .ok (.getfield 19, 3) := by decide +kernel
theorem dX6_bestBellPosition_35 : decode cX6_bestBellPosition 35 = .ok (.bipush 60, 2) := by decide +kernel
theorem dX6_bestBellPosition_37 : decode cX6_bestBellPosition 37 = .ok (.invokevirtual 276, 3) := by decide +kernel
theorem dX6_bestBellPosition_40 : decode cX6_bestBellPosition 40 = .ok (.aload_n 0, 1) := by decide +kernel
theorem dX6_bestBellPosition_41 : decode cX6_bestBellPosition 41 = .ok (.getfield 19, 3) := by decide +kernel
theorem dX6_bestBellPosition_44 : decode cX6_bestBellPosition 44 = .ok (.invokevirtual 262, 3) := by decide +kernel
theorem dX6_bestBellPosition_47 : decode cX6_bestBellPosition 47 = .ok (.istore 4, 2) := by decide +kernel
theorem dX6_bestBellPosition_49 : decode cX6_bestBellPosition 49 = .ok (.iload 4, 2) := by decide +kernel
theorem dX6_bestBellPosition_51 : decode cX6_bestBellPosition 51 = .ok (.iload_n 2, 1) := by decide +kernel
theorem dX6_bestBellPosition_52 : decode cX6_bestBellPosition 52 = .ok (.if_icmp .le 8, 3) := by decide +kernel
theorem dX6_bestBellPosition_55 : decode cX6_bestBellPosition 55 = .ok (.iload 4, 2) := by decide +kernel
theorem dX6_bestBellPosition_57 : decode cX6_bestBellPosition 57 = .ok (.istore_n 2, 1) := by decide +kernel
theorem dX6_bestBellPosition_58 : decode cX6_bestBellPosition 58 = .ok (.iload_n 3, 1) := by decide +kernel
theorem dX6_bestBellPosition_59 : decode cX6_bestBellPosition 59 = .ok (.istore_n 1, 1) := by decide +kernel
theorem dX6_bestBellPosition_60 : decode cX6_bestBellPosition 60 = .ok (.iinc 3 1, 3) := by decide +kernel
theorem dX6_bestBellPosition_63 : decode cX6_bestBellPosition 63 = .ok (.goto (-57), 3) := by decide +kernel
theorem dX6_bestBellPosition_66 : decode cX6_bestBellPosition 66 = .ok (.iload_n 1, 1) := by decide +kernel
theorem dX6_bestBellPosition_67 : decode cX6_bestBellPosition 67 = .ok (.ireturn, 1) := by decide +kernel
theorem hd_X6_bestBellPosition : yX6_bestBellPosition.cls = RX6 ∧ yX6_bestBellPosition.cls ≠ "java/lang/invoke/MethodHandle" ∧ yX6_bestBellPosition.cls ≠ "java/lang/invoke/VarHandle" ∧ (parseMethodDescriptor yX6_bestBellPosition.desc).map (fun d => d.parameters.length) = some 0 := by decide +kernel
set_option maxRecDepth 100000 in
set_option maxHeartbeats 4000000 in
theorem c_X6_bestBellPosition (l : Launch) (D : va_G) (g : xG) (tb : List xQ) (hT : x_T g tb)  (h0 : x_fb tb) {M : xM} {r : Int32} {M' : xM} (hf : f_X6_bestBellPosition  M = some (r, M')) :
    cI l D g tb yX6_bestBellPosition cX6_bestBellPosition 5 .int ({ frames := 4, cells := 0, slots := 0, locals := 96 } : Room) [.ref (g.1 4 1664)] M r M' := by
  refine x_startI (own := RX6) (by decide +kernel) rfl rfl (Nat.le_of_ble_eq_true rfl) hT ?_
  intro p e s m args below meth c Q C0 hend
  have B6 : ∀ (k6 : Int32 → Int32 → Int32 → xM → Option (Int32 × xM)) (hk6 : ∀ (v1 : Int32) (v2 : Int32) (v3 : Int32)  (M : xM), k6 v1 v2 v3 M = some (r, M') → WW p l e ({ frames := 4, cells := 0, slots := 0, locals := 96 } : Room) s m args below meth c 0 0 Q 5 D g tb 6 [(0, .ref (g.1 4 1664)), (1, .int v1), (2, .int v2), (3, .int v3)] [] M), ∀ (v1 : Int32) (v2 : Int32) (v3 : Int32)  (M : xM), fb_X6_bestBellPosition_c6 k6  v1 v2 v3 M = some (r, M') → WW p l e ({ frames := 4, cells := 0, slots := 0, locals := 96 } : Room) s m args below meth c 0 0 Q 5 D g tb 6 [(0, .ref (g.1 4 1664)), (1, .int v1), (2, .int v2), (3, .int v3)] [] M := by
    intro k6 hk6 v1 v2 v3  M hf
    unfold fb_X6_bestBellPosition_c6 at hf
    refine r_iload_n C0 (kk := 3) 3 rfl dX6_bestBellPosition_6 ?_
    refine r_bipush C0 (v := 99) dX6_bestBellPosition_7 rfl ?_
    refine r_icmp_gt C0 (tgt := 66) (by decide) dX6_bestBellPosition_9 (fun q1 => ?_) (fun q1 => ?_)
    · have hf := ie_t hf q1
      refine r_iload_n C0 (kk := 1) 1 rfl dX6_bestBellPosition_66 ?_
      exact hend hf dX6_bestBellPosition_67
    · have hf := ie_f hf q1
      refine r_aload_n C0 (kk := 0) 0 rfl dX6_bestBellPosition_12 ?_
      refine r_get4 C0 h0.1 2 (by decide) (v := .ref (g.1 2 256)) rfl rfl w3_104 dX6_bestBellPosition_13 ?_
      refine r_aload_n C0 (kk := 0) 0 rfl dX6_bestBellPosition_16 ?_
      refine r_get4 C0 h0.1 0 (by decide) (v := .ref (g.1 2 0)) rfl rfl w3_102 dX6_bestBellPosition_17 ?_
      obtain ⟨M3, hc2, hf⟩ := bd_e hf
      refine r_callVv C0 (As := [.ref (g.1 2 0)]) (rest := []) (c_X2_copyFrom l D g tb hT h0.2.2.2.1 h0.2.1 hc2) w3_86 w3_87 w3_88 w1_2 w3_89 (x_rec2 C0 h0.2.2.2.1.1) hd_X2_copyFrom rfl ⟨rfl, rfl⟩ ⟨Nat.le_of_ble_eq_true rfl, Nat.le_of_ble_eq_true rfl⟩ (by decide) (by decide) rfl (Nat.le_of_ble_eq_true rfl) dX6_bestBellPosition_20 ?_
      refine r_aload_n C0 (kk := 0) 0 rfl dX6_bestBellPosition_23 ?_
      refine r_get4 C0 h0.1 2 (by decide) (v := .ref (g.1 2 256)) rfl rfl w3_104 dX6_bestBellPosition_24 ?_
      refine r_iload_n C0 (kk := 3) 3 rfl dX6_bestBellPosition_27 ?_
      refine r_put2 C0 h0.2.2.2.1.1 7 rfl rfl w1_155 rfl rfl rfl dX6_bestBellPosition_28 ?_
      refine r_aload_n C0 (kk := 0) 0 rfl dX6_bestBellPosition_31 ?_
      refine r_get4 C0 h0.1 2 (by decide) (v := .ref (g.1 2 256)) rfl rfl w3_104 dX6_bestBellPosition_32 ?_
      refine r_bipush C0 (v := 60) dX6_bestBellPosition_35 rfl ?_
      obtain ⟨M5, hc4, hf⟩ := bd_e hf
      refine r_callVv C0 (As := [.int 60]) (rest := []) (c_X2_pass l D g tb hT h0.2.2.2.1 hc4) w4_19 w3_17 w3_18 w1_2 w3_19 (x_rec2 C0 h0.2.2.2.1.1) hd_X2_pass rfl ⟨rfl, rfl⟩ ⟨Nat.le_of_ble_eq_true rfl, Nat.le_of_ble_eq_true rfl⟩ (by decide) (by decide) rfl (Nat.le_of_ble_eq_true rfl) dX6_bestBellPosition_37 ?_
      refine r_aload_n C0 (kk := 0) 0 rfl dX6_bestBellPosition_40 ?_
      refine r_get4 C0 h0.1 2 (by decide) (v := .ref (g.1 2 256)) rfl rfl w3_104 dX6_bestBellPosition_41 ?_
      obtain ⟨r8, M7, hc6, hf⟩ := bd2_e hf
      refine r_callVi C0 (As := []) (rest := []) (c_X2_earnedInAll l D g tb hT h0.2.2.2.1 hc6) w3_230 w3_231 w3_232 w1_2 w3_233 (x_rec2 C0 h0.2.2.2.1.1) hd_X2_earnedInAll rfl ⟨rfl, rfl⟩ ⟨Nat.le_of_ble_eq_true rfl, Nat.le_of_ble_eq_true rfl⟩ (by decide) (by decide) rfl (Nat.le_of_ble_eq_true rfl) dX6_bestBellPosition_44 ?_
      refine r_istore C0 (lv2 := [(4, .int r8), (0, .ref (g.1 4 1664)), (1, .int v1), (2, .int v2), (3, .int v3)]) (by decide) rfl dX6_bestBellPosition_47 ?_
      refine r_iload C0 0 rfl dX6_bestBellPosition_49 ?_
      refine r_iload_n C0 (kk := 2) 3 rfl dX6_bestBellPosition_51 ?_
      refine r_icmp_le C0 (tgt := 60) (by decide) dX6_bestBellPosition_52 (fun q9 => ?_) (fun q9 => ?_)
      · have hf := ie_t hf q9
        refine r_iincc C0 4 rfl (k0 := 1) (by decide) (by decide) (lv2 := [(3, .int (v3 + 1)), (4, .int r8), (0, .ref (g.1 4 1664)), (1, .int v1), (2, .int v2)]) rfl dX6_bestBellPosition_60 ?_
        refine r_goto C0 (tgt := 6) (by decide) dX6_bestBellPosition_63 ?_
        refine WW.sub [2, 3, 4, 0] rfl ?_
        exact hk6 _ _ _   _ hf
      · have hf := ie_f hf q9
        refine r_iload C0 0 rfl dX6_bestBellPosition_55 ?_
        refine r_istore_n C0 (kk := 2) (lv2 := [(2, .int r8), (4, .int r8), (0, .ref (g.1 4 1664)), (1, .int v1), (3, .int v3)]) (by decide) rfl dX6_bestBellPosition_57 ?_
        refine r_iload_n C0 (kk := 3) 4 rfl dX6_bestBellPosition_58 ?_
        refine r_istore_n C0 (kk := 1) (lv2 := [(1, .int v3), (2, .int r8), (4, .int r8), (0, .ref (g.1 4 1664)), (3, .int v3)]) (by decide) rfl dX6_bestBellPosition_59 ?_
        refine r_iincc C0 4 rfl (k0 := 1) (by decide) (by decide) (lv2 := [(3, .int (v3 + 1)), (1, .int v3), (2, .int r8), (4, .int r8), (0, .ref (g.1 4 1664))]) rfl dX6_bestBellPosition_60 ?_
        refine r_goto C0 (tgt := 6) (by decide) dX6_bestBellPosition_63 ?_
        refine WW.sub [4, 1, 2, 0] rfl ?_
        exact hk6 _ _ _   _ hf
  have L6 : ∀ (v1 : Int32) (v2 : Int32) (v3 : Int32)  (M : xM), f_X6_bestBellPosition_c6   v1 v2 v3 M = some (r, M') → WW p l e ({ frames := 4, cells := 0, slots := 0, locals := 96 } : Room) s m args below meth c 0 0 Q 5 D g tb 6 [(0, .ref (g.1 4 1664)), (1, .int v1), (2, .int v2), (3, .int v3)] [] M := lp_ind (P := fun f => ∀ (v1 : Int32) (v2 : Int32) (v3 : Int32)  (M : xM), f v1 v2 v3 M = some (r, M') → WW p l e ({ frames := 4, cells := 0, slots := 0, locals := 96 } : Room) s m args below meth c 0 0 Q 5 D g tb 6 [(0, .ref (g.1 4 1664)), (1, .int v1), (2, .int v2), (3, .int v3)] [] M) (fun _ _ _ _ h => none_ne h) (fun f hf => B6 f hf) FU
  unfold f_X6_bestBellPosition at hf
  refine r_iconst C0 (v := (-1)) dX6_bestBellPosition_0 rfl ?_
  refine r_istore_n C0 (kk := 1) (lv2 := [(1, .int (-1)), (0, .ref (g.1 4 1664))]) (by decide) rfl dX6_bestBellPosition_1 ?_
  refine r_iconst C0 (v := (-1)) dX6_bestBellPosition_2 rfl ?_
  refine r_istore_n C0 (kk := 2) (lv2 := [(2, .int (-1)), (1, .int (-1)), (0, .ref (g.1 4 1664))]) (by decide) rfl dX6_bestBellPosition_3 ?_
  refine r_iconst C0 (v := 0) dX6_bestBellPosition_4 rfl ?_
  refine r_istore_n C0 (kk := 3) (lv2 := [(3, .int 0), (2, .int (-1)), (1, .int (-1)), (0, .ref (g.1 4 1664))]) (by decide) rfl dX6_bestBellPosition_5 ?_
  refine WW.sub [3, 2, 1, 0] rfl ?_
  exact L6   _ _ _   _ hf
theorem dX6_minutesToPay_0 : decode cX6_minutesToPay 0 = .ok (.aload_n 0, 1) := by decide +kernel
theorem dX6_minutesToPay_1 : decode cX6_minutesToPay 1 = .ok (.iload_n 1, 1) := by decide +kernel
theorem dX6_minutesToPay_2 : decode cX6_minutesToPay 2 = .ok (.invokevirtual 214, 3) := by decide +kernel
theorem dX6_minutesToPay_5 : decode cX6_minutesToPay 5 = .ok (.getfield 239, 3) := by decide +kernel
theorem dX6_minutesToPay_8 : decode cX6_minutesToPay 8 = .ok (.istore_n 2, 1) := by decide +kernel
theorem dX6_minutesToPay_9 : decode cX6_minutesToPay 9 = .ok (.aload_n 0, 1) := by decide +kernel
theorem dX6_minutesToPay_10 : decode cX6_minutesToPay 10 = .ok (.getfield 19, 3) := by decide +kernel
theorem dX6_minutesToPay_13 : decode cX6_minutesToPay 13 = .ok (.aload_n 0, 1) := by decide +kernel
theorem dX6_minutesToPay_14 : decode cX6_minutesToPay 14 = .ok (.getfield 10, 3) := by decide +kernel
theorem dX6_minutesToPay_17 : decode cX6_minutesToPay 17 = .ok (.invokevirtual 69, 3) := by decide +kernel
theorem dX6_minutesToPay_20 : decode cX6_minutesToPay 20 = .ok (.iconst 1, 1) := by decide +kernel
theorem dX6_minutesToPay_21 : decode cX6_minutesToPay 21 = .ok (.istore_n 3, 1) := by decide +kernel
theorem dX6_minutesToPay_22 : decode cX6_minutesToPay 22 = .ok (.iload_n 3, 1) := by decide +kernel
theorem dX6_minutesToPay_23 : decode cX6_minutesToPay 23 = .ok (.sipush 200, 3) := by decide +kernel
theorem dX6_minutesToPay_26 : decode cX6_minutesToPay 26 = .ok (.if_icmp .gt 35, 3) := by decide +kernel
theorem dX6_minutesToPay_29 : decode cX6_minutesToPay 29 = .ok (.aload_n 0, 1) := by decide +kernel
theorem dX6_minutesToPay_30 : decode cX6_minutesToPay 30 = .ok (.getfield 19, 3) := by decide +kernel
theorem dX6_minutesToPay_33 : decode cX6_minutesToPay 33 = .ok (.iconst 1, 1) := by decide +kernel
theorem dX6_minutesToPay_34 : decode cX6_minutesToPay 34 = .ok (.invokevirtual 276, 3) := by decide +kernel
theorem dX6_minutesToPay_37 : decode cX6_minutesToPay 37 = .ok (.aload_n 0, 1) := by decide +kernel
theorem dX6_minutesToPay_38 : decode cX6_minutesToPay 38 = .ok (.getfield 19, 3) := by decide +kernel
theorem dX6_minutesToPay_41 : decode cX6_minutesToPay 41 = .ok (.getfield 258, 3) := by decide +kernel
theorem dX6_minutesToPay_44 : decode cX6_minutesToPay 44 = .ok (.iload_n 1, 1) := by decide +kernel
theorem dX6_minutesToPay_45 : decode cX6_minutesToPay 45 = .ok (.aaload, 1) := by decide +kernel
theorem dX6_minutesToPay_46 : decode cX6_minutesToPay 46 = .ok (.getfield 239, 3) := by decide +kernel
theorem dX6_minutesToPay_49 : decode cX6_minutesToPay 49 = .ok (.iload_n 2, 1) := by decide +kernel
theorem dX6_minutesToPay_50 : decode cX6_minutesToPay 50 = .ok (.if_icmp .le 5, 3) := by decide +kernel
theorem dX6_minutesToPay_53 : decode cX6_minutesToPay 53 = .ok (.iload_n 3, 1) := by decide +kernel
theorem dX6_minutesToPay_54 : decode cX6_minutesToPay 54 = .ok (.ireturn, 1) := by decide +kernel
theorem dX6_minutesToPay_55 : decode cX6_minutesToPay 55 = .ok (.iinc 3 1, 3) := by decide +kernel
theorem dX6_minutesToPay_58 : decode cX6_minutesToPay 58 = .ok (.goto (-36), 3) := by decide +kernel
theorem dX6_minutesToPay_61 : decode cX6_minutesToPay 61 = .ok (.iconst (-1), 1) := by decide +kernel
theorem dX6_minutesToPay_62 : decode cX6_minutesToPay 62 = .ok (.ireturn, 1) := by decide +kernel
theorem hd_X6_minutesToPay : yX6_minutesToPay.cls = RX6 ∧ yX6_minutesToPay.cls ≠ "java/lang/invoke/MethodHandle" ∧ yX6_minutesToPay.cls ≠ "java/lang/invoke/VarHandle" ∧ (parseMethodDescriptor yX6_minutesToPay.desc).map (fun d => d.parameters.length) = some 1 := by decide +kernel
set_option maxRecDepth 100000 in
set_option maxHeartbeats 4000000 in
theorem c_X6_minutesToPay (l : Launch) (D : va_G) (g : xG) (tb : List xQ) (hT : x_T g tb) (hlst : l.stackTraces = false) {a1 : Int32} (h0 : x_fb tb) {M : xM} {k : Nat} {r : Int32} {M' : xM} (hf : f_X6_minutesToPay a1 M = some (k, r, M')) :
    tI l D g tb yX6_minutesToPay cX6_minutesToPay 4 .int ({ frames := 8, cells := 1, slots := 6, locals := 124 } : Room) 1 [.ref (g.1 4 1664), .int a1] M k r M' := by
  refine x_tstartI (own := RX6) (r := r) (by decide +kernel) rfl rfl (Nat.le_of_ble_eq_true rfl) hT ?_
  intro p e s m args below meth c Q C0 hend hpr hthr
  have B22 : ∀ (k22 : Int32 → Int32 → xM → Option (Nat × Int32 × xM)) (hk22 : ∀ (v2 : Int32) (v3 : Int32)  (M : xM), k22 v2 v3 M = some (k, r, M') → WW p l e ({ frames := 8, cells := 1, slots := 6, locals := 124 } : Room) s m args below meth c 1 6 Q 4 D g tb 22 [(0, .ref (g.1 4 1664)), (1, .int a1), (2, .int v2), (3, .int v3)] [] M), ∀ (v2 : Int32) (v3 : Int32)  (M : xM), fb_X6_minutesToPay_c22 k22 a1 v2 v3 M = some (k, r, M') → WW p l e ({ frames := 8, cells := 1, slots := 6, locals := 124 } : Room) s m args below meth c 1 6 Q 4 D g tb 22 [(0, .ref (g.1 4 1664)), (1, .int a1), (2, .int v2), (3, .int v3)] [] M := by
    intro k22 hk22 v2 v3  M hf
    unfold fb_X6_minutesToPay_c22 at hf
    refine r_iload_n C0 (kk := 3) 3 rfl dX6_minutesToPay_22 ?_
    refine r_sipush C0 (v := 200) dX6_minutesToPay_23 rfl ?_
    refine r_icmp_gt C0 (tgt := 61) (by decide) dX6_minutesToPay_26 (fun q9 => ?_) (fun q9 => ?_)
    · have hf := ie_t hf q9
      refine r_iconst C0 (v := (-1)) dX6_minutesToPay_61 rfl ?_
      exact hend (by decide) (by decide) hf dX6_minutesToPay_62
    · have hf := ie_f hf q9
      refine r_aload_n C0 (kk := 0) 0 rfl dX6_minutesToPay_29 ?_
      refine r_get4 C0 h0.1 2 (by decide) (v := .ref (g.1 2 256)) rfl rfl w3_104 dX6_minutesToPay_30 ?_
      refine r_iconst C0 (v := 1) dX6_minutesToPay_33 rfl ?_
      obtain ⟨M11, hc10, hf⟩ := bd_e hf
      refine r_callVv C0 (As := [.int 1]) (rest := []) (c_X2_pass l D g tb hT h0.2.2.2.1 hc10) w4_19 w3_17 w3_18 w1_2 w3_19 (x_rec2 C0 h0.2.2.2.1.1) hd_X2_pass rfl ⟨rfl, rfl⟩ ⟨Nat.le_of_ble_eq_true rfl, Nat.le_of_ble_eq_true rfl⟩ (by decide) (by decide) rfl (Nat.le_of_ble_eq_true rfl) dX6_minutesToPay_34 ?_
      refine r_aload_n C0 (kk := 0) 0 rfl dX6_minutesToPay_37 ?_
      refine r_get4 C0 h0.1 2 (by decide) (v := .ref (g.1 2 256)) rfl rfl w3_104 dX6_minutesToPay_38 ?_
      refine r_get2 C0 h0.2.2.2.1.1 2 (by decide) (v := .ref (g.1 11 333)) rfl rfl w1_143 dX6_minutesToPay_41 ?_
      refine r_iload_n C0 (kk := 1) 1 rfl dX6_minutesToPay_44 ?_
      obtain ⟨q12, hf⟩ := gd_e hf
      have hm13 : ((1, (333 + 8 * a1.toNatClampNeg), 0) : xQ) ∈ tb := h0.2.2.2.1.2.2.2.2.2 _ (inb_lt q12)
      refine r_aald11 C0 h0.2.2.2.1.2.2.1 (inb_in q12) dX6_minutesToPay_45 ?_
      refine r_get1 C0 hm13 7 (by decide) (v := .int (M11 ((333 + 8 * a1.toNatClampNeg) + 7))) rfl rfl w1_117 dX6_minutesToPay_46 ?_
      refine r_iload_n C0 (kk := 2) 2 rfl dX6_minutesToPay_49 ?_
      refine r_icmp_le C0 (tgt := 55) (by decide) dX6_minutesToPay_50 (fun q14 => ?_) (fun q14 => ?_)
      · have hf := ie_t hf q14
        refine r_iincc C0 3 rfl (k0 := 1) (by decide) (by decide) (lv2 := [(3, .int (v3 + 1)), (0, .ref (g.1 4 1664)), (1, .int a1), (2, .int v2)]) rfl dX6_minutesToPay_55 ?_
        refine r_goto C0 (tgt := 22) (by decide) dX6_minutesToPay_58 ?_
        refine WW.sub [1, 2, 3, 0] rfl ?_
        exact hk22 _ _   _ hf
      · have hf := ie_f hf q14
        refine r_iload_n C0 (kk := 3) 3 rfl dX6_minutesToPay_53 ?_
        exact hend (by decide) (by decide) hf dX6_minutesToPay_54
  have L22 : ∀ (v2 : Int32) (v3 : Int32)  (M : xM), f_X6_minutesToPay_c22  a1 v2 v3 M = some (k, r, M') → WW p l e ({ frames := 8, cells := 1, slots := 6, locals := 124 } : Room) s m args below meth c 1 6 Q 4 D g tb 22 [(0, .ref (g.1 4 1664)), (1, .int a1), (2, .int v2), (3, .int v3)] [] M := lp_ind (P := fun f => ∀ (v2 : Int32) (v3 : Int32)  (M : xM), f v2 v3 M = some (k, r, M') → WW p l e ({ frames := 8, cells := 1, slots := 6, locals := 124 } : Room) s m args below meth c 1 6 Q 4 D g tb 22 [(0, .ref (g.1 4 1664)), (1, .int a1), (2, .int v2), (3, .int v3)] [] M) (fun _ _ _ h => none_ne h) (fun f hf => B22 f hf) FU
  unfold f_X6_minutesToPay at hf
  refine r_aload_n C0 (kk := 0) 0 rfl dX6_minutesToPay_0 ?_
  refine r_iload_n C0 (kk := 1) 1 rfl dX6_minutesToPay_1 ?_
  obtain ⟨k2, r4, M3, hc1, hx5, hf⟩ := tbd_e hf
  refine r_tcallVr C0 (As := [.int a1]) (rest := []) (c_X6_buyerAt l D g tb hT hlst h0 hc1) w4_233 w4_235 wp2_12 w1_1 w4_236 (x_rec4 C0 h0.1) hd_X6_buyerAt rfl ⟨rfl, rfl⟩ ⟨Nat.le_of_ble_eq_true rfl, Nat.le_of_ble_eq_true rfl⟩ (by decide) (by decide) rfl (Nat.le_of_ble_eq_true rfl) dX6_minutesToPay_2 (fun H1 locs1 ls E ce q hk hE hH hS hl h1 h2 h3 => hpr (by decide) (by decide) hk hE hH hS h1 h2 h3 (hx5 hk)) (fun hm6 hk => ?_)
  have hf := hf hk
  refine r_get1 C0 hm6 7 (by decide) (v := .int (M3 (r4 + 7))) rfl rfl w1_117 dX6_minutesToPay_5 ?_
  refine r_istore_n C0 (kk := 2) (lv2 := [(2, .int (M3 (r4 + 7))), (0, .ref (g.1 4 1664)), (1, .int a1)]) (by decide) rfl dX6_minutesToPay_8 ?_
  refine r_aload_n C0 (kk := 0) 1 rfl dX6_minutesToPay_9 ?_
  refine r_get4 C0 h0.1 2 (by decide) (v := .ref (g.1 2 256)) rfl rfl w3_104 dX6_minutesToPay_10 ?_
  refine r_aload_n C0 (kk := 0) 1 rfl dX6_minutesToPay_13 ?_
  refine r_get4 C0 h0.1 0 (by decide) (v := .ref (g.1 2 0)) rfl rfl w3_102 dX6_minutesToPay_14 ?_
  obtain ⟨M8, hc7, hf⟩ := bd_e hf
  refine r_callVv C0 (As := [.ref (g.1 2 0)]) (rest := []) (c_X2_copyFrom l D g tb hT h0.2.2.2.1 h0.2.1 hc7) w3_86 w3_87 w3_88 w1_2 w3_89 (x_rec2 C0 h0.2.2.2.1.1) hd_X2_copyFrom rfl ⟨rfl, rfl⟩ ⟨Nat.le_of_ble_eq_true rfl, Nat.le_of_ble_eq_true rfl⟩ (by decide) (by decide) rfl (Nat.le_of_ble_eq_true rfl) dX6_minutesToPay_17 ?_
  refine r_iconst C0 (v := 1) dX6_minutesToPay_20 rfl ?_
  refine r_istore_n C0 (kk := 3) (lv2 := [(3, .int 1), (2, .int (M3 (r4 + 7))), (0, .ref (g.1 4 1664)), (1, .int a1)]) (by decide) rfl dX6_minutesToPay_21 ?_
  refine WW.sub [2, 3, 1, 0] rfl ?_
  exact L22   _ _   _ hf
theorem dX6_earningsAfter_0 : decode cX6_earningsAfter 0 = .ok (.aload_n 0, 1) := by decide +kernel
theorem dX6_earningsAfter_1 : decode cX6_earningsAfter 1 = .ok (.iload_n 1, 1) := by decide +kernel
theorem dX6_earningsAfter_2 : decode cX6_earningsAfter 2 = .ok (.invokevirtual 173, 3) := by decide +kernel
theorem dX6_earningsAfter_5 : decode cX6_earningsAfter 5 = .ok (.iload_n 2, 1) := by decide +kernel
theorem dX6_earningsAfter_6 : decode cX6_earningsAfter 6 = .ok (.iconst 0, 1) := by decide +kernel
theorem dX6_earningsAfter_7 : decode cX6_earningsAfter 7 = .ok (.sipush 200, 3) := by decide +kernel
theorem dX6_earningsAfter_10 : decode cX6_earningsAfter 10 = .ok (.invokestatic 123, 3) := by decide +kernel
theorem dX6_earningsAfter_13 : decode cX6_earningsAfter 13 = .ok (.aload_n 0, 1) := by decide +kernel
theorem dX6_earningsAfter_14 : decode cX6_earningsAfter 14 = .ok (.getfield 19, 3) := by decide +kernel
theorem dX6_earningsAfter_17 : decode cX6_earningsAfter 17 = .ok (.aload_n 0, 1) := by decide +kernel
theorem dX6_earningsAfter_18 : decode cX6_earningsAfter 18 = .ok (.getfield 10, 3) := by decide +kernel
theorem dX6_earningsAfter_21 : decode cX6_earningsAfter 21 = .ok (.invokevirtual 69, 3) := by decide +kernel
theorem dX6_earningsAfter_24 : decode cX6_earningsAfter 24 = .ok (.aload_n 0, 1) := by decide +kernel
theorem dX6_earningsAfter_25 : decode cX6_earningsAfter 25 = .ok (.getfield 19, 3) := by decide +kernel
theorem dX6_earningsAfter_28 : decode cX6_earningsAfter 28 = .ok (.iload_n 2, 1) := by decide +kernel
theorem dX6_earningsAfter_29 : decode cX6_earningsAfter 29 = .ok (.invokevirtual 276, 3) := by decide +kernel
theorem dX6_earningsAfter_32 : decode cX6_earningsAfter 32 = .ok (.aload_n 0, 1) := by decide +kernel
theorem dX6_earningsAfter_33 : decode cX6_earningsAfter 33 = .ok (.getfield 19, 3) := by decide +kernel
theorem dX6_earningsAfter_36 : decode cX6_earningsAfter 36 = .ok (.getfield 192, 3) := by decide +kernel
theorem dX6_earningsAfter_39 : decode cX6_earningsAfter 39 = .ok (.iload_n 1, 1) := by decide +kernel
theorem dX6_earningsAfter_40 : decode cX6_earningsAfter 40 = .ok (.aaload, 1) := by decide +kernel
theorem dX6_earningsAfter_41 : decode cX6_earningsAfter 41 = .ok (.getfield 185, 3) := by decide +kernel
theorem dX6_earningsAfter_44 : decode cX6_earningsAfter 44 = .ok (.ireturn, 1) := by decide +kernel
theorem hd_X6_earningsAfter : yX6_earningsAfter.cls = RX6 ∧ yX6_earningsAfter.cls ≠ "java/lang/invoke/MethodHandle" ∧ yX6_earningsAfter.cls ≠ "java/lang/invoke/VarHandle" ∧ (parseMethodDescriptor yX6_earningsAfter.desc).map (fun d => d.parameters.length) = some 2 := by decide +kernel
set_option maxRecDepth 100000 in
set_option maxHeartbeats 4000000 in
theorem c_X6_earningsAfter (l : Launch) (D : va_G) (g : xG) (tb : List xQ) (hT : x_T g tb) (hlst : l.stackTraces = false) {a1 : Int32} {a2 : Int32} (h0 : x_fb tb) {M : xM} {k : Nat} {r : Int32} {M' : xM} (hf : f_X6_earningsAfter a1 a2 M = some (k, r, M')) :
    tI l D g tb yX6_earningsAfter cX6_earningsAfter 3 .int ({ frames := 7, cells := 2, slots := 12, locals := 104 } : Room) 2 [.ref (g.1 4 1664), .int a1, .int a2] M k r M' := by
  refine x_tstartI (own := RX6) (r := r) (by decide +kernel) rfl rfl (Nat.le_of_ble_eq_true rfl) hT ?_
  intro p e s m args below meth c Q C0 hend hpr hthr
  unfold f_X6_earningsAfter at hf
  refine r_aload_n C0 (kk := 0) 0 rfl dX6_earningsAfter_0 ?_
  refine r_iload_n C0 (kk := 1) 1 rfl dX6_earningsAfter_1 ?_
  obtain ⟨k2, r4, M3, hc1, hx5, hf⟩ := tbd_e hf
  refine r_tcallVv C0 (As := [.int a1]) (rest := []) (c_X6_checkStall l D g tb hT hlst h0 hc1) w4_129 w4_131 wp2_11 w1_1 w4_132 (x_rec4 C0 h0.1) hd_X6_checkStall rfl ⟨rfl, rfl⟩ ⟨Nat.le_of_ble_eq_true rfl, Nat.le_of_ble_eq_true rfl⟩ (by decide) (by decide) rfl (Nat.le_of_ble_eq_true rfl) dX6_earningsAfter_2 (fun H1 locs1 ls E ce q hk hE hH hS hl h1 h2 h3 => hpr (by decide) (by decide) hk hE hH hS h1 h2 h3 (hx5 hk)) (fun hk => ?_)
  have hf := hf hk
  refine r_iload_n C0 (kk := 2) 2 rfl dX6_earningsAfter_5 ?_
  refine r_iconst C0 (v := 0) dX6_earningsAfter_6 rfl ?_
  refine r_sipush C0 (v := 200) dX6_earningsAfter_7 rfl ?_
  obtain ⟨k8, r10, M9, hc7, hx11, hf⟩ := tbd_e hf
  refine r_tcallSv C0 (As := [.int a2, .int 0, .int 200]) (rest := []) (c_X6_checkRange l D g tb hT hlst  hc7) w4_45 w4_46 w1_1 w4_47 hd_X6_checkRange rfl ⟨rfl, rfl⟩ ⟨Nat.le_of_ble_eq_true rfl, Nat.le_of_ble_eq_true rfl⟩ (by decide) (by decide) rfl (Nat.le_of_ble_eq_true rfl) dX6_earningsAfter_10 (fun H1 locs1 ls E ce q hk hE hH hS hl h1 h2 h3 => hpr (by decide) (by decide) hk hE hH hS h1 h2 h3 (hx11 hk)) (fun hk => ?_)
  have hf := hf hk
  refine r_aload_n C0 (kk := 0) 0 rfl dX6_earningsAfter_13 ?_
  refine r_get4 C0 h0.1 2 (by decide) (v := .ref (g.1 2 256)) rfl rfl w3_104 dX6_earningsAfter_14 ?_
  refine r_aload_n C0 (kk := 0) 0 rfl dX6_earningsAfter_17 ?_
  refine r_get4 C0 h0.1 0 (by decide) (v := .ref (g.1 2 0)) rfl rfl w3_102 dX6_earningsAfter_18 ?_
  obtain ⟨M14, hc13, hf⟩ := bd_e hf
  refine r_callVv C0 (As := [.ref (g.1 2 0)]) (rest := []) (c_X2_copyFrom l D g tb hT h0.2.2.2.1 h0.2.1 hc13) w3_86 w3_87 w3_88 w1_2 w3_89 (x_rec2 C0 h0.2.2.2.1.1) hd_X2_copyFrom rfl ⟨rfl, rfl⟩ ⟨Nat.le_of_ble_eq_true rfl, Nat.le_of_ble_eq_true rfl⟩ (by decide) (by decide) rfl (Nat.le_of_ble_eq_true rfl) dX6_earningsAfter_21 ?_
  refine r_aload_n C0 (kk := 0) 0 rfl dX6_earningsAfter_24 ?_
  refine r_get4 C0 h0.1 2 (by decide) (v := .ref (g.1 2 256)) rfl rfl w3_104 dX6_earningsAfter_25 ?_
  refine r_iload_n C0 (kk := 2) 2 rfl dX6_earningsAfter_28 ?_
  obtain ⟨M16, hc15, hf⟩ := bd_e hf
  refine r_callVv C0 (As := [.int a2]) (rest := []) (c_X2_pass l D g tb hT h0.2.2.2.1 hc15) w4_19 w3_17 w3_18 w1_2 w3_19 (x_rec2 C0 h0.2.2.2.1.1) hd_X2_pass rfl ⟨rfl, rfl⟩ ⟨Nat.le_of_ble_eq_true rfl, Nat.le_of_ble_eq_true rfl⟩ (by decide) (by decide) rfl (Nat.le_of_ble_eq_true rfl) dX6_earningsAfter_29 ?_
  refine r_aload_n C0 (kk := 0) 0 rfl dX6_earningsAfter_32 ?_
  refine r_get4 C0 h0.1 2 (by decide) (v := .ref (g.1 2 256)) rfl rfl w3_104 dX6_earningsAfter_33 ?_
  refine r_get2 C0 h0.2.2.2.1.1 0 (by decide) (v := .ref (g.1 10 279)) rfl rfl w1_137 dX6_earningsAfter_36 ?_
  refine r_iload_n C0 (kk := 1) 1 rfl dX6_earningsAfter_39 ?_
  obtain ⟨q17, hf⟩ := gd_e hf
  have hm18 : ((0, (279 + 9 * a1.toNatClampNeg), 0) : xQ) ∈ tb := h0.2.2.2.1.2.2.2.2.1 _ (inb_lt q17)
  refine r_aald10 C0 h0.2.2.2.1.2.1 (inb_in q17) dX6_earningsAfter_40 ?_
  refine r_get0 C0 hm18 7 (by decide) (v := .int (M16 ((279 + 9 * a1.toNatClampNeg) + 7))) rfl rfl w1_71 dX6_earningsAfter_41 ?_
  exact hend (by decide) (by decide) hf dX6_earningsAfter_44
theorem dX6_bestPrice_0 : decode cX6_bestPrice 0 = .ok (.aload_n 0, 1) := by decide +kernel
theorem dX6_bestPrice_1 : decode cX6_bestPrice 1 = .ok (.iload_n 1, 1) := by decide +kernel
theorem dX6_bestPrice_2 : decode cX6_bestPrice 2 = .ok (.invokevirtual 173, 3) := by decide +kernel
theorem dX6_bestPrice_5 : decode cX6_bestPrice 5 = .ok (.iconst (-1), 1) := by decide +kernel
theorem dX6_bestPrice_6 : decode cX6_bestPrice 6 = .ok (.istore_n 2, 1) := by decide +kernel
theorem dX6_bestPrice_7 : decode cX6_bestPrice 7 = .ok (.iconst (-1), 1) := by decide +kernel
theorem dX6_bestPrice_8 : decode cX6_bestPrice 8 = .ok (.istore_n 3, 1) := by decide +kernel
theorem dX6_bestPrice_9 : decode cX6_bestPrice 9 = .ok (.iconst 1, 1) := by decide +kernel
theorem dX6_bestPrice_10 : decode cX6_bestPrice 10 = .ok (.istore 4, 2) := by decide +kernel
theorem dX6_bestPrice_12 : decode cX6_bestPrice 12 = .ok (.iload 4, 2) := by decide +kernel
theorem dX6_bestPrice_14 : decode cX6_bestPrice 14 = .ok (.bipush 60, 2) := by decide +kernel
theorem dX6_bestPrice_16 : decode cX6_bestPrice 16 = .ok (.if_icmp .gt 75, 3) := by decide +kernel
theorem dX6_bestPrice_19 : decode cX6_bestPrice 19 = .ok (.aload_n 0, 1) := by decide +kernel
theorem dX6_bestPrice_20 : decode cX6_bestPrice 20 = .ok (.getfield 19, 3) := by decide +kernel
theorem dX6_bestPrice_23 : decode cX6_bestPrice 23 = .ok (.aload_n 0, 1) := by decide +kernel
theorem dX6_bestPrice_24 : decode cX6_bestPrice 24 = .ok (.getfield 10, 3) := by decide +kernel
theorem dX6_bestPrice_27 : decode cX6_bestPrice 27 = .ok (.invokevirtual 69, 3) := by decide +kernel
theorem dX6_bestPrice_30 : decode cX6_bestPrice 30 = .ok (.aload_n 0, 1) := by decide +kernel
theorem dX6_bestPrice_31 : decode cX6_bestPrice 31 = .ok (.getfield 19, 3) := by decide +kernel
theorem dX6_bestPrice_34 : decode cX6_bestPrice 34 = .ok (.getfield 192, 3) := by decide +kernel
theorem dX6_bestPrice_37 : decode cX6_bestPrice 37 = .ok (.iload_n 1, 1) := by decide +kernel
theorem dX6_bestPrice_38 : decode cX6_bestPrice 38 = .ok (.aaload, 1) := by decide +kernel
theorem dX6_bestPrice_39 : decode cX6_bestPrice 39 = .ok (.iload 4, 2) := by decide +kernel
theorem dX6_bestPrice_41 : decode cX6_bestPrice 41 = .ok (.putfield 167, 3) := by decide +kernel
theorem dX6_bestPrice_44 : decode cX6_bestPrice 44 = .ok (.aload_n 0, 1) := by decide +kernel
theorem dX6_bestPrice_45 : decode cX6_bestPrice 45 = .ok (.getfield 19, 3) := by decide +kernel
theorem dX6_bestPrice_48 : decode cX6_bestPrice 48 = .ok (.bipush 60, 2) := by decide +kernel
theorem dX6_bestPrice_50 : decode cX6_bestPrice 50 = .ok (.invokevirtual 276, 3) := by decide +kernel
theorem dX6_bestPrice_53 : decode cX6_bestPrice 53 = .ok (.aload_n 0, 1) := by decide +kernel
theorem dX6_bestPrice_54 : decode cX6_bestPrice 54 = .ok (.getfield 19, 3) := by decide +kernel
theorem dX6_bestPrice_57 : decode cX6_bestPrice 57 = .ok (.getfield 192, 3) := by decide +kernel
theorem dX6_bestPrice_60 : decode cX6_bestPrice 60 = .ok (.iload_n 1, 1) := by decide +kernel
theorem dX6_bestPrice_61 : decode cX6_bestPrice 61 = .ok (.aaload, 1) := by decide +kernel
theorem dX6_bestPrice_62 : decode cX6_bestPrice 62 = .ok (.getfield 185, 3) := by decide +kernel
theorem dX6_bestPrice_65 : decode cX6_bestPrice 65 = .ok (.iload_n 3, 1) := by decide +kernel
theorem dX6_bestPrice_66 : decode cX6_bestPrice 66 = .ok (.if_icmp .le 19, 3) := by decide +kernel
theorem dX6_bestPrice_69 : decode cX6_bestPrice 69 = .ok (.aload_n 0, 1) := by decide +kernel
theorem dX6_bestPrice_70 : decode cX6_bestPrice 70 = .ok (.getfield 19, 3) := by decide +kernel
theorem dX6_bestPrice_73 : decode cX6_bestPrice 73 = .ok (.getfield 192, 3) := by decide +kernel
theorem dX6_bestPrice_76 : decode cX6_bestPrice 76 = .ok (.iload_n 1, 1) := by decide +kernel
theorem dX6_bestPrice_77 : decode cX6_bestPrice 77 = .ok (.aaload, 1) := by decide +kernel
theorem dX6_bestPrice_78 : decode cX6_bestPrice 78 = .ok (.getfield 185, 3) := by decide +kernel
theorem dX6_bestPrice_81 : decode cX6_bestPrice 81 = .ok (.istore_n 3, 1) := by decide +kernel
theorem dX6_bestPrice_82 : decode cX6_bestPrice 82 = .ok (.iload 4, 2) := by decide +kernel
theorem dX6_bestPrice_84 : decode cX6_bestPrice 84 = .ok (.istore_n 2, 1) := by decide +kernel
theorem dX6_bestPrice_85 : decode cX6_bestPrice 85 = .ok (.iinc 4 1, 3) := by decide +kernel
theorem dX6_bestPrice_88 : decode cX6_bestPrice 88 = .ok (.goto (-76), 3) := by decide +kernel
theorem dX6_bestPrice_91 : decode cX6_bestPrice 91 = .ok (.iload_n 2, 1) := by decide +kernel
theorem dX6_bestPrice_92 : decode cX6_bestPrice 92 = .ok (.ireturn, 1) := by decide +kernel
theorem hd_X6_bestPrice : yX6_bestPrice.cls = RX6 ∧ yX6_bestPrice.cls ≠ "java/lang/invoke/MethodHandle" ∧ yX6_bestPrice.cls ≠ "java/lang/invoke/VarHandle" ∧ (parseMethodDescriptor yX6_bestPrice.desc).map (fun d => d.parameters.length) = some 1 := by decide +kernel
set_option maxRecDepth 100000 in
set_option maxHeartbeats 4000000 in
theorem c_X6_bestPrice (l : Launch) (D : va_G) (g : xG) (tb : List xQ) (hT : x_T g tb) (hlst : l.stackTraces = false) {a1 : Int32} (h0 : x_fb tb) {M : xM} {k : Nat} {r : Int32} {M' : xM} (hf : f_X6_bestPrice a1 M = some (k, r, M')) :
    tI l D g tb yX6_bestPrice cX6_bestPrice 5 .int ({ frames := 7, cells := 1, slots := 6, locals := 103 } : Room) 1 [.ref (g.1 4 1664), .int a1] M k r M' := by
  refine x_tstartI (own := RX6) (r := r) (by decide +kernel) rfl rfl (Nat.le_of_ble_eq_true rfl) hT ?_
  intro p e s m args below meth c Q C0 hend hpr hthr
  have B12 : ∀ (k12 : Int32 → Int32 → Int32 → xM → Option (Nat × Int32 × xM)) (hk12 : ∀ (v2 : Int32) (v3 : Int32) (v4 : Int32)  (M : xM), k12 v2 v3 v4 M = some (k, r, M') → WW p l e ({ frames := 7, cells := 1, slots := 6, locals := 103 } : Room) s m args below meth c 1 6 Q 5 D g tb 12 [(0, .ref (g.1 4 1664)), (1, .int a1), (2, .int v2), (3, .int v3), (4, .int v4)] [] M), ∀ (v2 : Int32) (v3 : Int32) (v4 : Int32)  (M : xM), fb_X6_bestPrice_c12 k12 a1 v2 v3 v4 M = some (k, r, M') → WW p l e ({ frames := 7, cells := 1, slots := 6, locals := 103 } : Room) s m args below meth c 1 6 Q 5 D g tb 12 [(0, .ref (g.1 4 1664)), (1, .int a1), (2, .int v2), (3, .int v3), (4, .int v4)] [] M := by
    intro k12 hk12 v2 v3 v4  M hf
    unfold fb_X6_bestPrice_c12 at hf
    refine r_iload C0 4 rfl dX6_bestPrice_12 ?_
    refine r_bipush C0 (v := 60) dX6_bestPrice_14 rfl ?_
    refine r_icmp_gt C0 (tgt := 91) (by decide) dX6_bestPrice_16 (fun q7 => ?_) (fun q7 => ?_)
    · have hf := ie_t hf q7
      refine r_iload_n C0 (kk := 2) 2 rfl dX6_bestPrice_91 ?_
      exact hend (by decide) (by decide) hf dX6_bestPrice_92
    · have hf := ie_f hf q7
      refine r_aload_n C0 (kk := 0) 0 rfl dX6_bestPrice_19 ?_
      refine r_get4 C0 h0.1 2 (by decide) (v := .ref (g.1 2 256)) rfl rfl w3_104 dX6_bestPrice_20 ?_
      refine r_aload_n C0 (kk := 0) 0 rfl dX6_bestPrice_23 ?_
      refine r_get4 C0 h0.1 0 (by decide) (v := .ref (g.1 2 0)) rfl rfl w3_102 dX6_bestPrice_24 ?_
      obtain ⟨M9, hc8, hf⟩ := bd_e hf
      refine r_callVv C0 (As := [.ref (g.1 2 0)]) (rest := []) (c_X2_copyFrom l D g tb hT h0.2.2.2.1 h0.2.1 hc8) w3_86 w3_87 w3_88 w1_2 w3_89 (x_rec2 C0 h0.2.2.2.1.1) hd_X2_copyFrom rfl ⟨rfl, rfl⟩ ⟨Nat.le_of_ble_eq_true rfl, Nat.le_of_ble_eq_true rfl⟩ (by decide) (by decide) rfl (Nat.le_of_ble_eq_true rfl) dX6_bestPrice_27 ?_
      refine r_aload_n C0 (kk := 0) 0 rfl dX6_bestPrice_30 ?_
      refine r_get4 C0 h0.1 2 (by decide) (v := .ref (g.1 2 256)) rfl rfl w3_104 dX6_bestPrice_31 ?_
      refine r_get2 C0 h0.2.2.2.1.1 0 (by decide) (v := .ref (g.1 10 279)) rfl rfl w1_137 dX6_bestPrice_34 ?_
      refine r_iload_n C0 (kk := 1) 1 rfl dX6_bestPrice_37 ?_
      obtain ⟨q10, hf⟩ := gd_e hf
      have hm11 : ((0, (279 + 9 * a1.toNatClampNeg), 0) : xQ) ∈ tb := h0.2.2.2.1.2.2.2.2.1 _ (inb_lt q10)
      refine r_aald10 C0 h0.2.2.2.1.2.1 (inb_in q10) dX6_bestPrice_38 ?_
      refine r_iload C0 4 rfl dX6_bestPrice_39 ?_
      refine r_put0 C0 hm11 3 rfl rfl w1_57 rfl rfl rfl dX6_bestPrice_41 ?_
      refine r_aload_n C0 (kk := 0) 0 rfl dX6_bestPrice_44 ?_
      refine r_get4 C0 h0.1 2 (by decide) (v := .ref (g.1 2 256)) rfl rfl w3_104 dX6_bestPrice_45 ?_
      refine r_bipush C0 (v := 60) dX6_bestPrice_48 rfl ?_
      obtain ⟨M13, hc12, hf⟩ := bd_e hf
      refine r_callVv C0 (As := [.int 60]) (rest := []) (c_X2_pass l D g tb hT h0.2.2.2.1 hc12) w4_19 w3_17 w3_18 w1_2 w3_19 (x_rec2 C0 h0.2.2.2.1.1) hd_X2_pass rfl ⟨rfl, rfl⟩ ⟨Nat.le_of_ble_eq_true rfl, Nat.le_of_ble_eq_true rfl⟩ (by decide) (by decide) rfl (Nat.le_of_ble_eq_true rfl) dX6_bestPrice_50 ?_
      refine r_aload_n C0 (kk := 0) 0 rfl dX6_bestPrice_53 ?_
      refine r_get4 C0 h0.1 2 (by decide) (v := .ref (g.1 2 256)) rfl rfl w3_104 dX6_bestPrice_54 ?_
      refine r_get2 C0 h0.2.2.2.1.1 0 (by decide) (v := .ref (g.1 10 279)) rfl rfl w1_137 dX6_bestPrice_57 ?_
      refine r_iload_n C0 (kk := 1) 1 rfl dX6_bestPrice_60 ?_
      obtain ⟨q14, hf⟩ := gd_e hf
      have hm15 : ((0, (279 + 9 * a1.toNatClampNeg), 0) : xQ) ∈ tb := h0.2.2.2.1.2.2.2.2.1 _ (inb_lt q14)
      refine r_aald10 C0 h0.2.2.2.1.2.1 (inb_in q14) dX6_bestPrice_61 ?_
      refine r_get0 C0 hm15 7 (by decide) (v := .int (M13 ((279 + 9 * a1.toNatClampNeg) + 7))) rfl rfl w1_71 dX6_bestPrice_62 ?_
      refine r_iload_n C0 (kk := 3) 3 rfl dX6_bestPrice_65 ?_
      refine r_icmp_le C0 (tgt := 85) (by decide) dX6_bestPrice_66 (fun q16 => ?_) (fun q16 => ?_)
      · have hf := ie_t hf q16
        refine r_iincc C0 4 rfl (k0 := 1) (by decide) (by decide) (lv2 := [(4, .int (v4 + 1)), (0, .ref (g.1 4 1664)), (1, .int a1), (2, .int v2), (3, .int v3)]) rfl dX6_bestPrice_85 ?_
        refine r_goto C0 (tgt := 12) (by decide) dX6_bestPrice_88 ?_
        refine WW.sub [1, 2, 3, 4, 0] rfl ?_
        exact hk12 _ _ _   _ hf
      · have hf := ie_f hf q16
        refine r_aload_n C0 (kk := 0) 0 rfl dX6_bestPrice_69 ?_
        refine r_get4 C0 h0.1 2 (by decide) (v := .ref (g.1 2 256)) rfl rfl w3_104 dX6_bestPrice_70 ?_
        refine r_get2 C0 h0.2.2.2.1.1 0 (by decide) (v := .ref (g.1 10 279)) rfl rfl w1_137 dX6_bestPrice_73 ?_
        refine r_iload_n C0 (kk := 1) 1 rfl dX6_bestPrice_76 ?_
        obtain ⟨q17, hf⟩ := gd_e hf
        have hm18 : ((0, (279 + 9 * a1.toNatClampNeg), 0) : xQ) ∈ tb := h0.2.2.2.1.2.2.2.2.1 _ (inb_lt q17)
        refine r_aald10 C0 h0.2.2.2.1.2.1 (inb_in q17) dX6_bestPrice_77 ?_
        refine r_get0 C0 hm18 7 (by decide) (v := .int (M13 ((279 + 9 * a1.toNatClampNeg) + 7))) rfl rfl w1_71 dX6_bestPrice_78 ?_
        refine r_istore_n C0 (kk := 3) (lv2 := [(3, .int (M13 ((279 + 9 * a1.toNatClampNeg) + 7))), (0, .ref (g.1 4 1664)), (1, .int a1), (2, .int v2), (4, .int v4)]) (by decide) rfl dX6_bestPrice_81 ?_
        refine r_iload C0 4 rfl dX6_bestPrice_82 ?_
        refine r_istore_n C0 (kk := 2) (lv2 := [(2, .int v4), (3, .int (M13 ((279 + 9 * a1.toNatClampNeg) + 7))), (0, .ref (g.1 4 1664)), (1, .int a1), (4, .int v4)]) (by decide) rfl dX6_bestPrice_84 ?_
        refine r_iincc C0 4 rfl (k0 := 1) (by decide) (by decide) (lv2 := [(4, .int (v4 + 1)), (2, .int v4), (3, .int (M13 ((279 + 9 * a1.toNatClampNeg) + 7))), (0, .ref (g.1 4 1664)), (1, .int a1)]) rfl dX6_bestPrice_85 ?_
        refine r_goto C0 (tgt := 12) (by decide) dX6_bestPrice_88 ?_
        refine WW.sub [3, 4, 1, 2, 0] rfl ?_
        exact hk12 _ _ _   _ hf
  have L12 : ∀ (v2 : Int32) (v3 : Int32) (v4 : Int32)  (M : xM), f_X6_bestPrice_c12  a1 v2 v3 v4 M = some (k, r, M') → WW p l e ({ frames := 7, cells := 1, slots := 6, locals := 103 } : Room) s m args below meth c 1 6 Q 5 D g tb 12 [(0, .ref (g.1 4 1664)), (1, .int a1), (2, .int v2), (3, .int v3), (4, .int v4)] [] M := lp_ind (P := fun f => ∀ (v2 : Int32) (v3 : Int32) (v4 : Int32)  (M : xM), f v2 v3 v4 M = some (k, r, M') → WW p l e ({ frames := 7, cells := 1, slots := 6, locals := 103 } : Room) s m args below meth c 1 6 Q 5 D g tb 12 [(0, .ref (g.1 4 1664)), (1, .int a1), (2, .int v2), (3, .int v3), (4, .int v4)] [] M) (fun _ _ _ _ h => none_ne h) (fun f hf => B12 f hf) FU
  unfold f_X6_bestPrice at hf
  refine r_aload_n C0 (kk := 0) 0 rfl dX6_bestPrice_0 ?_
  refine r_iload_n C0 (kk := 1) 1 rfl dX6_bestPrice_1 ?_
  obtain ⟨k2, r4, M3, hc1, hx5, hf⟩ := tbd_e hf
  refine r_tcallVv C0 (As := [.int a1]) (rest := []) (c_X6_checkStall l D g tb hT hlst h0 hc1) w4_129 w4_131 wp2_11 w1_1 w4_132 (x_rec4 C0 h0.1) hd_X6_checkStall rfl ⟨rfl, rfl⟩ ⟨Nat.le_of_ble_eq_true rfl, Nat.le_of_ble_eq_true rfl⟩ (by decide) (by decide) rfl (Nat.le_of_ble_eq_true rfl) dX6_bestPrice_2 (fun H1 locs1 ls E ce q hk hE hH hS hl h1 h2 h3 => hpr (by decide) (by decide) hk hE hH hS h1 h2 h3 (hx5 hk)) (fun hk => ?_)
  have hf := hf hk
  refine r_iconst C0 (v := (-1)) dX6_bestPrice_5 rfl ?_
  refine r_istore_n C0 (kk := 2) (lv2 := [(2, .int (-1)), (0, .ref (g.1 4 1664)), (1, .int a1)]) (by decide) rfl dX6_bestPrice_6 ?_
  refine r_iconst C0 (v := (-1)) dX6_bestPrice_7 rfl ?_
  refine r_istore_n C0 (kk := 3) (lv2 := [(3, .int (-1)), (2, .int (-1)), (0, .ref (g.1 4 1664)), (1, .int a1)]) (by decide) rfl dX6_bestPrice_8 ?_
  refine r_iconst C0 (v := 1) dX6_bestPrice_9 rfl ?_
  refine r_istore C0 (lv2 := [(4, .int 1), (3, .int (-1)), (2, .int (-1)), (0, .ref (g.1 4 1664)), (1, .int a1)]) (by decide) rfl dX6_bestPrice_10 ?_
  refine WW.sub [3, 4, 2, 1, 0] rfl ?_
  exact L12   _ _ _   _ hf
theorem dX6_bestLantern_0 : decode cX6_bestLantern 0 = .ok (.aload_n 0, 1) := by decide +kernel
theorem dX6_bestLantern_1 : decode cX6_bestLantern 1 = .ok (.iload_n 1, 1) := by decide +kernel
theorem dX6_bestLantern_2 : decode cX6_bestLantern 2 = .ok (.invokevirtual 173, 3) := by decide +kernel
theorem dX6_bestLantern_5 : decode cX6_bestLantern 5 = .ok (.iconst (-1), 1) := by decide +kernel
theorem dX6_bestLantern_6 : decode cX6_bestLantern 6 = .ok (.istore_n 2, 1) := by decide +kernel
theorem dX6_bestLantern_7 : decode cX6_bestLantern 7 = .ok (.iconst (-1), 1) := by decide +kernel
theorem dX6_bestLantern_8 : decode cX6_bestLantern 8 = .ok (.istore_n 3, 1) := by decide +kernel
theorem dX6_bestLantern_9 : decode cX6_bestLantern 9 = .ok (.iconst 0, 1) := by decide +kernel
theorem dX6_bestLantern_10 : decode cX6_bestLantern 10 = .ok (.istore 4, 2) := by decide +kernel
theorem dX6_bestLantern_12 : decode cX6_bestLantern 12 = .ok (.iload 4, 2) := by decide +kernel
theorem dX6_bestLantern_14 : decode cX6_bestLantern 14 = .ok (.iconst 3, 1) := by decide +kernel
theorem dX6_bestLantern_15 : decode cX6_bestLantern 15 = .ok (.if_icmp .gt 75, 3) := by decide +kernel
theorem dX6_bestLantern_18 : decode cX6_bestLantern 18 = .ok (.aload_n 0, 1) := by decide +kernel
theorem dX6_bestLantern_19 : decode cX6_bestLantern 19 = .ok (.getfield 19, 3) := by decide +kernel
theorem dX6_bestLantern_22 : decode cX6_bestLantern 22 = .ok (.aload_n 0, 1) := by decide +kernel
theorem dX6_bestLantern_23 : decode cX6_bestLantern 23 = .ok (.getfield 10, 3) := by decide +kernel
theorem dX6_bestLantern_26 : decode cX6_bestLantern 26 = .ok (.invokevirtual 69, 3) := by decide +kernel
theorem dX6_bestLantern_29 : decode cX6_bestLantern 29 = .ok (.aload_n 0, 1) := by decide +kernel
theorem dX6_bestLantern_30 : decode cX6_bestLantern 30 = .ok (.getfield 19, 3) := by decide +kernel
theorem dX6_bestLantern_33 : decode cX6_bestLantern 33 = .ok (.getfield 192, 3) := by decide +kernel
theorem dX6_bestLantern_36 : decode cX6_bestLantern 36 = .ok (.iload_n 1, 1) := by decide +kernel
theorem dX6_bestLantern_37 : decode cX6_bestLantern 37 = .ok (.aaload, 1) := by decide +kernel
theorem dX6_bestLantern_38 : decode cX6_bestLantern 38 = .ok (.iload 4, 2) := by decide +kernel
theorem dX6_bestLantern_40 : decode cX6_bestLantern 40 = .ok (.putfield 161, 3) := by decide +kernel
theorem dX6_bestLantern_43 : decode cX6_bestLantern 43 = .ok (.aload_n 0, 1) := by decide +kernel
theorem dX6_bestLantern_44 : decode cX6_bestLantern 44 = .ok (.getfield 19, 3) := by decide +kernel
theorem dX6_bestLantern_47 : decode cX6_bestLantern 47 = .ok (.bipush 60, 2) := by decide +kernel
theorem dX6_bestLantern_49 : decode cX6_bestLantern 49 = .ok (.invokevirtual 276, 3) := by decide +kernel
theorem dX6_bestLantern_52 : decode cX6_bestLantern 52 = .ok (.aload_n 0, 1) := by decide +kernel
theorem dX6_bestLantern_53 : decode cX6_bestLantern 53 = .ok (.getfield 19, 3) := by decide +kernel
theorem dX6_bestLantern_56 : decode cX6_bestLantern 56 = .ok (.getfield 192, 3) := by decide +kernel
theorem dX6_bestLantern_59 : decode cX6_bestLantern 59 = .ok (.iload_n 1, 1) := by decide +kernel
theorem dX6_bestLantern_60 : decode cX6_bestLantern 60 = .ok (.aaload, 1) := by decide +kernel
theorem dX6_bestLantern_61 : decode cX6_bestLantern 61 = .ok (.getfield 185, 3) := by decide +kernel
theorem dX6_bestLantern_64 : decode cX6_bestLantern 64 = .ok (.iload_n 3, 1) := by decide +kernel
theorem dX6_bestLantern_65 : decode cX6_bestLantern 65 = .ok (.if_icmp .le 19, 3) := by decide +kernel
theorem dX6_bestLantern_68 : decode cX6_bestLantern 68 = .ok (.aload_n 0, 1) := by decide +kernel
theorem dX6_bestLantern_69 : decode cX6_bestLantern 69 = .ok (.getfield 19, 3) := by decide +kernel
theorem dX6_bestLantern_72 : decode cX6_bestLantern 72 = .ok (.getfield 192, 3) := by decide +kernel
theorem dX6_bestLantern_75 : decode cX6_bestLantern 75 = .ok (.iload_n 1, 1) := by decide +kernel
theorem dX6_bestLantern_76 : decode cX6_bestLantern 76 = .ok (.aaload, 1) := by decide +kernel
theorem dX6_bestLantern_77 : decode cX6_bestLantern 77 = .ok (.getfield 185, 3) := by decide +kernel
theorem dX6_bestLantern_80 : decode cX6_bestLantern 80 = .ok (.istore_n 3, 1) := by decide +kernel
theorem dX6_bestLantern_81 : decode cX6_bestLantern 81 = .ok (.iload 4, 2) := by decide +kernel
theorem dX6_bestLantern_83 : decode cX6_bestLantern 83 = .ok (.istore_n 2, 1) := by decide +kernel
theorem dX6_bestLantern_84 : decode cX6_bestLantern 84 = .ok (.iinc 4 1, 3) := by decide +kernel
theorem dX6_bestLantern_87 : decode cX6_bestLantern 87 = .ok (.goto (-75), 3) := by decide +kernel
theorem dX6_bestLantern_90 : decode cX6_bestLantern 90 = .ok (.iload_n 2, 1) := by decide +kernel
theorem dX6_bestLantern_91 : decode cX6_bestLantern 91 = .ok (.ireturn, 1) := by decide +kernel
theorem hd_X6_bestLantern : yX6_bestLantern.cls = RX6 ∧ yX6_bestLantern.cls ≠ "java/lang/invoke/MethodHandle" ∧ yX6_bestLantern.cls ≠ "java/lang/invoke/VarHandle" ∧ (parseMethodDescriptor yX6_bestLantern.desc).map (fun d => d.parameters.length) = some 1 := by decide +kernel
set_option maxRecDepth 100000 in
set_option maxHeartbeats 4000000 in
theorem c_X6_bestLantern (l : Launch) (D : va_G) (g : xG) (tb : List xQ) (hT : x_T g tb) (hlst : l.stackTraces = false) {a1 : Int32} (h0 : x_fb tb) {M : xM} {k : Nat} {r : Int32} {M' : xM} (hf : f_X6_bestLantern a1 M = some (k, r, M')) :
    tI l D g tb yX6_bestLantern cX6_bestLantern 5 .int ({ frames := 7, cells := 1, slots := 6, locals := 103 } : Room) 1 [.ref (g.1 4 1664), .int a1] M k r M' := by
  refine x_tstartI (own := RX6) (r := r) (by decide +kernel) rfl rfl (Nat.le_of_ble_eq_true rfl) hT ?_
  intro p e s m args below meth c Q C0 hend hpr hthr
  have B12 : ∀ (k12 : Int32 → Int32 → Int32 → xM → Option (Nat × Int32 × xM)) (hk12 : ∀ (v2 : Int32) (v3 : Int32) (v4 : Int32)  (M : xM), k12 v2 v3 v4 M = some (k, r, M') → WW p l e ({ frames := 7, cells := 1, slots := 6, locals := 103 } : Room) s m args below meth c 1 6 Q 5 D g tb 12 [(0, .ref (g.1 4 1664)), (1, .int a1), (2, .int v2), (3, .int v3), (4, .int v4)] [] M), ∀ (v2 : Int32) (v3 : Int32) (v4 : Int32)  (M : xM), fb_X6_bestLantern_c12 k12 a1 v2 v3 v4 M = some (k, r, M') → WW p l e ({ frames := 7, cells := 1, slots := 6, locals := 103 } : Room) s m args below meth c 1 6 Q 5 D g tb 12 [(0, .ref (g.1 4 1664)), (1, .int a1), (2, .int v2), (3, .int v3), (4, .int v4)] [] M := by
    intro k12 hk12 v2 v3 v4  M hf
    unfold fb_X6_bestLantern_c12 at hf
    refine r_iload C0 4 rfl dX6_bestLantern_12 ?_
    refine r_iconst C0 (v := 3) dX6_bestLantern_14 rfl ?_
    refine r_icmp_gt C0 (tgt := 90) (by decide) dX6_bestLantern_15 (fun q7 => ?_) (fun q7 => ?_)
    · have hf := ie_t hf q7
      refine r_iload_n C0 (kk := 2) 2 rfl dX6_bestLantern_90 ?_
      exact hend (by decide) (by decide) hf dX6_bestLantern_91
    · have hf := ie_f hf q7
      refine r_aload_n C0 (kk := 0) 0 rfl dX6_bestLantern_18 ?_
      refine r_get4 C0 h0.1 2 (by decide) (v := .ref (g.1 2 256)) rfl rfl w3_104 dX6_bestLantern_19 ?_
      refine r_aload_n C0 (kk := 0) 0 rfl dX6_bestLantern_22 ?_
      refine r_get4 C0 h0.1 0 (by decide) (v := .ref (g.1 2 0)) rfl rfl w3_102 dX6_bestLantern_23 ?_
      obtain ⟨M9, hc8, hf⟩ := bd_e hf
      refine r_callVv C0 (As := [.ref (g.1 2 0)]) (rest := []) (c_X2_copyFrom l D g tb hT h0.2.2.2.1 h0.2.1 hc8) w3_86 w3_87 w3_88 w1_2 w3_89 (x_rec2 C0 h0.2.2.2.1.1) hd_X2_copyFrom rfl ⟨rfl, rfl⟩ ⟨Nat.le_of_ble_eq_true rfl, Nat.le_of_ble_eq_true rfl⟩ (by decide) (by decide) rfl (Nat.le_of_ble_eq_true rfl) dX6_bestLantern_26 ?_
      refine r_aload_n C0 (kk := 0) 0 rfl dX6_bestLantern_29 ?_
      refine r_get4 C0 h0.1 2 (by decide) (v := .ref (g.1 2 256)) rfl rfl w3_104 dX6_bestLantern_30 ?_
      refine r_get2 C0 h0.2.2.2.1.1 0 (by decide) (v := .ref (g.1 10 279)) rfl rfl w1_137 dX6_bestLantern_33 ?_
      refine r_iload_n C0 (kk := 1) 1 rfl dX6_bestLantern_36 ?_
      obtain ⟨q10, hf⟩ := gd_e hf
      have hm11 : ((0, (279 + 9 * a1.toNatClampNeg), 0) : xQ) ∈ tb := h0.2.2.2.1.2.2.2.2.1 _ (inb_lt q10)
      refine r_aald10 C0 h0.2.2.2.1.2.1 (inb_in q10) dX6_bestLantern_37 ?_
      refine r_iload C0 4 rfl dX6_bestLantern_38 ?_
      refine r_put0 C0 hm11 1 rfl rfl w1_50 rfl rfl rfl dX6_bestLantern_40 ?_
      refine r_aload_n C0 (kk := 0) 0 rfl dX6_bestLantern_43 ?_
      refine r_get4 C0 h0.1 2 (by decide) (v := .ref (g.1 2 256)) rfl rfl w3_104 dX6_bestLantern_44 ?_
      refine r_bipush C0 (v := 60) dX6_bestLantern_47 rfl ?_
      obtain ⟨M13, hc12, hf⟩ := bd_e hf
      refine r_callVv C0 (As := [.int 60]) (rest := []) (c_X2_pass l D g tb hT h0.2.2.2.1 hc12) w4_19 w3_17 w3_18 w1_2 w3_19 (x_rec2 C0 h0.2.2.2.1.1) hd_X2_pass rfl ⟨rfl, rfl⟩ ⟨Nat.le_of_ble_eq_true rfl, Nat.le_of_ble_eq_true rfl⟩ (by decide) (by decide) rfl (Nat.le_of_ble_eq_true rfl) dX6_bestLantern_49 ?_
      refine r_aload_n C0 (kk := 0) 0 rfl dX6_bestLantern_52 ?_
      refine r_get4 C0 h0.1 2 (by decide) (v := .ref (g.1 2 256)) rfl rfl w3_104 dX6_bestLantern_53 ?_
      refine r_get2 C0 h0.2.2.2.1.1 0 (by decide) (v := .ref (g.1 10 279)) rfl rfl w1_137 dX6_bestLantern_56 ?_
      refine r_iload_n C0 (kk := 1) 1 rfl dX6_bestLantern_59 ?_
      obtain ⟨q14, hf⟩ := gd_e hf
      have hm15 : ((0, (279 + 9 * a1.toNatClampNeg), 0) : xQ) ∈ tb := h0.2.2.2.1.2.2.2.2.1 _ (inb_lt q14)
      refine r_aald10 C0 h0.2.2.2.1.2.1 (inb_in q14) dX6_bestLantern_60 ?_
      refine r_get0 C0 hm15 7 (by decide) (v := .int (M13 ((279 + 9 * a1.toNatClampNeg) + 7))) rfl rfl w1_71 dX6_bestLantern_61 ?_
      refine r_iload_n C0 (kk := 3) 3 rfl dX6_bestLantern_64 ?_
      refine r_icmp_le C0 (tgt := 84) (by decide) dX6_bestLantern_65 (fun q16 => ?_) (fun q16 => ?_)
      · have hf := ie_t hf q16
        refine r_iincc C0 4 rfl (k0 := 1) (by decide) (by decide) (lv2 := [(4, .int (v4 + 1)), (0, .ref (g.1 4 1664)), (1, .int a1), (2, .int v2), (3, .int v3)]) rfl dX6_bestLantern_84 ?_
        refine r_goto C0 (tgt := 12) (by decide) dX6_bestLantern_87 ?_
        refine WW.sub [1, 2, 3, 4, 0] rfl ?_
        exact hk12 _ _ _   _ hf
      · have hf := ie_f hf q16
        refine r_aload_n C0 (kk := 0) 0 rfl dX6_bestLantern_68 ?_
        refine r_get4 C0 h0.1 2 (by decide) (v := .ref (g.1 2 256)) rfl rfl w3_104 dX6_bestLantern_69 ?_
        refine r_get2 C0 h0.2.2.2.1.1 0 (by decide) (v := .ref (g.1 10 279)) rfl rfl w1_137 dX6_bestLantern_72 ?_
        refine r_iload_n C0 (kk := 1) 1 rfl dX6_bestLantern_75 ?_
        obtain ⟨q17, hf⟩ := gd_e hf
        have hm18 : ((0, (279 + 9 * a1.toNatClampNeg), 0) : xQ) ∈ tb := h0.2.2.2.1.2.2.2.2.1 _ (inb_lt q17)
        refine r_aald10 C0 h0.2.2.2.1.2.1 (inb_in q17) dX6_bestLantern_76 ?_
        refine r_get0 C0 hm18 7 (by decide) (v := .int (M13 ((279 + 9 * a1.toNatClampNeg) + 7))) rfl rfl w1_71 dX6_bestLantern_77 ?_
        refine r_istore_n C0 (kk := 3) (lv2 := [(3, .int (M13 ((279 + 9 * a1.toNatClampNeg) + 7))), (0, .ref (g.1 4 1664)), (1, .int a1), (2, .int v2), (4, .int v4)]) (by decide) rfl dX6_bestLantern_80 ?_
        refine r_iload C0 4 rfl dX6_bestLantern_81 ?_
        refine r_istore_n C0 (kk := 2) (lv2 := [(2, .int v4), (3, .int (M13 ((279 + 9 * a1.toNatClampNeg) + 7))), (0, .ref (g.1 4 1664)), (1, .int a1), (4, .int v4)]) (by decide) rfl dX6_bestLantern_83 ?_
        refine r_iincc C0 4 rfl (k0 := 1) (by decide) (by decide) (lv2 := [(4, .int (v4 + 1)), (2, .int v4), (3, .int (M13 ((279 + 9 * a1.toNatClampNeg) + 7))), (0, .ref (g.1 4 1664)), (1, .int a1)]) rfl dX6_bestLantern_84 ?_
        refine r_goto C0 (tgt := 12) (by decide) dX6_bestLantern_87 ?_
        refine WW.sub [3, 4, 1, 2, 0] rfl ?_
        exact hk12 _ _ _   _ hf
  have L12 : ∀ (v2 : Int32) (v3 : Int32) (v4 : Int32)  (M : xM), f_X6_bestLantern_c12  a1 v2 v3 v4 M = some (k, r, M') → WW p l e ({ frames := 7, cells := 1, slots := 6, locals := 103 } : Room) s m args below meth c 1 6 Q 5 D g tb 12 [(0, .ref (g.1 4 1664)), (1, .int a1), (2, .int v2), (3, .int v3), (4, .int v4)] [] M := lp_ind (P := fun f => ∀ (v2 : Int32) (v3 : Int32) (v4 : Int32)  (M : xM), f v2 v3 v4 M = some (k, r, M') → WW p l e ({ frames := 7, cells := 1, slots := 6, locals := 103 } : Room) s m args below meth c 1 6 Q 5 D g tb 12 [(0, .ref (g.1 4 1664)), (1, .int a1), (2, .int v2), (3, .int v3), (4, .int v4)] [] M) (fun _ _ _ _ h => none_ne h) (fun f hf => B12 f hf) FU
  unfold f_X6_bestLantern at hf
  refine r_aload_n C0 (kk := 0) 0 rfl dX6_bestLantern_0 ?_
  refine r_iload_n C0 (kk := 1) 1 rfl dX6_bestLantern_1 ?_
  obtain ⟨k2, r4, M3, hc1, hx5, hf⟩ := tbd_e hf
  refine r_tcallVv C0 (As := [.int a1]) (rest := []) (c_X6_checkStall l D g tb hT hlst h0 hc1) w4_129 w4_131 wp2_11 w1_1 w4_132 (x_rec4 C0 h0.1) hd_X6_checkStall rfl ⟨rfl, rfl⟩ ⟨Nat.le_of_ble_eq_true rfl, Nat.le_of_ble_eq_true rfl⟩ (by decide) (by decide) rfl (Nat.le_of_ble_eq_true rfl) dX6_bestLantern_2 (fun H1 locs1 ls E ce q hk hE hH hS hl h1 h2 h3 => hpr (by decide) (by decide) hk hE hH hS h1 h2 h3 (hx5 hk)) (fun hk => ?_)
  have hf := hf hk
  refine r_iconst C0 (v := (-1)) dX6_bestLantern_5 rfl ?_
  refine r_istore_n C0 (kk := 2) (lv2 := [(2, .int (-1)), (0, .ref (g.1 4 1664)), (1, .int a1)]) (by decide) rfl dX6_bestLantern_6 ?_
  refine r_iconst C0 (v := (-1)) dX6_bestLantern_7 rfl ?_
  refine r_istore_n C0 (kk := 3) (lv2 := [(3, .int (-1)), (2, .int (-1)), (0, .ref (g.1 4 1664)), (1, .int a1)]) (by decide) rfl dX6_bestLantern_8 ?_
  refine r_iconst C0 (v := 0) dX6_bestLantern_9 rfl ?_
  refine r_istore C0 (lv2 := [(4, .int 0), (3, .int (-1)), (2, .int (-1)), (0, .ref (g.1 4 1664)), (1, .int a1)]) (by decide) rfl dX6_bestLantern_10 ?_
  refine WW.sub [3, 4, 2, 1, 0] rfl ?_
  exact L12   _ _ _   _ hf
theorem dX6_passMinutes_0 : decode cX6_passMinutes 0 = .ok (.iload_n 1, 1) := by decide +kernel
theorem dX6_passMinutes_1 : decode cX6_passMinutes 1 = .ok (.iconst 1, 1) := by decide +kernel
theorem dX6_passMinutes_2 : decode cX6_passMinutes 2 = .ok (.bipush 100, 2) := by decide +kernel
theorem dX6_passMinutes_4 : decode cX6_passMinutes 4 = .ok (.invokestatic 123, 3) := by decide +kernel
theorem dX6_passMinutes_7 : decode cX6_passMinutes 7 = .ok (.aload_n 0, 1) := by decide +kernel
theorem dX6_passMinutes_8 : decode cX6_passMinutes 8 = .ok (.invokevirtual 83, 3) := by decide +kernel
theorem dX6_passMinutes_11 : decode cX6_passMinutes 11 = .ok (.aload_n 0, 1) := by decide +kernel
theorem dX6_passMinutes_12 : decode cX6_passMinutes 12 = .ok (.getfield 10, 3) := by decide +kernel
theorem dX6_passMinutes_15 : decode cX6_passMinutes 15 = .ok (.invokevirtual 273, 3) := by decide +kernel
theorem dX6_passMinutes_18 : decode cX6_passMinutes 18 = .ok (.istore_n 2, 1) := by decide +kernel
theorem dX6_passMinutes_19 : decode cX6_passMinutes 19 = .ok (.aload_n 0, 1) := by decide +kernel
theorem dX6_passMinutes_20 : decode cX6_passMinutes 20 = .ok (.getfield 10, 3) := by decide +kernel
theorem dX6_passMinutes_23 : decode cX6_passMinutes 23 = .ok (.iload_n 1, 1) := by decide +kernel
theorem dX6_passMinutes_24 : decode cX6_passMinutes 24 = .ok (.invokevirtual 276, 3) := by decide +kernel
theorem dX6_passMinutes_27 : decode cX6_passMinutes 27 = .ok (.aload_n 0, 1) := by decide +kernel
theorem dX6_passMinutes_28 : decode cX6_passMinutes 28 = .ok (.getfield 10, 3) := by decide +kernel
theorem dX6_passMinutes_31 : decode cX6_passMinutes 31 = .ok (.invokevirtual 273, 3) := by decide +kernel
theorem dX6_passMinutes_34 : decode cX6_passMinutes 34 = .ok (.iload_n 2, 1) := by decide +kernel
theorem dX6_passMinutes_35 : decode cX6_passMinutes 35 = .ok (.isub, 1) := by decide +kernel
theorem dX6_passMinutes_36 : decode cX6_passMinutes 36 = .ok (.ireturn, 1) := by decide +kernel
theorem hd_X6_passMinutes : yX6_passMinutes.cls = RX6 ∧ yX6_passMinutes.cls ≠ "java/lang/invoke/MethodHandle" ∧ yX6_passMinutes.cls ≠ "java/lang/invoke/VarHandle" ∧ (parseMethodDescriptor yX6_passMinutes.desc).map (fun d => d.parameters.length) = some 1 := by decide +kernel
set_option maxRecDepth 100000 in
set_option maxHeartbeats 4000000 in
theorem c_X6_passMinutes (l : Launch) (D : va_G) (g : xG) (tb : List xQ) (hT : x_T g tb) (hlst : l.stackTraces = false) {a1 : Int32} (h0 : x_fb tb) {M : xM} {k : Nat} {r : Int32} {M' : xM} (hf : f_X6_passMinutes a1 M = some (k, r, M')) :
    tI l D g tb yX6_passMinutes cX6_passMinutes 3 .int ({ frames := 7, cells := 1, slots := 6, locals := 104 } : Room) 1 [.ref (g.1 4 1664), .int a1] M k r M' := by
  refine x_tstartI (own := RX6) (r := r) (by decide +kernel) rfl rfl (Nat.le_of_ble_eq_true rfl) hT ?_
  intro p e s m args below meth c Q C0 hend hpr hthr
  unfold f_X6_passMinutes at hf
  refine r_iload_n C0 (kk := 1) 1 rfl dX6_passMinutes_0 ?_
  refine r_iconst C0 (v := 1) dX6_passMinutes_1 rfl ?_
  refine r_bipush C0 (v := 100) dX6_passMinutes_2 rfl ?_
  obtain ⟨k2, r4, M3, hc1, hx5, hf⟩ := tbd_e hf
  refine r_tcallSv C0 (As := [.int a1, .int 1, .int 100]) (rest := []) (c_X6_checkRange l D g tb hT hlst  hc1) w4_45 w4_46 w1_1 w4_47 hd_X6_checkRange rfl ⟨rfl, rfl⟩ ⟨Nat.le_of_ble_eq_true rfl, Nat.le_of_ble_eq_true rfl⟩ (by decide) (by decide) rfl (Nat.le_of_ble_eq_true rfl) dX6_passMinutes_4 (fun H1 locs1 ls E ce q hk hE hH hS hl h1 h2 h3 => hpr (by decide) (by decide) hk hE hH hS h1 h2 h3 (hx5 hk)) (fun hk => ?_)
  have hf := hf hk
  refine r_aload_n C0 (kk := 0) 0 rfl dX6_passMinutes_7 ?_
  obtain ⟨M8, hc7, hf⟩ := bd_e hf
  refine r_callVv C0 (As := []) (rest := []) (c_X6_remember l D g tb hT h0 hc7) w3_156 w3_158 wp2_7 w1_1 w3_159 (x_rec4 C0 h0.1) hd_X6_remember rfl ⟨rfl, rfl⟩ ⟨Nat.le_of_ble_eq_true rfl, Nat.le_of_ble_eq_true rfl⟩ (by decide) (by decide) rfl (Nat.le_of_ble_eq_true rfl) dX6_passMinutes_8 ?_
  refine r_aload_n C0 (kk := 0) 0 rfl dX6_passMinutes_11 ?_
  refine r_get4 C0 h0.1 0 (by decide) (v := .ref (g.1 2 0)) rfl rfl w3_102 dX6_passMinutes_12 ?_
  obtain ⟨r11, M10, hc9, hf⟩ := bd2_e hf
  refine r_callVi C0 (As := []) (rest := []) (c_X2_soldInAll l D g tb hT h0.2.1 hc9) w4_7 w4_8 w4_9 w1_2 w4_10 (x_rec2 C0 h0.2.1.1) hd_X2_soldInAll rfl ⟨rfl, rfl⟩ ⟨Nat.le_of_ble_eq_true rfl, Nat.le_of_ble_eq_true rfl⟩ (by decide) (by decide) rfl (Nat.le_of_ble_eq_true rfl) dX6_passMinutes_15 ?_
  refine r_istore_n C0 (kk := 2) (lv2 := [(2, .int r11), (0, .ref (g.1 4 1664)), (1, .int a1)]) (by decide) rfl dX6_passMinutes_18 ?_
  refine r_aload_n C0 (kk := 0) 1 rfl dX6_passMinutes_19 ?_
  refine r_get4 C0 h0.1 0 (by decide) (v := .ref (g.1 2 0)) rfl rfl w3_102 dX6_passMinutes_20 ?_
  refine r_iload_n C0 (kk := 1) 2 rfl dX6_passMinutes_23 ?_
  obtain ⟨M13, hc12, hf⟩ := bd_e hf
  refine r_callVv C0 (As := [.int a1]) (rest := []) (c_X2_pass l D g tb hT h0.2.1 hc12) w4_19 w3_17 w3_18 w1_2 w3_19 (x_rec2 C0 h0.2.1.1) hd_X2_pass rfl ⟨rfl, rfl⟩ ⟨Nat.le_of_ble_eq_true rfl, Nat.le_of_ble_eq_true rfl⟩ (by decide) (by decide) rfl (Nat.le_of_ble_eq_true rfl) dX6_passMinutes_24 ?_
  refine r_aload_n C0 (kk := 0) 1 rfl dX6_passMinutes_27 ?_
  refine r_get4 C0 h0.1 0 (by decide) (v := .ref (g.1 2 0)) rfl rfl w3_102 dX6_passMinutes_28 ?_
  obtain ⟨r16, M15, hc14, hf⟩ := bd2_e hf
  refine r_callVi C0 (As := []) (rest := []) (c_X2_soldInAll l D g tb hT h0.2.1 hc14) w4_7 w4_8 w4_9 w1_2 w4_10 (x_rec2 C0 h0.2.1.1) hd_X2_soldInAll rfl ⟨rfl, rfl⟩ ⟨Nat.le_of_ble_eq_true rfl, Nat.le_of_ble_eq_true rfl⟩ (by decide) (by decide) rfl (Nat.le_of_ble_eq_true rfl) dX6_passMinutes_31 ?_
  refine r_iload_n C0 (kk := 2) 0 rfl dX6_passMinutes_34 ?_
  refine r_isub C0 dX6_passMinutes_35 ?_
  exact hend (by decide) (by decide) hf dX6_passMinutes_36
theorem dX7_startText_0 : decode cX7_startText 0 = .ok (.aload_n 0, 1) := by decide +kernel
theorem dX7_startText_1 : decode cX7_startText 1 = .ok (.iconst 0, 1) := by decide +kernel
theorem dX7_startText_2 : decode cX7_startText 2 = .ok (.putfield 170, 3) := by decide +kernel
theorem dX7_startText_5 : decode cX7_startText 5 = .ok (.aload_n 0, 1) := by decide +kernel
theorem dX7_startText_6 : decode cX7_startText 6 = .ok (.iconst (-1), 1) := by decide +kernel
theorem dX7_startText_7 : decode cX7_startText 7 = .ok (.putfield 13, 3) := by decide +kernel
theorem dX7_startText_10 : decode cX7_startText 10 = .ok (.aload_n 0, 1) := by decide +kernel
theorem dX7_startText_11 : decode cX7_startText 11 = .ok (.iconst 0, 1) := by decide +kernel
theorem dX7_startText_12 : decode cX7_startText 12 = .ok (.putfield 150, 3) := by decide +kernel
theorem dX7_startText_15 : decode cX7_startText 15 = .ok (.aload_n 0, 1) := by decide +kernel
theorem dX7_startText_16 : decode cX7_startText 16 = .ok (.invokevirtual 180, 3) := by decide +kernel
theorem dX7_startText_19 : decode cX7_startText 19 = .ok (.return_, 1) := by decide +kernel
theorem hd_X7_startText : yX7_startText.cls = RX7 ∧ yX7_startText.cls ≠ "java/lang/invoke/MethodHandle" ∧ yX7_startText.cls ≠ "java/lang/invoke/VarHandle" ∧ (parseMethodDescriptor yX7_startText.desc).map (fun d => d.parameters.length) = some 0 := by decide +kernel
set_option maxRecDepth 100000 in
set_option maxHeartbeats 4000000 in
theorem c_X7_startText (l : Launch) (D : va_G) (g : xG) (tb : List xQ) (hT : x_T g tb)  (h0 : x_md tb) {M M' : xM} (hf : f_X7_startText  M = some M') :
    cV l D g tb yX7_startText cX7_startText 1 ({ frames := 3, cells := 0, slots := 0, locals := 63 } : Room) [.ref (g.1 5 2500)] M M' := by
  refine x_startV (own := RX7) (by decide +kernel) rfl rfl (Nat.le_of_ble_eq_true rfl) hT ?_
  intro p e s m args below meth c Q C0 hend
  unfold f_X7_startText at hf
  refine r_aload_n C0 (kk := 0) 0 rfl dX7_startText_0 ?_
  refine r_iconst C0 (v := 0) dX7_startText_1 rfl ?_
  refine r_put5 C0 h0.1 2 rfl rfl w6_218 rfl rfl rfl dX7_startText_2 ?_
  refine r_aload_n C0 (kk := 0) 0 rfl dX7_startText_5 ?_
  refine r_iconst C0 (v := (-1)) dX7_startText_6 rfl ?_
  refine r_put5 C0 h0.1 3 rfl rfl w6_219 rfl rfl rfl dX7_startText_7 ?_
  refine r_aload_n C0 (kk := 0) 0 rfl dX7_startText_10 ?_
  refine r_iconst C0 (v := 0) dX7_startText_11 rfl ?_
  refine r_put5 C0 h0.1 15 rfl rfl w6_231 rfl rfl rfl dX7_startText_12 ?_
  refine r_aload_n C0 (kk := 0) 0 rfl dX7_startText_15 ?_
  obtain ⟨M2, hc1, hf⟩ := bd_e hf
  refine r_callVv C0 (As := []) (rest := []) (c_X7_next l D g tb hT h0 hc1) w6_5 w6_7 wp3_0 w1_14 w6_8 (x_rec5 C0 h0.1) hd_X7_next rfl ⟨rfl, rfl⟩ ⟨Nat.le_of_ble_eq_true rfl, Nat.le_of_ble_eq_true rfl⟩ (by decide) (by decide) rfl (Nat.le_of_ble_eq_true rfl) dX7_startText_16 ?_
  exact hend hf dX7_startText_19
