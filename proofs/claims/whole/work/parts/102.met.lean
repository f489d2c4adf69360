theorem dX7_isEnd_0 : decode cX7_isEnd 0 = .ok (.aload_n 0, 1) := by decide +kernel
theorem dX7_isEnd_1 : decode cX7_isEnd 1 = .ok (.getfield 156, 3) := by decide +kernel
theorem dX7_isEnd_4 : decode cX7_isEnd 4 = .ok (.iconst 2, 1) := by decide +kernel
theorem dX7_isEnd_5 : decode cX7_isEnd 5 = .ok (.if_icmp .eq 11, 3) := by decide +kernel
theorem dX7_isEnd_8 : decode cX7_isEnd 8 = .ok (.aload_n 0, 1) := by decide +kernel
theorem dX7_isEnd_9 : decode cX7_isEnd 9 = .ok (.iconst 1, 1) := by decide +kernel
theorem dX7_isEnd_10 : decode cX7_isEnd 10 = .ok (.invokevirtual 177, 3) := by decide +kernel
theorem dX7_isEnd_13 : decode cX7_isEnd 13 = .ok (.ifCond .eq 7, 3) := by decide +kernel
theorem dX7_isEnd_16 : decode cX7_isEnd 16 = .ok (.iconst 1, 1) := by decide +kernel
theorem dX7_isEnd_17 : decode cX7_isEnd 17 = .ok (.goto 4, 3) := by decide +kernel
theorem dX7_isEnd_20 : decode cX7_isEnd 20 = .ok (.iconst 0, 1) := by decide +kernel
theorem dX7_isEnd_21 : decode cX7_isEnd 21 = .ok (.ireturn, 1) := by decide +kernel
theorem hd_X7_isEnd : yX7_isEnd.cls = RX7 ∧ yX7_isEnd.cls ≠ "java/lang/invoke/MethodHandle" ∧ yX7_isEnd.cls ≠ "java/lang/invoke/VarHandle" ∧ (parseMethodDescriptor yX7_isEnd.desc).map (fun d => d.parameters.length) = some 0 := by decide +kernel
set_option maxRecDepth 100000 in
set_option maxHeartbeats 4000000 in
theorem c_X7_isEnd (l : Launch) (D : va_G) (g : xG) (tb : List xQ) (hT : x_T g tb)  (h0 : x_md tb) {M : xM} {r : Int32} {M' : xM} (hf : f_X7_isEnd  M = some (r, M')) :
    cI l D g tb yX7_isEnd cX7_isEnd 1 .boolean ({ frames := 1, cells := 0, slots := 0, locals := 21 } : Room) [.ref (g.1 5 2500)] M r M' := by
  refine x_startZ (own := RX7) (by decide +kernel) rfl rfl (Nat.le_of_ble_eq_true rfl) hT ?_
  intro p e s m args below meth c Q C0 hend
  unfold f_X7_isEnd at hf
  refine r_aload_n C0 (kk := 0) 0 rfl dX7_isEnd_0 ?_
  refine r_get5 C0 h0.1 16 (by decide) (v := .int (M 2516)) rfl rfl w6_232 dX7_isEnd_1 ?_
  refine r_iconst C0 (v := 2) dX7_isEnd_4 rfl ?_
  refine r_icmp_eq C0 (tgt := 16) (by decide) dX7_isEnd_5 (fun q1 => ?_) (fun q1 => ?_)
  · have hf := ie_t hf q1
    refine r_iconst C0 (v := 1) dX7_isEnd_16 rfl ?_
    refine r_goto C0 (tgt := 21) (by decide) dX7_isEnd_17 ?_
    exact hend (by decide) hf dX7_isEnd_21
  · have hf := ie_f hf q1
    refine r_aload_n C0 (kk := 0) 0 rfl dX7_isEnd_8 ?_
    refine r_iconst C0 (v := 1) dX7_isEnd_9 rfl ?_
    obtain ⟨r4, M3, hc2, hf⟩ := bd2_e hf
    refine r_callVi C0 (As := [.int 1]) (rest := []) (c_X7_wrong l D g tb hT h0 hc2) w6_35 w6_37 wp3_4 w1_14 w6_38 (x_rec5 C0 h0.1) hd_X7_wrong rfl ⟨rfl, rfl⟩ ⟨Nat.le_of_ble_eq_true rfl, Nat.le_of_ble_eq_true rfl⟩ (by decide) (by decide) rfl (Nat.le_of_ble_eq_true rfl) dX7_isEnd_10 ?_
    refine r_if_eq C0 (tgt := 20) (by decide) dX7_isEnd_13 (fun q5 => ?_) (fun q5 => ?_)
    · have hf := ie_t hf q5
      refine r_iconst C0 (v := 0) dX7_isEnd_20 rfl ?_
      exact hend (by decide) hf dX7_isEnd_21
    · have hf := ie_f hf q5
      refine r_iconst C0 (v := 1) dX7_isEnd_16 rfl ?_
      refine r_goto C0 (tgt := 21) (by decide) dX7_isEnd_17 ?_
      exact hend (by decide) hf dX7_isEnd_21
theorem dX7_by_0 : decode cX7_by 0 = .ok (.aload_n 0, 1) := by decide +kernel
theorem dX7_by_1 : decode cX7_by 1 = .ok (.getfield 17, 3) := by decide +kernel
theorem dX7_by_4 : decode cX7_by 4 = .ok (.bipush 77, 2) := by decide +kernel
theorem dX7_by_6 : decode cX7_by 6 = .ok (.bipush 8, 2) := by decide +kernel
theorem dX7_by_8 : decode cX7_by 8 = .ok (.iload_n 1, 1) := by decide +kernel
theorem dX7_by_9 : decode cX7_by 9 = .ok (.imul, 1) := by decide +kernel
theorem dX7_by_10 : decode cX7_by 10 = .ok (.iadd, 1) := by decide +kernel
theorem dX7_by_11 : decode cX7_by 11 = .ok (.iload_n 2, 1) := by decide +kernel
theorem dX7_by_12 : decode cX7_by 12 = .ok (.iadd, 1) := by decide +kernel
theorem dX7_by_13 : decode cX7_by 13 = .ok (.iaload, 1) := by decide +kernel
theorem dX7_by_14 : decode cX7_by 14 = .ok (.ireturn, 1) := by decide +kernel
theorem hd_X7_by : yX7_by.cls = RX7 ∧ yX7_by.cls ≠ "java/lang/invoke/MethodHandle" ∧ yX7_by.cls ≠ "java/lang/invoke/VarHandle" ∧ (parseMethodDescriptor yX7_by.desc).map (fun d => d.parameters.length) = some 2 := by decide +kernel
set_option maxRecDepth 100000 in
set_option maxHeartbeats 4000000 in
theorem c_X7_by (l : Launch) (D : va_G) (g : xG) (tb : List xQ) (hT : x_T g tb) {a1 : Int32} {a2 : Int32} (h0 : x_md tb) {M : xM} {r : Int32} {M' : xM} (hf : f_X7_by a1 a2 M = some (r, M')) :
    cI l D g tb yX7_by cX7_by 3 .int ({ frames := 0, cells := 0, slots := 0, locals := 0 } : Room) [.ref (g.1 5 2500), .int a1, .int a2] M r M' := by
  refine x_startI (own := RX7) (by decide +kernel) rfl rfl (Nat.le_of_ble_eq_true rfl) hT ?_
  intro p e s m args below meth c Q C0 hend
  unfold f_X7_by at hf
  refine r_aload_n C0 (kk := 0) 0 rfl dX7_by_0 ?_
  refine r_get5 C0 h0.1 5 (by decide) (v := .ref (g.1 6 2520)) rfl rfl w6_221 dX7_by_1 ?_
  refine r_bipush C0 (v := 77) dX7_by_4 rfl ?_
  refine r_bipush C0 (v := 8) dX7_by_6 rfl ?_
  refine r_iload_n C0 (kk := 1) 1 rfl dX7_by_8 ?_
  refine r_imul C0 dX7_by_9 ?_
  refine r_iadd C0 dX7_by_10 ?_
  refine r_iload_n C0 (kk := 2) 2 rfl dX7_by_11 ?_
  refine r_iadd C0 dX7_by_12 ?_
  obtain ⟨q1, hf⟩ := gd_e hf
  refine r_ialdc C0 h0.2.1 q1 rfl dX7_by_13 ?_
  exact hend hf dX7_by_14
theorem dX7_st_0 : decode cX7_st 0 = .ok (.aload_n 0, 1) := by decide +kernel
theorem dX7_st_1 : decode cX7_st 1 = .ok (.getfield 17, 3) := by decide +kernel
theorem dX7_st_4 : decode cX7_st 4 = .ok (.bipush 23, 2) := by decide +kernel
theorem dX7_st_6 : decode cX7_st 6 = .ok (.bipush 9, 2) := by decide +kernel
theorem dX7_st_8 : decode cX7_st 8 = .ok (.iload_n 1, 1) := by decide +kernel
theorem dX7_st_9 : decode cX7_st 9 = .ok (.imul, 1) := by decide +kernel
theorem dX7_st_10 : decode cX7_st 10 = .ok (.iadd, 1) := by decide +kernel
theorem dX7_st_11 : decode cX7_st 11 = .ok (.iload_n 2, 1) := by decide +kernel
theorem dX7_st_12 : decode cX7_st 12 = .ok (.iadd, 1) := by decide +kernel
theorem dX7_st_13 : decode cX7_st 13 = .ok (.iaload, 1) := by decide +kernel
theorem dX7_st_14 : decode cX7_st 14 = .ok (.ireturn, 1) := by decide +kernel
theorem hd_X7_st : yX7_st.cls = RX7 ∧ yX7_st.cls ≠ "java/lang/invoke/MethodHandle" ∧ yX7_st.cls ≠ "java/lang/invoke/VarHandle" ∧ (parseMethodDescriptor yX7_st.desc).map (fun d => d.parameters.length) = some 2 := by decide +kernel
set_option maxRecDepth 100000 in
set_option maxHeartbeats 4000000 in
theorem c_X7_st (l : Launch) (D : va_G) (g : xG) (tb : List xQ) (hT : x_T g tb) {a1 : Int32} {a2 : Int32} (h0 : x_md tb) {M : xM} {r : Int32} {M' : xM} (hf : f_X7_st a1 a2 M = some (r, M')) :
    cI l D g tb yX7_st cX7_st 3 .int ({ frames := 0, cells := 0, slots := 0, locals := 0 } : Room) [.ref (g.1 5 2500), .int a1, .int a2] M r M' := by
  refine x_startI (own := RX7) (by decide +kernel) rfl rfl (Nat.le_of_ble_eq_true rfl) hT ?_
  intro p e s m args below meth c Q C0 hend
  unfold f_X7_st at hf
  refine r_aload_n C0 (kk := 0) 0 rfl dX7_st_0 ?_
  refine r_get5 C0 h0.1 5 (by decide) (v := .ref (g.1 6 2520)) rfl rfl w6_221 dX7_st_1 ?_
  refine r_bipush C0 (v := 23) dX7_st_4 rfl ?_
  refine r_bipush C0 (v := 9) dX7_st_6 rfl ?_
  refine r_iload_n C0 (kk := 1) 1 rfl dX7_st_8 ?_
  refine r_imul C0 dX7_st_9 ?_
  refine r_iadd C0 dX7_st_10 ?_
  refine r_iload_n C0 (kk := 2) 2 rfl dX7_st_11 ?_
  refine r_iadd C0 dX7_st_12 ?_
  obtain ⟨q1, hf⟩ := gd_e hf
  refine r_ialdc C0 h0.2.1 q1 rfl dX7_st_13 ?_
  exact hend hf dX7_st_14
theorem dX7_more_0 : decode cX7_more 0 = .ok (.aload_n 0, 1) := by decide +kernel
theorem dX7_more_1 : decode cX7_more 1 = .ok (.getfield 17, 3) := by decide +kernel
theorem dX7_more_4 : decode cX7_more 4 = .ok (.bipush 23, 2) := by decide +kernel
theorem dX7_more_6 : decode cX7_more 6 = .ok (.bipush 9, 2) := by decide +kernel
theorem dX7_more_8 : decode cX7_more 8 = .ok (.iload_n 1, 1) := by decide +kernel
theorem dX7_more_9 : decode cX7_more 9 = .ok (.imul, 1) := by decide +kernel
theorem dX7_more_10 : decode cX7_more 10 = .ok (.iadd, 1) := by decide +kernel
theorem dX7_more_11 : decode cX7_more 11 = .ok (.iload_n 2, 1) := by decide +kernel
theorem dX7_more_12 : decode cX7_more 12 = .ok (.iadd, 1) := by decide +kernel
theorem dX7_more_13 : decode cX7_more 13 = .ok (.dup2, 1) := by decide +kernel
theorem dX7_more_14 : decode cX7_more 14 = .ok (.iaload, 1) := by decide +kernel
theorem dX7_more_15 : decode cX7_more 15 = .ok (.iload_n 3, 1) := by decide +kernel
theorem dX7_more_16 : decode cX7_more 16 = .ok (.iadd, 1) := by decide +kernel
theorem dX7_more_17 : decode cX7_more 17 = .ok (.iastore, 1) := by decide +kernel
theorem dX7_more_18 : decode cX7_more 18 = .ok (.return_, 1) := by decide +kernel
theorem hd_X7_more : yX7_more.cls = RX7 ∧ yX7_more.cls ≠ "java/lang/invoke/MethodHandle" ∧ yX7_more.cls ≠ "java/lang/invoke/VarHandle" ∧ (parseMethodDescriptor yX7_more.desc).map (fun d => d.parameters.length) = some 3 := by decide +kernel
set_option maxRecDepth 100000 in
set_option maxHeartbeats 4000000 in
theorem c_X7_more (l : Launch) (D : va_G) (g : xG) (tb : List xQ) (hT : x_T g tb) {a1 : Int32} {a2 : Int32} {a3 : Int32} (h0 : x_md tb) {M M' : xM} (hf : f_X7_more a1 a2 a3 M = some M') :
    cV l D g tb yX7_more cX7_more 4 ({ frames := 0, cells := 0, slots := 0, locals := 0 } : Room) [.ref (g.1 5 2500), .int a1, .int a2, .int a3] M M' := by
  refine x_startV (own := RX7) (by decide +kernel) rfl rfl (Nat.le_of_ble_eq_true rfl) hT ?_
  intro p e s m args below meth c Q C0 hend
  unfold f_X7_more at hf
  refine r_aload_n C0 (kk := 0) 0 rfl dX7_more_0 ?_
  refine r_get5 C0 h0.1 5 (by decide) (v := .ref (g.1 6 2520)) rfl rfl w6_221 dX7_more_1 ?_
  refine r_bipush C0 (v := 23) dX7_more_4 rfl ?_
  refine r_bipush C0 (v := 9) dX7_more_6 rfl ?_
  refine r_iload_n C0 (kk := 1) 1 rfl dX7_more_8 ?_
  refine r_imul C0 dX7_more_9 ?_
  refine r_iadd C0 dX7_more_10 ?_
  refine r_iload_n C0 (kk := 2) 2 rfl dX7_more_11 ?_
  refine r_iadd C0 dX7_more_12 ?_
  refine r_dup2 C0 rfl rfl dX7_more_13 ?_
  obtain ⟨q1, hf⟩ := gd_e hf
  refine r_ialdc C0 h0.2.1 q1 rfl dX7_more_14 ?_
  refine r_iload_n C0 (kk := 3) 3 rfl dX7_more_15 ?_
  refine r_iadd C0 dX7_more_16 ?_
  obtain ⟨q2, hf⟩ := gd_e hf
  refine r_iastc C0 h0.2.1 q2 rfl dX7_more_17 ?_
  exact hend hf dX7_more_18
theorem dX7_put_0 : decode cX7_put 0 = .ok (.aload_n 0, 1) := by decide +kernel
theorem dX7_put_1 : decode cX7_put 1 = .ok (.getfield 17, 3) := by decide +kernel
theorem dX7_put_4 : decode cX7_put 4 = .ok (.bipush 77, 2) := by decide +kernel
theorem dX7_put_6 : decode cX7_put 6 = .ok (.bipush 8, 2) := by decide +kernel
theorem dX7_put_8 : decode cX7_put 8 = .ok (.iload_n 1, 1) := by decide +kernel
theorem dX7_put_9 : decode cX7_put 9 = .ok (.imul, 1) := by decide +kernel
theorem dX7_put_10 : decode cX7_put 10 = .ok (.iadd, 1) := by decide +kernel
theorem dX7_put_11 : decode cX7_put 11 = .ok (.iload_n 2, 1) := by decide +kernel
theorem dX7_put_12 : decode cX7_put 12 = .ok (.iadd, 1) := by decide +kernel
theorem dX7_put_13 : decode cX7_put 13 = .ok (.iload_n 3, 1) := by decide +kernel
theorem dX7_put_14 : decode cX7_put 14 = .ok (.iastore, 1) := by decide +kernel
theorem dX7_put_15 : decode cX7_put 15 = .ok (.return_, 1) := by decide +kernel
theorem hd_X7_put : yX7_put.cls = RX7 ∧ yX7_put.cls ≠ "java/lang/invoke/MethodHandle" ∧ yX7_put.cls ≠ "java/lang/invoke/VarHandle" ∧ (parseMethodDescriptor yX7_put.desc).map (fun d => d.parameters.length) = some 3 := by decide +kernel
set_option maxRecDepth 100000 in
set_option maxHeartbeats 4000000 in
theorem c_X7_put (l : Launch) (D : va_G) (g : xG) (tb : List xQ) (hT : x_T g tb) {a1 : Int32} {a2 : Int32} {a3 : Int32} (h0 : x_md tb) {M M' : xM} (hf : f_X7_put a1 a2 a3 M = some M') :
    cV l D g tb yX7_put cX7_put 4 ({ frames := 0, cells := 0, slots := 0, locals := 0 } : Room) [.ref (g.1 5 2500), .int a1, .int a2, .int a3] M M' := by
  refine x_startV (own := RX7) (by decide +kernel) rfl rfl (Nat.le_of_ble_eq_true rfl) hT ?_
  intro p e s m args below meth c Q C0 hend
  unfold f_X7_put at hf
  refine r_aload_n C0 (kk := 0) 0 rfl dX7_put_0 ?_
  refine r_get5 C0 h0.1 5 (by decide) (v := .ref (g.1 6 2520)) rfl rfl w6_221 dX7_put_1 ?_
  refine r_bipush C0 (v := 77) dX7_put_4 rfl ?_
  refine r_bipush C0 (v := 8) dX7_put_6 rfl ?_
  refine r_iload_n C0 (kk := 1) 1 rfl dX7_put_8 ?_
  refine r_imul C0 dX7_put_9 ?_
  refine r_iadd C0 dX7_put_10 ?_
  refine r_iload_n C0 (kk := 2) 2 rfl dX7_put_11 ?_
  refine r_iadd C0 dX7_put_12 ?_
  refine r_iload_n C0 (kk := 3) 3 rfl dX7_put_13 ?_
  obtain ⟨q1, hf⟩ := gd_e hf
  refine r_iastc C0 h0.2.1 q1 rfl dX7_put_14 ?_
  exact hend hf dX7_put_15
theorem dX7_fogAt_0 : decode cX7_fogAt 0 = .ok (.aload_n 0, 1) := by decide +kernel
theorem dX7_fogAt_1 : decode cX7_fogAt 1 = .ok (.getfield 17, 3) := by decide +kernel
theorem dX7_fogAt_4 : decode cX7_fogAt 4 = .ok (.bipush 11, 2) := by decide +kernel
theorem dX7_fogAt_6 : decode cX7_fogAt 6 = .ok (.iload_n 1, 1) := by decide +kernel
theorem dX7_fogAt_7 : decode cX7_fogAt 7 = .ok (.iconst 5, 1) := by decide +kernel
theorem dX7_fogAt_8 : decode cX7_fogAt 8 = .ok (.idiv, 1) := by decide +kernel
theorem dX7_fogAt_9 : decode cX7_fogAt 9 = .ok (.aload_n 0, 1) := by decide +kernel
theorem dX7_fogAt_10 : decode cX7_fogAt 10 = .ok (.getfield 17, 3) := by decide +kernel
theorem dX7_fogAt_13 : decode cX7_fogAt 13 = .ok (.bipush 8, 2) := by decide +kernel
theorem dX7_fogAt_15 : decode cX7_fogAt 15 = .ok (.iaload, 1) := by decide +kernel
theorem dX7_fogAt_16 : decode cX7_fogAt 16 = .ok (.irem, 1) := by decide +kernel
theorem dX7_fogAt_17 : decode cX7_fogAt 17 = .ok (.iadd, 1) := by decide +kernel
theorem dX7_fogAt_18 : decode cX7_fogAt 18 = .ok (.iaload, 1) := by decide +kernel
theorem dX7_fogAt_19 : decode cX7_fogAt 19 = .ok (.ireturn, 1) := by decide +kernel
theorem hd_X7_fogAt : yX7_fogAt.cls = RX7 ∧ yX7_fogAt.cls ≠ "java/lang/invoke/MethodHandle" ∧ yX7_fogAt.cls ≠ "java/lang/invoke/VarHandle" ∧ (parseMethodDescriptor yX7_fogAt.desc).map (fun d => d.parameters.length) = some 1 := by decide +kernel
set_option maxRecDepth 100000 in
set_option maxHeartbeats 4000000 in
theorem c_X7_fogAt (l : Launch) (D : va_G) (g : xG) (tb : List xQ) (hT : x_T g tb) {a1 : Int32} (h0 : x_md tb) {M : xM} {r : Int32} {M' : xM} (hf : f_X7_fogAt a1 M = some (r, M')) :
    cI l D g tb yX7_fogAt cX7_fogAt 2 .int ({ frames := 0, cells := 0, slots := 0, locals := 0 } : Room) [.ref (g.1 5 2500), .int a1] M r M' := by
  refine x_startI (own := RX7) (by decide +kernel) rfl rfl (Nat.le_of_ble_eq_true rfl) hT ?_
  intro p e s m args below meth c Q C0 hend
  unfold f_X7_fogAt at hf
  refine r_aload_n C0 (kk := 0) 0 rfl dX7_fogAt_0 ?_
  refine r_get5 C0 h0.1 5 (by decide) (v := .ref (g.1 6 2520)) rfl rfl w6_221 dX7_fogAt_1 ?_
  refine r_bipush C0 (v := 11) dX7_fogAt_4 rfl ?_
  refine r_iload_n C0 (kk := 1) 1 rfl dX7_fogAt_6 ?_
  refine r_iconst C0 (v := 5) dX7_fogAt_7 rfl ?_
  refine r_idiv C0 (by decide) dX7_fogAt_8 ?_
  refine r_aload_n C0 (kk := 0) 0 rfl dX7_fogAt_9 ?_
  refine r_get5 C0 h0.1 5 (by decide) (v := .ref (g.1 6 2520)) rfl rfl w6_221 dX7_fogAt_10 ?_
  refine r_bipush C0 (v := 8) dX7_fogAt_13 rfl ?_
  refine r_ialdc C0 h0.2.1 (z := 2528) (by decide) (by decide) dX7_fogAt_15 ?_
  obtain ⟨q1, hf⟩ := gd_e hf
  refine r_irem C0 (nz_e q1) dX7_fogAt_16 ?_
  refine r_iadd C0 dX7_fogAt_17 ?_
  obtain ⟨q2, hf⟩ := gd_e hf
  refine r_ialdc C0 h0.2.1 q2 rfl dX7_fogAt_18 ?_
  exact hend hf dX7_fogAt_19
theorem dX7_giveBack_0 : decode cX7_giveBack 0 = .ok (.aload_n 0, 1) := by decide +kernel
theorem dX7_giveBack_1 : decode cX7_giveBack 1 = .ok (.aload_n 0, 1) := by decide +kernel
theorem dX7_giveBack_2 : decode cX7_giveBack 2 = .ok (.iload_n 1, 1) := by decide +kernel
theorem dX7_giveBack_3 : decode cX7_giveBack 3 = .ok (.iconst 4, 1) := by decide +kernel
theorem dX7_giveBack_4 : decode cX7_giveBack 4 = .ok (.invokevirtual 73, 3) := by decide +kernel
theorem dX7_giveBack_7 : decode cX7_giveBack 7 = .ok (.iconst 4, 1) := by decide +kernel
theorem dX7_giveBack_8 : decode cX7_giveBack 8 = .ok (.iconst 1, 1) := by decide +kernel
theorem dX7_giveBack_9 : decode cX7_giveBack 9 = .ok (.invokevirtual 84, 3) := by decide +kernel
theorem dX7_giveBack_12 : decode cX7_giveBack 12 = .ok (.aload_n 0, 1) := by decide +kernel
theorem dX7_giveBack_13 : decode cX7_giveBack 13 = .ok (.iload_n 1, 1) := by decide +kernel
theorem dX7_giveBack_14 : decode cX7_giveBack 14 = .ok (.iconst 4, 1) := by decide +kernel
theorem dX7_giveBack_15 : decode cX7_giveBack 15 = .ok (.iconst (-1), 1) := by decide +kernel
theorem dX7_giveBack_16 : decode cX7_giveBack 16 = .ok (.invokevirtual 88, 3) := by decide +kernel
theorem dX7_giveBack_19 : decode cX7_giveBack 19 = .ok (.aload_n 0, 1) := by decide +kernel
theorem dX7_giveBack_20 : decode cX7_giveBack 20 = .ok (.iload_n 1, 1) := by decide +kernel
theorem dX7_giveBack_21 : decode cX7_giveBack 21 = .ok (.iconst 5, 1) := by decide +kernel
theorem dX7_giveBack_22 : decode cX7_giveBack 22 = .ok (.iconst 0, 1) := by decide +kernel
theorem dX7_giveBack_23 : decode cX7_giveBack 23 = .ok (.invokevirtual 88, 3) := by decide +kernel
theorem dX7_giveBack_26 : decode cX7_giveBack 26 = .ok (.return_, 1) := by decide +kernel
theorem hd_X7_giveBack : yX7_giveBack.cls = RX7 ∧ yX7_giveBack.cls ≠ "java/lang/invoke/MethodHandle" ∧ yX7_giveBack.cls ≠ "java/lang/invoke/VarHandle" ∧ (parseMethodDescriptor yX7_giveBack.desc).map (fun d => d.parameters.length) = some 1 := by decide +kernel
set_option maxRecDepth 100000 in
set_option maxHeartbeats 4000000 in
theorem c_X7_giveBack (l : Launch) (D : va_G) (g : xG) (tb : List xQ) (hT : x_T g tb) {a1 : Int32} (h0 : x_md tb) {M M' : xM} (hf : f_X7_giveBack a1 M = some M') :
    cV l D g tb yX7_giveBack cX7_giveBack 2 ({ frames := 1, cells := 0, slots := 0, locals := 23 } : Room) [.ref (g.1 5 2500), .int a1] M M' := by
  refine x_startV (own := RX7) (by decide +kernel) rfl rfl (Nat.le_of_ble_eq_true rfl) hT ?_
  intro p e s m args below meth c Q C0 hend
  unfold f_X7_giveBack at hf
  refine r_aload_n C0 (kk := 0) 0 rfl dX7_giveBack_0 ?_
  refine r_aload_n C0 (kk := 0) 0 rfl dX7_giveBack_1 ?_
  refine r_iload_n C0 (kk := 1) 1 rfl dX7_giveBack_2 ?_
  refine r_iconst C0 (v := 4) dX7_giveBack_3 rfl ?_
  obtain ⟨r3, M2, hc1, hf⟩ := bd2_e hf
  refine r_callVi C0 (As := [.int a1, .int 4]) (rest := [.ref (g.1 5 2500)]) (c_X7_by l D g tb hT h0 hc1) w6_103 w6_105 wp4_1 w1_14 w6_106 (x_rec5 C0 h0.1) hd_X7_by rfl ⟨rfl, rfl⟩ ⟨Nat.le_of_ble_eq_true rfl, Nat.le_of_ble_eq_true rfl⟩ (by decide) (by decide) rfl (Nat.le_of_ble_eq_true rfl) dX7_giveBack_4 ?_
  refine r_iconst C0 (v := 4) dX7_giveBack_7 rfl ?_
  refine r_iconst C0 (v := 1) dX7_giveBack_8 rfl ?_
  obtain ⟨M5, hc4, hf⟩ := bd_e hf
  refine r_callVv C0 (As := [.int r3, .int 4, .int 1]) (rest := []) (c_X7_more l D g tb hT h0 hc4) w6_123 w6_125 wp4_6 w1_14 w6_126 (x_rec5 C0 h0.1) hd_X7_more rfl ⟨rfl, rfl⟩ ⟨Nat.le_of_ble_eq_true rfl, Nat.le_of_ble_eq_true rfl⟩ (by decide) (by decide) rfl (Nat.le_of_ble_eq_true rfl) dX7_giveBack_9 ?_
  refine r_aload_n C0 (kk := 0) 0 rfl dX7_giveBack_12 ?_
  refine r_iload_n C0 (kk := 1) 1 rfl dX7_giveBack_13 ?_
  refine r_iconst C0 (v := 4) dX7_giveBack_14 rfl ?_
  refine r_iconst C0 (v := (-1)) dX7_giveBack_15 rfl ?_
  obtain ⟨M7, hc6, hf⟩ := bd_e hf
  refine r_callVv C0 (As := [.int a1, .int 4, .int (-1)]) (rest := []) (c_X7_put l D g tb hT h0 hc6) w6_131 w6_133 wp4_8 w1_14 w6_134 (x_rec5 C0 h0.1) hd_X7_put rfl ⟨rfl, rfl⟩ ⟨Nat.le_of_ble_eq_true rfl, Nat.le_of_ble_eq_true rfl⟩ (by decide) (by decide) rfl (Nat.le_of_ble_eq_true rfl) dX7_giveBack_16 ?_
  refine r_aload_n C0 (kk := 0) 0 rfl dX7_giveBack_19 ?_
  refine r_iload_n C0 (kk := 1) 1 rfl dX7_giveBack_20 ?_
  refine r_iconst C0 (v := 5) dX7_giveBack_21 rfl ?_
  refine r_iconst C0 (v := 0) dX7_giveBack_22 rfl ?_
  obtain ⟨M9, hc8, hf⟩ := bd_e hf
  refine r_callVv C0 (As := [.int a1, .int 5, .int 0]) (rest := []) (c_X7_put l D g tb hT h0 hc8) w6_131 w6_133 wp4_8 w1_14 w6_134 (x_rec5 C0 h0.1) hd_X7_put rfl ⟨rfl, rfl⟩ ⟨Nat.le_of_ble_eq_true rfl, Nat.le_of_ble_eq_true rfl⟩ (by decide) (by decide) rfl (Nat.le_of_ble_eq_true rfl) dX7_giveBack_23 ?_
  exact hend hf dX7_giveBack_26
theorem dX7_apart_0 : decode cX7_apart 0 = .ok (.iload_n 0, 1) := by decide +kernel
theorem dX7_apart_1 : decode cX7_apart 1 = .ok (.iload_n 1, 1) := by decide +kernel
theorem dX7_apart_2 : decode cX7_apart 2 = .ok (.if_icmp .ge 9, 3) := by decide +kernel
theorem dX7_apart_5 : decode cX7_apart 5 = .ok (.iload_n 1, 1) := by decide +kernel
theorem dX7_apart_6 : decode cX7_apart 6 = .ok (.iload_n 0, 1) := by decide +kernel
theorem dX7_apart_7 : decode cX7_apart 7 = .ok (.isub, 1) := by decide +kernel
theorem dX7_apart_8 : decode cX7_apart 8 = .ok (.goto 6, 3) := by decide +kernel
theorem dX7_apart_11 : decode cX7_apart 11 = .ok (.iload_n 0, 1) := by decide +kernel
theorem dX7_apart_12 : decode cX7_apart 12 = .ok (.iload_n 1, 1) := by decide +kernel
theorem dX7_apart_13 : decode cX7_apart 13 = .ok (.isub, 1) := by decide +kernel
theorem dX7_apart_14 : decode cX7_apart 14 = .ok (.ireturn, 1) := by decide +kernel
theorem hd_X7_apart : yX7_apart.cls ≠ "java/lang/invoke/MethodHandle" ∧ yX7_apart.cls ≠ "java/lang/invoke/VarHandle" ∧ (parseMethodDescriptor yX7_apart.desc).map (fun d => d.parameters.length) = some 2 := by decide +kernel
set_option maxRecDepth 100000 in
set_option maxHeartbeats 4000000 in
theorem c_X7_apart (l : Launch) (D : va_G) (g : xG) (tb : List xQ) (hT : x_T g tb) {a0 : Int32} {a1 : Int32}  {M : xM} {r : Int32} {M' : xM} (hf : f_X7_apart a0 a1 M = some (r, M')) :
    cI l D g tb yX7_apart cX7_apart 2 .int ({ frames := 0, cells := 0, slots := 0, locals := 0 } : Room) [.int a0, .int a1] M r M' := by
  refine x_startI (own := RX7) (by decide +kernel) rfl rfl (Nat.le_of_ble_eq_true rfl) hT ?_
  intro p e s m args below meth c Q C0 hend
  unfold f_X7_apart at hf
  refine r_iload_n C0 (kk := 0) 0 rfl dX7_apart_0 ?_
  refine r_iload_n C0 (kk := 1) 1 rfl dX7_apart_1 ?_
  refine r_icmp_ge C0 (tgt := 11) (by decide) dX7_apart_2 (fun q1 => ?_) (fun q1 => ?_)
  · have hf := ie_t hf q1
    refine r_iload_n C0 (kk := 0) 0 rfl dX7_apart_11 ?_
    refine r_iload_n C0 (kk := 1) 1 rfl dX7_apart_12 ?_
    refine r_isub C0 dX7_apart_13 ?_
    exact hend hf dX7_apart_14
  · have hf := ie_f hf q1
    refine r_iload_n C0 (kk := 1) 1 rfl dX7_apart_5 ?_
    refine r_iload_n C0 (kk := 0) 0 rfl dX7_apart_6 ?_
    refine r_isub C0 dX7_apart_7 ?_
    refine r_goto C0 (tgt := 14) (by decide) dX7_apart_8 ?_
    exact hend hf dX7_apart_14
theorem dX7_pay_0 : decode cX7_pay 0 = .ok (.aload_n 0, 1) := by decide +kernel
theorem dX7_pay_1 : decode cX7_pay 1 = .ok (.iload_n 1, 1) := by decide +kernel
theorem dX7_pay_2 : decode cX7_pay 2 = .ok (.iconst 4, 1) := by decide +kernel
theorem dX7_pay_3 : decode cX7_pay 3 = .ok (.invokevirtual 73, 3) := by decide +kernel
theorem dX7_pay_6 : decode cX7_pay 6 = .ok (.istore_n 2, 1) := by decide +kernel
theorem dX7_pay_7 : decode cX7_pay 7 = .ok (.aload_n 0, 1) := by decide +kernel
theorem dX7_pay_8 : decode cX7_pay 8 = .ok (.iload_n 1, 1) := by decide +kernel
theorem dX7_pay_9 : decode cX7_pay 9 = .ok (.iconst 5, 1) := by decide +kernel
theorem dX7_pay_10 : decode cX7_pay 10 = .ok (.invokevirtual 73, 3) := by decide +kernel
theorem dX7_pay_13 : decode cX7_pay 13 = .ok (.istore_n 3, 1) := by decide +kernel
theorem dX7_pay_14 : decode cX7_pay 14 = .ok (.aload_n 0, 1) := by decide +kernel
theorem dX7_pay_15 : decode cX7_pay 15 = .ok (.iload_n 2, 1) := by decide +kernel
theorem dX7_pay_16 : decode cX7_pay 16 = .ok (.bipush 7, 2) := by decide +kernel
theorem dX7_pay_18 : decode cX7_pay 18 = .ok (.iload_n 3, 1) := by decide +kernel
theorem dX7_pay_19 : decode cX7_pay 19 = .ok (.invokevirtual 84, 3) := by decide +kernel
theorem dX7_pay_22 : decode cX7_pay 22 = .ok (.aload_n 0, 1) := by decide +kernel
theorem dX7_pay_23 : decode cX7_pay 23 = .ok (.iload_n 2, 1) := by decide +kernel
theorem dX7_pay_24 : decode cX7_pay 24 = .ok (.iconst 5, 1) := by decide +kernel
theorem dX7_pay_25 : decode cX7_pay 25 = .ok (.iconst 1, 1) := by decide +kernel
theorem dX7_pay_26 : decode cX7_pay 26 = .ok (.invokevirtual 84, 3) := by decide +kernel
theorem dX7_pay_29 : decode cX7_pay 29 = .ok (.aload_n 0, 1) := by decide +kernel
theorem dX7_pay_30 : decode cX7_pay 30 = .ok (.iload_n 1, 1) := by decide +kernel
theorem dX7_pay_31 : decode cX7_pay 31 = .ok (.iconst 1, 1) := by decide +kernel
theorem dX7_pay_32 : decode cX7_pay 32 = .ok (.aload_n 0, 1) := by decide +kernel
theorem dX7_pay_33 : decode cX7_pay 33 = .ok (.iload_n 1, 1) := by decide +kernel
theorem dX7_pay_34 : decode cX7_pay 34 = .ok (.iconst 1, 1) := by decide +kernel
theorem dX7_pay_35 : decode cX7_pay 35 = .ok (.invokevirtual 73, 3) := by decide +kernel
theorem dX7_pay_38 : decode cX7_pay 38 = .ok (.iload_n 3, 1) := by decide +kernel
theorem dX7_pay_39 : decode cX7_pay 39 = .ok (.isub, 1) := by decide +kernel
theorem dX7_pay_40 : decode cX7_pay 40 = .ok (.invokevirtual 88, 3) := by decide +kernel
theorem dX7_pay_43 : decode cX7_pay 43 = .ok (.aload_n 0, 1) := by decide +kernel
theorem dX7_pay_44 : decode cX7_pay 44 = .ok (.iload_n 1, 1) := by decide +kernel
theorem dX7_pay_45 : decode cX7_pay 45 = .ok (.bipush 7, 2) := by decide +kernel
theorem dX7_pay_47 : decode cX7_pay 47 = .ok (.aload_n 0, 1) := by decide +kernel
theorem dX7_pay_48 : decode cX7_pay 48 = .ok (.iload_n 1, 1) := by decide +kernel
theorem dX7_pay_49 : decode cX7_pay 49 = .ok (.bipush 7, 2) := by decide +kernel
theorem dX7_pay_51 : decode cX7_pay 51 = .ok (.invokevirtual 73, 3) := by decide +kernel
theorem dX7_pay_54 : decode cX7_pay 54 = .ok (.iconst 1, 1) := by decide +kernel
theorem dX7_pay_55 : decode cX7_pay 55 = .ok (.iadd, 1) := by decide +kernel
theorem dX7_pay_56 : decode cX7_pay 56 = .ok (.invokevirtual 88, 3) := by decide +kernel
theorem dX7_pay_59 : decode cX7_pay 59 = .ok (.aload_n 0, 1) := by decide +kernel
theorem dX7_pay_60 : decode cX7_pay 60 = .ok (.iload_n 1, 1) := by decide +kernel
theorem dX7_pay_61 : decode cX7_pay 61 = .ok (.iconst 4, 1) := by decide +kernel
theorem dX7_pay_62 : decode cX7_pay 62 = .ok (.iconst (-1), 1) := by decide +kernel
theorem dX7_pay_63 : decode cX7_pay 63 = .ok (.invokevirtual 88, 3) := by decide +kernel
theorem dX7_pay_66 : decode cX7_pay 66 = .ok (.aload_n 0, 1) := by decide +kernel
theorem dX7_pay_67 : decode cX7_pay 67 = .ok (.iload_n 1, 1) := by decide +kernel
theorem dX7_pay_68 : decode cX7_pay 68 = .ok (.iconst 5, 1) := by decide +kernel
theorem dX7_pay_69 : decode cX7_pay 69 = .ok (.iconst 0, 1) := by decide +kernel
theorem dX7_pay_70 : decode cX7_pay 70 = .ok (.invokevirtual 88, 3) := by decide +kernel
theorem dX7_pay_73 : decode cX7_pay 73 = .ok (.iconst 1, 1) := by decide +kernel
theorem dX7_pay_74 : decode cX7_pay 74 = .ok (.ireturn, 1) := by decide +kernel
theorem hd_X7_pay : yX7_pay.cls = RX7 ∧ yX7_pay.cls ≠ "java/lang/invoke/MethodHandle" ∧ yX7_pay.cls ≠ "java/lang/invoke/VarHandle" ∧ (parseMethodDescriptor yX7_pay.desc).map (fun d => d.parameters.length) = some 1 := by decide +kernel
set_option maxRecDepth 100000 in
set_option maxHeartbeats 4000000 in
theorem c_X7_pay (l : Launch) (D : va_G) (g : xG) (tb : List xQ) (hT : x_T g tb) {a1 : Int32} (h0 : x_md tb) {M : xM} {r : Int32} {M' : xM} (hf : f_X7_pay a1 M = some (r, M')) :
    cI l D g tb yX7_pay cX7_pay 4 .int ({ frames := 1, cells := 0, slots := 0, locals := 23 } : Room) [.ref (g.1 5 2500), .int a1] M r M' := by
  refine x_startI (own := RX7) (by decide +kernel) rfl rfl (Nat.le_of_ble_eq_true rfl) hT ?_
  intro p e s m args below meth c Q C0 hend
  unfold f_X7_pay at hf
  refine r_aload_n C0 (kk := 0) 0 rfl dX7_pay_0 ?_
  refine r_iload_n C0 (kk := 1) 1 rfl dX7_pay_1 ?_
  refine r_iconst C0 (v := 4) dX7_pay_2 rfl ?_
  obtain ⟨r3, M2, hc1, hf⟩ := bd2_e hf
  refine r_callVi C0 (As := [.int a1, .int 4]) (rest := []) (c_X7_by l D g tb hT h0 hc1) w6_103 w6_105 wp4_1 w1_14 w6_106 (x_rec5 C0 h0.1) hd_X7_by rfl ⟨rfl, rfl⟩ ⟨Nat.le_of_ble_eq_true rfl, Nat.le_of_ble_eq_true rfl⟩ (by decide) (by decide) rfl (Nat.le_of_ble_eq_true rfl) dX7_pay_3 ?_
  refine r_istore_n C0 (kk := 2) (lv2 := [(2, .int r3), (0, .ref (g.1 5 2500)), (1, .int a1)]) (by decide) rfl dX7_pay_6 ?_
  refine r_aload_n C0 (kk := 0) 1 rfl dX7_pay_7 ?_
  refine r_iload_n C0 (kk := 1) 2 rfl dX7_pay_8 ?_
  refine r_iconst C0 (v := 5) dX7_pay_9 rfl ?_
  obtain ⟨r6, M5, hc4, hf⟩ := bd2_e hf
  refine r_callVi C0 (As := [.int a1, .int 5]) (rest := []) (c_X7_by l D g tb hT h0 hc4) w6_103 w6_105 wp4_1 w1_14 w6_106 (x_rec5 C0 h0.1) hd_X7_by rfl ⟨rfl, rfl⟩ ⟨Nat.le_of_ble_eq_true rfl, Nat.le_of_ble_eq_true rfl⟩ (by decide) (by decide) rfl (Nat.le_of_ble_eq_true rfl) dX7_pay_10 ?_
  refine r_istore_n C0 (kk := 3) (lv2 := [(3, .int r6), (2, .int r3), (0, .ref (g.1 5 2500)), (1, .int a1)]) (by decide) rfl dX7_pay_13 ?_
  refine r_aload_n C0 (kk := 0) 2 rfl dX7_pay_14 ?_
  refine r_iload_n C0 (kk := 2) 1 rfl dX7_pay_15 ?_
  refine r_bipush C0 (v := 7) dX7_pay_16 rfl ?_
  refine r_iload_n C0 (kk := 3) 0 rfl dX7_pay_18 ?_
  obtain ⟨M8, hc7, hf⟩ := bd_e hf
  refine r_callVv C0 (As := [.int r3, .int 7, .int r6]) (rest := []) (c_X7_more l D g tb hT h0 hc7) w6_123 w6_125 wp4_6 w1_14 w6_126 (x_rec5 C0 h0.1) hd_X7_more rfl ⟨rfl, rfl⟩ ⟨Nat.le_of_ble_eq_true rfl, Nat.le_of_ble_eq_true rfl⟩ (by decide) (by decide) rfl (Nat.le_of_ble_eq_true rfl) dX7_pay_19 ?_
  refine r_aload_n C0 (kk := 0) 2 rfl dX7_pay_22 ?_
  refine r_iload_n C0 (kk := 2) 1 rfl dX7_pay_23 ?_
  refine r_iconst C0 (v := 5) dX7_pay_24 rfl ?_
  refine r_iconst C0 (v := 1) dX7_pay_25 rfl ?_
  obtain ⟨M10, hc9, hf⟩ := bd_e hf
  refine r_callVv C0 (As := [.int r3, .int 5, .int 1]) (rest := []) (c_X7_more l D g tb hT h0 hc9) w6_123 w6_125 wp4_6 w1_14 w6_126 (x_rec5 C0 h0.1) hd_X7_more rfl ⟨rfl, rfl⟩ ⟨Nat.le_of_ble_eq_true rfl, Nat.le_of_ble_eq_true rfl⟩ (by decide) (by decide) rfl (Nat.le_of_ble_eq_true rfl) dX7_pay_26 ?_
  refine r_aload_n C0 (kk := 0) 2 rfl dX7_pay_29 ?_
  refine r_iload_n C0 (kk := 1) 3 rfl dX7_pay_30 ?_
  refine r_iconst C0 (v := 1) dX7_pay_31 rfl ?_
  refine r_aload_n C0 (kk := 0) 2 rfl dX7_pay_32 ?_
  refine r_iload_n C0 (kk := 1) 3 rfl dX7_pay_33 ?_
  refine r_iconst C0 (v := 1) dX7_pay_34 rfl ?_
  obtain ⟨r13, M12, hc11, hf⟩ := bd2_e hf
  refine r_callVi C0 (As := [.int a1, .int 1]) (rest := [.int 1, .int a1, .ref (g.1 5 2500)]) (c_X7_by l D g tb hT h0 hc11) w6_103 w6_105 wp4_1 w1_14 w6_106 (x_rec5 C0 h0.1) hd_X7_by rfl ⟨rfl, rfl⟩ ⟨Nat.le_of_ble_eq_true rfl, Nat.le_of_ble_eq_true rfl⟩ (by decide) (by decide) rfl (Nat.le_of_ble_eq_true rfl) dX7_pay_35 ?_
  refine r_iload_n C0 (kk := 3) 0 rfl dX7_pay_38 ?_
  refine r_isub C0 dX7_pay_39 ?_
  obtain ⟨M15, hc14, hf⟩ := bd_e hf
  refine r_callVv C0 (As := [.int a1, .int 1, .int (r13 - r6)]) (rest := []) (c_X7_put l D g tb hT h0 hc14) w6_131 w6_133 wp4_8 w1_14 w6_134 (x_rec5 C0 h0.1) hd_X7_put rfl ⟨rfl, rfl⟩ ⟨Nat.le_of_ble_eq_true rfl, Nat.le_of_ble_eq_true rfl⟩ (by decide) (by decide) rfl (Nat.le_of_ble_eq_true rfl) dX7_pay_40 ?_
  refine r_aload_n C0 (kk := 0) 2 rfl dX7_pay_43 ?_
  refine r_iload_n C0 (kk := 1) 3 rfl dX7_pay_44 ?_
  refine r_bipush C0 (v := 7) dX7_pay_45 rfl ?_
  refine r_aload_n C0 (kk := 0) 2 rfl dX7_pay_47 ?_
  refine r_iload_n C0 (kk := 1) 3 rfl dX7_pay_48 ?_
  refine r_bipush C0 (v := 7) dX7_pay_49 rfl ?_
  obtain ⟨r18, M17, hc16, hf⟩ := bd2_e hf
  refine r_callVi C0 (As := [.int a1, .int 7]) (rest := [.int 7, .int a1, .ref (g.1 5 2500)]) (c_X7_by l D g tb hT h0 hc16) w6_103 w6_105 wp4_1 w1_14 w6_106 (x_rec5 C0 h0.1) hd_X7_by rfl ⟨rfl, rfl⟩ ⟨Nat.le_of_ble_eq_true rfl, Nat.le_of_ble_eq_true rfl⟩ (by decide) (by decide) rfl (Nat.le_of_ble_eq_true rfl) dX7_pay_51 ?_
  refine r_iconst C0 (v := 1) dX7_pay_54 rfl ?_
  refine r_iadd C0 dX7_pay_55 ?_
  obtain ⟨M20, hc19, hf⟩ := bd_e hf
  refine r_callVv C0 (As := [.int a1, .int 7, .int (r18 + 1)]) (rest := []) (c_X7_put l D g tb hT h0 hc19) w6_131 w6_133 wp4_8 w1_14 w6_134 (x_rec5 C0 h0.1) hd_X7_put rfl ⟨rfl, rfl⟩ ⟨Nat.le_of_ble_eq_true rfl, Nat.le_of_ble_eq_true rfl⟩ (by decide) (by decide) rfl (Nat.le_of_ble_eq_true rfl) dX7_pay_56 ?_
  refine r_aload_n C0 (kk := 0) 2 rfl dX7_pay_59 ?_
  refine r_iload_n C0 (kk := 1) 3 rfl dX7_pay_60 ?_
  refine r_iconst C0 (v := 4) dX7_pay_61 rfl ?_
  refine r_iconst C0 (v := (-1)) dX7_pay_62 rfl ?_
  obtain ⟨M22, hc21, hf⟩ := bd_e hf
  refine r_callVv C0 (As := [.int a1, .int 4, .int (-1)]) (rest := []) (c_X7_put l D g tb hT h0 hc21) w6_131 w6_133 wp4_8 w1_14 w6_134 (x_rec5 C0 h0.1) hd_X7_put rfl ⟨rfl, rfl⟩ ⟨Nat.le_of_ble_eq_true rfl, Nat.le_of_ble_eq_true rfl⟩ (by decide) (by decide) rfl (Nat.le_of_ble_eq_true rfl) dX7_pay_63 ?_
  refine r_aload_n C0 (kk := 0) 2 rfl dX7_pay_66 ?_
  refine r_iload_n C0 (kk := 1) 3 rfl dX7_pay_67 ?_
  refine r_iconst C0 (v := 5) dX7_pay_68 rfl ?_
  refine r_iconst C0 (v := 0) dX7_pay_69 rfl ?_
  obtain ⟨M24, hc23, hf⟩ := bd_e hf
  refine r_callVv C0 (As := [.int a1, .int 5, .int 0]) (rest := []) (c_X7_put l D g tb hT h0 hc23) w6_131 w6_133 wp4_8 w1_14 w6_134 (x_rec5 C0 h0.1) hd_X7_put rfl ⟨rfl, rfl⟩ ⟨Nat.le_of_ble_eq_true rfl, Nat.le_of_ble_eq_true rfl⟩ (by decide) (by decide) rfl (Nat.le_of_ble_eq_true rfl) dX7_pay_70 ?_
  refine r_iconst C0 (v := 1) dX7_pay_73 rfl ?_
  exact hend hf dX7_pay_74
theorem dX7_has_0 : decode cX7_has 0 = .ok (.iload_n 0, 1) := by decide +kernel
theorem dX7_has_1 : decode cX7_has 1 = .ok (.iload_n 1, 1) := by decide +kernel
theorem dX7_has_2 : decode cX7_has 2 = .ok (.ishr, 1) := by decide +kernel
theorem dX7_has_3 : decode cX7_has 3 = .ok (.iconst 1, 1) := by decide +kernel
theorem dX7_has_4 : decode cX7_has 4 = .ok (.iand, 1) := by decide +kernel
theorem dX7_has_5 : decode cX7_has 5 = .ok (.iconst 1, 1) := by decide +kernel
theorem dX7_has_6 : decode cX7_has 6 = .ok (.if_icmp .ne 7, 3) := by decide +kernel
theorem dX7_has_9 : decode cX7_has 9 = .ok (.iconst 1, 1) := by decide +kernel
theorem dX7_has_10 : decode cX7_has 10 = .ok (.goto 4, 3) := by decide +kernel
theorem dX7_has_13 : decode cX7_has 13 = .ok (.iconst 0, 1) := by decide +kernel
theorem dX7_has_14 : decode cX7_has 14 = .ok (.ireturn, 1) := by decide +kernel
theorem hd_X7_has : yX7_has.cls ≠ "java/lang/invoke/MethodHandle" ∧ yX7_has.cls ≠ "java/lang/invoke/VarHandle" ∧ (parseMethodDescriptor yX7_has.desc).map (fun d => d.parameters.length) = some 2 := by decide +kernel
set_option maxRecDepth 100000 in
set_option maxHeartbeats 4000000 in
theorem c_X7_has (l : Launch) (D : va_G) (g : xG) (tb : List xQ) (hT : x_T g tb) {a0 : Int32} {a1 : Int32}  {M : xM} {r : Int32} {M' : xM} (hf : f_X7_has a0 a1 M = some (r, M')) :
    cI l D g tb yX7_has cX7_has 2 .boolean ({ frames := 0, cells := 0, slots := 0, locals := 0 } : Room) [.int a0, .int a1] M r M' := by
  refine x_startZ (own := RX7) (by decide +kernel) rfl rfl (Nat.le_of_ble_eq_true rfl) hT ?_
  intro p e s m args below meth c Q C0 hend
  unfold f_X7_has at hf
  refine r_iload_n C0 (kk := 0) 0 rfl dX7_has_0 ?_
  refine r_iload_n C0 (kk := 1) 1 rfl dX7_has_1 ?_
  refine r_ishr C0 dX7_has_2 ?_
  refine r_iconst C0 (v := 1) dX7_has_3 rfl ?_
  refine r_iand C0 dX7_has_4 ?_
  refine r_iconst C0 (v := 1) dX7_has_5 rfl ?_
  refine r_icmp_ne C0 (tgt := 13) (by decide) dX7_has_6 (fun q1 => ?_) (fun q1 => ?_)
  · have hf := ie_f hf q1
    refine r_iconst C0 (v := 0) dX7_has_13 rfl ?_
    exact hend (by decide) hf dX7_has_14
  · have hf := ie_t hf q1
    refine r_iconst C0 (v := 1) dX7_has_9 rfl ?_
    refine r_goto C0 (tgt := 14) (by decide) dX7_has_10 ?_
    exact hend (by decide) hf dX7_has_14
theorem dX7_reachOf_0 : decode cX7_reachOf 0 = .ok (.iload_n 0, 1) := by decide +kernel
theorem dX7_reachOf_1 : decode cX7_reachOf 1 = .ok (.tableswitch 46 0 2 #[27, 34, 39], 27) := by decide +kernel
theorem dX7_reachOf_28 : decode cX7_reachOf 28 = .ok (.bipush 30, 2) := by decide +kernel
theorem dX7_reachOf_30 : decode cX7_reachOf 30 = .ok (.iconst 2, 1) := by decide +kernel
theorem dX7_reachOf_31 : decode cX7_reachOf 31 = .ok (.iload_n 1, 1) := by decide +kernel
theorem dX7_reachOf_32 : decode cX7_reachOf 32 = .ok (.imul, 1) := by decide +kernel
theorem dX7_reachOf_33 : decode cX7_reachOf 33 = .ok (.isub, 1) := by decide +kernel
theorem dX7_reachOf_34 : decode cX7_reachOf 34 = .ok (.ireturn, 1) := by decide +kernel
theorem dX7_reachOf_35 : decode cX7_reachOf 35 = .ok (.bipush 24, 2) := by decide +kernel
theorem dX7_reachOf_37 : decode cX7_reachOf 37 = .ok (.iload_n 1, 1) := by decide +kernel
theorem dX7_reachOf_38 : decode cX7_reachOf 38 = .ok (.isub, 1) := by decide +kernel
theorem dX7_reachOf_39 : decode cX7_reachOf 39 = .ok (.ireturn, 1) := by decide +kernel
theorem dX7_reachOf_40 : decode cX7_reachOf 40 = .ok (.bipush 45, 2) := by decide +kernel
theorem dX7_reachOf_42 : decode cX7_reachOf 42 = .ok (.iconst 5, 1) := by decide +kernel
theorem dX7_reachOf_43 : decode cX7_reachOf 43 = .ok (.iload_n 1, 1) := by decide +kernel
theorem dX7_reachOf_44 : decode cX7_reachOf 44 = .ok (.imul, 1) := by decide +kernel
theorem dX7_reachOf_45 : decode cX7_reachOf 45 = .ok (.isub, 1) := by decide +kernel
theorem dX7_reachOf_46 : decode cX7_reachOf 46 = .ok (.ireturn, 1) := by decide +kernel
theorem dX7_reachOf_47 : decode cX7_reachOf 47 = .ok (.bipush 12, 2) := by decide +kernel
theorem dX7_reachOf_49 : decode cX7_reachOf 49 = .ok (.ireturn, 1) := by decide +kernel
theorem hd_X7_reachOf : yX7_reachOf.cls ≠ "java/lang/invoke/MethodHandle" ∧ yX7_reachOf.cls ≠ "java/lang/invoke/VarHandle" ∧ (parseMethodDescriptor yX7_reachOf.desc).map (fun d => d.parameters.length) = some 2 := by decide +kernel
set_option maxRecDepth 100000 in
set_option maxHeartbeats 4000000 in
theorem c_X7_reachOf (l : Launch) (D : va_G) (g : xG) (tb : List xQ) (hT : x_T g tb) {a0 : Int32} {a1 : Int32}  {M : xM} {r : Int32} {M' : xM} (hf : f_X7_reachOf a0 a1 M = some (r, M')) :
    cI l D g tb yX7_reachOf cX7_reachOf 2 .int ({ frames := 0, cells := 0, slots := 0, locals := 0 } : Room) [.int a0, .int a1] M r M' := by
  refine x_startI (own := RX7) (by decide +kernel) rfl rfl (Nat.le_of_ble_eq_true rfl) hT ?_
  intro p e s m args below meth c Q C0 hend
  unfold f_X7_reachOf at hf
  refine r_iload_n C0 (kk := 0) 0 rfl dX7_reachOf_0 ?_
  rcases Decidable.em (a0 = 0) with q1 | q1
  · have hf := ie_t hf q1
    refine r_tsc C0 (cst := 0) q1 (by decide) (by decide) rfl (tgt := 28) (by decide) dX7_reachOf_1 ?_
    refine r_bipush C0 (v := 30) dX7_reachOf_28 rfl ?_
    refine r_iconst C0 (v := 2) dX7_reachOf_30 rfl ?_
    refine r_iload_n C0 (kk := 1) 1 rfl dX7_reachOf_31 ?_
    refine r_imul C0 dX7_reachOf_32 ?_
    refine r_isub C0 dX7_reachOf_33 ?_
    exact hend hf dX7_reachOf_34
  have hf := ie_f hf q1
  have nq1 : Int32.toInt a0 ≠ 0 := fun h => q1 (Int32.toInt_inj.mp h)
  rcases Decidable.em (a0 = 1) with q2 | q2
  · have hf := ie_t hf q2
    refine r_tsc C0 (cst := 1) q2 (by decide) (by decide) rfl (tgt := 35) (by decide) dX7_reachOf_1 ?_
    refine r_bipush C0 (v := 24) dX7_reachOf_35 rfl ?_
    refine r_iload_n C0 (kk := 1) 1 rfl dX7_reachOf_37 ?_
    refine r_isub C0 dX7_reachOf_38 ?_
    exact hend hf dX7_reachOf_39
  have hf := ie_f hf q2
  have nq2 : Int32.toInt a0 ≠ 1 := fun h => q2 (Int32.toInt_inj.mp h)
  rcases Decidable.em (a0 = 2) with q3 | q3
  · have hf := ie_t hf q3
    refine r_tsc C0 (cst := 2) q3 (by decide) (by decide) rfl (tgt := 40) (by decide) dX7_reachOf_1 ?_
    refine r_bipush C0 (v := 45) dX7_reachOf_40 rfl ?_
    refine r_iconst C0 (v := 5) dX7_reachOf_42 rfl ?_
    refine r_iload_n C0 (kk := 1) 1 rfl dX7_reachOf_43 ?_
    refine r_imul C0 dX7_reachOf_44 ?_
    refine r_isub C0 dX7_reachOf_45 ?_
    exact hend hf dX7_reachOf_46
  have hf := ie_f hf q3
  have nq3 : Int32.toInt a0 ≠ 2 := fun h => q3 (Int32.toInt_inj.mp h)
  refine r_tsd C0 (by omega) (tgt := 47) (by decide) dX7_reachOf_1 ?_
  refine r_bipush C0 (v := 12) dX7_reachOf_47 rfl ?_
  exact hend hf dX7_reachOf_49
theorem dX7_feel_0 : decode cX7_feel 0 = .ok (.aload_n 0, 1) := by decide +kernel
theorem dX7_feel_1 : decode cX7_feel 1 = .ok (.iload_n 2, 1) := by decide +kernel
theorem dX7_feel_2 : decode cX7_feel 2 = .ok (.iconst 2, 1) := by decide +kernel
theorem dX7_feel_3 : decode cX7_feel 3 = .ok (.invokevirtual 63, 3) := by decide +kernel
theorem dX7_feel_6 : decode cX7_feel 6 = .ok (.aload_n 0, 1) := by decide +kernel
theorem dX7_feel_7 : decode cX7_feel 7 = .ok (.iload_n 1, 1) := by decide +kernel
theorem dX7_feel_8 : decode cX7_feel 8 = .ok (.iconst 2, 1) := by decide +kernel
theorem dX7_feel_9 : decode cX7_feel 9 = .ok (.invokevirtual 73, 3) := by decide +kernel
theorem dX7_feel_12 : decode cX7_feel 12 = .ok (.if_icmp .eq 5, 3) := by decide +kernel
theorem dX7_feel_15 : decode cX7_feel 15 = .ok (.iconst 1, 1) := by decide +kernel
theorem dX7_feel_16 : decode cX7_feel 16 = .ok (.ireturn, 1) := by decide +kernel
theorem dX7_feel_17 : decode cX7_feel 17 = .ok (.aload_n 0, 1) := by decide +kernel
theorem dX7_feel_18 : decode cX7_feel 18 = .ok (.iload_n 2, 1) := by decide +kernel
theorem dX7_feel_19 : decode cX7_feel 19 = .ok (.iconst 4, 1) := by decide +kernel
theorem dX7_feel_20 : decode cX7_feel 20 = .ok (.invokevirtual 63, 3) := by decide +kernel
theorem dX7_feel_23 : decode cX7_feel 23 = .ok (.ifCond .ne 5, 3) := by decide +kernel
theorem dX7_feel_26 : decode cX7_feel 26 = .ok (.iconst 2, 1) := by decide +kernel
theorem dX7_feel_27 : decode cX7_feel 27 = .ok (.ireturn, 1) := by decide +kernel
theorem dX7_feel_28 : decode cX7_feel 28 = .ok (.aload_n 0, 1) := by decide +kernel
theorem dX7_feel_29 : decode cX7_feel 29 = .ok (.iload_n 2, 1) := by decide +kernel
theorem dX7_feel_30 : decode cX7_feel 30 = .ok (.iconst 3, 1) := by decide +kernel
theorem dX7_feel_31 : decode cX7_feel 31 = .ok (.invokevirtual 63, 3) := by decide +kernel
theorem dX7_feel_34 : decode cX7_feel 34 = .ok (.aload_n 0, 1) := by decide +kernel
theorem dX7_feel_35 : decode cX7_feel 35 = .ok (.iload_n 1, 1) := by decide +kernel
theorem dX7_feel_36 : decode cX7_feel 36 = .ok (.iconst 1, 1) := by decide +kernel
theorem dX7_feel_37 : decode cX7_feel 37 = .ok (.invokevirtual 73, 3) := by decide +kernel
theorem dX7_feel_40 : decode cX7_feel 40 = .ok (.if_icmp .le 7, 3) := by decide +kernel
theorem dX7_feel_43 : decode cX7_feel 43 = .ok (.iconst 3, 1) := by decide +kernel
theorem dX7_feel_44 : decode cX7_feel 44 = .ok (.goto 4, 3) := by decide +kernel
theorem dX7_feel_47 : decode cX7_feel 47 = .ok (.iconst 0, 1) := by decide +kernel
theorem dX7_feel_48 : decode cX7_feel 48 = .ok (.ireturn, 1) := by decide +kernel
theorem hd_X7_feel : yX7_feel.cls = RX7 ∧ yX7_feel.cls ≠ "java/lang/invoke/MethodHandle" ∧ yX7_feel.cls ≠ "java/lang/invoke/VarHandle" ∧ (parseMethodDescriptor yX7_feel.desc).map (fun d => d.parameters.length) = some 2 := by decide +kernel
set_option maxRecDepth 100000 in
set_option maxHeartbeats 4000000 in
theorem c_X7_feel (l : Launch) (D : va_G) (g : xG) (tb : List xQ) (hT : x_T g tb) {a1 : Int32} {a2 : Int32} (h0 : x_md tb) {M : xM} {r : Int32} {M' : xM} (hf : f_X7_feel a1 a2 M = some (r, M')) :
    cI l D g tb yX7_feel cX7_feel 3 .int ({ frames := 1, cells := 0, slots := 0, locals := 22 } : Room) [.ref (g.1 5 2500), .int a1, .int a2] M r M' := by
  refine x_startI (own := RX7) (by decide +kernel) rfl rfl (Nat.le_of_ble_eq_true rfl) hT ?_
  intro p e s m args below meth c Q C0 hend
  unfold f_X7_feel at hf
  refine r_aload_n C0 (kk := 0) 0 rfl dX7_feel_0 ?_
  refine r_iload_n C0 (kk := 2) 2 rfl dX7_feel_1 ?_
  refine r_iconst C0 (v := 2) dX7_feel_2 rfl ?_
  obtain ⟨r3, M2, hc1, hf⟩ := bd2_e hf
  refine r_callVi C0 (As := [.int a2, .int 2]) (rest := []) (c_X7_st l D g tb hT h0 hc1) w6_111 w6_113 wp4_3 w1_14 w6_114 (x_rec5 C0 h0.1) hd_X7_st rfl ⟨rfl, rfl⟩ ⟨Nat.le_of_ble_eq_true rfl, Nat.le_of_ble_eq_true rfl⟩ (by decide) (by decide) rfl (Nat.le_of_ble_eq_true rfl) dX7_feel_3 ?_
  refine r_aload_n C0 (kk := 0) 0 rfl dX7_feel_6 ?_
  refine r_iload_n C0 (kk := 1) 1 rfl dX7_feel_7 ?_
  refine r_iconst C0 (v := 2) dX7_feel_8 rfl ?_
  obtain ⟨r6, M5, hc4, hf⟩ := bd2_e hf
  refine r_callVi C0 (As := [.int a1, .int 2]) (rest := [.int r3]) (c_X7_by l D g tb hT h0 hc4) w6_103 w6_105 wp4_1 w1_14 w6_106 (x_rec5 C0 h0.1) hd_X7_by rfl ⟨rfl, rfl⟩ ⟨Nat.le_of_ble_eq_true rfl, Nat.le_of_ble_eq_true rfl⟩ (by decide) (by decide) rfl (Nat.le_of_ble_eq_true rfl) dX7_feel_9 ?_
  refine r_icmp_eq C0 (tgt := 17) (by decide) dX7_feel_12 (fun q7 => ?_) (fun q7 => ?_)
  · have hf := ie_t hf q7
    refine r_aload_n C0 (kk := 0) 0 rfl dX7_feel_17 ?_
    refine r_iload_n C0 (kk := 2) 2 rfl dX7_feel_18 ?_
    refine r_iconst C0 (v := 4) dX7_feel_19 rfl ?_
    obtain ⟨r10, M9, hc8, hf⟩ := bd2_e hf
    refine r_callVi C0 (As := [.int a2, .int 4]) (rest := []) (c_X7_st l D g tb hT h0 hc8) w6_111 w6_113 wp4_3 w1_14 w6_114 (x_rec5 C0 h0.1) hd_X7_st rfl ⟨rfl, rfl⟩ ⟨Nat.le_of_ble_eq_true rfl, Nat.le_of_ble_eq_true rfl⟩ (by decide) (by decide) rfl (Nat.le_of_ble_eq_true rfl) dX7_feel_20 ?_
    refine r_if_ne C0 (tgt := 28) (by decide) dX7_feel_23 (fun q11 => ?_) (fun q11 => ?_)
    · have hf := ie_f hf q11
      refine r_aload_n C0 (kk := 0) 0 rfl dX7_feel_28 ?_
      refine r_iload_n C0 (kk := 2) 2 rfl dX7_feel_29 ?_
      refine r_iconst C0 (v := 3) dX7_feel_30 rfl ?_
      obtain ⟨r14, M13, hc12, hf⟩ := bd2_e hf
      refine r_callVi C0 (As := [.int a2, .int 3]) (rest := []) (c_X7_st l D g tb hT h0 hc12) w6_111 w6_113 wp4_3 w1_14 w6_114 (x_rec5 C0 h0.1) hd_X7_st rfl ⟨rfl, rfl⟩ ⟨Nat.le_of_ble_eq_true rfl, Nat.le_of_ble_eq_true rfl⟩ (by decide) (by decide) rfl (Nat.le_of_ble_eq_true rfl) dX7_feel_31 ?_
      refine r_aload_n C0 (kk := 0) 0 rfl dX7_feel_34 ?_
      refine r_iload_n C0 (kk := 1) 1 rfl dX7_feel_35 ?_
      refine r_iconst C0 (v := 1) dX7_feel_36 rfl ?_
      obtain ⟨r17, M16, hc15, hf⟩ := bd2_e hf
      refine r_callVi C0 (As := [.int a1, .int 1]) (rest := [.int r14]) (c_X7_by l D g tb hT h0 hc15) w6_103 w6_105 wp4_1 w1_14 w6_106 (x_rec5 C0 h0.1) hd_X7_by rfl ⟨rfl, rfl⟩ ⟨Nat.le_of_ble_eq_true rfl, Nat.le_of_ble_eq_true rfl⟩ (by decide) (by decide) rfl (Nat.le_of_ble_eq_true rfl) dX7_feel_37 ?_
      refine r_icmp_le C0 (tgt := 47) (by decide) dX7_feel_40 (fun q18 => ?_) (fun q18 => ?_)
      · have hf := ie_t hf q18
        refine r_iconst C0 (v := 0) dX7_feel_47 rfl ?_
        exact hend hf dX7_feel_48
      · have hf := ie_f hf q18
        refine r_iconst C0 (v := 3) dX7_feel_43 rfl ?_
        refine r_goto C0 (tgt := 48) (by decide) dX7_feel_44 ?_
        exact hend hf dX7_feel_48
    · have hf := ie_t hf q11
      refine r_iconst C0 (v := 2) dX7_feel_26 rfl ?_
      exact hend hf dX7_feel_27
  · have hf := ie_f hf q7
    refine r_iconst C0 (v := 1) dX7_feel_15 rfl ?_
    exact hend hf dX7_feel_16
theorem dX7_guardOf_0 : decode cX7_guardOf 0 = .ok (.iload_n 0, 1) := by decide +kernel
theorem dX7_guardOf_1 : decode cX7_guardOf 1 = .ok (.tableswitch 35 0 2 #[27, 30, 32], 27) := by decide +kernel
theorem dX7_guardOf_28 : decode cX7_guardOf 28 = .ok (.bipush 7, 2) := by decide +kernel
theorem dX7_guardOf_30 : decode cX7_guardOf 30 = .ok (.ireturn, 1) := by decide +kernel
theorem dX7_guardOf_31 : decode cX7_guardOf 31 = .ok (.iconst 5, 1) := by decide +kernel
theorem dX7_guardOf_32 : decode cX7_guardOf 32 = .ok (.ireturn, 1) := by decide +kernel
theorem dX7_guardOf_33 : decode cX7_guardOf 33 = .ok (.bipush 6, 2) := by decide +kernel
theorem dX7_guardOf_35 : decode cX7_guardOf 35 = .ok (.ireturn, 1) := by decide +kernel
theorem dX7_guardOf_36 : decode cX7_guardOf 36 = .ok (.bipush 9, 2) := by decide +kernel
theorem dX7_guardOf_38 : decode cX7_guardOf 38 = .ok (.ireturn, 1) := by decide +kernel
theorem hd_X7_guardOf : yX7_guardOf.cls ≠ "java/lang/invoke/MethodHandle" ∧ yX7_guardOf.cls ≠ "java/lang/invoke/VarHandle" ∧ (parseMethodDescriptor yX7_guardOf.desc).map (fun d => d.parameters.length) = some 1 := by decide +kernel
set_option maxRecDepth 100000 in
set_option maxHeartbeats 4000000 in
theorem c_X7_guardOf (l : Launch) (D : va_G) (g : xG) (tb : List xQ) (hT : x_T g tb) {a0 : Int32}  {M : xM} {r : Int32} {M' : xM} (hf : f_X7_guardOf a0 M = some (r, M')) :
    cI l D g tb yX7_guardOf cX7_guardOf 1 .int ({ frames := 0, cells := 0, slots := 0, locals := 0 } : Room) [.int a0] M r M' := by
  refine x_startI (own := RX7) (by decide +kernel) rfl rfl (Nat.le_of_ble_eq_true rfl) hT ?_
  intro p e s m args below meth c Q C0 hend
  unfold f_X7_guardOf at hf
  refine r_iload_n C0 (kk := 0) 0 rfl dX7_guardOf_0 ?_
  rcases Decidable.em (a0 = 0) with q1 | q1
  · have hf := ie_t hf q1
    refine r_tsc C0 (cst := 0) q1 (by decide) (by decide) rfl (tgt := 28) (by decide) dX7_guardOf_1 ?_
    refine r_bipush C0 (v := 7) dX7_guardOf_28 rfl ?_
    exact hend hf dX7_guardOf_30
  have hf := ie_f hf q1
  have nq1 : Int32.toInt a0 ≠ 0 := fun h => q1 (Int32.toInt_inj.mp h)
  rcases Decidable.em (a0 = 1) with q2 | q2
  · have hf := ie_t hf q2
    refine r_tsc C0 (cst := 1) q2 (by decide) (by decide) rfl (tgt := 31) (by decide) dX7_guardOf_1 ?_
    refine r_iconst C0 (v := 5) dX7_guardOf_31 rfl ?_
    exact hend hf dX7_guardOf_32
  have hf := ie_f hf q2
  have nq2 : Int32.toInt a0 ≠ 1 := fun h => q2 (Int32.toInt_inj.mp h)
  rcases Decidable.em (a0 = 2) with q3 | q3
  · have hf := ie_t hf q3
    refine r_tsc C0 (cst := 2) q3 (by decide) (by decide) rfl (tgt := 33) (by decide) dX7_guardOf_1 ?_
    refine r_bipush C0 (v := 6) dX7_guardOf_33 rfl ?_
    exact hend hf dX7_guardOf_35
  have hf := ie_f hf q3
  have nq3 : Int32.toInt a0 ≠ 2 := fun h => q3 (Int32.toInt_inj.mp h)
  refine r_tsd C0 (by omega) (tgt := 36) (by decide) dX7_guardOf_1 ?_
  refine r_bipush C0 (v := 9) dX7_guardOf_36 rfl ?_
  exact hend hf dX7_guardOf_38
theorem dX7_lays_0 : decode cX7_lays 0 = .ok (.aload_n 0, 1) := by decide +kernel
theorem dX7_lays_1 : decode cX7_lays 1 = .ok (.getfield 17, 3) := by decide +kernel
theorem dX7_lays_4 : decode cX7_lays 4 = .ok (.iload_n 1, 1) := by decide +kernel
theorem dX7_lays_5 : decode cX7_lays 5 = .ok (.iaload, 1) := by decide +kernel
theorem dX7_lays_6 : decode cX7_lays 6 = .ok (.istore_n 3, 1) := by decide +kernel
theorem dX7_lays_7 : decode cX7_lays 7 = .ok (.aload_n 0, 1) := by decide +kernel
theorem dX7_lays_8 : decode cX7_lays 8 = .ok (.getfield 17, 3) := by decide +kernel
theorem dX7_lays_11 : decode cX7_lays 11 = .ok (.iload_n 1, 1) := by decide +kernel
theorem dX7_lays_12 : decode cX7_lays 12 = .ok (.iload_n 2, 1) := by decide +kernel
theorem dX7_lays_13 : decode cX7_lays 13 = .ok (.iastore, 1) := by decide +kernel
theorem dX7_lays_14 : decode cX7_lays 14 = .ok (.iload_n 3, 1) := by decide +kernel
theorem dX7_lays_15 : decode cX7_lays 15 = .ok (.ireturn, 1) := by decide +kernel
theorem hd_X7_lays : yX7_lays.cls = RX7 ∧ yX7_lays.cls ≠ "java/lang/invoke/MethodHandle" ∧ yX7_lays.cls ≠ "java/lang/invoke/VarHandle" ∧ (parseMethodDescriptor yX7_lays.desc).map (fun d => d.parameters.length) = some 2 := by decide +kernel
set_option maxRecDepth 100000 in
set_option maxHeartbeats 4000000 in
theorem c_X7_lays (l : Launch) (D : va_G) (g : xG) (tb : List xQ) (hT : x_T g tb) {a1 : Int32} {a2 : Int32} (h0 : x_md tb) {M : xM} {r : Int32} {M' : xM} (hf : f_X7_lays a1 a2 M = some (r, M')) :
    cI l D g tb yX7_lays cX7_lays 4 .int ({ frames := 0, cells := 0, slots := 0, locals := 0 } : Room) [.ref (g.1 5 2500), .int a1, .int a2] M r M' := by
  refine x_startI (own := RX7) (by decide +kernel) rfl rfl (Nat.le_of_ble_eq_true rfl) hT ?_
  intro p e s m args below meth c Q C0 hend
  unfold f_X7_lays at hf
  refine r_aload_n C0 (kk := 0) 0 rfl dX7_lays_0 ?_
  refine r_get5 C0 h0.1 5 (by decide) (v := .ref (g.1 6 2520)) rfl rfl w6_221 dX7_lays_1 ?_
  refine r_iload_n C0 (kk := 1) 1 rfl dX7_lays_4 ?_
  obtain ⟨q1, hf⟩ := gd_e hf
  refine r_ialdc C0 h0.2.1 q1 rfl dX7_lays_5 ?_
  refine r_istore_n C0 (kk := 3) (lv2 := [(3, .int (M (2520 + a1.toNatClampNeg))), (0, .ref (g.1 5 2500)), (1, .int a1), (2, .int a2)]) (by decide) rfl dX7_lays_6 ?_
  refine r_aload_n C0 (kk := 0) 1 rfl dX7_lays_7 ?_
  refine r_get5 C0 h0.1 5 (by decide) (v := .ref (g.1 6 2520)) rfl rfl w6_221 dX7_lays_8 ?_
  refine r_iload_n C0 (kk := 1) 2 rfl dX7_lays_11 ?_
  refine r_iload_n C0 (kk := 2) 3 rfl dX7_lays_12 ?_
  obtain ⟨q2, hf⟩ := gd_e hf
  refine r_iastc C0 h0.2.1 q2 rfl dX7_lays_13 ?_
  refine r_iload_n C0 (kk := 3) 0 rfl dX7_lays_14 ?_
  exact hend hf dX7_lays_15
theorem dX7_doBack_0 : decode cX7_doBack 0 = .ok (.aload_n 0, 1) := by decide +kernel
theorem dX7_doBack_1 : decode cX7_doBack 1 = .ok (.iload_n 1, 1) := by decide +kernel
theorem dX7_doBack_2 : decode cX7_doBack 2 = .ok (.iconst 4, 1) := by decide +kernel
theorem dX7_doBack_3 : decode cX7_doBack 3 = .ok (.invokevirtual 73, 3) := by decide +kernel
theorem dX7_doBack_6 : decode cX7_doBack 6 = .ok (.istore_n 2, 1) := by decide +kernel
theorem dX7_doBack_7 : decode cX7_doBack 7 = .ok (.aload_n 0, 1) := by decide +kernel
theorem dX7_doBack_8 : decode cX7_doBack 8 = .ok (.iload_n 1, 1) := by decide +kernel
theorem dX7_doBack_9 : decode cX7_doBack 9 = .ok (.invokevirtual 98, 3) := by decide +kernel
theorem dX7_doBack_12 : decode cX7_doBack 12 = .ok (.aload_n 0, 1) := by decide +kernel
theorem dX7_doBack_13 : decode cX7_doBack 13 = .ok (.iload_n 1, 1) := by decide +kernel
theorem dX7_doBack_14 : decode cX7_doBack 14 = .ok (.bipush 6, 2) := by decide +kernel
theorem dX7_doBack_16 : decode cX7_doBack 16 = .ok (.aload_n 0, 1) := by decide +kernel
theorem dX7_doBack_17 : decode cX7_doBack 17 = .ok (.iload_n 1, 1) := by decide +kernel
theorem dX7_doBack_18 : decode cX7_doBack 18 = .ok (.bipush 6, 2) := by decide +kernel
theorem dX7_doBack_20 : decode cX7_doBack 20 = .ok (.invokevirtual 73, 3) := by decide +kernel
theorem dX7_doBack_23 : decode cX7_doBack 23 = .ok (.iconst 1, 1) := by decide +kernel
theorem dX7_doBack_24 : decode cX7_doBack 24 = .ok (.iload_n 2, 1) := by decide +kernel
theorem dX7_doBack_25 : decode cX7_doBack 25 = .ok (.ishl, 1) := by decide +kernel
theorem dX7_doBack_26 : decode cX7_doBack 26 = .ok (.ior, 1) := by decide +kernel
theorem dX7_doBack_27 : decode cX7_doBack 27 = .ok (.invokevirtual 88, 3) := by decide +kernel
theorem dX7_doBack_30 : decode cX7_doBack 30 = .ok (.iload_n 2, 1) := by decide +kernel
theorem dX7_doBack_31 : decode cX7_doBack 31 = .ok (.ireturn, 1) := by decide +kernel
theorem hd_X7_doBack : yX7_doBack.cls = RX7 ∧ yX7_doBack.cls ≠ "java/lang/invoke/MethodHandle" ∧ yX7_doBack.cls ≠ "java/lang/invoke/VarHandle" ∧ (parseMethodDescriptor yX7_doBack.desc).map (fun d => d.parameters.length) = some 1 := by decide +kernel
set_option maxRecDepth 100000 in
set_option maxHeartbeats 4000000 in
theorem c_X7_doBack (l : Launch) (D : va_G) (g : xG) (tb : List xQ) (hT : x_T g tb) {a1 : Int32} (h0 : x_md tb) {M : xM} {r : Int32} {M' : xM} (hf : f_X7_doBack a1 M = some (r, M')) :
    cI l D g tb yX7_doBack cX7_doBack 3 .int ({ frames := 2, cells := 0, slots := 0, locals := 44 } : Room) [.ref (g.1 5 2500), .int a1] M r M' := by
  refine x_startI (own := RX7) (by decide +kernel) rfl rfl (Nat.le_of_ble_eq_true rfl) hT ?_
  intro p e s m args below meth c Q C0 hend
  unfold f_X7_doBack at hf
  refine r_aload_n C0 (kk := 0) 0 rfl dX7_doBack_0 ?_
  refine r_iload_n C0 (kk := 1) 1 rfl dX7_doBack_1 ?_
  refine r_iconst C0 (v := 4) dX7_doBack_2 rfl ?_
  obtain ⟨r3, M2, hc1, hf⟩ := bd2_e hf
  refine r_callVi C0 (As := [.int a1, .int 4]) (rest := []) (c_X7_by l D g tb hT h0 hc1) w6_103 w6_105 wp4_1 w1_14 w6_106 (x_rec5 C0 h0.1) hd_X7_by rfl ⟨rfl, rfl⟩ ⟨Nat.le_of_ble_eq_true rfl, Nat.le_of_ble_eq_true rfl⟩ (by decide) (by decide) rfl (Nat.le_of_ble_eq_true rfl) dX7_doBack_3 ?_
  refine r_istore_n C0 (kk := 2) (lv2 := [(2, .int r3), (0, .ref (g.1 5 2500)), (1, .int a1)]) (by decide) rfl dX7_doBack_6 ?_
  refine r_aload_n C0 (kk := 0) 1 rfl dX7_doBack_7 ?_
  refine r_iload_n C0 (kk := 1) 2 rfl dX7_doBack_8 ?_
  obtain ⟨M5, hc4, hf⟩ := bd_e hf
  refine r_callVv C0 (As := [.int a1]) (rest := []) (c_X7_giveBack l D g tb hT h0 hc4) w6_155 w6_157 wp4_14 w1_14 w6_158 (x_rec5 C0 h0.1) hd_X7_giveBack rfl ⟨rfl, rfl⟩ ⟨Nat.le_of_ble_eq_true rfl, Nat.le_of_ble_eq_true rfl⟩ (by decide) (by decide) rfl (Nat.le_of_ble_eq_true rfl) dX7_doBack_9 ?_
  refine r_aload_n C0 (kk := 0) 1 rfl dX7_doBack_12 ?_
  refine r_iload_n C0 (kk := 1) 2 rfl dX7_doBack_13 ?_
  refine r_bipush C0 (v := 6) dX7_doBack_14 rfl ?_
  refine r_aload_n C0 (kk := 0) 1 rfl dX7_doBack_16 ?_
  refine r_iload_n C0 (kk := 1) 2 rfl dX7_doBack_17 ?_
  refine r_bipush C0 (v := 6) dX7_doBack_18 rfl ?_
  obtain ⟨r8, M7, hc6, hf⟩ := bd2_e hf
  refine r_callVi C0 (As := [.int a1, .int 6]) (rest := [.int 6, .int a1, .ref (g.1 5 2500)]) (c_X7_by l D g tb hT h0 hc6) w6_103 w6_105 wp4_1 w1_14 w6_106 (x_rec5 C0 h0.1) hd_X7_by rfl ⟨rfl, rfl⟩ ⟨Nat.le_of_ble_eq_true rfl, Nat.le_of_ble_eq_true rfl⟩ (by decide) (by decide) rfl (Nat.le_of_ble_eq_true rfl) dX7_doBack_20 ?_
  refine r_iconst C0 (v := 1) dX7_doBack_23 rfl ?_
  refine r_iload_n C0 (kk := 2) 0 rfl dX7_doBack_24 ?_
  refine r_ishl C0 dX7_doBack_25 ?_
  refine r_ior C0 dX7_doBack_26 ?_
  obtain ⟨M10, hc9, hf⟩ := bd_e hf
  refine r_callVv C0 (As := [.int a1, .int 6, .int (r8 ||| (1 <<< (r3 &&& 31)))]) (rest := []) (c_X7_put l D g tb hT h0 hc9) w6_131 w6_133 wp4_8 w1_14 w6_134 (x_rec5 C0 h0.1) hd_X7_put rfl ⟨rfl, rfl⟩ ⟨Nat.le_of_ble_eq_true rfl, Nat.le_of_ble_eq_true rfl⟩ (by decide) (by decide) rfl (Nat.le_of_ble_eq_true rfl) dX7_doBack_27 ?_
  refine r_iload_n C0 (kk := 2) 0 rfl dX7_doBack_30 ?_
  exact hend hf dX7_doBack_31
theorem dX7_doStock_0 : decode cX7_doStock 0 = .ok (.aload_n 0, 1) := by decide +kernel
theorem dX7_doStock_1 : decode cX7_doStock 1 = .ok (.iload_n 1, 1) := by decide +kernel
theorem dX7_doStock_2 : decode cX7_doStock 2 = .ok (.iconst 4, 1) := by decide +kernel
theorem dX7_doStock_3 : decode cX7_doStock 3 = .ok (.iload_n 2, 1) := by decide +kernel
theorem dX7_doStock_4 : decode cX7_doStock 4 = .ok (.invokevirtual 84, 3) := by decide +kernel
theorem dX7_doStock_7 : decode cX7_doStock 7 = .ok (.aload_n 0, 1) := by decide +kernel
theorem dX7_doStock_8 : decode cX7_doStock 8 = .ok (.iload_n 1, 1) := by decide +kernel
theorem dX7_doStock_9 : decode cX7_doStock 9 = .ok (.bipush 8, 2) := by decide +kernel
theorem dX7_doStock_11 : decode cX7_doStock 11 = .ok (.iload_n 2, 1) := by decide +kernel
theorem dX7_doStock_12 : decode cX7_doStock 12 = .ok (.invokevirtual 84, 3) := by decide +kernel
theorem dX7_doStock_15 : decode cX7_doStock 15 = .ok (.aload_n 0, 1) := by decide +kernel
theorem dX7_doStock_16 : decode cX7_doStock 16 = .ok (.iload_n 1, 1) := by decide +kernel
theorem dX7_doStock_17 : decode cX7_doStock 17 = .ok (.iconst 4, 1) := by decide +kernel
theorem dX7_doStock_18 : decode cX7_doStock 18 = .ok (.invokevirtual 63, 3) := by decide +kernel
theorem dX7_doStock_21 : decode cX7_doStock 21 = .ok (.ireturn, 1) := by decide +kernel
theorem hd_X7_doStock : yX7_doStock.cls = RX7 ∧ yX7_doStock.cls ≠ "java/lang/invoke/MethodHandle" ∧ yX7_doStock.cls ≠ "java/lang/invoke/VarHandle" ∧ (parseMethodDescriptor yX7_doStock.desc).map (fun d => d.parameters.length) = some 2 := by decide +kernel
set_option maxRecDepth 100000 in
set_option maxHeartbeats 4000000 in
theorem c_X7_doStock (l : Launch) (D : va_G) (g : xG) (tb : List xQ) (hT : x_T g tb) {a1 : Int32} {a2 : Int32} (h0 : x_md tb) {M : xM} {r : Int32} {M' : xM} (hf : f_X7_doStock a1 a2 M = some (r, M')) :
    cI l D g tb yX7_doStock cX7_doStock 3 .int ({ frames := 1, cells := 0, slots := 0, locals := 23 } : Room) [.ref (g.1 5 2500), .int a1, .int a2] M r M' := by
  refine x_startI (own := RX7) (by decide +kernel) rfl rfl (Nat.le_of_ble_eq_true rfl) hT ?_
  intro p e s m args below meth c Q C0 hend
  unfold f_X7_doStock at hf
  refine r_aload_n C0 (kk := 0) 0 rfl dX7_doStock_0 ?_
  refine r_iload_n C0 (kk := 1) 1 rfl dX7_doStock_1 ?_
  refine r_iconst C0 (v := 4) dX7_doStock_2 rfl ?_
  refine r_iload_n C0 (kk := 2) 2 rfl dX7_doStock_3 ?_
  obtain ⟨M2, hc1, hf⟩ := bd_e hf
  refine r_callVv C0 (As := [.int a1, .int 4, .int a2]) (rest := []) (c_X7_more l D g tb hT h0 hc1) w6_123 w6_125 wp4_6 w1_14 w6_126 (x_rec5 C0 h0.1) hd_X7_more rfl ⟨rfl, rfl⟩ ⟨Nat.le_of_ble_eq_true rfl, Nat.le_of_ble_eq_true rfl⟩ (by decide) (by decide) rfl (Nat.le_of_ble_eq_true rfl) dX7_doStock_4 ?_
  refine r_aload_n C0 (kk := 0) 0 rfl dX7_doStock_7 ?_
  refine r_iload_n C0 (kk := 1) 1 rfl dX7_doStock_8 ?_
  refine r_bipush C0 (v := 8) dX7_doStock_9 rfl ?_
  refine r_iload_n C0 (kk := 2) 2 rfl dX7_doStock_11 ?_
  obtain ⟨M4, hc3, hf⟩ := bd_e hf
  refine r_callVv C0 (As := [.int a1, .int 8, .int a2]) (rest := []) (c_X7_more l D g tb hT h0 hc3) w6_123 w6_125 wp4_6 w1_14 w6_126 (x_rec5 C0 h0.1) hd_X7_more rfl ⟨rfl, rfl⟩ ⟨Nat.le_of_ble_eq_true rfl, Nat.le_of_ble_eq_true rfl⟩ (by decide) (by decide) rfl (Nat.le_of_ble_eq_true rfl) dX7_doStock_12 ?_
  refine r_aload_n C0 (kk := 0) 0 rfl dX7_doStock_15 ?_
  refine r_iload_n C0 (kk := 1) 1 rfl dX7_doStock_16 ?_
  refine r_iconst C0 (v := 4) dX7_doStock_17 rfl ?_
  obtain ⟨r7, M6, hc5, hf⟩ := bd2_e hf
  refine r_callVi C0 (As := [.int a1, .int 4]) (rest := []) (c_X7_st l D g tb hT h0 hc5) w6_111 w6_113 wp4_3 w1_14 w6_114 (x_rec5 C0 h0.1) hd_X7_st rfl ⟨rfl, rfl⟩ ⟨Nat.le_of_ble_eq_true rfl, Nat.le_of_ble_eq_true rfl⟩ (by decide) (by decide) rfl (Nat.le_of_ble_eq_true rfl) dX7_doStock_18 ?_
  exact hend hf dX7_doStock_21
theorem dX7_leaveTrial_0 : decode cX7_leaveTrial 0 = .ok (.iconst 0, 1) := by decide +kernel
theorem dX7_leaveTrial_1 : decode cX7_leaveTrial 1 = .ok (.istore_n 2, 1) := by decide +kernel
theorem dX7_leaveTrial_2 : decode cX7_leaveTrial 2 = .ok (.iload_n 2, 1) := by decide +kernel
theorem dX7_leaveTrial_3 : decode cX7_leaveTrial 3 = .ok (.bipush 125, 2) := by decide +kernel
theorem dX7_leaveTrial_5 : decode cX7_leaveTrial 5 = .ok (.if_icmp .ge 21, 3) := by decide +kernel
theorem dX7_leaveTrial_8 : decode cX7_leaveTrial 8 = .ok (.aload_n 0, 1) := by decide +kernel
theorem dX7_leaveTrial_9 : decode cX7_leaveTrial 9 = .ok (.getfield 17, 3) := by decide +kernel
theorem dX7_leaveTrial_12 : decode cX7_leaveTrial 12 = .ok (.iload_n 2, 1) := by decide +kernel
theorem dX7_leaveTrial_13 : decode cX7_leaveTrial 13 = .ok (.aload_n 0, 1) := by decide +kernel
theorem dX7_leaveTrial_14 : decode cX7_leaveTrial 14 = .ok (.getfield 23, 3) := by decide +kernel
theorem dX7_leaveTrial_17 : decode cX7_leaveTrial 17 = .ok (.iload_n 2, 1) := by decide +kernel
theorem dX7_leaveTrial_18 : decode cX7_leaveTrial 18 = .ok (.iaload, 1) := by decide +kernel
theorem dX7_leaveTrial_19 : decode cX7_leaveTrial 19 = .ok (.iastore, 1) := by decide +kernel
theorem dX7_leaveTrial_20 : decode cX7_leaveTrial 20 = .ok (.iinc 2 1, 3) := by decide +kernel
theorem dX7_leaveTrial_23 : decode cX7_leaveTrial 23 = .ok (.goto (-21), 3) := by decide +kernel
theorem dX7_leaveTrial_26 : decode cX7_leaveTrial 26 = .ok (.iload_n 1, 1) := by decide +kernel
theorem dX7_leaveTrial_27 : decode cX7_leaveTrial 27 = .ok (.ireturn, 1) := by decide +kernel
theorem hd_X7_leaveTrial : yX7_leaveTrial.cls = RX7 ∧ yX7_leaveTrial.cls ≠ "java/lang/invoke/MethodHandle" ∧ yX7_leaveTrial.cls ≠ "java/lang/invoke/VarHandle" ∧ (parseMethodDescriptor yX7_leaveTrial.desc).map (fun d => d.parameters.length) = some 1 := by decide +kernel
set_option maxRecDepth 100000 in
set_option maxHeartbeats 4000000 in
theorem c_X7_leaveTrial (l : Launch) (D : va_G) (g : xG) (tb : List xQ) (hT : x_T g tb) {a1 : Int32} (h0 : x_md tb) {M : xM} {r : Int32} {M' : xM} (hf : f_X7_leaveTrial a1 M = some (r, M')) :
    cI l D g tb yX7_leaveTrial cX7_leaveTrial 3 .int ({ frames := 0, cells := 0, slots := 0, locals := 0 } : Room) [.ref (g.1 5 2500), .int a1] M r M' := by
  refine x_startI (own := RX7) (by decide +kernel) rfl rfl (Nat.le_of_ble_eq_true rfl) hT ?_
  intro p e s m args below meth c Q C0 hend
  have B2 : ∀ (k2 : Int32 → xM → Option (Int32 × xM)) (hk2 : ∀ (v2 : Int32)  (M : xM), k2 v2 M = some (r, M') → WW p l e ({ frames := 0, cells := 0, slots := 0, locals := 0 } : Room) s m args below meth c 0 0 Q 3 D g tb 2 [(0, .ref (g.1 5 2500)), (1, .int a1), (2, .int v2)] [] M), ∀ (v2 : Int32)  (M : xM), fb_X7_leaveTrial_c2 k2 a1 v2 M = some (r, M') → WW p l e ({ frames := 0, cells := 0, slots := 0, locals := 0 } : Room) s m args below meth c 0 0 Q 3 D g tb 2 [(0, .ref (g.1 5 2500)), (1, .int a1), (2, .int v2)] [] M := by
    intro k2 hk2 v2  M hf
    unfold fb_X7_leaveTrial_c2 at hf
    refine r_iload_n C0 (kk := 2) 2 rfl dX7_leaveTrial_2 ?_
    refine r_bipush C0 (v := 125) dX7_leaveTrial_3 rfl ?_
    refine r_icmp_ge C0 (tgt := 26) (by decide) dX7_leaveTrial_5 (fun q1 => ?_) (fun q1 => ?_)
    · have hf := ie_t hf q1
      refine r_iload_n C0 (kk := 1) 1 rfl dX7_leaveTrial_26 ?_
      exact hend hf dX7_leaveTrial_27
    · have hf := ie_f hf q1
      refine r_aload_n C0 (kk := 0) 0 rfl dX7_leaveTrial_8 ?_
      refine r_get5 C0 h0.1 5 (by decide) (v := .ref (g.1 6 2520)) rfl rfl w6_221 dX7_leaveTrial_9 ?_
      refine r_iload_n C0 (kk := 2) 2 rfl dX7_leaveTrial_12 ?_
      refine r_aload_n C0 (kk := 0) 0 rfl dX7_leaveTrial_13 ?_
      refine r_get5 C0 h0.1 7 (by decide) (v := .ref (g.1 6 2770)) rfl rfl w6_223 dX7_leaveTrial_14 ?_
      refine r_iload_n C0 (kk := 2) 2 rfl dX7_leaveTrial_17 ?_
      obtain ⟨q2, hf⟩ := gd_e hf
      refine r_ialdc C0 h0.2.2.2.1 q2 rfl dX7_leaveTrial_18 ?_
      obtain ⟨q3, hf⟩ := gd_e hf
      refine r_iastc C0 h0.2.1 q3 rfl dX7_leaveTrial_19 ?_
      refine r_iincc C0 2 rfl (k0 := 1) (by decide) (by decide) (lv2 := [(2, .int (v2 + 1)), (0, .ref (g.1 5 2500)), (1, .int a1)]) rfl dX7_leaveTrial_20 ?_
      refine r_goto C0 (tgt := 2) (by decide) dX7_leaveTrial_23 ?_
      refine WW.sub [1, 2, 0] rfl ?_
      exact hk2 _   _ hf
  have L2 : ∀ (v2 : Int32)  (M : xM), f_X7_leaveTrial_c2  a1 v2 M = some (r, M') → WW p l e ({ frames := 0, cells := 0, slots := 0, locals := 0 } : Room) s m args below meth c 0 0 Q 3 D g tb 2 [(0, .ref (g.1 5 2500)), (1, .int a1), (2, .int v2)] [] M := lp_ind (P := fun f => ∀ (v2 : Int32)  (M : xM), f v2 M = some (r, M') → WW p l e ({ frames := 0, cells := 0, slots := 0, locals := 0 } : Room) s m args below meth c 0 0 Q 3 D g tb 2 [(0, .ref (g.1 5 2500)), (1, .int a1), (2, .int v2)] [] M) (fun _ _ h => none_ne h) (fun f hf => B2 f hf) FU
  unfold f_X7_leaveTrial at hf
  refine r_iconst C0 (v := 0) dX7_leaveTrial_0 rfl ?_
  refine r_istore_n C0 (kk := 2) (lv2 := [(2, .int 0), (0, .ref (g.1 5 2500)), (1, .int a1)]) (by decide) rfl dX7_leaveTrial_1 ?_
  refine WW.sub [1, 2, 0] rfl ?_
  exact L2   _   _ hf
theorem dX7_thrown_0 : decode cX7_thrown 0 = .ok (.aload_n 0, 1) := by decide +kernel
theorem dX7_thrown_1 : decode cX7_thrown 1 = .ok (.getfield 60, 3) := by decide +kernel
theorem dX7_thrown_4 : decode cX7_thrown 4 = .ok (.ireturn, 1) := by decide +kernel
theorem hd_X7_thrown : yX7_thrown.cls = RX7 ∧ yX7_thrown.cls ≠ "java/lang/invoke/MethodHandle" ∧ yX7_thrown.cls ≠ "java/lang/invoke/VarHandle" ∧ (parseMethodDescriptor yX7_thrown.desc).map (fun d => d.parameters.length) = some 0 := by decide +kernel
set_option maxRecDepth 100000 in
set_option maxHeartbeats 4000000 in
theorem c_X7_thrown (l : Launch) (D : va_G) (g : xG) (tb : List xQ) (hT : x_T g tb)  (h0 : x_md tb) {M : xM} {r : Int32} {M' : xM} (hf : f_X7_thrown  M = some (r, M')) :
    cI l D g tb yX7_thrown cX7_thrown 1 .int ({ frames := 0, cells := 0, slots := 0, locals := 0 } : Room) [.ref (g.1 5 2500)] M r M' := by
  refine x_startI (own := RX7) (by decide +kernel) rfl rfl (Nat.le_of_ble_eq_true rfl) hT ?_
  intro p e s m args below meth c Q C0 hend
  unfold f_X7_thrown at hf
  refine r_aload_n C0 (kk := 0) 0 rfl dX7_thrown_0 ?_
  refine r_get5 C0 h0.1 4 (by decide) (v := .int (M 2504)) rfl rfl w6_220 dX7_thrown_1 ?_
  exact hend hf dX7_thrown_4
theorem dX7_byteOf_0 : decode cX7_byteOf 0 = .ok (.iload 5, 2) := by decide +kernel
theorem dX7_byteOf_2 : decode cX7_byteOf 2 = .ok (.iconst 4, 1) := by decide +kernel
theorem dX7_byteOf_3 : decode cX7_byteOf 3 = .ok (.if_icmp .ge 7, 3) := by decide +kernel
theorem dX7_byteOf_6 : decode cX7_byteOf 6 = .ok (.iload_n 0, 1) := by decide +kernel
theorem dX7_byteOf_7 : decode cX7_byteOf 7 = .ok (.goto 38, 3) := by decide +kernel
theorem dX7_byteOf_10 : decode cX7_byteOf 10 = .ok (.iload 5, 2) := by decide +kernel
theorem dX7_byteOf_12 : decode cX7_byteOf 12 = .ok (.bipush 8, 2) := by decide +kernel
theorem dX7_byteOf_14 : decode cX7_byteOf 14 = .ok (.if_icmp .ge 7, 3) := by decide +kernel
theorem dX7_byteOf_17 : decode cX7_byteOf 17 = .ok (.iload_n 1, 1) := by decide +kernel
theorem dX7_byteOf_18 : decode cX7_byteOf 18 = .ok (.goto 27, 3) := by decide +kernel
theorem dX7_byteOf_21 : decode cX7_byteOf 21 = .ok (.iload 5, 2) := by decide +kernel
theorem dX7_byteOf_23 : decode cX7_byteOf 23 = .ok (.bipush 12, 2) := by decide +kernel
theorem dX7_byteOf_25 : decode cX7_byteOf 25 = .ok (.if_icmp .ge 7, 3) := by decide +kernel
theorem dX7_byteOf_28 : decode cX7_byteOf 28 = .ok (.iload_n 2, 1) := by decide +kernel
theorem dX7_byteOf_29 : decode cX7_byteOf 29 = .ok (.goto 16, 3) := by decide +kernel
theorem dX7_byteOf_32 : decode cX7_byteOf 32 = .ok (.iload 5, 2) := by decide +kernel
theorem dX7_byteOf_34 : decode cX7_byteOf 34 = .ok (.bipush 16, 2) := by decide +kernel
theorem dX7_byteOf_36 : decode cX7_byteOf 36 = .ok (.if_icmp .ge 7, 3) := by decide +kernel
theorem dX7_byteOf_39 : decode cX7_byteOf 39 = .ok (.iload_n 3, 1) := by decide +kernel
theorem dX7_byteOf_40 : decode cX7_byteOf 40 = .ok (.goto 5, 3) := by decide +kernel
theorem dX7_byteOf_43 : decode cX7_byteOf 43 = .ok (.iload 4, 2) := by decide +kernel
theorem dX7_byteOf_45 : decode cX7_byteOf 45 = .ok (.istore 6, 2) := by decide +kernel
theorem dX7_byteOf_47 : decode cX7_byteOf 47 = .ok (.iload 6, 2) := by decide +kernel
theorem dX7_byteOf_49 : decode cX7_byteOf 49 = .ok (.bipush 24, 2) := by decide +kernel
theorem dX7_byteOf_51 : decode cX7_byteOf 51 = .ok (.bipush 8, 2) := by decide +kernel
theorem dX7_byteOf_53 : decode cX7_byteOf 53 = .ok (.iload 5, 2) := by decide +kernel
theorem dX7_byteOf_55 : decode cX7_byteOf 55 = .ok (.iconst 4, 1) := by decide +kernel
theorem dX7_byteOf_56 : decode cX7_byteOf 56 = .ok (.irem, 1) := by decide +kernel
theorem dX7_byteOf_57 : decode cX7_byteOf 57 = .ok (.imul, 1) := by decide +kernel
theorem dX7_byteOf_58 : decode cX7_byteOf 58 = .ok (.isub, 1) := by decide +kernel
theorem dX7_byteOf_59 : decode cX7_byteOf 59 = .ok (.ishr, 1) := by decide +kernel
theorem dX7_byteOf_60 : decode cX7_byteOf 60 = .ok (.sipush 255, 3) := by decide +kernel
theorem dX7_byteOf_63 : decode cX7_byteOf 63 = .ok (.iand, 1) := by decide +kernel
theorem dX7_byteOf_64 : decode cX7_byteOf 64 = .ok (.ireturn, 1) := by decide +kernel
theorem hd_X7_byteOf : yX7_byteOf.cls ≠ "java/lang/invoke/MethodHandle" ∧ yX7_byteOf.cls ≠ "java/lang/invoke/VarHandle" ∧ (parseMethodDescriptor yX7_byteOf.desc).map (fun d => d.parameters.length) = some 6 := by decide +kernel
set_option maxRecDepth 100000 in
set_option maxHeartbeats 4000000 in
theorem c_X7_byteOf (l : Launch) (D : va_G) (g : xG) (tb : List xQ) (hT : x_T g tb) {a0 : Int32} {a1 : Int32} {a2 : Int32} {a3 : Int32} {a4 : Int32} {a5 : Int32}  {M : xM} {r : Int32} {M' : xM} (hf : f_X7_byteOf a0 a1 a2 a3 a4 a5 M = some (r, M')) :
    cI l D g tb yX7_byteOf cX7_byteOf 7 .int ({ frames := 0, cells := 0, slots := 0, locals := 0 } : Room) [.int a0, .int a1, .int a2, .int a3, .int a4, .int a5] M r M' := by
  refine x_startI (own := RX7) (by decide +kernel) rfl rfl (Nat.le_of_ble_eq_true rfl) hT ?_
  intro p e s m args below meth c Q C0 hend
  have B45 : ∀ (s0 : Int32)  (M : xM), f_X7_byteOf_c45  a0 a1 a2 a3 a4 a5 s0 M = some (r, M') → WW p l e ({ frames := 0, cells := 0, slots := 0, locals := 0 } : Room) s m args below meth c 0 0 Q 7 D g tb 45 [(5, .int a5)] [.int s0] M := by
    intro   s0  M hf
    unfold f_X7_byteOf_c45 at hf
    refine r_istore C0 (lv2 := [(6, .int s0), (5, .int a5)]) (by decide) rfl dX7_byteOf_45 ?_
    refine r_iload C0 0 rfl dX7_byteOf_47 ?_
    refine r_bipush C0 (v := 24) dX7_byteOf_49 rfl ?_
    refine r_bipush C0 (v := 8) dX7_byteOf_51 rfl ?_
    refine r_iload C0 1 rfl dX7_byteOf_53 ?_
    refine r_iconst C0 (v := 4) dX7_byteOf_55 rfl ?_
    refine r_irem C0 (by decide) dX7_byteOf_56 ?_
    refine r_imul C0 dX7_byteOf_57 ?_
    refine r_isub C0 dX7_byteOf_58 ?_
    refine r_ishr C0 dX7_byteOf_59 ?_
    refine r_sipush C0 (v := 255) dX7_byteOf_60 rfl ?_
    refine r_iand C0 dX7_byteOf_63 ?_
    exact hend hf dX7_byteOf_64
  unfold f_X7_byteOf at hf
  refine r_iload C0 5 rfl dX7_byteOf_0 ?_
  refine r_iconst C0 (v := 4) dX7_byteOf_2 rfl ?_
  refine r_icmp_ge C0 (tgt := 10) (by decide) dX7_byteOf_3 (fun q1 => ?_) (fun q1 => ?_)
  · have hf := ie_t hf q1
    refine r_iload C0 5 rfl dX7_byteOf_10 ?_
    refine r_bipush C0 (v := 8) dX7_byteOf_12 rfl ?_
    refine r_icmp_ge C0 (tgt := 21) (by decide) dX7_byteOf_14 (fun q2 => ?_) (fun q2 => ?_)
    · have hf := ie_t hf q2
      refine r_iload C0 5 rfl dX7_byteOf_21 ?_
      refine r_bipush C0 (v := 12) dX7_byteOf_23 rfl ?_
      refine r_icmp_ge C0 (tgt := 32) (by decide) dX7_byteOf_25 (fun q3 => ?_) (fun q3 => ?_)
      · have hf := ie_t hf q3
        refine r_iload C0 5 rfl dX7_byteOf_32 ?_
        refine r_bipush C0 (v := 16) dX7_byteOf_34 rfl ?_
        refine r_icmp_ge C0 (tgt := 43) (by decide) dX7_byteOf_36 (fun q4 => ?_) (fun q4 => ?_)
        · have hf := ie_t hf q4
          refine r_iload C0 4 rfl dX7_byteOf_43 ?_
          refine WW.sub [5] rfl ?_
          exact B45   _   _ hf
        · have hf := ie_f hf q4
          refine r_iload_n C0 (kk := 3) 3 rfl dX7_byteOf_39 ?_
          refine r_goto C0 (tgt := 45) (by decide) dX7_byteOf_40 ?_
          refine WW.sub [5] rfl ?_
          exact B45   _   _ hf
      · have hf := ie_f hf q3
        refine r_iload_n C0 (kk := 2) 2 rfl dX7_byteOf_28 ?_
        refine r_goto C0 (tgt := 45) (by decide) dX7_byteOf_29 ?_
        refine WW.sub [5] rfl ?_
        exact B45   _   _ hf
    · have hf := ie_f hf q2
      refine r_iload_n C0 (kk := 1) 1 rfl dX7_byteOf_17 ?_
      refine r_goto C0 (tgt := 45) (by decide) dX7_byteOf_18 ?_
      refine WW.sub [5] rfl ?_
      exact B45   _   _ hf
  · have hf := ie_f hf q1
    refine r_iload_n C0 (kk := 0) 0 rfl dX7_byteOf_6 ?_
    refine r_goto C0 (tgt := 45) (by decide) dX7_byteOf_7 ?_
    refine WW.sub [5] rfl ?_
    exact B45   _   _ hf
theorem dX7_pushAside_0 : decode cX7_pushAside 0 = .ok (.aload_n 0, 1) := by decide +kernel
theorem dX7_pushAside_1 : decode cX7_pushAside 1 = .ok (.getfield 295, 3) := by decide +kernel
theorem dX7_pushAside_4 : decode cX7_pushAside 4 = .ok (.bipush 8, 2) := by decide +kernel
theorem dX7_pushAside_6 : decode cX7_pushAside 6 = .ok (.if_icmp .ne 43, 3) := by decide +kernel
theorem dX7_pushAside_9 : decode cX7_pushAside 9 = .ok (.iconst 0, 1) := by decide +kernel
theorem dX7_pushAside_10 : decode cX7_pushAside 10 = .ok (.istore_n 1, 1) := by decide +kernel
theorem dX7_pushAside_11 : decode cX7_pushAside 11 = .ok (.iload_n 1, 1) := by decide +kernel
theorem dX7_pushAside_12 : decode cX7_pushAside 12 = .ok (.sipush 875, 3) := by decide +kernel
theorem dX7_pushAside_15 : decode cX7_pushAside 15 = .ok (.if_icmp .ge 24, 3) := by decide +kernel
theorem dX7_pushAside_18 : decode cX7_pushAside 18 = .ok (.aload_n 0, 1) := by decide +kernel
theorem dX7_pushAside_19 : decode cX7_pushAside 19 = .ok (.getfield 26, 3) := by decide +kernel
theorem dX7_pushAside_22 : decode cX7_pushAside 22 = .ok (.iload_n 1, 1) := by decide +kernel
theorem dX7_pushAside_23 : decode cX7_pushAside 23 = .ok (.aload_n 0, 1) := by decide +kernel
theorem dX7_pushAside_24 : decode cX7_pushAside 24 = .ok (.getfield 26, 3) := by decide +kernel
theorem dX7_pushAside_27 : decode cX7_pushAside 27 = .ok (.iload_n 1, 1) := by decide +kernel
theorem dX7_pushAside_28 : decode cX7_pushAside 28 = .ok (.bipush 125, 2) := by decide +kernel
theorem dX7_pushAside_30 : decode cX7_pushAside 30 = .ok (.iadd, 1) := by decide +kernel
theorem dX7_pushAside_31 : decode cX7_pushAside 31 = .ok (.iaload, 1) := by decide +kernel
theorem dX7_pushAside_32 : decode cX7_pushAside 32 = .ok (.iastore, 1) := by decide +kernel
theorem dX7_pushAside_33 : decode cX7_pushAside 33 = .ok (.iinc 1 1, 3) := by decide +kernel
theorem dX7_pushAside_36 : decode cX7_pushAside 36 = .ok (.goto (-25), 3) := by decide +kernel
theorem dX7_pushAside_39 : decode cX7_pushAside 39 = .ok (.aload_n 0, 1) := by decide +kernel
theorem dX7_pushAside_40 : decode cX7_pushAside 40 = .ok (.dup, 1) := by decide +kernel
theorem dX7_pushAside_41 : decode cX7_pushAside 41 = .ok (.getfield 295, 3) := by decide +kernel
theorem dX7_pushAside_44 : decode cX7_pushAside 44 = .ok (.iconst 1, 1) := by decide +kernel
theorem dX7_pushAside_45 : decode cX7_pushAside 45 = .ok (.isub, 1) := by decide +kernel
theorem dX7_pushAside_46 : decode cX7_pushAside 46 = .ok (.putfield 295, 3) := by decide +kernel
theorem dX7_pushAside_49 : decode cX7_pushAside 49 = .ok (.iconst 0, 1) := by decide +kernel
theorem dX7_pushAside_50 : decode cX7_pushAside 50 = .ok (.istore_n 1, 1) := by decide +kernel
theorem dX7_pushAside_51 : decode cX7_pushAside 51 = .ok (.iload_n 1, 1) := by decide +kernel
theorem dX7_pushAside_52 : decode cX7_pushAside 52 = .ok (.bipush 125, 2) := by decide +kernel
theorem dX7_pushAside_54 : decode cX7_pushAside 54 = .ok (.if_icmp .ge 29, 3) := by decide +kernel
theorem dX7_pushAside_57 : decode cX7_pushAside 57 = .ok (.aload_n 0, 1) := by decide +kernel
theorem dX7_pushAside_58 : decode cX7_pushAside 58 = .ok (.getfield 26, 3) := by decide +kernel
theorem dX7_pushAside_61 : decode cX7_pushAside 61 = .ok (.bipush 125, 2) := by decide +kernel
theorem dX7_pushAside_63 : decode cX7_pushAside 63 = .ok (.aload_n 0, 1) := by decide +kernel
theorem dX7_pushAside_64 : decode cX7_pushAside 64 = .ok (.getfield 295, 3) := by decide +kernel
theorem dX7_pushAside_67 : decode cX7_pushAside 67 = .ok (.imul, 1) := by decide +kernel
theorem dX7_pushAside_68 : decode cX7_pushAside 68 = .ok (.iload_n 1, 1) := by decide +kernel
theorem dX7_pushAside_69 : decode cX7_pushAside 69 = .ok (.iadd, 1) := by decide +kernel
theorem dX7_pushAside_70 : decode cX7_pushAside 70 = .ok (.aload_n 0, 1) := by decide +kernel
theorem dX7_pushAside_71 : decode cX7_pushAside 71 = .ok (.getfield 20, 3) := by decide +kernel
theorem dX7_pushAside_74 : decode cX7_pushAside 74 = .ok (.iload_n 1, 1) := by decide +kernel
theorem dX7_pushAside_75 : decode cX7_pushAside 75 = .ok (.iaload, 1) := by decide +kernel
theorem dX7_pushAside_76 : decode cX7_pushAside 76 = .ok (.iastore, 1) := by decide +kernel
theorem dX7_pushAside_77 : decode cX7_pushAside 77 = .ok (.iinc 1 1, 3) := by decide +kernel
theorem dX7_pushAside_80 : decode cX7_pushAside 80 = .ok (.goto (-29), 3) := by decide +kernel
theorem dX7_pushAside_83 : decode cX7_pushAside 83 = .ok (.aload_n 0, 1) := by decide +kernel
theorem dX7_pushAside_84 : decode cX7_pushAside 84 = .ok (.dup, 1) := by decide +kernel
theorem dX7_pushAside_85 : decode cX7_pushAside 85 = .ok (.getfield 295, 3) := by decide +kernel
theorem dX7_pushAside_88 : decode cX7_pushAside 88 = .ok (.iconst 1, 1) := by decide +kernel
theorem dX7_pushAside_89 : decode cX7_pushAside 89 = .ok (.iadd, 1) := by decide +kernel
theorem dX7_pushAside_90 : decode cX7_pushAside 90 = .ok (.putfield 295, 3) := by decide +kernel
theorem dX7_pushAside_93 : decode cX7_pushAside 93 = .ok (.return_, 1) := by decide +kernel
theorem hd_X7_pushAside : yX7_pushAside.cls = RX7 ∧ yX7_pushAside.cls ≠ "java/lang/invoke/MethodHandle" ∧ yX7_pushAside.cls ≠ "java/lang/invoke/VarHandle" ∧ (parseMethodDescriptor yX7_pushAside.desc).map (fun d => d.parameters.length) = some 0 := by decide +kernel
set_option maxRecDepth 100000 in
set_option maxHeartbeats 4000000 in
theorem c_X7_pushAside (l : Launch) (D : va_G) (g : xG) (tb : List xQ) (hT : x_T g tb)  (h0 : x_md tb) {M M' : xM} (hf : f_X7_pushAside  M = some M') :
    cV l D g tb yX7_pushAside cX7_pushAside 2 ({ frames := 0, cells := 0, slots := 0, locals := 0 } : Room) [.ref (g.1 5 2500)] M M' := by
  refine x_startV (own := RX7) (by decide +kernel) rfl rfl (Nat.le_of_ble_eq_true rfl) hT ?_
  intro p e s m args below meth c Q C0 hend
  have B51 : ∀ (k51 : Int32 → xM → Option xM) (hk51 : ∀ (v1 : Int32)  (M : xM), k51 v1 M = some M' → WW p l e ({ frames := 0, cells := 0, slots := 0, locals := 0 } : Room) s m args below meth c 0 0 Q 2 D g tb 51 [(0, .ref (g.1 5 2500)), (1, .int v1)] [] M), ∀ (v1 : Int32)  (M : xM), fb_X7_pushAside_c51 k51  v1 M = some M' → WW p l e ({ frames := 0, cells := 0, slots := 0, locals := 0 } : Room) s m args below meth c 0 0 Q 2 D g tb 51 [(0, .ref (g.1 5 2500)), (1, .int v1)] [] M := by
    intro k51 hk51 v1  M hf
    unfold fb_X7_pushAside_c51 at hf
    refine r_iload_n C0 (kk := 1) 1 rfl dX7_pushAside_51 ?_
    refine r_bipush C0 (v := 125) dX7_pushAside_52 rfl ?_
    refine r_icmp_ge C0 (tgt := 83) (by decide) dX7_pushAside_54 (fun q5 => ?_) (fun q5 => ?_)
    · have hf := ie_t hf q5
      refine r_aload_n C0 (kk := 0) 0 rfl dX7_pushAside_83 ?_
      refine r_dup C0 rfl dX7_pushAside_84 ?_
      refine r_get5 C0 h0.1 9 (by decide) (v := .int (M 2509)) rfl rfl w6_225 dX7_pushAside_85 ?_
      refine r_iconst C0 (v := 1) dX7_pushAside_88 rfl ?_
      refine r_iadd C0 dX7_pushAside_89 ?_
      refine r_put5 C0 h0.1 9 rfl rfl w6_225 rfl rfl rfl dX7_pushAside_90 ?_
      exact hend hf dX7_pushAside_93
    · have hf := ie_f hf q5
      refine r_aload_n C0 (kk := 0) 0 rfl dX7_pushAside_57 ?_
      refine r_get5 C0 h0.1 8 (by decide) (v := .ref (g.1 6 2895)) rfl rfl w6_224 dX7_pushAside_58 ?_
      refine r_bipush C0 (v := 125) dX7_pushAside_61 rfl ?_
      refine r_aload_n C0 (kk := 0) 0 rfl dX7_pushAside_63 ?_
      refine r_get5 C0 h0.1 9 (by decide) (v := .int (M 2509)) rfl rfl w6_225 dX7_pushAside_64 ?_
      refine r_imul C0 dX7_pushAside_67 ?_
      refine r_iload_n C0 (kk := 1) 1 rfl dX7_pushAside_68 ?_
      refine r_iadd C0 dX7_pushAside_69 ?_
      refine r_aload_n C0 (kk := 0) 0 rfl dX7_pushAside_70 ?_
      refine r_get5 C0 h0.1 6 (by decide) (v := .ref (g.1 6 2645)) rfl rfl w6_222 dX7_pushAside_71 ?_
      refine r_iload_n C0 (kk := 1) 1 rfl dX7_pushAside_74 ?_
      obtain ⟨q6, hf⟩ := gd_e hf
      refine r_ialdc C0 h0.2.2.1 q6 rfl dX7_pushAside_75 ?_
      obtain ⟨q7, hf⟩ := gd_e hf
      refine r_iastc C0 h0.2.2.2.2.1 q7 rfl dX7_pushAside_76 ?_
      refine r_iincc C0 1 rfl (k0 := 1) (by decide) (by decide) (lv2 := [(1, .int (v1 + 1)), (0, .ref (g.1 5 2500))]) rfl dX7_pushAside_77 ?_
      refine r_goto C0 (tgt := 51) (by decide) dX7_pushAside_80 ?_
      refine WW.sub [1, 0] rfl ?_
      exact hk51 _   _ hf
  have L51 : ∀ (v1 : Int32)  (M : xM), f_X7_pushAside_c51   v1 M = some M' → WW p l e ({ frames := 0, cells := 0, slots := 0, locals := 0 } : Room) s m args below meth c 0 0 Q 2 D g tb 51 [(0, .ref (g.1 5 2500)), (1, .int v1)] [] M := lp_ind (P := fun f => ∀ (v1 : Int32)  (M : xM), f v1 M = some M' → WW p l e ({ frames := 0, cells := 0, slots := 0, locals := 0 } : Room) s m args below meth c 0 0 Q 2 D g tb 51 [(0, .ref (g.1 5 2500)), (1, .int v1)] [] M) (fun _ _ h => none_ne h) (fun f hf => B51 f hf) FU
  have B49 : ∀ (M : xM), f_X7_pushAside_c49   M = some M' → WW p l e ({ frames := 0, cells := 0, slots := 0, locals := 0 } : Room) s m args below meth c 0 0 Q 2 D g tb 49 [(0, .ref (g.1 5 2500))] [] M := by
    intro     M hf
    unfold f_X7_pushAside_c49 at hf
    refine r_iconst C0 (v := 0) dX7_pushAside_49 rfl ?_
    refine r_istore_n C0 (kk := 1) (lv2 := [(1, .int 0), (0, .ref (g.1 5 2500))]) (by decide) rfl dX7_pushAside_50 ?_
    refine WW.sub [1, 0] rfl ?_
    exact L51   _   _ hf
  have B11 : ∀ (k11 : Int32 → xM → Option xM) (hk11 : ∀ (v1 : Int32)  (M : xM), k11 v1 M = some M' → WW p l e ({ frames := 0, cells := 0, slots := 0, locals := 0 } : Room) s m args below meth c 0 0 Q 2 D g tb 11 [(0, .ref (g.1 5 2500)), (1, .int v1)] [] M), ∀ (v1 : Int32)  (M : xM), fb_X7_pushAside_c11 k11  v1 M = some M' → WW p l e ({ frames := 0, cells := 0, slots := 0, locals := 0 } : Room) s m args below meth c 0 0 Q 2 D g tb 11 [(0, .ref (g.1 5 2500)), (1, .int v1)] [] M := by
    intro k11 hk11 v1  M hf
    unfold fb_X7_pushAside_c11 at hf
    refine r_iload_n C0 (kk := 1) 1 rfl dX7_pushAside_11 ?_
    refine r_sipush C0 (v := 875) dX7_pushAside_12 rfl ?_
    refine r_icmp_ge C0 (tgt := 39) (by decide) dX7_pushAside_15 (fun q2 => ?_) (fun q2 => ?_)
    · have hf := ie_t hf q2
      refine r_aload_n C0 (kk := 0) 0 rfl dX7_pushAside_39 ?_
      refine r_dup C0 rfl dX7_pushAside_40 ?_
      refine r_get5 C0 h0.1 9 (by decide) (v := .int (M 2509)) rfl rfl w6_225 dX7_pushAside_41 ?_
      refine r_iconst C0 (v := 1) dX7_pushAside_44 rfl ?_
      refine r_isub C0 dX7_pushAside_45 ?_
      refine r_put5 C0 h0.1 9 rfl rfl w6_225 rfl rfl rfl dX7_pushAside_46 ?_
      refine WW.sub [0] rfl ?_
      exact B49     _ hf
    · have hf := ie_f hf q2
      refine r_aload_n C0 (kk := 0) 0 rfl dX7_pushAside_18 ?_
      refine r_get5 C0 h0.1 8 (by decide) (v := .ref (g.1 6 2895)) rfl rfl w6_224 dX7_pushAside_19 ?_
      refine r_iload_n C0 (kk := 1) 1 rfl dX7_pushAside_22 ?_
      refine r_aload_n C0 (kk := 0) 0 rfl dX7_pushAside_23 ?_
      refine r_get5 C0 h0.1 8 (by decide) (v := .ref (g.1 6 2895)) rfl rfl w6_224 dX7_pushAside_24 ?_
      refine r_iload_n C0 (kk := 1) 1 rfl dX7_pushAside_27 ?_
      refine r_bipush C0 (v := 125) dX7_pushAside_28 rfl ?_
      refine r_iadd C0 dX7_pushAside_30 ?_
      obtain ⟨q3, hf⟩ := gd_e hf
      refine r_ialdc C0 h0.2.2.2.2.1 q3 rfl dX7_pushAside_31 ?_
      obtain ⟨q4, hf⟩ := gd_e hf
      refine r_iastc C0 h0.2.2.2.2.1 q4 rfl dX7_pushAside_32 ?_
      refine r_iincc C0 1 rfl (k0 := 1) (by decide) (by decide) (lv2 := [(1, .int (v1 + 1)), (0, .ref (g.1 5 2500))]) rfl dX7_pushAside_33 ?_
      refine r_goto C0 (tgt := 11) (by decide) dX7_pushAside_36 ?_
      refine WW.sub [1, 0] rfl ?_
      exact hk11 _   _ hf
  have L11 : ∀ (v1 : Int32)  (M : xM), f_X7_pushAside_c11   v1 M = some M' → WW p l e ({ frames := 0, cells := 0, slots := 0, locals := 0 } : Room) s m args below meth c 0 0 Q 2 D g tb 11 [(0, .ref (g.1 5 2500)), (1, .int v1)] [] M := lp_ind (P := fun f => ∀ (v1 : Int32)  (M : xM), f v1 M = some M' → WW p l e ({ frames := 0, cells := 0, slots := 0, locals := 0 } : Room) s m args below meth c 0 0 Q 2 D g tb 11 [(0, .ref (g.1 5 2500)), (1, .int v1)] [] M) (fun _ _ h => none_ne h) (fun f hf => B11 f hf) FU
  unfold f_X7_pushAside at hf
  refine r_aload_n C0 (kk := 0) 0 rfl dX7_pushAside_0 ?_
  refine r_get5 C0 h0.1 9 (by decide) (v := .int (M 2509)) rfl rfl w6_225 dX7_pushAside_1 ?_
  refine r_bipush C0 (v := 8) dX7_pushAside_4 rfl ?_
  refine r_icmp_ne C0 (tgt := 49) (by decide) dX7_pushAside_6 (fun q1 => ?_) (fun q1 => ?_)
  · have hf := ie_f hf q1
    exact B49     _ hf
  · have hf := ie_t hf q1
    refine r_iconst C0 (v := 0) dX7_pushAside_9 rfl ?_
    refine r_istore_n C0 (kk := 1) (lv2 := [(1, .int 0), (0, .ref (g.1 5 2500))]) (by decide) rfl dX7_pushAside_10 ?_
    refine WW.sub [1, 0] rfl ?_
    exact L11   _   _ hf
theorem dX7_plain_0 : decode cX7_plain 0 = .ok (.aload_n 0, 1) := by decide +kernel
theorem dX7_plain_1 : decode cX7_plain 1 = .ok (.iconst 0, 1) := by decide +kernel
theorem dX7_plain_2 : decode cX7_plain 2 = .ok (.putfield 60, 3) := by decide +kernel
theorem dX7_plain_5 : decode cX7_plain 5 = .ok (.iload_n 1, 1) := by decide +kernel
theorem dX7_plain_6 : decode cX7_plain 6 = .ok (.ireturn, 1) := by decide +kernel
theorem hd_X7_plain : yX7_plain.cls = RX7 ∧ yX7_plain.cls ≠ "java/lang/invoke/MethodHandle" ∧ yX7_plain.cls ≠ "java/lang/invoke/VarHandle" ∧ (parseMethodDescriptor yX7_plain.desc).map (fun d => d.parameters.length) = some 1 := by decide +kernel
set_option maxRecDepth 100000 in
set_option maxHeartbeats 4000000 in
theorem c_X7_plain (l : Launch) (D : va_G) (g : xG) (tb : List xQ) (hT : x_T g tb) {a1 : Int32} (h0 : x_md tb) {M : xM} {r : Int32} {M' : xM} (hf : f_X7_plain a1 M = some (r, M')) :
    cI l D g tb yX7_plain cX7_plain 2 .int ({ frames := 0, cells := 0, slots := 0, locals := 0 } : Room) [.ref (g.1 5 2500), .int a1] M r M' := by
  refine x_startI (own := RX7) (by decide +kernel) rfl rfl (Nat.le_of_ble_eq_true rfl) hT ?_
  intro p e s m args below meth c Q C0 hend
  unfold f_X7_plain at hf
  refine r_aload_n C0 (kk := 0) 0 rfl dX7_plain_0 ?_
  refine r_iconst C0 (v := 0) dX7_plain_1 rfl ?_
  refine r_put5 C0 h0.1 4 rfl rfl w6_220 rfl rfl rfl dX7_plain_2 ?_
  refine r_iload_n C0 (kk := 1) 1 rfl dX7_plain_5 ?_
  exact hend hf dX7_plain_6
theorem dX7_errorPosition_0 : decode cX7_errorPosition 0 = .ok (.aload_n 0, 1) := by decide +kernel
theorem dX7_errorPosition_1 : decode cX7_errorPosition 1 = .ok (.aload_n 0, 1) := by decide +kernel
theorem dX7_errorPosition_2 : decode cX7_errorPosition 2 = .ok (.getfield 13, 3) := by decide +kernel
theorem dX7_errorPosition_5 : decode cX7_errorPosition 5 = .ok (.invokevirtual 301, 3) := by decide +kernel
theorem dX7_errorPosition_8 : decode cX7_errorPosition 8 = .ok (.ireturn, 1) := by decide +kernel
theorem hd_X7_errorPosition : yX7_errorPosition.cls = RX7 ∧ yX7_errorPosition.cls ≠ "java/lang/invoke/MethodHandle" ∧ yX7_errorPosition.cls ≠ "java/lang/invoke/VarHandle" ∧ (parseMethodDescriptor yX7_errorPosition.desc).map (fun d => d.parameters.length) = some 0 := by decide +kernel
set_option maxRecDepth 100000 in
set_option maxHeartbeats 4000000 in
theorem c_X7_errorPosition (l : Launch) (D : va_G) (g : xG) (tb : List xQ) (hT : x_T g tb)  (h0 : x_md tb) {M : xM} {r : Int32} {M' : xM} (hf : f_X7_errorPosition  M = some (r, M')) :
    cI l D g tb yX7_errorPosition cX7_errorPosition 1 .int ({ frames := 1, cells := 0, slots := 0, locals := 21 } : Room) [.ref (g.1 5 2500)] M r M' := by
  refine x_startI (own := RX7) (by decide +kernel) rfl rfl (Nat.le_of_ble_eq_true rfl) hT ?_
  intro p e s m args below meth c Q C0 hend
  unfold f_X7_errorPosition at hf
  refine r_aload_n C0 (kk := 0) 0 rfl dX7_errorPosition_0 ?_
  refine r_aload_n C0 (kk := 0) 0 rfl dX7_errorPosition_1 ?_
  refine r_get5 C0 h0.1 3 (by decide) (v := .int (M 2503)) rfl rfl w6_219 dX7_errorPosition_2 ?_
  obtain ⟨r3, M2, hc1, hf⟩ := bd2_e hf
  refine r_callVi C0 (As := [.int (M 2503)]) (rest := []) (c_X7_plain l D g tb hT h0 hc1) w7_61 w7_63 wp5_11 w1_14 w7_64 (x_rec5 C0 h0.1) hd_X7_plain rfl ⟨rfl, rfl⟩ ⟨Nat.le_of_ble_eq_true rfl, Nat.le_of_ble_eq_true rfl⟩ (by decide) (by decide) rfl (Nat.le_of_ble_eq_true rfl) dX7_errorPosition_5 ?_
  exact hend hf dX7_errorPosition_8
theorem dX7_minute_0 : decode cX7_minute 0 = .ok (.aload_n 0, 1) := by decide +kernel
theorem dX7_minute_1 : decode cX7_minute 1 = .ok (.aload_n 0, 1) := by decide +kernel
theorem dX7_minute_2 : decode cX7_minute 2 = .ok (.getfield 17, 3) := by decide +kernel
theorem dX7_minute_5 : decode cX7_minute 5 = .ok (.iconst 0, 1) := by decide +kernel
theorem dX7_minute_6 : decode cX7_minute 6 = .ok (.iaload, 1) := by decide +kernel
theorem dX7_minute_7 : decode cX7_minute 7 = .ok (.invokevirtual 301, 3) := by decide +kernel
theorem dX7_minute_10 : decode cX7_minute 10 = .ok (.ireturn, 1) := by decide +kernel
theorem hd_X7_minute : yX7_minute.cls = RX7 ∧ yX7_minute.cls ≠ "java/lang/invoke/MethodHandle" ∧ yX7_minute.cls ≠ "java/lang/invoke/VarHandle" ∧ (parseMethodDescriptor yX7_minute.desc).map (fun d => d.parameters.length) = some 0 := by decide +kernel
set_option maxRecDepth 100000 in
set_option maxHeartbeats 4000000 in
theorem c_X7_minute (l : Launch) (D : va_G) (g : xG) (tb : List xQ) (hT : x_T g tb)  (h0 : x_md tb) {M : xM} {r : Int32} {M' : xM} (hf : f_X7_minute  M = some (r, M')) :
    cI l D g tb yX7_minute cX7_minute 1 .int ({ frames := 1, cells := 0, slots := 0, locals := 21 } : Room) [.ref (g.1 5 2500)] M r M' := by
  refine x_startI (own := RX7) (by decide +kernel) rfl rfl (Nat.le_of_ble_eq_true rfl) hT ?_
  intro p e s m args below meth c Q C0 hend
  unfold f_X7_minute at hf
  refine r_aload_n C0 (kk := 0) 0 rfl dX7_minute_0 ?_
  refine r_aload_n C0 (kk := 0) 0 rfl dX7_minute_1 ?_
  refine r_get5 C0 h0.1 5 (by decide) (v := .ref (g.1 6 2520)) rfl rfl w6_221 dX7_minute_2 ?_
  refine r_iconst C0 (v := 0) dX7_minute_5 rfl ?_
  refine r_ialdc C0 h0.2.1 (z := 2520) (by decide) (by decide) dX7_minute_6 ?_
  obtain ⟨r3, M2, hc1, hf⟩ := bd2_e hf
  refine r_callVi C0 (As := [.int (M 2520)]) (rest := []) (c_X7_plain l D g tb hT h0 hc1) w7_61 w7_63 wp5_11 w1_14 w7_64 (x_rec5 C0 h0.1) hd_X7_plain rfl ⟨rfl, rfl⟩ ⟨Nat.le_of_ble_eq_true rfl, Nat.le_of_ble_eq_true rfl⟩ (by decide) (by decide) rfl (Nat.le_of_ble_eq_true rfl) dX7_minute_7 ?_
  exact hend hf dX7_minute_10
theorem dX7_bellPosition_0 : decode cX7_bellPosition 0 = .ok (.aload_n 0, 1) := by decide +kernel
theorem dX7_bellPosition_1 : decode cX7_bellPosition 1 = .ok (.aload_n 0, 1) := by decide +kernel
theorem dX7_bellPosition_2 : decode cX7_bellPosition 2 = .ok (.getfield 17, 3) := by decide +kernel
theorem dX7_bellPosition_5 : decode cX7_bellPosition 5 = .ok (.bipush 7, 2) := by decide +kernel
theorem dX7_bellPosition_7 : decode cX7_bellPosition 7 = .ok (.iaload, 1) := by decide +kernel
theorem dX7_bellPosition_8 : decode cX7_bellPosition 8 = .ok (.invokevirtual 301, 3) := by decide +kernel
theorem dX7_bellPosition_11 : decode cX7_bellPosition 11 = .ok (.ireturn, 1) := by decide +kernel
theorem hd_X7_bellPosition : yX7_bellPosition.cls = RX7 ∧ yX7_bellPosition.cls ≠ "java/lang/invoke/MethodHandle" ∧ yX7_bellPosition.cls ≠ "java/lang/invoke/VarHandle" ∧ (parseMethodDescriptor yX7_bellPosition.desc).map (fun d => d.parameters.length) = some 0 := by decide +kernel
set_option maxRecDepth 100000 in
set_option maxHeartbeats 4000000 in
theorem c_X7_bellPosition (l : Launch) (D : va_G) (g : xG) (tb : List xQ) (hT : x_T g tb)  (h0 : x_md tb) {M : xM} {r : Int32} {M' : xM} (hf : f_X7_bellPosition  M = some (r, M')) :
    cI l D g tb yX7_bellPosition cX7_bellPosition 1 .int ({ frames := 1, cells := 0, slots := 0, locals := 21 } : Room) [.ref (g.1 5 2500)] M r M' := by
  refine x_startI (own := RX7) (by decide +kernel) rfl rfl (Nat.le_of_ble_eq_true rfl) hT ?_
  intro p e s m args below meth c Q C0 hend
  unfold f_X7_bellPosition at hf
  refine r_aload_n C0 (kk := 0) 0 rfl dX7_bellPosition_0 ?_
  refine r_aload_n C0 (kk := 0) 0 rfl dX7_bellPosition_1 ?_
  refine r_get5 C0 h0.1 5 (by decide) (v := .ref (g.1 6 2520)) rfl rfl w6_221 dX7_bellPosition_2 ?_
  refine r_bipush C0 (v := 7) dX7_bellPosition_5 rfl ?_
  refine r_ialdc C0 h0.2.1 (z := 2527) (by decide) (by decide) dX7_bellPosition_7 ?_
  obtain ⟨r3, M2, hc1, hf⟩ := bd2_e hf
  refine r_callVi C0 (As := [.int (M 2527)]) (rest := []) (c_X7_plain l D g tb hT h0 hc1) w7_61 w7_63 wp5_11 w1_14 w7_64 (x_rec5 C0 h0.1) hd_X7_plain rfl ⟨rfl, rfl⟩ ⟨Nat.le_of_ble_eq_true rfl, Nat.le_of_ble_eq_true rfl⟩ (by decide) (by decide) rfl (Nat.le_of_ble_eq_true rfl) dX7_bellPosition_8 ?_
  exact hend hf dX7_bellPosition_11
theorem dX7_threshold_0 : decode cX7_threshold 0 = .ok (.aload_n 0, 1) := by decide +kernel
theorem dX7_threshold_1 : decode cX7_threshold 1 = .ok (.aload_n 0, 1) := by decide +kernel
theorem dX7_threshold_2 : decode cX7_threshold 2 = .ok (.getfield 17, 3) := by decide +kernel
theorem dX7_threshold_5 : decode cX7_threshold 5 = .ok (.iconst 5, 1) := by decide +kernel
theorem dX7_threshold_6 : decode cX7_threshold 6 = .ok (.iaload, 1) := by decide +kernel
theorem dX7_threshold_7 : decode cX7_threshold 7 = .ok (.invokevirtual 301, 3) := by decide +kernel
theorem dX7_threshold_10 : decode cX7_threshold 10 = .ok (.ireturn, 1) := by decide +kernel
theorem hd_X7_threshold : yX7_threshold.cls = RX7 ∧ yX7_threshold.cls ≠ "java/lang/invoke/MethodHandle" ∧ yX7_threshold.cls ≠ "java/lang/invoke/VarHandle" ∧ (parseMethodDescriptor yX7_threshold.desc).map (fun d => d.parameters.length) = some 0 := by decide +kernel
set_option maxRecDepth 100000 in
set_option maxHeartbeats 4000000 in
theorem c_X7_threshold (l : Launch) (D : va_G) (g : xG) (tb : List xQ) (hT : x_T g tb)  (h0 : x_md tb) {M : xM} {r : Int32} {M' : xM} (hf : f_X7_threshold  M = some (r, M')) :
    cI l D g tb yX7_threshold cX7_threshold 1 .int ({ frames := 1, cells := 0, slots := 0, locals := 21 } : Room) [.ref (g.1 5 2500)] M r M' := by
  refine x_startI (own := RX7) (by decide +kernel) rfl rfl (Nat.le_of_ble_eq_true rfl) hT ?_
  intro p e s m args below meth c Q C0 hend
  unfold f_X7_threshold at hf
  refine r_aload_n C0 (kk := 0) 0 rfl dX7_threshold_0 ?_
  refine r_aload_n C0 (kk := 0) 0 rfl dX7_threshold_1 ?_
  refine r_get5 C0 h0.1 5 (by decide) (v := .ref (g.1 6 2520)) rfl rfl w6_221 dX7_threshold_2 ?_
  refine r_iconst C0 (v := 5) dX7_threshold_5 rfl ?_
  refine r_ialdc C0 h0.2.1 (z := 2525) (by decide) (by decide) dX7_threshold_6 ?_
  obtain ⟨r3, M2, hc1, hf⟩ := bd2_e hf
  refine r_callVi C0 (As := [.int (M 2525)]) (rest := []) (c_X7_plain l D g tb hT h0 hc1) w7_61 w7_63 wp5_11 w1_14 w7_64 (x_rec5 C0 h0.1) hd_X7_plain rfl ⟨rfl, rfl⟩ ⟨Nat.le_of_ble_eq_true rfl, Nat.le_of_ble_eq_true rfl⟩ (by decide) (by decide) rfl (Nat.le_of_ble_eq_true rfl) dX7_threshold_7 ?_
  exact hend hf dX7_threshold_10
theorem dX7_duration_0 : decode cX7_duration 0 = .ok (.aload_n 0, 1) := by decide +kernel
theorem dX7_duration_1 : decode cX7_duration 1 = .ok (.aload_n 0, 1) := by decide +kernel
theorem dX7_duration_2 : decode cX7_duration 2 = .ok (.getfield 17, 3) := by decide +kernel
theorem dX7_duration_5 : decode cX7_duration 5 = .ok (.bipush 6, 2) := by decide +kernel
theorem dX7_duration_7 : decode cX7_duration 7 = .ok (.iaload, 1) := by decide +kernel
theorem dX7_duration_8 : decode cX7_duration 8 = .ok (.invokevirtual 301, 3) := by decide +kernel
theorem dX7_duration_11 : decode cX7_duration 11 = .ok (.ireturn, 1) := by decide +kernel
theorem hd_X7_duration : yX7_duration.cls = RX7 ∧ yX7_duration.cls ≠ "java/lang/invoke/MethodHandle" ∧ yX7_duration.cls ≠ "java/lang/invoke/VarHandle" ∧ (parseMethodDescriptor yX7_duration.desc).map (fun d => d.parameters.length) = some 0 := by decide +kernel
set_option maxRecDepth 100000 in
set_option maxHeartbeats 4000000 in
theorem c_X7_duration (l : Launch) (D : va_G) (g : xG) (tb : List xQ) (hT : x_T g tb)  (h0 : x_md tb) {M : xM} {r : Int32} {M' : xM} (hf : f_X7_duration  M = some (r, M')) :
    cI l D g tb yX7_duration cX7_duration 1 .int ({ frames := 1, cells := 0, slots := 0, locals := 21 } : Room) [.ref (g.1 5 2500)] M r M' := by
  refine x_startI (own := RX7) (by decide +kernel) rfl rfl (Nat.le_of_ble_eq_true rfl) hT ?_
  intro p e s m args below meth c Q C0 hend
  unfold f_X7_duration at hf
  refine r_aload_n C0 (kk := 0) 0 rfl dX7_duration_0 ?_
  refine r_aload_n C0 (kk := 0) 0 rfl dX7_duration_1 ?_
  refine r_get5 C0 h0.1 5 (by decide) (v := .ref (g.1 6 2520)) rfl rfl w6_221 dX7_duration_2 ?_
  refine r_bipush C0 (v := 6) dX7_duration_5 rfl ?_
  refine r_ialdc C0 h0.2.1 (z := 2526) (by decide) (by decide) dX7_duration_7 ?_
  obtain ⟨r3, M2, hc1, hf⟩ := bd2_e hf
  refine r_callVi C0 (As := [.int (M 2526)]) (rest := []) (c_X7_plain l D g tb hT h0 hc1) w7_61 w7_63 wp5_11 w1_14 w7_64 (x_rec5 C0 h0.1) hd_X7_plain rfl ⟨rfl, rfl⟩ ⟨Nat.le_of_ble_eq_true rfl, Nat.le_of_ble_eq_true rfl⟩ (by decide) (by decide) rfl (Nat.le_of_ble_eq_true rfl) dX7_duration_8 ?_
  exact hend hf dX7_duration_11
theorem dX7_undoCount_0 : decode cX7_undoCount 0 = .ok (.aload_n 0, 1) := by decide +kernel
theorem dX7_undoCount_1 : decode cX7_undoCount 1 = .ok (.aload_n 0, 1) := by decide +kernel
theorem dX7_undoCount_2 : decode cX7_undoCount 2 = .ok (.getfield 295, 3) := by decide +kernel
theorem dX7_undoCount_5 : decode cX7_undoCount 5 = .ok (.invokevirtual 301, 3) := by decide +kernel
theorem dX7_undoCount_8 : decode cX7_undoCount 8 = .ok (.ireturn, 1) := by decide +kernel
theorem hd_X7_undoCount : yX7_undoCount.cls = RX7 ∧ yX7_undoCount.cls ≠ "java/lang/invoke/MethodHandle" ∧ yX7_undoCount.cls ≠ "java/lang/invoke/VarHandle" ∧ (parseMethodDescriptor yX7_undoCount.desc).map (fun d => d.parameters.length) = some 0 := by decide +kernel
set_option maxRecDepth 100000 in
set_option maxHeartbeats 4000000 in
theorem c_X7_undoCount (l : Launch) (D : va_G) (g : xG) (tb : List xQ) (hT : x_T g tb)  (h0 : x_md tb) {M : xM} {r : Int32} {M' : xM} (hf : f_X7_undoCount  M = some (r, M')) :
    cI l D g tb yX7_undoCount cX7_undoCount 1 .int ({ frames := 1, cells := 0, slots := 0, locals := 21 } : Room) [.ref (g.1 5 2500)] M r M' := by
  refine x_startI (own := RX7) (by decide +kernel) rfl rfl (Nat.le_of_ble_eq_true rfl) hT ?_
  intro p e s m args below meth c Q C0 hend
  unfold f_X7_undoCount at hf
  refine r_aload_n C0 (kk := 0) 0 rfl dX7_undoCount_0 ?_
  refine r_aload_n C0 (kk := 0) 0 rfl dX7_undoCount_1 ?_
  refine r_get5 C0 h0.1 9 (by decide) (v := .int (M 2509)) rfl rfl w6_225 dX7_undoCount_2 ?_
  obtain ⟨r3, M2, hc1, hf⟩ := bd2_e hf
  refine r_callVi C0 (As := [.int (M 2509)]) (rest := []) (c_X7_plain l D g tb hT h0 hc1) w7_61 w7_63 wp5_11 w1_14 w7_64 (x_rec5 C0 h0.1) hd_X7_plain rfl ⟨rfl, rfl⟩ ⟨Nat.le_of_ble_eq_true rfl, Nat.le_of_ble_eq_true rfl⟩ (by decide) (by decide) rfl (Nat.le_of_ble_eq_true rfl) dX7_undoCount_5 ?_
  exact hend hf dX7_undoCount_8
theorem dX7_fails_0 : decode cX7_fails 0 = .ok (.iload_n 1, 1) := by decide +kernel
theorem dX7_fails_1 : decode cX7_fails 1 = .ok (.ifCond .ne 8, 3) := by decide +kernel
theorem dX7_fails_4 : decode cX7_fails 4 = .ok (.aload_n 0, 1) := by decide +kernel
theorem dX7_fails_5 : decode cX7_fails 5 = .ok (.iload_n 2, 1) := by decide +kernel
theorem dX7_fails_6 : decode cX7_fails 6 = .ok (.putfield 60, 3) := by decide +kernel
theorem dX7_fails_9 : decode cX7_fails 9 = .ok (.iload_n 1, 1) := by decide +kernel
theorem dX7_fails_10 : decode cX7_fails 10 = .ok (.ifCond .ne 7, 3) := by decide +kernel
theorem dX7_fails_13 : decode cX7_fails 13 = .ok (.iconst 1, 1) := by decide +kernel
theorem dX7_fails_14 : decode cX7_fails 14 = .ok (.goto 4, 3) := by decide +kernel
theorem dX7_fails_17 : decode cX7_fails 17 = .ok (.iconst 0, 1) := by decide +kernel
theorem dX7_fails_18 : decode cX7_fails 18 = .ok (.ireturn, 1) := by decide +kernel
theorem hd_X7_fails : yX7_fails.cls = RX7 ∧ yX7_fails.cls ≠ "java/lang/invoke/MethodHandle" ∧ yX7_fails.cls ≠ "java/lang/invoke/VarHandle" ∧ (parseMethodDescriptor yX7_fails.desc).map (fun d => d.parameters.length) = some 2 := by decide +kernel
set_option maxRecDepth 100000 in
set_option maxHeartbeats 4000000 in
theorem c_X7_fails (l : Launch) (D : va_G) (g : xG) (tb : List xQ) (hT : x_T g tb) {a1 : Int32} {a2 : Int32} (h0 : x_md tb) {M : xM} {r : Int32} {M' : xM} (hf : f_X7_fails a1 a2 M = some (r, M')) :
    cI l D g tb yX7_fails cX7_fails 3 .boolean ({ frames := 0, cells := 0, slots := 0, locals := 0 } : Room) [.ref (g.1 5 2500), .int a1, .int a2] M r M' := by
  refine x_startZ (own := RX7) (by decide +kernel) rfl rfl (Nat.le_of_ble_eq_true rfl) hT ?_
  intro p e s m args below meth c Q C0 hend
  have B9 : ∀ (M : xM), f_X7_fails_c9  a1 a2 M = some (r, M') → WW p l e ({ frames := 0, cells := 0, slots := 0, locals := 0 } : Room) s m args below meth c 0 0 Q 3 D g tb 9 [(1, .int a1)] [] M := by
    intro     M hf
    unfold f_X7_fails_c9 at hf
    refine r_iload_n C0 (kk := 1) 0 rfl dX7_fails_9 ?_
    refine r_if_ne C0 (tgt := 17) (by decide) dX7_fails_10 (fun q2 => ?_) (fun q2 => ?_)
    · have hf := ie_f hf q2
      refine r_iconst C0 (v := 0) dX7_fails_17 rfl ?_
      exact hend (by decide) hf dX7_fails_18
    · have hf := ie_t hf q2
      refine r_iconst C0 (v := 1) dX7_fails_13 rfl ?_
      refine r_goto C0 (tgt := 18) (by decide) dX7_fails_14 ?_
      exact hend (by decide) hf dX7_fails_18
  unfold f_X7_fails at hf
  refine r_iload_n C0 (kk := 1) 1 rfl dX7_fails_0 ?_
  refine r_if_ne C0 (tgt := 9) (by decide) dX7_fails_1 (fun q1 => ?_) (fun q1 => ?_)
  · have hf := ie_f hf q1
    refine WW.sub [1] rfl ?_
    exact B9     _ hf
  · have hf := ie_t hf q1
    refine r_aload_n C0 (kk := 0) 0 rfl dX7_fails_4 ?_
    refine r_iload_n C0 (kk := 2) 2 rfl dX7_fails_5 ?_
    refine r_put5 C0 h0.1 4 rfl rfl w6_220 rfl rfl rfl dX7_fails_6 ?_
    refine WW.sub [1] rfl ?_
    exact B9     _ hf
theorem dX7_isOpen_0 : decode cX7_isOpen 0 = .ok (.aload_n 0, 1) := by decide +kernel
theorem dX7_isOpen_1 : decode cX7_isOpen 1 = .ok (.aload_n 0, 1) := by decide +kernel
theorem dX7_isOpen_2 : decode cX7_isOpen 2 = .ok (.getfield 17, 3) := by decide +kernel
theorem dX7_isOpen_5 : decode cX7_isOpen 5 = .ok (.iconst 1, 1) := by decide +kernel
theorem dX7_isOpen_6 : decode cX7_isOpen 6 = .ok (.iaload, 1) := by decide +kernel
theorem dX7_isOpen_7 : decode cX7_isOpen 7 = .ok (.invokevirtual 301, 3) := by decide +kernel
theorem dX7_isOpen_10 : decode cX7_isOpen 10 = .ok (.iconst 1, 1) := by decide +kernel
theorem dX7_isOpen_11 : decode cX7_isOpen 11 = .ok (.if_icmp .ne 7, 3) := by decide +kernel
theorem dX7_isOpen_14 : decode cX7_isOpen 14 = .ok (.iconst 1, 1) := by decide +kernel
theorem dX7_isOpen_15 : decode cX7_isOpen 15 = .ok (.goto 4, 3) := by decide +kernel
theorem dX7_isOpen_18 : decode cX7_isOpen 18 = .ok (.iconst 0, 1) := by decide +kernel
theorem dX7_isOpen_19 : decode cX7_isOpen 19 = .ok (.ireturn, 1) := by decide +kernel
theorem hd_X7_isOpen : yX7_isOpen.cls = RX7 ∧ yX7_isOpen.cls ≠ "java/lang/invoke/MethodHandle" ∧ yX7_isOpen.cls ≠ "java/lang/invoke/VarHandle" ∧ (parseMethodDescriptor yX7_isOpen.desc).map (fun d => d.parameters.length) = some 0 := by decide +kernel
set_option maxRecDepth 100000 in
set_option maxHeartbeats 4000000 in
theorem c_X7_isOpen (l : Launch) (D : va_G) (g : xG) (tb : List xQ) (hT : x_T g tb)  (h0 : x_md tb) {M : xM} {r : Int32} {M' : xM} (hf : f_X7_isOpen  M = some (r, M')) :
    cI l D g tb yX7_isOpen cX7_isOpen 1 .boolean ({ frames := 1, cells := 0, slots := 0, locals := 21 } : Room) [.ref (g.1 5 2500)] M r M' := by
  refine x_startZ (own := RX7) (by decide +kernel) rfl rfl (Nat.le_of_ble_eq_true rfl) hT ?_
  intro p e s m args below meth c Q C0 hend
  unfold f_X7_isOpen at hf
  refine r_aload_n C0 (kk := 0) 0 rfl dX7_isOpen_0 ?_
  refine r_aload_n C0 (kk := 0) 0 rfl dX7_isOpen_1 ?_
  refine r_get5 C0 h0.1 5 (by decide) (v := .ref (g.1 6 2520)) rfl rfl w6_221 dX7_isOpen_2 ?_
  refine r_iconst C0 (v := 1) dX7_isOpen_5 rfl ?_
  refine r_ialdc C0 h0.2.1 (z := 2521) (by decide) (by decide) dX7_isOpen_6 ?_
  obtain ⟨r3, M2, hc1, hf⟩ := bd2_e hf
  refine r_callVi C0 (As := [.int (M 2521)]) (rest := []) (c_X7_plain l D g tb hT h0 hc1) w7_61 w7_63 wp5_11 w1_14 w7_64 (x_rec5 C0 h0.1) hd_X7_plain rfl ⟨rfl, rfl⟩ ⟨Nat.le_of_ble_eq_true rfl, Nat.le_of_ble_eq_true rfl⟩ (by decide) (by decide) rfl (Nat.le_of_ble_eq_true rfl) dX7_isOpen_7 ?_
  refine r_iconst C0 (v := 1) dX7_isOpen_10 rfl ?_
  refine r_icmp_ne C0 (tgt := 18) (by decide) dX7_isOpen_11 (fun q4 => ?_) (fun q4 => ?_)
  · have hf := ie_f hf q4
    refine r_iconst C0 (v := 0) dX7_isOpen_18 rfl ?_
    exact hend (by decide) hf dX7_isOpen_19
  · have hf := ie_t hf q4
    refine r_iconst C0 (v := 1) dX7_isOpen_14 rfl ?_
    refine r_goto C0 (tgt := 19) (by decide) dX7_isOpen_15 ?_
    exact hend (by decide) hf dX7_isOpen_19
theorem dX7_isReady_0 : decode cX7_isReady 0 = .ok (.aload_n 0, 1) := by decide +kernel
theorem dX7_isReady_1 : decode cX7_isReady 1 = .ok (.aload_n 0, 1) := by decide +kernel
theorem dX7_isReady_2 : decode cX7_isReady 2 = .ok (.getfield 17, 3) := by decide +kernel
theorem dX7_isReady_5 : decode cX7_isReady 5 = .ok (.iconst 2, 1) := by decide +kernel
theorem dX7_isReady_6 : decode cX7_isReady 6 = .ok (.iaload, 1) := by decide +kernel
theorem dX7_isReady_7 : decode cX7_isReady 7 = .ok (.invokevirtual 301, 3) := by decide +kernel
theorem dX7_isReady_10 : decode cX7_isReady 10 = .ok (.iconst 1, 1) := by decide +kernel
theorem dX7_isReady_11 : decode cX7_isReady 11 = .ok (.if_icmp .ne 7, 3) := by decide +kernel
theorem dX7_isReady_14 : decode cX7_isReady 14 = .ok (.iconst 1, 1) := by decide +kernel
theorem dX7_isReady_15 : decode cX7_isReady 15 = .ok (.goto 4, 3) := by decide +kernel
theorem dX7_isReady_18 : decode cX7_isReady 18 = .ok (.iconst 0, 1) := by decide +kernel
theorem dX7_isReady_19 : decode cX7_isReady 19 = .ok (.ireturn, 1) := by decide +kernel
theorem hd_X7_isReady : yX7_isReady.cls = RX7 ∧ yX7_isReady.cls ≠ "java/lang/invoke/MethodHandle" ∧ yX7_isReady.cls ≠ "java/lang/invoke/VarHandle" ∧ (parseMethodDescriptor yX7_isReady.desc).map (fun d => d.parameters.length) = some 0 := by decide +kernel
set_option maxRecDepth 100000 in
set_option maxHeartbeats 4000000 in
theorem c_X7_isReady (l : Launch) (D : va_G) (g : xG) (tb : List xQ) (hT : x_T g tb)  (h0 : x_md tb) {M : xM} {r : Int32} {M' : xM} (hf : f_X7_isReady  M = some (r, M')) :
    cI l D g tb yX7_isReady cX7_isReady 1 .boolean ({ frames := 1, cells := 0, slots := 0, locals := 21 } : Room) [.ref (g.1 5 2500)] M r M' := by
  refine x_startZ (own := RX7) (by decide +kernel) rfl rfl (Nat.le_of_ble_eq_true rfl) hT ?_
  intro p e s m args below meth c Q C0 hend
  unfold f_X7_isReady at hf
  refine r_aload_n C0 (kk := 0) 0 rfl dX7_isReady_0 ?_
  refine r_aload_n C0 (kk := 0) 0 rfl dX7_isReady_1 ?_
  refine r_get5 C0 h0.1 5 (by decide) (v := .ref (g.1 6 2520)) rfl rfl w6_221 dX7_isReady_2 ?_
  refine r_iconst C0 (v := 2) dX7_isReady_5 rfl ?_
  refine r_ialdc C0 h0.2.1 (z := 2522) (by decide) (by decide) dX7_isReady_6 ?_
  obtain ⟨r3, M2, hc1, hf⟩ := bd2_e hf
  refine r_callVi C0 (As := [.int (M 2522)]) (rest := []) (c_X7_plain l D g tb hT h0 hc1) w7_61 w7_63 wp5_11 w1_14 w7_64 (x_rec5 C0 h0.1) hd_X7_plain rfl ⟨rfl, rfl⟩ ⟨Nat.le_of_ble_eq_true rfl, Nat.le_of_ble_eq_true rfl⟩ (by decide) (by decide) rfl (Nat.le_of_ble_eq_true rfl) dX7_isReady_7 ?_
  refine r_iconst C0 (v := 1) dX7_isReady_10 rfl ?_
  refine r_icmp_ne C0 (tgt := 18) (by decide) dX7_isReady_11 (fun q4 => ?_) (fun q4 => ?_)
  · have hf := ie_f hf q4
    refine r_iconst C0 (v := 0) dX7_isReady_18 rfl ?_
    exact hend (by decide) hf dX7_isReady_19
  · have hf := ie_t hf q4
    refine r_iconst C0 (v := 1) dX7_isReady_14 rfl ?_
    refine r_goto C0 (tgt := 19) (by decide) dX7_isReady_15 ?_
    exact hend (by decide) hf dX7_isReady_19
theorem dX7_openMinutes_0 : decode cX7_openMinutes 0 = .ok (.aload_n 0, 1) := by decide +kernel
theorem dX7_openMinutes_1 : decode cX7_openMinutes 1 = .ok (.aload_n 0, 1) := by decide +kernel
theorem dX7_openMinutes_2 : decode cX7_openMinutes 2 = .ok (.getfield 17, 3) := by decide +kernel
theorem dX7_openMinutes_5 : decode cX7_openMinutes 5 = .ok (.iconst 3, 1) := by decide +kernel
theorem dX7_openMinutes_6 : decode cX7_openMinutes 6 = .ok (.iaload, 1) := by decide +kernel
theorem dX7_openMinutes_7 : decode cX7_openMinutes 7 = .ok (.invokevirtual 301, 3) := by decide +kernel
theorem dX7_openMinutes_10 : decode cX7_openMinutes 10 = .ok (.ireturn, 1) := by decide +kernel
theorem hd_X7_openMinutes : yX7_openMinutes.cls = RX7 ∧ yX7_openMinutes.cls ≠ "java/lang/invoke/MethodHandle" ∧ yX7_openMinutes.cls ≠ "java/lang/invoke/VarHandle" ∧ (parseMethodDescriptor yX7_openMinutes.desc).map (fun d => d.parameters.length) = some 0 := by decide +kernel
set_option maxRecDepth 100000 in
set_option maxHeartbeats 4000000 in
theorem c_X7_openMinutes (l : Launch) (D : va_G) (g : xG) (tb : List xQ) (hT : x_T g tb)  (h0 : x_md tb) {M : xM} {r : Int32} {M' : xM} (hf : f_X7_openMinutes  M = some (r, M')) :
    cI l D g tb yX7_openMinutes cX7_openMinutes 1 .int ({ frames := 1, cells := 0, slots := 0, locals := 21 } : Room) [.ref (g.1 5 2500)] M r M' := by
  refine x_startI (own := RX7) (by decide +kernel) rfl rfl (Nat.le_of_ble_eq_true rfl) hT ?_
  intro p e s m args below meth c Q C0 hend
  unfold f_X7_openMinutes at hf
  refine r_aload_n C0 (kk := 0) 0 rfl dX7_openMinutes_0 ?_
  refine r_aload_n C0 (kk := 0) 0 rfl dX7_openMinutes_1 ?_
  refine r_get5 C0 h0.1 5 (by decide) (v := .ref (g.1 6 2520)) rfl rfl w6_221 dX7_openMinutes_2 ?_
  refine r_iconst C0 (v := 3) dX7_openMinutes_5 rfl ?_
  refine r_ialdc C0 h0.2.1 (z := 2523) (by decide) (by decide) dX7_openMinutes_6 ?_
  obtain ⟨r3, M2, hc1, hf⟩ := bd2_e hf
  refine r_callVi C0 (As := [.int (M 2523)]) (rest := []) (c_X7_plain l D g tb hT h0 hc1) w7_61 w7_63 wp5_11 w1_14 w7_64 (x_rec5 C0 h0.1) hd_X7_plain rfl ⟨rfl, rfl⟩ ⟨Nat.le_of_ble_eq_true rfl, Nat.le_of_ble_eq_true rfl⟩ (by decide) (by decide) rfl (Nat.le_of_ble_eq_true rfl) dX7_openMinutes_7 ?_
  exact hend hf dX7_openMinutes_10
theorem dX7_ringings_0 : decode cX7_ringings 0 = .ok (.aload_n 0, 1) := by decide +kernel
theorem dX7_ringings_1 : decode cX7_ringings 1 = .ok (.aload_n 0, 1) := by decide +kernel
theorem dX7_ringings_2 : decode cX7_ringings 2 = .ok (.getfield 17, 3) := by decide +kernel
theorem dX7_ringings_5 : decode cX7_ringings 5 = .ok (.iconst 4, 1) := by decide +kernel
theorem dX7_ringings_6 : decode cX7_ringings 6 = .ok (.iaload, 1) := by decide +kernel
theorem dX7_ringings_7 : decode cX7_ringings 7 = .ok (.invokevirtual 301, 3) := by decide +kernel
theorem dX7_ringings_10 : decode cX7_ringings 10 = .ok (.ireturn, 1) := by decide +kernel
theorem hd_X7_ringings : yX7_ringings.cls = RX7 ∧ yX7_ringings.cls ≠ "java/lang/invoke/MethodHandle" ∧ yX7_ringings.cls ≠ "java/lang/invoke/VarHandle" ∧ (parseMethodDescriptor yX7_ringings.desc).map (fun d => d.parameters.length) = some 0 := by decide +kernel
set_option maxRecDepth 100000 in
set_option maxHeartbeats 4000000 in
theorem c_X7_ringings (l : Launch) (D : va_G) (g : xG) (tb : List xQ) (hT : x_T g tb)  (h0 : x_md tb) {M : xM} {r : Int32} {M' : xM} (hf : f_X7_ringings  M = some (r, M')) :
    cI l D g tb yX7_ringings cX7_ringings 1 .int ({ frames := 1, cells := 0, slots := 0, locals := 21 } : Room) [.ref (g.1 5 2500)] M r M' := by
  refine x_startI (own := RX7) (by decide +kernel) rfl rfl (Nat.le_of_ble_eq_true rfl) hT ?_
  intro p e s m args below meth c Q C0 hend
  unfold f_X7_ringings at hf
  refine r_aload_n C0 (kk := 0) 0 rfl dX7_ringings_0 ?_
  refine r_aload_n C0 (kk := 0) 0 rfl dX7_ringings_1 ?_
  refine r_get5 C0 h0.1 5 (by decide) (v := .ref (g.1 6 2520)) rfl rfl w6_221 dX7_ringings_2 ?_
  refine r_iconst C0 (v := 4) dX7_ringings_5 rfl ?_
  refine r_ialdc C0 h0.2.1 (z := 2524) (by decide) (by decide) dX7_ringings_6 ?_
  obtain ⟨r3, M2, hc1, hf⟩ := bd2_e hf
  refine r_callVi C0 (As := [.int (M 2524)]) (rest := []) (c_X7_plain l D g tb hT h0 hc1) w7_61 w7_63 wp5_11 w1_14 w7_64 (x_rec5 C0 h0.1) hd_X7_plain rfl ⟨rfl, rfl⟩ ⟨Nat.le_of_ble_eq_true rfl, Nat.le_of_ble_eq_true rfl⟩ (by decide) (by decide) rfl (Nat.le_of_ble_eq_true rfl) dX7_ringings_7 ?_
  exact hend hf dX7_ringings_10
theorem dX7_stallCount_0 : decode cX7_stallCount 0 = .ok (.aload_n 0, 1) := by decide +kernel
theorem dX7_stallCount_1 : decode cX7_stallCount 1 = .ok (.aload_n 0, 1) := by decide +kernel
theorem dX7_stallCount_2 : decode cX7_stallCount 2 = .ok (.getfield 17, 3) := by decide +kernel
theorem dX7_stallCount_5 : decode cX7_stallCount 5 = .ok (.bipush 9, 2) := by decide +kernel
theorem dX7_stallCount_7 : decode cX7_stallCount 7 = .ok (.iaload, 1) := by decide +kernel
theorem dX7_stallCount_8 : decode cX7_stallCount 8 = .ok (.invokevirtual 301, 3) := by decide +kernel
theorem dX7_stallCount_11 : decode cX7_stallCount 11 = .ok (.ireturn, 1) := by decide +kernel
theorem hd_X7_stallCount : yX7_stallCount.cls = RX7 ∧ yX7_stallCount.cls ≠ "java/lang/invoke/MethodHandle" ∧ yX7_stallCount.cls ≠ "java/lang/invoke/VarHandle" ∧ (parseMethodDescriptor yX7_stallCount.desc).map (fun d => d.parameters.length) = some 0 := by decide +kernel
set_option maxRecDepth 100000 in
set_option maxHeartbeats 4000000 in
theorem c_X7_stallCount (l : Launch) (D : va_G) (g : xG) (tb : List xQ) (hT : x_T g tb)  (h0 : x_md tb) {M : xM} {r : Int32} {M' : xM} (hf : f_X7_stallCount  M = some (r, M')) :
    cI l D g tb yX7_stallCount cX7_stallCount 1 .int ({ frames := 1, cells := 0, slots := 0, locals := 21 } : Room) [.ref (g.1 5 2500)] M r M' := by
  refine x_startI (own := RX7) (by decide +kernel) rfl rfl (Nat.le_of_ble_eq_true rfl) hT ?_
  intro p e s m args below meth c Q C0 hend
  unfold f_X7_stallCount at hf
  refine r_aload_n C0 (kk := 0) 0 rfl dX7_stallCount_0 ?_
  refine r_aload_n C0 (kk := 0) 0 rfl dX7_stallCount_1 ?_
  refine r_get5 C0 h0.1 5 (by decide) (v := .ref (g.1 6 2520)) rfl rfl w6_221 dX7_stallCount_2 ?_
  refine r_bipush C0 (v := 9) dX7_stallCount_5 rfl ?_
  refine r_ialdc C0 h0.2.1 (z := 2529) (by decide) (by decide) dX7_stallCount_7 ?_
  obtain ⟨r3, M2, hc1, hf⟩ := bd2_e hf
  refine r_callVi C0 (As := [.int (M 2529)]) (rest := []) (c_X7_plain l D g tb hT h0 hc1) w7_61 w7_63 wp5_11 w1_14 w7_64 (x_rec5 C0 h0.1) hd_X7_plain rfl ⟨rfl, rfl⟩ ⟨Nat.le_of_ble_eq_true rfl, Nat.le_of_ble_eq_true rfl⟩ (by decide) (by decide) rfl (Nat.le_of_ble_eq_true rfl) dX7_stallCount_8 ?_
  exact hend hf dX7_stallCount_11
theorem dX7_isStall_0 : decode cX7_isStall 0 = .ok (.aload_n 0, 1) := by decide +kernel
theorem dX7_isStall_1 : decode cX7_isStall 1 = .ok (.iconst 0, 1) := by decide +kernel
theorem dX7_isStall_2 : decode cX7_isStall 2 = .ok (.putfield 60, 3) := by decide +kernel
theorem dX7_isStall_5 : decode cX7_isStall 5 = .ok (.aload_n 0, 1) := by decide +kernel
theorem dX7_isStall_6 : decode cX7_isStall 6 = .ok (.iload_n 1, 1) := by decide +kernel
theorem dX7_isStall_7 : decode cX7_isStall 7 = .ok (.iconst 0, 1) := by decide +kernel
theorem dX7_isStall_8 : decode cX7_isStall 8 = .ok (.aload_n 0, 1) := by decide +kernel
theorem dX7_isStall_9 : decode cX7_isStall 9 = .ok (.getfield 17, 3) := by decide +kernel
theorem dX7_isStall_12 : decode cX7_isStall 12 = .ok (.bipush 9, 2) := by decide +kernel
theorem dX7_isStall_14 : decode cX7_isStall 14 = .ok (.iaload, 1) := by decide +kernel
theorem dX7_isStall_15 : decode cX7_isStall 15 = .ok (.iconst 1, 1) := by decide +kernel
theorem dX7_isStall_16 : decode cX7_isStall 16 = .ok (.isub, 1) := by decide +kernel
theorem dX7_isStall_17 : decode cX7_isStall 17 = .ok (.invokestatic 147, 3) := by decide +kernel
theorem dX7_isStall_20 : decode cX7_isStall 20 = .ok (.iconst 1, 1) := by decide +kernel
theorem dX7_isStall_21 : decode cX7_isStall 21 = .ok (.invokevirtual 304, 3) := by decide +kernel
theorem dX7_isStall_24 : decode cX7_isStall 24 = .ok (.ifCond .ne 7, 3) := by decide +kernel
theorem dX7_isStall_27 : decode cX7_isStall 27 = .ok (.iconst 1, 1) := by decide +kernel
theorem dX7_isStall_28 : decode cX7_isStall 28 = .ok (.goto 4, 3) := by decide +kernel
theorem dX7_isStall_31 : decode cX7_isStall 31 = .ok (.iconst 0, 1) := by decide +kernel
theorem dX7_isStall_32 : decode cX7_isStall 32 = .ok (.ireturn, 1) := by decide +kernel
theorem hd_X7_isStall : yX7_isStall.cls = RX7 ∧ yX7_isStall.cls ≠ "java/lang/invoke/MethodHandle" ∧ yX7_isStall.cls ≠ "java/lang/invoke/VarHandle" ∧ (parseMethodDescriptor yX7_isStall.desc).map (fun d => d.parameters.length) = some 1 := by decide +kernel
set_option maxRecDepth 100000 in
set_option maxHeartbeats 4000000 in
theorem c_X7_isStall (l : Launch) (D : va_G) (g : xG) (tb : List xQ) (hT : x_T g tb) {a1 : Int32} (h0 : x_md tb) {M : xM} {r : Int32} {M' : xM} (hf : f_X7_isStall a1 M = some (r, M')) :
    cI l D g tb yX7_isStall cX7_isStall 2 .boolean ({ frames := 1, cells := 0, slots := 0, locals := 22 } : Room) [.ref (g.1 5 2500), .int a1] M r M' := by
  refine x_startZ (own := RX7) (by decide +kernel) rfl rfl (Nat.le_of_ble_eq_true rfl) hT ?_
  intro p e s m args below meth c Q C0 hend
  unfold f_X7_isStall at hf
  refine r_aload_n C0 (kk := 0) 0 rfl dX7_isStall_0 ?_
  refine r_iconst C0 (v := 0) dX7_isStall_1 rfl ?_
  refine r_put5 C0 h0.1 4 rfl rfl w6_220 rfl rfl rfl dX7_isStall_2 ?_
  refine r_aload_n C0 (kk := 0) 0 rfl dX7_isStall_5 ?_
  refine r_iload_n C0 (kk := 1) 1 rfl dX7_isStall_6 ?_
  refine r_iconst C0 (v := 0) dX7_isStall_7 rfl ?_
  refine r_aload_n C0 (kk := 0) 0 rfl dX7_isStall_8 ?_
  refine r_get5 C0 h0.1 5 (by decide) (v := .ref (g.1 6 2520)) rfl rfl w6_221 dX7_isStall_9 ?_
  refine r_bipush C0 (v := 9) dX7_isStall_12 rfl ?_
  refine r_ialdc C0 h0.2.1 (z := 2529) (by decide) (by decide) dX7_isStall_14 ?_
  refine r_iconst C0 (v := 1) dX7_isStall_15 rfl ?_
  refine r_isub C0 dX7_isStall_16 ?_
  obtain ⟨r3, M2, hc1, hf⟩ := bd2_e hf
  refine r_callSi C0 (As := [.int a1, .int 0, .int (((upd M 2504 0) 2529) - 1)]) (rest := [.ref (g.1 5 2500)]) (c_X7_inRange l D g tb hT  hc1) w6_12 w6_13 w1_14 w6_14 hd_X7_inRange rfl ⟨rfl, rfl⟩ ⟨Nat.le_of_ble_eq_true rfl, Nat.le_of_ble_eq_true rfl⟩ (by decide) (by decide) rfl (Nat.le_of_ble_eq_true rfl) dX7_isStall_17 ?_
  refine r_iconst C0 (v := 1) dX7_isStall_20 rfl ?_
  obtain ⟨r6, M5, hc4, hf⟩ := bd2_e hf
  refine r_callVi C0 (As := [.int r3, .int 1]) (rest := []) (c_X7_fails l D g tb hT h0 hc4) w7_93 w7_95 wp5_12 w1_14 w7_96 (x_rec5 C0 h0.1) hd_X7_fails rfl ⟨rfl, rfl⟩ ⟨Nat.le_of_ble_eq_true rfl, Nat.le_of_ble_eq_true rfl⟩ (by decide) (by decide) rfl (Nat.le_of_ble_eq_true rfl) dX7_isStall_21 ?_
  refine r_if_ne C0 (tgt := 31) (by decide) dX7_isStall_24 (fun q7 => ?_) (fun q7 => ?_)
  · have hf := ie_f hf q7
    refine r_iconst C0 (v := 0) dX7_isStall_31 rfl ?_
    exact hend (by decide) hf dX7_isStall_32
  · have hf := ie_t hf q7
    refine r_iconst C0 (v := 1) dX7_isStall_27 rfl ?_
    refine r_goto C0 (tgt := 32) (by decide) dX7_isStall_28 ?_
    exact hend (by decide) hf dX7_isStall_32
