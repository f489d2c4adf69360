theorem dX6_setLantern_0 : decode cX6_setLantern 0 = .ok (.aload_n 0, 1) := by decide +kernel
theorem dX6_setLantern_1 : decode cX6_setLantern 1 = .ok (.iload_n 1, 1) := by decide +kernel
theorem dX6_setLantern_2 : decode cX6_setLantern 2 = .ok (.invokevirtual 152, 3) := by decide +kernel
theorem dX6_setLantern_5 : decode cX6_setLantern 5 = .ok (.astore_n 3, 1) := by decide +kernel
theorem dX6_setLantern_6 : decode cX6_setLantern 6 = .ok (.iload_n 2, 1) := by decide +kernel
theorem dX6_setLantern_7 : decode cX6_setLantern 7 = .ok (.iconst 0, 1) := by decide +kernel
theorem dX6_setLantern_8 : decode cX6_setLantern 8 = .ok (.iconst 3, 1) := by decide +kernel
theorem dX6_setLantern_9 : decode cX6_setLantern 9 = .ok (.invokestatic 123, 3) := by decide +kernel
theorem dX6_setLantern_12 : decode cX6_setLantern 12 = .ok (.aload_n 0, 1) := by decide +kernel
theorem dX6_setLantern_13 : decode cX6_setLantern 13 = .ok (.invokevirtual 83, 3) := by decide +kernel
theorem dX6_setLantern_16 : decode cX6_setLantern 16 = .ok (.aload_n 3, 1) := by decide +kernel
theorem dX6_setLantern_17 : decode cX6_setLantern 17 = .ok (.getfield 161, 3) := by decide +kernel
theorem dX6_setLantern_20 : decode cX6_setLantern 20 = .ok (.istore 4, 2) := by decide +kernel
theorem dX6_setLantern_22 : decode cX6_setLantern 22 = .ok (.aload_n 3, 1) := by decide +kernel
theorem dX6_setLantern_23 : decode cX6_setLantern 23 = .ok (.iload_n 2, 1) := by decide +kernel
theorem dX6_setLantern_24 : decode cX6_setLantern 24 = .ok (.putfield 161, 3) := by decide +kernel
theorem dX6_setLantern_27 : decode cX6_setLantern 27 = .ok (.iload 4, 2) := by decide +kernel
theorem dX6_setLantern_29 : decode cX6_setLantern 29 = .ok (.ireturn, 1) := by decide +kernel
theorem hd_X6_setLantern : yX6_setLantern.cls = RX6 ∧ yX6_setLantern.cls ≠ "java/lang/invoke/MethodHandle" ∧ yX6_setLantern.cls ≠ "java/lang/invoke/VarHandle" ∧ (parseMethodDescriptor yX6_setLantern.desc).map (fun d => d.parameters.length) = some 2 := by decide +kernel
set_option maxRecDepth 100000 in
set_option maxHeartbeats 4000000 in
theorem c_X6_setLantern (l : Launch) (D : va_G) (g : xG) (tb : List xQ) (hT : x_T g tb) (hlst : l.stackTraces = false) {a1 : Int32} {a2 : Int32} (h0 : x_fb tb) {M : xM} {k : Nat} {r : Int32} {M' : xM} (hf : f_X6_setLantern a1 a2 M = some (k, r, M')) :
    tI l D g tb yX6_setLantern cX6_setLantern 5 .int ({ frames := 8, cells := 2, slots := 12, locals := 124 } : Room) 2 [.ref (g.1 4 1664), .int a1, .int a2] M k r M' := by
  refine x_tstartI (own := RX6) (r := r) (by decide +kernel) rfl rfl (Nat.le_of_ble_eq_true rfl) hT ?_
  intro p e s m args below meth c Q C0 hend hpr hthr
  unfold f_X6_setLantern at hf
  refine r_aload_n C0 (kk := 0) 0 rfl dX6_setLantern_0 ?_
  refine r_iload_n C0 (kk := 1) 1 rfl dX6_setLantern_1 ?_
  obtain ⟨k2, r4, M3, hc1, hx5, hf⟩ := tbd_e hf
  refine r_tcallVr C0 (As := [.int a1]) (rest := []) (c_X6_stallAt l D g tb hT hlst h0 hc1) w4_125 w4_127 wp2_10 w1_1 w4_128 (x_rec4 C0 h0.1) hd_X6_stallAt rfl ⟨rfl, rfl⟩ ⟨Nat.le_of_ble_eq_true rfl, Nat.le_of_ble_eq_true rfl⟩ (by decide) (by decide) rfl (Nat.le_of_ble_eq_true rfl) dX6_setLantern_2 (fun H1 locs1 ls E ce q hk hE hH hS hl h1 h2 h3 => hpr (by decide) (by decide) hk hE hH hS h1 h2 h3 (hx5 hk)) (fun hm6 hk => ?_)
  have hf := hf hk
  refine r_astore_n C0 (kk := 3) (lv2 := [(3, .ref (g.1 0 r4)), (0, .ref (g.1 4 1664)), (1, .int a1), (2, .int a2)]) (by decide) rfl dX6_setLantern_5 ?_
  refine r_iload_n C0 (kk := 2) 3 rfl dX6_setLantern_6 ?_
  refine r_iconst C0 (v := 0) dX6_setLantern_7 rfl ?_
  refine r_iconst C0 (v := 3) dX6_setLantern_8 rfl ?_
  obtain ⟨k8, r10, M9, hc7, hx11, hf⟩ := tbd_e hf
  refine r_tcallSv C0 (As := [.int a2, .int 0, .int 3]) (rest := []) (c_X6_checkRange l D g tb hT hlst  hc7) w4_45 w4_46 w1_1 w4_47 hd_X6_checkRange rfl ⟨rfl, rfl⟩ ⟨Nat.le_of_ble_eq_true rfl, Nat.le_of_ble_eq_true rfl⟩ (by decide) (by decide) rfl (Nat.le_of_ble_eq_true rfl) dX6_setLantern_9 (fun H1 locs1 ls E ce q hk hE hH hS hl h1 h2 h3 => hpr (by decide) (by decide) hk hE hH hS h1 h2 h3 (hx11 hk)) (fun hk => ?_)
  have hf := hf hk
  refine r_aload_n C0 (kk := 0) 1 rfl dX6_setLantern_12 ?_
  obtain ⟨M14, hc13, hf⟩ := bd_e hf
  refine r_callVv C0 (As := []) (rest := []) (c_X6_remember l D g tb hT h0 hc13) w3_156 w3_158 wp2_7 w1_1 w3_159 (x_rec4 C0 h0.1) hd_X6_remember rfl ⟨rfl, rfl⟩ ⟨Nat.le_of_ble_eq_true rfl, Nat.le_of_ble_eq_true rfl⟩ (by decide) (by decide) rfl (Nat.le_of_ble_eq_true rfl) dX6_setLantern_13 ?_
  refine r_aload_n C0 (kk := 3) 0 rfl dX6_setLantern_16 ?_
  refine r_get0 C0 hm6 1 (by decide) (v := .int (M14 (r4 + 1))) rfl rfl w1_50 dX6_setLantern_17 ?_
  refine r_istore C0 (lv2 := [(4, .int (M14 (r4 + 1))), (3, .ref (g.1 0 r4)), (0, .ref (g.1 4 1664)), (1, .int a1), (2, .int a2)]) (by decide) rfl dX6_setLantern_20 ?_
  refine r_aload_n C0 (kk := 3) 1 rfl dX6_setLantern_22 ?_
  refine r_iload_n C0 (kk := 2) 4 rfl dX6_setLantern_23 ?_
  refine r_put0 C0 hm6 1 rfl rfl w1_50 rfl rfl rfl dX6_setLantern_24 ?_
  refine r_iload C0 0 rfl dX6_setLantern_27 ?_
  exact hend (by decide) (by decide) hf dX6_setLantern_29
theorem dX6_moveStall_0 : decode cX6_moveStall 0 = .ok (.aload_n 0, 1) := by decide +kernel
theorem dX6_moveStall_1 : decode cX6_moveStall 1 = .ok (.iload_n 1, 1) := by decide +kernel
theorem dX6_moveStall_2 : decode cX6_moveStall 2 = .ok (.invokevirtual 152, 3) := by decide +kernel
theorem dX6_moveStall_5 : decode cX6_moveStall 5 = .ok (.astore_n 3, 1) := by decide +kernel
theorem dX6_moveStall_6 : decode cX6_moveStall 6 = .ok (.iload_n 2, 1) := by decide +kernel
theorem dX6_moveStall_7 : decode cX6_moveStall 7 = .ok (.iconst 0, 1) := by decide +kernel
theorem dX6_moveStall_8 : decode cX6_moveStall 8 = .ok (.bipush 99, 2) := by decide +kernel
theorem dX6_moveStall_10 : decode cX6_moveStall 10 = .ok (.invokestatic 123, 3) := by decide +kernel
theorem dX6_moveStall_13 : decode cX6_moveStall 13 = .ok (.aload_n 0, 1) := by decide +kernel
theorem dX6_moveStall_14 : decode cX6_moveStall 14 = .ok (.invokevirtual 83, 3) := by decide +kernel
theorem dX6_moveStall_17 : decode cX6_moveStall 17 = .ok (.aload_n 3, 1) := by decide +kernel
theorem dX6_moveStall_18 : decode cX6_moveStall 18 = .ok (.getfield 156, 3) := by decide +kernel
theorem dX6_moveStall_21 : decode cX6_moveStall 21 = .ok (.istore 4, 2) := by decide +kernel
theorem dX6_moveStall_23 : decode cX6_moveStall 23 = .ok (.aload_n 3, 1) := by decide +kernel
theorem dX6_moveStall_24 : decode cX6_moveStall 24 = .ok (.iload_n 2, 1) := by decide +kernel
theorem dX6_moveStall_25 : decode cX6_moveStall 25 = .ok (.putfield 156, 3) := by decide +kernel
theorem dX6_moveStall_28 : decode cX6_moveStall 28 = .ok (.iload 4, 2) := by decide +kernel
theorem dX6_moveStall_30 : decode cX6_moveStall 30 = .ok (.ireturn, 1) := by decide +kernel
theorem hd_X6_moveStall : yX6_moveStall.cls = RX6 ∧ yX6_moveStall.cls ≠ "java/lang/invoke/MethodHandle" ∧ yX6_moveStall.cls ≠ "java/lang/invoke/VarHandle" ∧ (parseMethodDescriptor yX6_moveStall.desc).map (fun d => d.parameters.length) = some 2 := by decide +kernel
set_option maxRecDepth 100000 in
set_option maxHeartbeats 4000000 in
theorem c_X6_moveStall (l : Launch) (D : va_G) (g : xG) (tb : List xQ) (hT : x_T g tb) (hlst : l.stackTraces = false) {a1 : Int32} {a2 : Int32} (h0 : x_fb tb) {M : xM} {k : Nat} {r : Int32} {M' : xM} (hf : f_X6_moveStall a1 a2 M = some (k, r, M')) :
    tI l D g tb yX6_moveStall cX6_moveStall 5 .int ({ frames := 8, cells := 2, slots := 12, locals := 124 } : Room) 2 [.ref (g.1 4 1664), .int a1, .int a2] M k r M' := by
  refine x_tstartI (own := RX6) (r := r) (by decide +kernel) rfl rfl (Nat.le_of_ble_eq_true rfl) hT ?_
  intro p e s m args below meth c Q C0 hend hpr hthr
  unfold f_X6_moveStall at hf
  refine r_aload_n C0 (kk := 0) 0 rfl dX6_moveStall_0 ?_
  refine r_iload_n C0 (kk := 1) 1 rfl dX6_moveStall_1 ?_
  obtain ⟨k2, r4, M3, hc1, hx5, hf⟩ := tbd_e hf
  refine r_tcallVr C0 (As := [.int a1]) (rest := []) (c_X6_stallAt l D g tb hT hlst h0 hc1) w4_125 w4_127 wp2_10 w1_1 w4_128 (x_rec4 C0 h0.1) hd_X6_stallAt rfl ⟨rfl, rfl⟩ ⟨Nat.le_of_ble_eq_true rfl, Nat.le_of_ble_eq_true rfl⟩ (by decide) (by decide) rfl (Nat.le_of_ble_eq_true rfl) dX6_moveStall_2 (fun H1 locs1 ls E ce q hk hE hH hS hl h1 h2 h3 => hpr (by decide) (by decide) hk hE hH hS h1 h2 h3 (hx5 hk)) (fun hm6 hk => ?_)
  have hf := hf hk
  refine r_astore_n C0 (kk := 3) (lv2 := [(3, .ref (g.1 0 r4)), (0, .ref (g.1 4 1664)), (1, .int a1), (2, .int a2)]) (by decide) rfl dX6_moveStall_5 ?_
  refine r_iload_n C0 (kk := 2) 3 rfl dX6_moveStall_6 ?_
  refine r_iconst C0 (v := 0) dX6_moveStall_7 rfl ?_
  refine r_bipush C0 (v := 99) dX6_moveStall_8 rfl ?_
  obtain ⟨k8, r10, M9, hc7, hx11, hf⟩ := tbd_e hf
  refine r_tcallSv C0 (As := [.int a2, .int 0, .int 99]) (rest := []) (c_X6_checkRange l D g tb hT hlst  hc7) w4_45 w4_46 w1_1 w4_47 hd_X6_checkRange rfl ⟨rfl, rfl⟩ ⟨Nat.le_of_ble_eq_true rfl, Nat.le_of_ble_eq_true rfl⟩ (by decide) (by decide) rfl (Nat.le_of_ble_eq_true rfl) dX6_moveStall_10 (fun H1 locs1 ls E ce q hk hE hH hS hl h1 h2 h3 => hpr (by decide) (by decide) hk hE hH hS h1 h2 h3 (hx11 hk)) (fun hk => ?_)
  have hf := hf hk
  refine r_aload_n C0 (kk := 0) 1 rfl dX6_moveStall_13 ?_
  obtain ⟨M14, hc13, hf⟩ := bd_e hf
  refine r_callVv C0 (As := []) (rest := []) (c_X6_remember l D g tb hT h0 hc13) w3_156 w3_158 wp2_7 w1_1 w3_159 (x_rec4 C0 h0.1) hd_X6_remember rfl ⟨rfl, rfl⟩ ⟨Nat.le_of_ble_eq_true rfl, Nat.le_of_ble_eq_true rfl⟩ (by decide) (by decide) rfl (Nat.le_of_ble_eq_true rfl) dX6_moveStall_14 ?_
  refine r_aload_n C0 (kk := 3) 0 rfl dX6_moveStall_17 ?_
  refine r_get0 C0 hm6 0 (by decide) (v := .int (M14 (r4 + 0))) rfl rfl w1_47 dX6_moveStall_18 ?_
  refine r_istore C0 (lv2 := [(4, .int (M14 (r4 + 0))), (3, .ref (g.1 0 r4)), (0, .ref (g.1 4 1664)), (1, .int a1), (2, .int a2)]) (by decide) rfl dX6_moveStall_21 ?_
  refine r_aload_n C0 (kk := 3) 1 rfl dX6_moveStall_23 ?_
  refine r_iload_n C0 (kk := 2) 4 rfl dX6_moveStall_24 ?_
  refine r_put0 C0 hm6 0 rfl rfl w1_47 rfl rfl rfl dX6_moveStall_25 ?_
  refine r_iload C0 0 rfl dX6_moveStall_28 ?_
  exact hend (by decide) (by decide) hf dX6_moveStall_30
theorem dX6_setFog_0 : decode cX6_setFog 0 = .ok (.iload_n 1, 1) := by decide +kernel
theorem dX6_setFog_1 : decode cX6_setFog 1 = .ok (.ifCond .lt 14, 3) := by decide +kernel
theorem dX6_setFog_4 : decode cX6_setFog 4 = .ok (.iload_n 1, 1) := by decide +kernel
theorem dX6_setFog_5 : decode cX6_setFog 5 = .ok (.aload_n 0, 1) := by decide +kernel
theorem dX6_setFog_6 : decode cX6_setFog 6 = .ok (.getfield 10, 3) := by decide +kernel
theorem dX6_setFog_9 : decode cX6_setFog 9 = .ok (.getfield 303, 3) := by decide +kernel
theorem dX6_setFog_12 : decode cX6_setFog 12 = .ok (.if_icmp .lt 14, 3) := by decide +kernel
theorem dX6_setFog_15 : decode cX6_setFog 15 = .ok (.new 200, 3) := by decide +kernel
theorem dX6_setFog_18 : decode cX6_setFog 18 = .ok (.dup, 1) := by decide +kernel
theorem dX6_setFog_19 : decode cX6_setFog 19 = .ok (.ldc_w 306, 3) := by decide +kernel
theorem dX6_setFog_22 : decode cX6_setFog 22 = .ok (.invokespecial 204, 3) := by decide +kernel
theorem dX6_setFog_25 : decode cX6_setFog 25 = .ok (.athrow, 1) := by decide +kernel
theorem dX6_setFog_26 : decode cX6_setFog 26 = .ok (.iload_n 2, 1) := by decide +kernel
theorem dX6_setFog_27 : decode cX6_setFog 27 = .ok (.iconst 0, 1) := by decide +kernel
theorem dX6_setFog_28 : decode cX6_setFog 28 = .ok (.bipush 9, 2) := by decide +kernel
theorem dX6_setFog_30 : decode cX6_setFog 30 = .ok (.invokestatic 123, 3) := by decide +kernel
theorem dX6_setFog_33 : decode cX6_setFog 33 = .ok (.aload_n 0, 1) := by decide +kernel
theorem dX6_setFog_34 : decode cX6_setFog 34 = .ok (.invokevirtual 83, 3) := by decide +kernel
theorem dX6_setFog_37 : decode cX6_setFog 37 = .ok (.aload_n 0, 1) := by decide +kernel
theorem dX6_setFog_38 : decode cX6_setFog 38 = .ok (.getfield 10, 3) := by decide +kernel
theorem dX6_setFog_41 : decode cX6_setFog 41 = .ok (.getfield 308, 3) := by decide +kernel
theorem dX6_setFog_44 : decode cX6_setFog 44 = .ok (.iload_n 1, 1) := by decide +kernel
theorem dX6_setFog_45 : decode cX6_setFog 45 = .ok (.iaload, 1) := by decide +kernel
theorem dX6_setFog_46 : decode cX6_setFog 46 = .ok (.istore_n 3, 1) := by decide +kernel
theorem dX6_setFog_47 : decode cX6_setFog 47 = .ok (.aload_n 0, 1) := by decide +kernel
theorem dX6_setFog_48 : decode cX6_setFog 48 = .ok (.getfield 10, 3) := by decide +kernel
theorem dX6_setFog_51 : decode cX6_setFog 51 = .ok (.getfield 308, 3) := by decide +kernel
theorem dX6_setFog_54 : decode cX6_setFog 54 = .ok (.iload_n 1, 1) := by decide +kernel
theorem dX6_setFog_55 : decode cX6_setFog 55 = .ok (.iload_n 2, 1) := by decide +kernel
theorem dX6_setFog_56 : decode cX6_setFog 56 = .ok (.iastore, 1) := by decide +kernel
theorem dX6_setFog_57 : decode cX6_setFog 57 = .ok (.iload_n 3, 1) := by decide +kernel
theorem dX6_setFog_58 : decode cX6_setFog 58 = .ok (.ireturn, 1) := by decide +kernel
theorem hd_X6_setFog : yX6_setFog.cls = RX6 ∧ yX6_setFog.cls ≠ "java/lang/invoke/MethodHandle" ∧ yX6_setFog.cls ≠ "java/lang/invoke/VarHandle" ∧ (parseMethodDescriptor yX6_setFog.desc).map (fun d => d.parameters.length) = some 2 := by decide +kernel
set_option maxRecDepth 100000 in
set_option maxHeartbeats 4000000 in
theorem c_X6_setFog (l : Launch) (D : va_G) (g : xG) (tb : List xQ) (hT : x_T g tb) (hlst : l.stackTraces = false) {a1 : Int32} {a2 : Int32} (h0 : x_fb tb) {M : xM} {k : Nat} {r : Int32} {M' : xM} (hf : f_X6_setFog a1 a2 M = some (k, r, M')) :
    tI l D g tb yX6_setFog cX6_setFog 4 .int ({ frames := 7, cells := 1, slots := 6, locals := 104 } : Room) 1 [.ref (g.1 4 1664), .int a1, .int a2] M k r M' := by
  refine x_tstartI (own := RX6) (r := r) (by decide +kernel) rfl rfl (Nat.le_of_ble_eq_true rfl) hT ?_
  intro p e s m args below meth c Q C0 hend hpr hthr
  have B15 : ∀ (M : xM), f_X6_setFog_c15  a1 a2 M = some (k, r, M') → WW p l e ({ frames := 7, cells := 1, slots := 6, locals := 104 } : Room) s m args below meth c 0 0 Q 4 D g tb 15 [] [] M := by
    intro     M hf
    unfold f_X6_setFog_c15 at hf
    exact hthr hlst rfl x_tk2 (by decide) (si := 16) rfl dX6_setFog_15 dX6_setFog_18 (Or.inr ⟨dX6_setFog_19, dX6_setFog_22, dX6_setFog_25⟩) (by decide) (Nat.le_of_ble_eq_true rfl) (by decide) (by decide) (by decide) (by decide) hf
  unfold f_X6_setFog at hf
  refine r_iload_n C0 (kk := 1) 1 rfl dX6_setFog_0 ?_
  refine r_if_lt C0 (tgt := 15) (by decide) dX6_setFog_1 (fun q1 => ?_) (fun q1 => ?_)
  · have hf := ie_t hf q1
    refine WW.sub [] rfl ?_
    exact B15     _ hf
  · have hf := ie_f hf q1
    refine r_iload_n C0 (kk := 1) 1 rfl dX6_setFog_4 ?_
    refine r_aload_n C0 (kk := 0) 0 rfl dX6_setFog_5 ?_
    refine r_get4 C0 h0.1 0 (by decide) (v := .ref (g.1 2 0)) rfl rfl w3_102 dX6_setFog_6 ?_
    refine r_get2 C0 h0.2.1.1 5 (by decide) (v := .int (M 8)) rfl rfl w1_151 dX6_setFog_9 ?_
    refine r_icmp_lt C0 (tgt := 26) (by decide) dX6_setFog_12 (fun q2 => ?_) (fun q2 => ?_)
    · have hf := ie_t hf q2
      refine r_iload_n C0 (kk := 2) 2 rfl dX6_setFog_26 ?_
      refine r_iconst C0 (v := 0) dX6_setFog_27 rfl ?_
      refine r_bipush C0 (v := 9) dX6_setFog_28 rfl ?_
      obtain ⟨k4, r6, M5, hc3, hx7, hf⟩ := tbd_e hf
      refine r_tcallSv C0 (As := [.int a2, .int 0, .int 9]) (rest := []) (c_X6_checkRange l D g tb hT hlst  hc3) w4_45 w4_46 w1_1 w4_47 hd_X6_checkRange rfl ⟨rfl, rfl⟩ ⟨Nat.le_of_ble_eq_true rfl, Nat.le_of_ble_eq_true rfl⟩ (by decide) (by decide) rfl (Nat.le_of_ble_eq_true rfl) dX6_setFog_30 (fun H1 locs1 ls E ce q hk hE hH hS hl h1 h2 h3 => hpr (by decide) (by decide) hk hE hH hS h1 h2 h3 (hx7 hk)) (fun hk => ?_)
      have hf := hf hk
      refine r_aload_n C0 (kk := 0) 0 rfl dX6_setFog_33 ?_
      obtain ⟨M10, hc9, hf⟩ := bd_e hf
      refine r_callVv C0 (As := []) (rest := []) (c_X6_remember l D g tb hT h0 hc9) w3_156 w3_158 wp2_7 w1_1 w3_159 (x_rec4 C0 h0.1) hd_X6_remember rfl ⟨rfl, rfl⟩ ⟨Nat.le_of_ble_eq_true rfl, Nat.le_of_ble_eq_true rfl⟩ (by decide) (by decide) rfl (Nat.le_of_ble_eq_true rfl) dX6_setFog_34 ?_
      refine r_aload_n C0 (kk := 0) 0 rfl dX6_setFog_37 ?_
      refine r_get4 C0 h0.1 0 (by decide) (v := .ref (g.1 2 0)) rfl rfl w3_102 dX6_setFog_38 ?_
      refine r_get2 C0 h0.2.1.1 4 (by decide) (v := .ref (g.1 6 11)) rfl rfl w1_148 dX6_setFog_41 ?_
      refine r_iload_n C0 (kk := 1) 1 rfl dX6_setFog_44 ?_
      obtain ⟨q11, hf⟩ := gd_e hf
      refine r_ialdc C0 h0.2.1.2.2.2.1 q11 rfl dX6_setFog_45 ?_
      refine r_istore_n C0 (kk := 3) (lv2 := [(3, .int (M10 (11 + a1.toNatClampNeg))), (0, .ref (g.1 4 1664)), (1, .int a1), (2, .int a2)]) (by decide) rfl dX6_setFog_46 ?_
      refine r_aload_n C0 (kk := 0) 1 rfl dX6_setFog_47 ?_
      refine r_get4 C0 h0.1 0 (by decide) (v := .ref (g.1 2 0)) rfl rfl w3_102 dX6_setFog_48 ?_
      refine r_get2 C0 h0.2.1.1 4 (by decide) (v := .ref (g.1 6 11)) rfl rfl w1_148 dX6_setFog_51 ?_
      refine r_iload_n C0 (kk := 1) 2 rfl dX6_setFog_54 ?_
      refine r_iload_n C0 (kk := 2) 3 rfl dX6_setFog_55 ?_
      obtain ⟨q12, hf⟩ := gd_e hf
      refine r_iastc C0 h0.2.1.2.2.2.1 q12 rfl dX6_setFog_56 ?_
      refine r_iload_n C0 (kk := 3) 0 rfl dX6_setFog_57 ?_
      exact hend (by decide) (by decide) hf dX6_setFog_58
    · have hf := ie_f hf q2
      refine WW.sub [] rfl ?_
      exact B15     _ hf
theorem dX6_undo_0 : decode cX6_undo 0 = .ok (.aload_n 0, 1) := by decide +kernel
theorem dX6_undo_1 : decode cX6_undo 1 = .ok (.getfield 119, 3) := by decide +kernel
theorem dX6_undo_4 : decode cX6_undo 4 = .ok (.ifCond .ne 14, 3) := by decide +kernel
theorem dX6_undo_7 : decode cX6_undo 7 = .ok (.new 279, 3) := by decide +kernel
theorem dX6_undo_10 : decode cX6_undo 10 = .ok (.dup, 1) := by decide +kernel
theorem dX6_undo_11 : decode cX6_undo 11 = .ok (.ldc_w 324, 3) := by decide +kernel
theorem dX6_undo_14 : decode cX6_undo 14 = .ok (.invokespecial 283, 3) := by decide +kernel
theorem dX6_undo_17 : decode cX6_undo 17 = .ok (.athrow, 1) := by decide +kernel
theorem dX6_undo_18 : decode cX6_undo 18 = .ok (.aload_n 0, 1) := by decide +kernel
theorem dX6_undo_19 : decode cX6_undo 19 = .ok (.aload_n 0, 1) := by decide +kernel
theorem dX6_undo_20 : decode cX6_undo 20 = .ok (.getfield 318, 3) := by decide +kernel
theorem dX6_undo_23 : decode cX6_undo 23 = .ok (.ifCond .le 12, 3) := by decide +kernel
theorem dX6_undo_26 : decode cX6_undo 26 = .ok (.aload_n 0, 1) := by decide +kernel
theorem dX6_undo_27 : decode cX6_undo 27 = .ok (.getfield 318, 3) := by decide +kernel
theorem dX6_undo_30 : decode cX6_undo 30 = .ok (.iconst 1, 1) := by decide +kernel
theorem dX6_undo_31 : decode cX6_undo 31 = .ok (.isub, 1) := by decide +kernel
theorem dX6_undo_32 : decode cX6_undo 32 = .ok (.goto 10, 3) := by decide +kernel
theorem dX6_undo_35 : decode cX6_undo 35 = .ok (.aload_n 0, 1) := by decide +kernel
theorem dX6_undo_36 : decode cX6_undo 36 = .ok (.getfield 29, 3) := by decide +kernel
theorem dX6_undo_39 : decode cX6_undo 39 = .ok (.arraylength, 1) := by decide +kernel
theorem dX6_undo_40 : decode cX6_undo 40 = .ok (.iconst 1, 1) := by decide +kernel
theorem dX6_undo_41 : decode cX6_undo 41 = .ok (.isub, 1) := by decide +kernel
theorem dX6_undo_42 : decode cX6_undo 42 = .ok (.putfield 318, 3) := by decide +kernel
theorem dX6_undo_45 : decode cX6_undo 45 = .ok (.aload_n 0, 1) := by decide +kernel
theorem dX6_undo_46 : decode cX6_undo 46 = .ok (.dup, 1) := by decide +kernel
theorem dX6_undo_47 : decode cX6_undo 47 = .ok (.getfield 119, 3) := by decide +kernel
theorem dX6_undo_50 : decode cX6_undo 50 = .ok (.iconst 1, 1) := by decide +kernel
theorem dX6_undo_51 : decode cX6_undo 51 = .ok (.isub, 1) := by decide +kernel
theorem dX6_undo_52 : decode cX6_undo 52 = .ok (.putfield 119, 3) := by decide +kernel
theorem dX6_undo_55 : decode cX6_undo 55 = .ok (.aload_n 0, 1) := by decide +kernel
theorem dX6_undo_56 : decode cX6_undo 56 = .ok (.getfield 10, 3) := by decide +kernel
theorem dX6_undo_59 : decode cX6_undo 59 = .ok (.aload_n 0, 1) := by decide +kernel
theorem dX6_undo_60 : decode cX6_undo 60 = .ok (.getfield 29, 3) := by decide +kernel
theorem dX6_undo_63 : decode cX6_undo 63 = .ok (.aload_n 0, 1) := by decide +kernel
theorem dX6_undo_64 : decode cX6_undo 64 = .ok (.getfield 318, 3) := by decide +kernel
theorem dX6_undo_67 : decode cX6_undo 67 = .ok (.aaload, 1) := by decide +kernel
theorem dX6_undo_68 : decode cX6_undo 68 = .ok (.invokevirtual 69, 3) := by decide +kernel
theorem dX6_undo_71 : decode cX6_undo 71 = .ok (.aload_n 0, 1) := by decide +kernel
theorem dX6_undo_72 : decode cX6_undo 72 = .ok (.getfield 119, 3) := by decide +kernel
theorem dX6_undo_75 : decode cX6_undo 75 = .ok (.ireturn, 1) := by decide +kernel
theorem hd_X6_undo : yX6_undo.cls = RX6 ∧ yX6_undo.cls ≠ "java/lang/invoke/MethodHandle" ∧ yX6_undo.cls ≠ "java/lang/invoke/VarHandle" ∧ (parseMethodDescriptor yX6_undo.desc).map (fun d => d.parameters.length) = some 0 := by decide +kernel
set_option maxRecDepth 100000 in
set_option maxHeartbeats 4000000 in
theorem c_X6_undo (l : Launch) (D : va_G) (g : xG) (tb : List xQ) (hT : x_T g tb) (hlst : l.stackTraces = false)  (h0 : x_fb tb) {M : xM} {k : Nat} {r : Int32} {M' : xM} (hf : f_X6_undo  M = some (k, r, M')) :
    tI l D g tb yX6_undo cX6_undo 1 .int ({ frames := 6, cells := 1, slots := 6, locals := 82 } : Room) 1 [.ref (g.1 4 1664)] M k r M' := by
  refine x_tstartI (own := RX6) (r := r) (by decide +kernel) rfl rfl (Nat.le_of_ble_eq_true rfl) hT ?_
  intro p e s m args below meth c Q C0 hend hpr hthr
  have B42 : ∀ (s0 : Int32)  (M : xM), f_X6_undo_c42   s0 M = some (k, r, M') → WW p l e ({ frames := 6, cells := 1, slots := 6, locals := 82 } : Room) s m args below meth c 0 0 Q 1 D g tb 42 [(0, .ref (g.1 4 1664))] [.int s0, .ref (g.1 4 1664)] M := by
    intro   s0  M hf
    unfold f_X6_undo_c42 at hf
    refine r_put4 C0 h0.1 5 rfl rfl w3_107 rfl rfl rfl dX6_undo_42 ?_
    refine r_aload_n C0 (kk := 0) 0 rfl dX6_undo_45 ?_
    refine r_dup C0 rfl dX6_undo_46 ?_
    refine r_get4 C0 h0.1 6 (by decide) (v := .int ((upd M 1669 s0) 1670)) rfl rfl w3_108 dX6_undo_47 ?_
    refine r_iconst C0 (v := 1) dX6_undo_50 rfl ?_
    refine r_isub C0 dX6_undo_51 ?_
    refine r_put4 C0 h0.1 6 rfl rfl w3_108 rfl rfl rfl dX6_undo_52 ?_
    refine r_aload_n C0 (kk := 0) 0 rfl dX6_undo_55 ?_
    refine r_get4 C0 h0.1 0 (by decide) (v := .ref (g.1 2 0)) rfl rfl w3_102 dX6_undo_56 ?_
    refine r_aload_n C0 (kk := 0) 0 rfl dX6_undo_59 ?_
    refine r_get4 C0 h0.1 4 (by decide) (v := .ref (g.1 12 384)) rfl rfl w3_106 dX6_undo_60 ?_
    refine r_aload_n C0 (kk := 0) 0 rfl dX6_undo_63 ?_
    refine r_get4 C0 h0.1 5 (by decide) (v := .int ((upd (upd M 1669 s0) 1670 (((upd M 1669 s0) 1670) - 1)) 1669)) rfl rfl w3_107 dX6_undo_64 ?_
    obtain ⟨q3, hf⟩ := gd_e hf
    have hm4 : x_mk tb (384 + 128 * ((upd (upd M 1669 s0) 1670 (((upd M 1669 s0) 1670) - 1)) 1669).toNatClampNeg) := h0.2.2.2.2.2.2.2.2.2.1 _ (inb_lt q3)
    refine r_aald12 C0 h0.2.2.2.2.2.1 (inb_in q3) dX6_undo_67 ?_
    obtain ⟨M6, hc5, hf⟩ := bd_e hf
    refine r_callVv C0 (As := [.ref (g.1 2 (384 + 128 * ((upd (upd M 1669 s0) 1670 (((upd M 1669 s0) 1670) - 1)) 1669).toNatClampNeg))]) (rest := []) (c_X2_copyFrom l D g tb hT h0.2.1 hm4 hc5) w3_86 w3_87 w3_88 w1_2 w3_89 (x_rec2 C0 h0.2.1.1) hd_X2_copyFrom rfl ⟨rfl, rfl⟩ ⟨Nat.le_of_ble_eq_true rfl, Nat.le_of_ble_eq_true rfl⟩ (by decide) (by decide) rfl (Nat.le_of_ble_eq_true rfl) dX6_undo_68 ?_
    refine r_aload_n C0 (kk := 0) 0 rfl dX6_undo_71 ?_
    refine r_get4 C0 h0.1 6 (by decide) (v := .int (M6 1670)) rfl rfl w3_108 dX6_undo_72 ?_
    exact hend (by decide) (by decide) hf dX6_undo_75
  unfold f_X6_undo at hf
  refine r_aload_n C0 (kk := 0) 0 rfl dX6_undo_0 ?_
  refine r_get4 C0 h0.1 6 (by decide) (v := .int (M 1670)) rfl rfl w3_108 dX6_undo_1 ?_
  refine r_if_ne C0 (tgt := 18) (by decide) dX6_undo_4 (fun q1 => ?_) (fun q1 => ?_)
  · have hf := ie_f hf q1
    refine r_aload_n C0 (kk := 0) 0 rfl dX6_undo_18 ?_
    refine r_aload_n C0 (kk := 0) 0 rfl dX6_undo_19 ?_
    refine r_get4 C0 h0.1 5 (by decide) (v := .int (M 1669)) rfl rfl w3_107 dX6_undo_20 ?_
    refine r_if_le C0 (tgt := 35) (by decide) dX6_undo_23 (fun q2 => ?_) (fun q2 => ?_)
    · have hf := ie_t hf q2
      refine r_aload_n C0 (kk := 0) 0 rfl dX6_undo_35 ?_
      refine r_get4 C0 h0.1 4 (by decide) (v := .ref (g.1 12 384)) rfl rfl w3_106 dX6_undo_36 ?_
      refine r_alen12 C0 h0.2.2.2.2.2.1 (v := 8) rfl dX6_undo_39 ?_
      refine r_iconst C0 (v := 1) dX6_undo_40 rfl ?_
      refine r_isub C0 dX6_undo_41 ?_
      exact B42   _   _ hf
    · have hf := ie_f hf q2
      refine r_aload_n C0 (kk := 0) 0 rfl dX6_undo_26 ?_
      refine r_get4 C0 h0.1 5 (by decide) (v := .int (M 1669)) rfl rfl w3_107 dX6_undo_27 ?_
      refine r_iconst C0 (v := 1) dX6_undo_30 rfl ?_
      refine r_isub C0 dX6_undo_31 ?_
      refine r_goto C0 (tgt := 42) (by decide) dX6_undo_32 ?_
      exact B42   _   _ hf
  · have hf := ie_t hf q1
    exact hthr hlst rfl x_tk3 (by decide) (si := 18) rfl dX6_undo_7 dX6_undo_10 (Or.inr ⟨dX6_undo_11, dX6_undo_14, dX6_undo_17⟩) (by decide) (Nat.le_of_ble_eq_true rfl) (by decide) (by decide) (by decide) (by decide) hf
theorem dX6_save_0 : decode cX6_save 0 = .ok (.iload_n 1, 1) := by decide +kernel
theorem dX6_save_1 : decode cX6_save 1 = .ok (.iconst 0, 1) := by decide +kernel
theorem dX6_save_2 : decode cX6_save 2 = .ok (.iconst 1, 1) := by decide +kernel
theorem dX6_save_3 : decode cX6_save 3 = .ok (.invokestatic 123, 3) := by decide +kernel
theorem dX6_save_6 : decode cX6_save 6 = .ok (.aload_n 0, 1) := by decide +kernel
theorem dX6_save_7 : decode cX6_save 7 = .ok (.getfield 33, 3) := by decide +kernel
theorem dX6_save_10 : decode cX6_save 10 = .ok (.iload_n 1, 1) := by decide +kernel
theorem dX6_save_11 : decode cX6_save 11 = .ok (.aaload, 1) := by decide +kernel
theorem dX6_save_12 : decode cX6_save 12 = .ok (.aload_n 0, 1) := by decide +kernel
theorem dX6_save_13 : decode cX6_save 13 = .ok (.getfield 10, 3) := by decide +kernel
theorem dX6_save_16 : decode cX6_save 16 = .ok (.invokevirtual 69, 3) := by decide +kernel
theorem dX6_save_19 : decode cX6_save 19 = .ok (.aload_n 0, 1) := by decide +kernel
theorem dX6_save_20 : decode cX6_save 20 = .ok (.getfield 36, 3) := by decide +kernel
theorem dX6_save_23 : decode cX6_save 23 = .ok (.iload_n 1, 1) := by decide +kernel
theorem dX6_save_24 : decode cX6_save 24 = .ok (.iconst 1, 1) := by decide +kernel
theorem dX6_save_25 : decode cX6_save 25 = .ok (.bastore, 1) := by decide +kernel
theorem dX6_save_26 : decode cX6_save 26 = .ok (.aload_n 0, 1) := by decide +kernel
theorem dX6_save_27 : decode cX6_save 27 = .ok (.getfield 10, 3) := by decide +kernel
theorem dX6_save_30 : decode cX6_save 30 = .ok (.getfield 107, 3) := by decide +kernel
theorem dX6_save_33 : decode cX6_save 33 = .ok (.ireturn, 1) := by decide +kernel
theorem hd_X6_save : yX6_save.cls = RX6 ∧ yX6_save.cls ≠ "java/lang/invoke/MethodHandle" ∧ yX6_save.cls ≠ "java/lang/invoke/VarHandle" ∧ (parseMethodDescriptor yX6_save.desc).map (fun d => d.parameters.length) = some 1 := by decide +kernel
set_option maxRecDepth 100000 in
set_option maxHeartbeats 4000000 in
theorem c_X6_save (l : Launch) (D : va_G) (g : xG) (tb : List xQ) (hT : x_T g tb) (hlst : l.stackTraces = false) {a1 : Int32} (h0 : x_fb tb) {M : xM} {k : Nat} {r : Int32} {M' : xM} (hf : f_X6_save a1 M = some (k, r, M')) :
    tI l D g tb yX6_save cX6_save 2 .int ({ frames := 7, cells := 1, slots := 6, locals := 104 } : Room) 1 [.ref (g.1 4 1664), .int a1] M k r M' := by
  refine x_tstartI (own := RX6) (r := r) (by decide +kernel) rfl rfl (Nat.le_of_ble_eq_true rfl) hT ?_
  intro p e s m args below meth c Q C0 hend hpr hthr
  unfold f_X6_save at hf
  refine r_iload_n C0 (kk := 1) 1 rfl dX6_save_0 ?_
  refine r_iconst C0 (v := 0) dX6_save_1 rfl ?_
  refine r_iconst C0 (v := 1) dX6_save_2 rfl ?_
  obtain ⟨k2, r4, M3, hc1, hx5, hf⟩ := tbd_e hf
  refine r_tcallSv C0 (As := [.int a1, .int 0, .int 1]) (rest := []) (c_X6_checkRange l D g tb hT hlst  hc1) w4_45 w4_46 w1_1 w4_47 hd_X6_checkRange rfl ⟨rfl, rfl⟩ ⟨Nat.le_of_ble_eq_true rfl, Nat.le_of_ble_eq_true rfl⟩ (by decide) (by decide) rfl (Nat.le_of_ble_eq_true rfl) dX6_save_3 (fun H1 locs1 ls E ce q hk hE hH hS hl h1 h2 h3 => hpr (by decide) (by decide) hk hE hH hS h1 h2 h3 (hx5 hk)) (fun hk => ?_)
  have hf := hf hk
  refine r_aload_n C0 (kk := 0) 0 rfl dX6_save_6 ?_
  refine r_get4 C0 h0.1 7 (by decide) (v := .ref (g.1 12 1408)) rfl rfl w3_109 dX6_save_7 ?_
  refine r_iload_n C0 (kk := 1) 1 rfl dX6_save_10 ?_
  obtain ⟨q7, hf⟩ := gd_e hf
  have hm8 : x_mk tb (1408 + 128 * a1.toNatClampNeg) := h0.2.2.2.2.2.2.2.2.2.2 _ (inb_lt q7)
  refine r_aald12 C0 h0.2.2.2.2.2.2.1 (inb_in q7) dX6_save_11 ?_
  refine r_aload_n C0 (kk := 0) 0 rfl dX6_save_12 ?_
  refine r_get4 C0 h0.1 0 (by decide) (v := .ref (g.1 2 0)) rfl rfl w3_102 dX6_save_13 ?_
  obtain ⟨M10, hc9, hf⟩ := bd_e hf
  refine r_callVv C0 (As := [.ref (g.1 2 0)]) (rest := []) (c_X2_copyFrom l D g tb hT hm8 h0.2.1 hc9) w3_86 w3_87 w3_88 w1_2 w3_89 (x_rec2 C0 hm8.1) hd_X2_copyFrom rfl ⟨rfl, rfl⟩ ⟨Nat.le_of_ble_eq_true rfl, Nat.le_of_ble_eq_true rfl⟩ (by decide) (by decide) rfl (Nat.le_of_ble_eq_true rfl) dX6_save_16 ?_
  refine r_aload_n C0 (kk := 0) 0 rfl dX6_save_19 ?_
  refine r_get4 C0 h0.1 8 (by decide) (v := .ref (g.1 8 1675)) rfl rfl w3_110 dX6_save_20 ?_
  refine r_iload_n C0 (kk := 1) 1 rfl dX6_save_23 ?_
  refine r_iconst C0 (v := 1) dX6_save_24 rfl ?_
  obtain ⟨q11, hf⟩ := gd_e hf
  refine r_zastc C0 h0.2.2.2.2.2.2.2.1 q11 rfl dX6_save_25 ?_
  refine r_aload_n C0 (kk := 0) 0 rfl dX6_save_26 ?_
  refine r_get4 C0 h0.1 0 (by decide) (v := .ref (g.1 2 0)) rfl rfl w3_102 dX6_save_27 ?_
  refine r_get2 C0 h0.2.1.1 6 (by decide) (v := .int ((upd M10 (1675 + a1.toNatClampNeg) (vp_nar .boolean 1)) 0)) rfl rfl w1_153 dX6_save_30 ?_
  exact hend (by decide) (by decide) hf dX6_save_33
theorem dX7_isSmall_0 : decode cX7_isSmall 0 = .ok (.iload_n 0, 1) := by decide +kernel
theorem dX7_isSmall_1 : decode cX7_isSmall 1 = .ok (.bipush 97, 2) := by decide +kernel
theorem dX7_isSmall_3 : decode cX7_isSmall 3 = .ok (.bipush 122, 2) := by decide +kernel
theorem dX7_isSmall_5 : decode cX7_isSmall 5 = .ok (.invokestatic 147, 3) := by decide +kernel
theorem dX7_isSmall_8 : decode cX7_isSmall 8 = .ok (.ireturn, 1) := by decide +kernel
theorem hd_X7_isSmall : yX7_isSmall.cls ≠ "java/lang/invoke/MethodHandle" ∧ yX7_isSmall.cls ≠ "java/lang/invoke/VarHandle" ∧ (parseMethodDescriptor yX7_isSmall.desc).map (fun d => d.parameters.length) = some 1 := by decide +kernel
set_option maxRecDepth 100000 in
set_option maxHeartbeats 4000000 in
theorem c_X7_isSmall (l : Launch) (D : va_G) (g : xG) (tb : List xQ) (hT : x_T g tb) {a0 : Int32}  {M : xM} {r : Int32} {M' : xM} (hf : f_X7_isSmall a0 M = some (r, M')) :
    cI l D g tb yX7_isSmall cX7_isSmall 1 .boolean ({ frames := 1, cells := 0, slots := 0, locals := 22 } : Room) [.int a0] M r M' := by
  refine x_startZ (own := RX7) (by decide +kernel) rfl rfl (Nat.le_of_ble_eq_true rfl) hT ?_
  intro p e s m args below meth c Q C0 hend
  unfold f_X7_isSmall at hf
  refine r_iload_n C0 (kk := 0) 0 rfl dX7_isSmall_0 ?_
  refine r_bipush C0 (v := 97) dX7_isSmall_1 rfl ?_
  refine r_bipush C0 (v := 122) dX7_isSmall_3 rfl ?_
  obtain ⟨r3, M2, hc1, hf⟩ := bd2_e hf
  refine r_callSi C0 (As := [.int a0, .int 97, .int 122]) (rest := []) (c_X7_inRange l D g tb hT  hc1) w6_12 w6_13 w1_14 w6_14 hd_X7_inRange rfl ⟨rfl, rfl⟩ ⟨Nat.le_of_ble_eq_true rfl, Nat.le_of_ble_eq_true rfl⟩ (by decide) (by decide) rfl (Nat.le_of_ble_eq_true rfl) dX7_isSmall_5 ?_
  obtain ⟨q4, hf⟩ := gd_e hf
  exact hend q4 hf dX7_isSmall_8
theorem dX7_doStall_0 : decode cX7_doStall 0 = .ok (.aload_n 0, 1) := by decide +kernel
theorem dX7_doStall_1 : decode cX7_doStall 1 = .ok (.getfield 17, 3) := by decide +kernel
theorem dX7_doStall_4 : decode cX7_doStall 4 = .ok (.bipush 9, 2) := by decide +kernel
theorem dX7_doStall_6 : decode cX7_doStall 6 = .ok (.iaload, 1) := by decide +kernel
theorem dX7_doStall_7 : decode cX7_doStall 7 = .ok (.istore 6, 2) := by decide +kernel
theorem dX7_doStall_9 : decode cX7_doStall 9 = .ok (.iconst 0, 1) := by decide +kernel
theorem dX7_doStall_10 : decode cX7_doStall 10 = .ok (.istore 7, 2) := by decide +kernel
theorem dX7_doStall_12 : decode cX7_doStall 12 = .ok (.iload 7, 2) := by decide +kernel
theorem dX7_doStall_14 : decode cX7_doStall 14 = .ok (.bipush 9, 2) := by decide +kernel
theorem dX7_doStall_16 : decode cX7_doStall 16 = .ok (.if_icmp .ge 26, 3) := by decide +kernel
theorem dX7_doStall_19 : decode cX7_doStall 19 = .ok (.aload_n 0, 1) := by decide +kernel
theorem dX7_doStall_20 : decode cX7_doStall 20 = .ok (.getfield 17, 3) := by decide +kernel
theorem dX7_doStall_23 : decode cX7_doStall 23 = .ok (.bipush 23, 2) := by decide +kernel
theorem dX7_doStall_25 : decode cX7_doStall 25 = .ok (.bipush 9, 2) := by decide +kernel
theorem dX7_doStall_27 : decode cX7_doStall 27 = .ok (.iload 6, 2) := by decide +kernel
theorem dX7_doStall_29 : decode cX7_doStall 29 = .ok (.imul, 1) := by decide +kernel
theorem dX7_doStall_30 : decode cX7_doStall 30 = .ok (.iadd, 1) := by decide +kernel
theorem dX7_doStall_31 : decode cX7_doStall 31 = .ok (.iload 7, 2) := by decide +kernel
theorem dX7_doStall_33 : decode cX7_doStall 33 = .ok (.iadd, 1) := by decide +kernel
theorem dX7_doStall_34 : decode cX7_doStall 34 = .ok (.iconst 0, 1) := by decide +kernel
theorem dX7_doStall_35 : decode cX7_doStall 35 = .ok (.iastore, 1) := by decide +kernel
theorem dX7_doStall_36 : decode cX7_doStall 36 = .ok (.iinc 7 1, 3) := by decide +kernel
theorem dX7_doStall_39 : decode cX7_doStall 39 = .ok (.goto (-27), 3) := by decide +kernel
theorem dX7_doStall_42 : decode cX7_doStall 42 = .ok (.aload_n 0, 1) := by decide +kernel
theorem dX7_doStall_43 : decode cX7_doStall 43 = .ok (.iload 6, 2) := by decide +kernel
theorem dX7_doStall_45 : decode cX7_doStall 45 = .ok (.iconst 0, 1) := by decide +kernel
theorem dX7_doStall_46 : decode cX7_doStall 46 = .ok (.iload_n 1, 1) := by decide +kernel
theorem dX7_doStall_47 : decode cX7_doStall 47 = .ok (.invokevirtual 84, 3) := by decide +kernel
theorem dX7_doStall_50 : decode cX7_doStall 50 = .ok (.aload_n 0, 1) := by decide +kernel
theorem dX7_doStall_51 : decode cX7_doStall 51 = .ok (.iload 6, 2) := by decide +kernel
theorem dX7_doStall_53 : decode cX7_doStall 53 = .ok (.iconst 1, 1) := by decide +kernel
theorem dX7_doStall_54 : decode cX7_doStall 54 = .ok (.iload_n 2, 1) := by decide +kernel
theorem dX7_doStall_55 : decode cX7_doStall 55 = .ok (.invokevirtual 84, 3) := by decide +kernel
theorem dX7_doStall_58 : decode cX7_doStall 58 = .ok (.aload_n 0, 1) := by decide +kernel
theorem dX7_doStall_59 : decode cX7_doStall 59 = .ok (.iload 6, 2) := by decide +kernel
theorem dX7_doStall_61 : decode cX7_doStall 61 = .ok (.iconst 2, 1) := by decide +kernel
theorem dX7_doStall_62 : decode cX7_doStall 62 = .ok (.iload_n 3, 1) := by decide +kernel
theorem dX7_doStall_63 : decode cX7_doStall 63 = .ok (.invokevirtual 84, 3) := by decide +kernel
theorem dX7_doStall_66 : decode cX7_doStall 66 = .ok (.aload_n 0, 1) := by decide +kernel
theorem dX7_doStall_67 : decode cX7_doStall 67 = .ok (.iload 6, 2) := by decide +kernel
theorem dX7_doStall_69 : decode cX7_doStall 69 = .ok (.iconst 3, 1) := by decide +kernel
theorem dX7_doStall_70 : decode cX7_doStall 70 = .ok (.iload 4, 2) := by decide +kernel
theorem dX7_doStall_72 : decode cX7_doStall 72 = .ok (.invokevirtual 84, 3) := by decide +kernel
theorem dX7_doStall_75 : decode cX7_doStall 75 = .ok (.aload_n 0, 1) := by decide +kernel
theorem dX7_doStall_76 : decode cX7_doStall 76 = .ok (.iload 6, 2) := by decide +kernel
theorem dX7_doStall_78 : decode cX7_doStall 78 = .ok (.iconst 4, 1) := by decide +kernel
theorem dX7_doStall_79 : decode cX7_doStall 79 = .ok (.iload 5, 2) := by decide +kernel
theorem dX7_doStall_81 : decode cX7_doStall 81 = .ok (.invokevirtual 84, 3) := by decide +kernel
theorem dX7_doStall_84 : decode cX7_doStall 84 = .ok (.aload_n 0, 1) := by decide +kernel
theorem dX7_doStall_85 : decode cX7_doStall 85 = .ok (.iload 6, 2) := by decide +kernel
theorem dX7_doStall_87 : decode cX7_doStall 87 = .ok (.bipush 8, 2) := by decide +kernel
theorem dX7_doStall_89 : decode cX7_doStall 89 = .ok (.iload 5, 2) := by decide +kernel
theorem dX7_doStall_91 : decode cX7_doStall 91 = .ok (.invokevirtual 84, 3) := by decide +kernel
theorem dX7_doStall_94 : decode cX7_doStall 94 = .ok (.aload_n 0, 1) := by decide +kernel
theorem dX7_doStall_95 : decode cX7_doStall 95 = .ok (.getfield 17, 3) := by decide +kernel
theorem dX7_doStall_98 : decode cX7_doStall 98 = .ok (.bipush 9, 2) := by decide +kernel
theorem dX7_doStall_100 : decode cX7_doStall 100 = .ok (.dup2, 1) := by decide +kernel
theorem dX7_doStall_101 : decode cX7_doStall 101 = .ok (.iaload, 1) := by decide +kernel
theorem dX7_doStall_102 : decode cX7_doStall 102 = .ok (.iconst 1, 1) := by decide +kernel
theorem dX7_doStall_103 : decode cX7_doStall 103 = .ok (.iadd, 1) := by decide +kernel
theorem dX7_doStall_104 : decode cX7_doStall 104 = .ok (.iastore, 1) := by decide +kernel
theorem dX7_doStall_105 : decode cX7_doStall 105 = .ok (.iload 6, 2) := by decide +kernel
theorem dX7_doStall_107 : decode cX7_doStall 107 = .ok (.ireturn, 1) := by decide +kernel
theorem hd_X7_doStall : yX7_doStall.cls = RX7 ∧ yX7_doStall.cls ≠ "java/lang/invoke/MethodHandle" ∧ yX7_doStall.cls ≠ "java/lang/invoke/VarHandle" ∧ (parseMethodDescriptor yX7_doStall.desc).map (fun d => d.parameters.length) = some 5 := by decide +kernel
set_option maxRecDepth 100000 in
set_option maxHeartbeats 4000000 in
theorem c_X7_doStall (l : Launch) (D : va_G) (g : xG) (tb : List xQ) (hT : x_T g tb) {a1 : Int32} {a2 : Int32} {a3 : Int32} {a4 : Int32} {a5 : Int32} (h0 : x_md tb) {M : xM} {r : Int32} {M' : xM} (hf : f_X7_doStall a1 a2 a3 a4 a5 M = some (r, M')) :
    cI l D g tb yX7_doStall cX7_doStall 8 .int ({ frames := 1, cells := 0, slots := 0, locals := 23 } : Room) [.ref (g.1 5 2500), .int a1, .int a2, .int a3, .int a4, .int a5] M r M' := by
  refine x_startI (own := RX7) (by decide +kernel) rfl rfl (Nat.le_of_ble_eq_true rfl) hT ?_
  intro p e s m args below meth c Q C0 hend
  have B12 : ∀ (k12 : Int32 → Int32 → xM → Option (Int32 × xM)) (hk12 : ∀ (v6 : Int32) (v7 : Int32)  (M : xM), k12 v6 v7 M = some (r, M') → WW p l e ({ frames := 1, cells := 0, slots := 0, locals := 23 } : Room) s m args below meth c 0 0 Q 8 D g tb 12 [(0, .ref (g.1 5 2500)), (1, .int a1), (2, .int a2), (3, .int a3), (4, .int a4), (5, .int a5), (6, .int v6), (7, .int v7)] [] M), ∀ (v6 : Int32) (v7 : Int32)  (M : xM), fb_X7_doStall_c12 k12 a1 a2 a3 a4 a5 v6 v7 M = some (r, M') → WW p l e ({ frames := 1, cells := 0, slots := 0, locals := 23 } : Room) s m args below meth c 0 0 Q 8 D g tb 12 [(0, .ref (g.1 5 2500)), (1, .int a1), (2, .int a2), (3, .int a3), (4, .int a4), (5, .int a5), (6, .int v6), (7, .int v7)] [] M := by
    intro k12 hk12 v6 v7  M hf
    unfold fb_X7_doStall_c12 at hf
    refine r_iload C0 7 rfl dX7_doStall_12 ?_
    refine r_bipush C0 (v := 9) dX7_doStall_14 rfl ?_
    refine r_icmp_ge C0 (tgt := 42) (by decide) dX7_doStall_16 (fun q1 => ?_) (fun q1 => ?_)
    · have hf := ie_t hf q1
      refine r_aload_n C0 (kk := 0) 0 rfl dX7_doStall_42 ?_
      refine r_iload C0 6 rfl dX7_doStall_43 ?_
      refine r_iconst C0 (v := 0) dX7_doStall_45 rfl ?_
      refine r_iload_n C0 (kk := 1) 1 rfl dX7_doStall_46 ?_
      obtain ⟨M3, hc2, hf⟩ := bd_e hf
      refine r_callVv C0 (As := [.int v6, .int 0, .int a1]) (rest := []) (c_X7_more l D g tb hT h0 hc2) w6_123 w6_125 wp4_6 w1_14 w6_126 (x_rec5 C0 h0.1) hd_X7_more rfl ⟨rfl, rfl⟩ ⟨Nat.le_of_ble_eq_true rfl, Nat.le_of_ble_eq_true rfl⟩ (by decide) (by decide) rfl (Nat.le_of_ble_eq_true rfl) dX7_doStall_47 ?_
      refine r_aload_n C0 (kk := 0) 0 rfl dX7_doStall_50 ?_
      refine r_iload C0 6 rfl dX7_doStall_51 ?_
      refine r_iconst C0 (v := 1) dX7_doStall_53 rfl ?_
      refine r_iload_n C0 (kk := 2) 2 rfl dX7_doStall_54 ?_
      obtain ⟨M5, hc4, hf⟩ := bd_e hf
      refine r_callVv C0 (As := [.int v6, .int 1, .int a2]) (rest := []) (c_X7_more l D g tb hT h0 hc4) w6_123 w6_125 wp4_6 w1_14 w6_126 (x_rec5 C0 h0.1) hd_X7_more rfl ⟨rfl, rfl⟩ ⟨Nat.le_of_ble_eq_true rfl, Nat.le_of_ble_eq_true rfl⟩ (by decide) (by decide) rfl (Nat.le_of_ble_eq_true rfl) dX7_doStall_55 ?_
      refine r_aload_n C0 (kk := 0) 0 rfl dX7_doStall_58 ?_
      refine r_iload C0 6 rfl dX7_doStall_59 ?_
      refine r_iconst C0 (v := 2) dX7_doStall_61 rfl ?_
      refine r_iload_n C0 (kk := 3) 3 rfl dX7_doStall_62 ?_
      obtain ⟨M7, hc6, hf⟩ := bd_e hf
      refine r_callVv C0 (As := [.int v6, .int 2, .int a3]) (rest := []) (c_X7_more l D g tb hT h0 hc6) w6_123 w6_125 wp4_6 w1_14 w6_126 (x_rec5 C0 h0.1) hd_X7_more rfl ⟨rfl, rfl⟩ ⟨Nat.le_of_ble_eq_true rfl, Nat.le_of_ble_eq_true rfl⟩ (by decide) (by decide) rfl (Nat.le_of_ble_eq_true rfl) dX7_doStall_63 ?_
      refine r_aload_n C0 (kk := 0) 0 rfl dX7_doStall_66 ?_
      refine r_iload C0 6 rfl dX7_doStall_67 ?_
      refine r_iconst C0 (v := 3) dX7_doStall_69 rfl ?_
      refine r_iload C0 4 rfl dX7_doStall_70 ?_
      obtain ⟨M9, hc8, hf⟩ := bd_e hf
      refine r_callVv C0 (As := [.int v6, .int 3, .int a4]) (rest := []) (c_X7_more l D g tb hT h0 hc8) w6_123 w6_125 wp4_6 w1_14 w6_126 (x_rec5 C0 h0.1) hd_X7_more rfl ⟨rfl, rfl⟩ ⟨Nat.le_of_ble_eq_true rfl, Nat.le_of_ble_eq_true rfl⟩ (by decide) (by decide) rfl (Nat.le_of_ble_eq_true rfl) dX7_doStall_72 ?_
      refine r_aload_n C0 (kk := 0) 0 rfl dX7_doStall_75 ?_
      refine r_iload C0 6 rfl dX7_doStall_76 ?_
      refine r_iconst C0 (v := 4) dX7_doStall_78 rfl ?_
      refine r_iload C0 5 rfl dX7_doStall_79 ?_
      obtain ⟨M11, hc10, hf⟩ := bd_e hf
      refine r_callVv C0 (As := [.int v6, .int 4, .int a5]) (rest := []) (c_X7_more l D g tb hT h0 hc10) w6_123 w6_125 wp4_6 w1_14 w6_126 (x_rec5 C0 h0.1) hd_X7_more rfl ⟨rfl, rfl⟩ ⟨Nat.le_of_ble_eq_true rfl, Nat.le_of_ble_eq_true rfl⟩ (by decide) (by decide) rfl (Nat.le_of_ble_eq_true rfl) dX7_doStall_81 ?_
      refine r_aload_n C0 (kk := 0) 0 rfl dX7_doStall_84 ?_
      refine r_iload C0 6 rfl dX7_doStall_85 ?_
      refine r_bipush C0 (v := 8) dX7_doStall_87 rfl ?_
      refine r_iload C0 5 rfl dX7_doStall_89 ?_
      obtain ⟨M13, hc12, hf⟩ := bd_e hf
      refine r_callVv C0 (As := [.int v6, .int 8, .int a5]) (rest := []) (c_X7_more l D g tb hT h0 hc12) w6_123 w6_125 wp4_6 w1_14 w6_126 (x_rec5 C0 h0.1) hd_X7_more rfl ⟨rfl, rfl⟩ ⟨Nat.le_of_ble_eq_true rfl, Nat.le_of_ble_eq_true rfl⟩ (by decide) (by decide) rfl (Nat.le_of_ble_eq_true rfl) dX7_doStall_91 ?_
      refine r_aload_n C0 (kk := 0) 0 rfl dX7_doStall_94 ?_
      refine r_get5 C0 h0.1 5 (by decide) (v := .ref (g.1 6 2520)) rfl rfl w6_221 dX7_doStall_95 ?_
      refine r_bipush C0 (v := 9) dX7_doStall_98 rfl ?_
      refine r_dup2 C0 rfl rfl dX7_doStall_100 ?_
      refine r_ialdc C0 h0.2.1 (z := 2529) (by decide) (by decide) dX7_doStall_101 ?_
      refine r_iconst C0 (v := 1) dX7_doStall_102 rfl ?_
      refine r_iadd C0 dX7_doStall_103 ?_
      refine r_iastc C0 h0.2.1 (z := 2529) (by decide) (by decide) dX7_doStall_104 ?_
      refine r_iload C0 6 rfl dX7_doStall_105 ?_
      exact hend hf dX7_doStall_107
    · have hf := ie_f hf q1
      refine r_aload_n C0 (kk := 0) 0 rfl dX7_doStall_19 ?_
      refine r_get5 C0 h0.1 5 (by decide) (v := .ref (g.1 6 2520)) rfl rfl w6_221 dX7_doStall_20 ?_
      refine r_bipush C0 (v := 23) dX7_doStall_23 rfl ?_
      refine r_bipush C0 (v := 9) dX7_doStall_25 rfl ?_
      refine r_iload C0 6 rfl dX7_doStall_27 ?_
      refine r_imul C0 dX7_doStall_29 ?_
      refine r_iadd C0 dX7_doStall_30 ?_
      refine r_iload C0 7 rfl dX7_doStall_31 ?_
      refine r_iadd C0 dX7_doStall_33 ?_
      refine r_iconst C0 (v := 0) dX7_doStall_34 rfl ?_
      obtain ⟨q14, hf⟩ := gd_e hf
      refine r_iastc C0 h0.2.1 q14 rfl dX7_doStall_35 ?_
      refine r_iincc C0 7 rfl (k0 := 1) (by decide) (by decide) (lv2 := [(7, .int (v7 + 1)), (0, .ref (g.1 5 2500)), (1, .int a1), (2, .int a2), (3, .int a3), (4, .int a4), (5, .int a5), (6, .int v6)]) rfl dX7_doStall_36 ?_
      refine r_goto C0 (tgt := 12) (by decide) dX7_doStall_39 ?_
      refine WW.sub [1, 2, 3, 4, 5, 6, 7, 0] rfl ?_
      exact hk12 _ _   _ hf
  have L12 : ∀ (v6 : Int32) (v7 : Int32)  (M : xM), f_X7_doStall_c12  a1 a2 a3 a4 a5 v6 v7 M = some (r, M') → WW p l e ({ frames := 1, cells := 0, slots := 0, locals := 23 } : Room) s m args below meth c 0 0 Q 8 D g tb 12 [(0, .ref (g.1 5 2500)), (1, .int a1), (2, .int a2), (3, .int a3), (4, .int a4), (5, .int a5), (6, .int v6), (7, .int v7)] [] M := lp_ind (P := fun f => ∀ (v6 : Int32) (v7 : Int32)  (M : xM), f v6 v7 M = some (r, M') → WW p l e ({ frames := 1, cells := 0, slots := 0, locals := 23 } : Room) s m args below meth c 0 0 Q 8 D g tb 12 [(0, .ref (g.1 5 2500)), (1, .int a1), (2, .int a2), (3, .int a3), (4, .int a4), (5, .int a5), (6, .int v6), (7, .int v7)] [] M) (fun _ _ _ h => none_ne h) (fun f hf => B12 f hf) FU
  unfold f_X7_doStall at hf
  refine r_aload_n C0 (kk := 0) 0 rfl dX7_doStall_0 ?_
  refine r_get5 C0 h0.1 5 (by decide) (v := .ref (g.1 6 2520)) rfl rfl w6_221 dX7_doStall_1 ?_
  refine r_bipush C0 (v := 9) dX7_doStall_4 rfl ?_
  refine r_ialdc C0 h0.2.1 (z := 2529) (by decide) (by decide) dX7_doStall_6 ?_
  refine r_istore C0 (lv2 := [(6, .int (M 2529)), (0, .ref (g.1 5 2500)), (1, .int a1), (2, .int a2), (3, .int a3), (4, .int a4), (5, .int a5)]) (by decide) rfl dX7_doStall_7 ?_
  refine r_iconst C0 (v := 0) dX7_doStall_9 rfl ?_
  refine r_istore C0 (lv2 := [(7, .int 0), (6, .int (M 2529)), (0, .ref (g.1 5 2500)), (1, .int a1), (2, .int a2), (3, .int a3), (4, .int a4), (5, .int a5)]) (by decide) rfl dX7_doStall_10 ?_
  refine WW.sub [2, 3, 4, 5, 6, 7, 1, 0] rfl ?_
  exact L12   _ _   _ hf
theorem dX7_doBuyer_0 : decode cX7_doBuyer 0 = .ok (.aload_n 0, 1) := by decide +kernel
theorem dX7_doBuyer_1 : decode cX7_doBuyer 1 = .ok (.getfield 17, 3) := by decide +kernel
theorem dX7_doBuyer_4 : decode cX7_doBuyer 4 = .ok (.bipush 10, 2) := by decide +kernel
theorem dX7_doBuyer_6 : decode cX7_doBuyer 6 = .ok (.iaload, 1) := by decide +kernel
theorem dX7_doBuyer_7 : decode cX7_doBuyer 7 = .ok (.istore 5, 2) := by decide +kernel
theorem dX7_doBuyer_9 : decode cX7_doBuyer 9 = .ok (.iconst 0, 1) := by decide +kernel
theorem dX7_doBuyer_10 : decode cX7_doBuyer 10 = .ok (.istore 6, 2) := by decide +kernel
theorem dX7_doBuyer_12 : decode cX7_doBuyer 12 = .ok (.iload 6, 2) := by decide +kernel
theorem dX7_doBuyer_14 : decode cX7_doBuyer 14 = .ok (.bipush 8, 2) := by decide +kernel
theorem dX7_doBuyer_16 : decode cX7_doBuyer 16 = .ok (.if_icmp .ge 18, 3) := by decide +kernel
theorem dX7_doBuyer_19 : decode cX7_doBuyer 19 = .ok (.aload_n 0, 1) := by decide +kernel
theorem dX7_doBuyer_20 : decode cX7_doBuyer 20 = .ok (.iload 5, 2) := by decide +kernel
theorem dX7_doBuyer_22 : decode cX7_doBuyer 22 = .ok (.iload 6, 2) := by decide +kernel
theorem dX7_doBuyer_24 : decode cX7_doBuyer 24 = .ok (.iconst 0, 1) := by decide +kernel
theorem dX7_doBuyer_25 : decode cX7_doBuyer 25 = .ok (.invokevirtual 88, 3) := by decide +kernel
theorem dX7_doBuyer_28 : decode cX7_doBuyer 28 = .ok (.iinc 6 1, 3) := by decide +kernel
theorem dX7_doBuyer_31 : decode cX7_doBuyer 31 = .ok (.goto (-19), 3) := by decide +kernel
theorem dX7_doBuyer_34 : decode cX7_doBuyer 34 = .ok (.aload_n 0, 1) := by decide +kernel
theorem dX7_doBuyer_35 : decode cX7_doBuyer 35 = .ok (.iload 5, 2) := by decide +kernel
theorem dX7_doBuyer_37 : decode cX7_doBuyer 37 = .ok (.iconst 0, 1) := by decide +kernel
theorem dX7_doBuyer_38 : decode cX7_doBuyer 38 = .ok (.iload_n 1, 1) := by decide +kernel
theorem dX7_doBuyer_39 : decode cX7_doBuyer 39 = .ok (.invokevirtual 88, 3) := by decide +kernel
theorem dX7_doBuyer_42 : decode cX7_doBuyer 42 = .ok (.aload_n 0, 1) := by decide +kernel
theorem dX7_doBuyer_43 : decode cX7_doBuyer 43 = .ok (.iload 5, 2) := by decide +kernel
theorem dX7_doBuyer_45 : decode cX7_doBuyer 45 = .ok (.iconst 1, 1) := by decide +kernel
theorem dX7_doBuyer_46 : decode cX7_doBuyer 46 = .ok (.iload_n 2, 1) := by decide +kernel
theorem dX7_doBuyer_47 : decode cX7_doBuyer 47 = .ok (.invokevirtual 88, 3) := by decide +kernel
theorem dX7_doBuyer_50 : decode cX7_doBuyer 50 = .ok (.aload_n 0, 1) := by decide +kernel
theorem dX7_doBuyer_51 : decode cX7_doBuyer 51 = .ok (.iload 5, 2) := by decide +kernel
theorem dX7_doBuyer_53 : decode cX7_doBuyer 53 = .ok (.iconst 2, 1) := by decide +kernel
theorem dX7_doBuyer_54 : decode cX7_doBuyer 54 = .ok (.iload_n 3, 1) := by decide +kernel
theorem dX7_doBuyer_55 : decode cX7_doBuyer 55 = .ok (.invokevirtual 88, 3) := by decide +kernel
theorem dX7_doBuyer_58 : decode cX7_doBuyer 58 = .ok (.aload_n 0, 1) := by decide +kernel
theorem dX7_doBuyer_59 : decode cX7_doBuyer 59 = .ok (.iload 5, 2) := by decide +kernel
theorem dX7_doBuyer_61 : decode cX7_doBuyer 61 = .ok (.iconst 3, 1) := by decide +kernel
theorem dX7_doBuyer_62 : decode cX7_doBuyer 62 = .ok (.iload 4, 2) := by decide +kernel
theorem dX7_doBuyer_64 : decode cX7_doBuyer 64 = .ok (.invokevirtual 88, 3) := by decide +kernel
theorem dX7_doBuyer_67 : decode cX7_doBuyer 67 = .ok (.aload_n 0, 1) := by decide +kernel
theorem dX7_doBuyer_68 : decode cX7_doBuyer 68 = .ok (.iload 5, 2) := by decide +kernel
theorem dX7_doBuyer_70 : decode cX7_doBuyer 70 = .ok (.iconst 4, 1) := by decide +kernel
theorem dX7_doBuyer_71 : decode cX7_doBuyer 71 = .ok (.iconst (-1), 1) := by decide +kernel
theorem dX7_doBuyer_72 : decode cX7_doBuyer 72 = .ok (.invokevirtual 88, 3) := by decide +kernel
theorem dX7_doBuyer_75 : decode cX7_doBuyer 75 = .ok (.aload_n 0, 1) := by decide +kernel
theorem dX7_doBuyer_76 : decode cX7_doBuyer 76 = .ok (.getfield 17, 3) := by decide +kernel
theorem dX7_doBuyer_79 : decode cX7_doBuyer 79 = .ok (.bipush 10, 2) := by decide +kernel
theorem dX7_doBuyer_81 : decode cX7_doBuyer 81 = .ok (.dup2, 1) := by decide +kernel
theorem dX7_doBuyer_82 : decode cX7_doBuyer 82 = .ok (.iaload, 1) := by decide +kernel
theorem dX7_doBuyer_83 : decode cX7_doBuyer 83 = .ok (.iconst 1, 1) := by decide +kernel
theorem dX7_doBuyer_84 : decode cX7_doBuyer 84 = .ok (.iadd, 1) := by decide +kernel
theorem dX7_doBuyer_85 : decode cX7_doBuyer 85 = .ok (.iastore, 1) := by decide +kernel
theorem dX7_doBuyer_86 : decode cX7_doBuyer 86 = .ok (.iload 5, 2) := by decide +kernel
theorem dX7_doBuyer_88 : decode cX7_doBuyer 88 = .ok (.ireturn, 1) := by decide +kernel
theorem hd_X7_doBuyer : yX7_doBuyer.cls = RX7 ∧ yX7_doBuyer.cls ≠ "java/lang/invoke/MethodHandle" ∧ yX7_doBuyer.cls ≠ "java/lang/invoke/VarHandle" ∧ (parseMethodDescriptor yX7_doBuyer.desc).map (fun d => d.parameters.length) = some 4 := by decide +kernel
set_option maxRecDepth 100000 in
set_option maxHeartbeats 4000000 in
theorem c_X7_doBuyer (l : Launch) (D : va_G) (g : xG) (tb : List xQ) (hT : x_T g tb) {a1 : Int32} {a2 : Int32} {a3 : Int32} {a4 : Int32} (h0 : x_md tb) {M : xM} {r : Int32} {M' : xM} (hf : f_X7_doBuyer a1 a2 a3 a4 M = some (r, M')) :
    cI l D g tb yX7_doBuyer cX7_doBuyer 7 .int ({ frames := 1, cells := 0, slots := 0, locals := 23 } : Room) [.ref (g.1 5 2500), .int a1, .int a2, .int a3, .int a4] M r M' := by
  refine x_startI (own := RX7) (by decide +kernel) rfl rfl (Nat.le_of_ble_eq_true rfl) hT ?_
  intro p e s m args below meth c Q C0 hend
  have B12 : ∀ (k12 : Int32 → Int32 → xM → Option (Int32 × xM)) (hk12 : ∀ (v5 : Int32) (v6 : Int32)  (M : xM), k12 v5 v6 M = some (r, M') → WW p l e ({ frames := 1, cells := 0, slots := 0, locals := 23 } : Room) s m args below meth c 0 0 Q 7 D g tb 12 [(0, .ref (g.1 5 2500)), (1, .int a1), (2, .int a2), (3, .int a3), (4, .int a4), (5, .int v5), (6, .int v6)] [] M), ∀ (v5 : Int32) (v6 : Int32)  (M : xM), fb_X7_doBuyer_c12 k12 a1 a2 a3 a4 v5 v6 M = some (r, M') → WW p l e ({ frames := 1, cells := 0, slots := 0, locals := 23 } : Room) s m args below meth c 0 0 Q 7 D g tb 12 [(0, .ref (g.1 5 2500)), (1, .int a1), (2, .int a2), (3, .int a3), (4, .int a4), (5, .int v5), (6, .int v6)] [] M := by
    intro k12 hk12 v5 v6  M hf
    unfold fb_X7_doBuyer_c12 at hf
    refine r_iload C0 6 rfl dX7_doBuyer_12 ?_
    refine r_bipush C0 (v := 8) dX7_doBuyer_14 rfl ?_
    refine r_icmp_ge C0 (tgt := 34) (by decide) dX7_doBuyer_16 (fun q1 => ?_) (fun q1 => ?_)
    · have hf := ie_t hf q1
      refine r_aload_n C0 (kk := 0) 0 rfl dX7_doBuyer_34 ?_
      refine r_iload C0 5 rfl dX7_doBuyer_35 ?_
      refine r_iconst C0 (v := 0) dX7_doBuyer_37 rfl ?_
      refine r_iload_n C0 (kk := 1) 1 rfl dX7_doBuyer_38 ?_
      obtain ⟨M3, hc2, hf⟩ := bd_e hf
      refine r_callVv C0 (As := [.int v5, .int 0, .int a1]) (rest := []) (c_X7_put l D g tb hT h0 hc2) w6_131 w6_133 wp4_8 w1_14 w6_134 (x_rec5 C0 h0.1) hd_X7_put rfl ⟨rfl, rfl⟩ ⟨Nat.le_of_ble_eq_true rfl, Nat.le_of_ble_eq_true rfl⟩ (by decide) (by decide) rfl (Nat.le_of_ble_eq_true rfl) dX7_doBuyer_39 ?_
      refine r_aload_n C0 (kk := 0) 0 rfl dX7_doBuyer_42 ?_
      refine r_iload C0 5 rfl dX7_doBuyer_43 ?_
      refine r_iconst C0 (v := 1) dX7_doBuyer_45 rfl ?_
      refine r_iload_n C0 (kk := 2) 2 rfl dX7_doBuyer_46 ?_
      obtain ⟨M5, hc4, hf⟩ := bd_e hf
      refine r_callVv C0 (As := [.int v5, .int 1, .int a2]) (rest := []) (c_X7_put l D g tb hT h0 hc4) w6_131 w6_133 wp4_8 w1_14 w6_134 (x_rec5 C0 h0.1) hd_X7_put rfl ⟨rfl, rfl⟩ ⟨Nat.le_of_ble_eq_true rfl, Nat.le_of_ble_eq_true rfl⟩ (by decide) (by decide) rfl (Nat.le_of_ble_eq_true rfl) dX7_doBuyer_47 ?_
      refine r_aload_n C0 (kk := 0) 0 rfl dX7_doBuyer_50 ?_
      refine r_iload C0 5 rfl dX7_doBuyer_51 ?_
      refine r_iconst C0 (v := 2) dX7_doBuyer_53 rfl ?_
      refine r_iload_n C0 (kk := 3) 3 rfl dX7_doBuyer_54 ?_
      obtain ⟨M7, hc6, hf⟩ := bd_e hf
      refine r_callVv C0 (As := [.int v5, .int 2, .int a3]) (rest := []) (c_X7_put l D g tb hT h0 hc6) w6_131 w6_133 wp4_8 w1_14 w6_134 (x_rec5 C0 h0.1) hd_X7_put rfl ⟨rfl, rfl⟩ ⟨Nat.le_of_ble_eq_true rfl, Nat.le_of_ble_eq_true rfl⟩ (by decide) (by decide) rfl (Nat.le_of_ble_eq_true rfl) dX7_doBuyer_55 ?_
      refine r_aload_n C0 (kk := 0) 0 rfl dX7_doBuyer_58 ?_
      refine r_iload C0 5 rfl dX7_doBuyer_59 ?_
      refine r_iconst C0 (v := 3) dX7_doBuyer_61 rfl ?_
      refine r_iload C0 4 rfl dX7_doBuyer_62 ?_
      obtain ⟨M9, hc8, hf⟩ := bd_e hf
      refine r_callVv C0 (As := [.int v5, .int 3, .int a4]) (rest := []) (c_X7_put l D g tb hT h0 hc8) w6_131 w6_133 wp4_8 w1_14 w6_134 (x_rec5 C0 h0.1) hd_X7_put rfl ⟨rfl, rfl⟩ ⟨Nat.le_of_ble_eq_true rfl, Nat.le_of_ble_eq_true rfl⟩ (by decide) (by decide) rfl (Nat.le_of_ble_eq_true rfl) dX7_doBuyer_64 ?_
      refine r_aload_n C0 (kk := 0) 0 rfl dX7_doBuyer_67 ?_
      refine r_iload C0 5 rfl dX7_doBuyer_68 ?_
      refine r_iconst C0 (v := 4) dX7_doBuyer_70 rfl ?_
      refine r_iconst C0 (v := (-1)) dX7_doBuyer_71 rfl ?_
      obtain ⟨M11, hc10, hf⟩ := bd_e hf
      refine r_callVv C0 (As := [.int v5, .int 4, .int (-1)]) (rest := []) (c_X7_put l D g tb hT h0 hc10) w6_131 w6_133 wp4_8 w1_14 w6_134 (x_rec5 C0 h0.1) hd_X7_put rfl ⟨rfl, rfl⟩ ⟨Nat.le_of_ble_eq_true rfl, Nat.le_of_ble_eq_true rfl⟩ (by decide) (by decide) rfl (Nat.le_of_ble_eq_true rfl) dX7_doBuyer_72 ?_
      refine r_aload_n C0 (kk := 0) 0 rfl dX7_doBuyer_75 ?_
      refine r_get5 C0 h0.1 5 (by decide) (v := .ref (g.1 6 2520)) rfl rfl w6_221 dX7_doBuyer_76 ?_
      refine r_bipush C0 (v := 10) dX7_doBuyer_79 rfl ?_
      refine r_dup2 C0 rfl rfl dX7_doBuyer_81 ?_
      refine r_ialdc C0 h0.2.1 (z := 2530) (by decide) (by decide) dX7_doBuyer_82 ?_
      refine r_iconst C0 (v := 1) dX7_doBuyer_83 rfl ?_
      refine r_iadd C0 dX7_doBuyer_84 ?_
      refine r_iastc C0 h0.2.1 (z := 2530) (by decide) (by decide) dX7_doBuyer_85 ?_
      refine r_iload C0 5 rfl dX7_doBuyer_86 ?_
      exact hend hf dX7_doBuyer_88
    · have hf := ie_f hf q1
      refine r_aload_n C0 (kk := 0) 0 rfl dX7_doBuyer_19 ?_
      refine r_iload C0 5 rfl dX7_doBuyer_20 ?_
      refine r_iload C0 6 rfl dX7_doBuyer_22 ?_
      refine r_iconst C0 (v := 0) dX7_doBuyer_24 rfl ?_
      obtain ⟨M13, hc12, hf⟩ := bd_e hf
      refine r_callVv C0 (As := [.int v5, .int v6, .int 0]) (rest := []) (c_X7_put l D g tb hT h0 hc12) w6_131 w6_133 wp4_8 w1_14 w6_134 (x_rec5 C0 h0.1) hd_X7_put rfl ⟨rfl, rfl⟩ ⟨Nat.le_of_ble_eq_true rfl, Nat.le_of_ble_eq_true rfl⟩ (by decide) (by decide) rfl (Nat.le_of_ble_eq_true rfl) dX7_doBuyer_25 ?_
      refine r_iincc C0 6 rfl (k0 := 1) (by decide) (by decide) (lv2 := [(6, .int (v6 + 1)), (0, .ref (g.1 5 2500)), (1, .int a1), (2, .int a2), (3, .int a3), (4, .int a4), (5, .int v5)]) rfl dX7_doBuyer_28 ?_
      refine r_goto C0 (tgt := 12) (by decide) dX7_doBuyer_31 ?_
      refine WW.sub [1, 2, 3, 4, 5, 6, 0] rfl ?_
      exact hk12 _ _   _ hf
  have L12 : ∀ (v5 : Int32) (v6 : Int32)  (M : xM), f_X7_doBuyer_c12  a1 a2 a3 a4 v5 v6 M = some (r, M') → WW p l e ({ frames := 1, cells := 0, slots := 0, locals := 23 } : Room) s m args below meth c 0 0 Q 7 D g tb 12 [(0, .ref (g.1 5 2500)), (1, .int a1), (2, .int a2), (3, .int a3), (4, .int a4), (5, .int v5), (6, .int v6)] [] M := lp_ind (P := fun f => ∀ (v5 : Int32) (v6 : Int32)  (M : xM), f v5 v6 M = some (r, M') → WW p l e ({ frames := 1, cells := 0, slots := 0, locals := 23 } : Room) s m args below meth c 0 0 Q 7 D g tb 12 [(0, .ref (g.1 5 2500)), (1, .int a1), (2, .int a2), (3, .int a3), (4, .int a4), (5, .int v5), (6, .int v6)] [] M) (fun _ _ _ h => none_ne h) (fun f hf => B12 f hf) FU
  unfold f_X7_doBuyer at hf
  refine r_aload_n C0 (kk := 0) 0 rfl dX7_doBuyer_0 ?_
  refine r_get5 C0 h0.1 5 (by decide) (v := .ref (g.1 6 2520)) rfl rfl w6_221 dX7_doBuyer_1 ?_
  refine r_bipush C0 (v := 10) dX7_doBuyer_4 rfl ?_
  refine r_ialdc C0 h0.2.1 (z := 2530) (by decide) (by decide) dX7_doBuyer_6 ?_
  refine r_istore C0 (lv2 := [(5, .int (M 2530)), (0, .ref (g.1 5 2500)), (1, .int a1), (2, .int a2), (3, .int a3), (4, .int a4)]) (by decide) rfl dX7_doBuyer_7 ?_
  refine r_iconst C0 (v := 0) dX7_doBuyer_9 rfl ?_
  refine r_istore C0 (lv2 := [(6, .int 0), (5, .int (M 2530)), (0, .ref (g.1 5 2500)), (1, .int a1), (2, .int a2), (3, .int a3), (4, .int a4)]) (by decide) rfl dX7_doBuyer_10 ?_
  refine WW.sub [2, 3, 4, 5, 6, 1, 0] rfl ?_
  exact L12   _ _   _ hf
theorem dX7_endBell_0 : decode cX7_endBell 0 = .ok (.aload_n 0, 1) := by decide +kernel
theorem dX7_endBell_1 : decode cX7_endBell 1 = .ok (.iconst 1, 1) := by decide +kernel
theorem dX7_endBell_2 : decode cX7_endBell 2 = .ok (.putfield 91, 3) := by decide +kernel
theorem dX7_endBell_5 : decode cX7_endBell 5 = .ok (.aload_n 0, 1) := by decide +kernel
theorem dX7_endBell_6 : decode cX7_endBell 6 = .ok (.getfield 17, 3) := by decide +kernel
theorem dX7_endBell_9 : decode cX7_endBell 9 = .ok (.iconst 1, 1) := by decide +kernel
theorem dX7_endBell_10 : decode cX7_endBell 10 = .ok (.iconst 0, 1) := by decide +kernel
theorem dX7_endBell_11 : decode cX7_endBell 11 = .ok (.iastore, 1) := by decide +kernel
theorem dX7_endBell_12 : decode cX7_endBell 12 = .ok (.aload_n 0, 1) := by decide +kernel
theorem dX7_endBell_13 : decode cX7_endBell 13 = .ok (.getfield 17, 3) := by decide +kernel
theorem dX7_endBell_16 : decode cX7_endBell 16 = .ok (.iconst 3, 1) := by decide +kernel
theorem dX7_endBell_17 : decode cX7_endBell 17 = .ok (.iconst 0, 1) := by decide +kernel
theorem dX7_endBell_18 : decode cX7_endBell 18 = .ok (.iastore, 1) := by decide +kernel
theorem dX7_endBell_19 : decode cX7_endBell 19 = .ok (.iconst 0, 1) := by decide +kernel
theorem dX7_endBell_20 : decode cX7_endBell 20 = .ok (.istore_n 1, 1) := by decide +kernel
theorem dX7_endBell_21 : decode cX7_endBell 21 = .ok (.iload_n 1, 1) := by decide +kernel
theorem dX7_endBell_22 : decode cX7_endBell 22 = .ok (.aload_n 0, 1) := by decide +kernel
theorem dX7_endBell_23 : decode cX7_endBell 23 = .ok (.getfield 17, 3) := by decide +kernel
theorem dX7_endBell_26 : decode cX7_endBell 26 = .ok (.bipush 10, 2) := by decide +kernel
theorem dX7_endBell_28 : decode cX7_endBell 28 = .ok (.iaload, 1) := by decide +kernel
theorem dX7_endBell_29 : decode cX7_endBell 29 = .ok (.if_icmp .ge 32, 3) := by decide +kernel
theorem dX7_endBell_32 : decode cX7_endBell 32 = .ok (.aload_n 0, 1) := by decide +kernel
theorem dX7_endBell_33 : decode cX7_endBell 33 = .ok (.iload_n 1, 1) := by decide +kernel
theorem dX7_endBell_34 : decode cX7_endBell 34 = .ok (.iconst 4, 1) := by decide +kernel
theorem dX7_endBell_35 : decode cX7_endBell 35 = .ok (.invokevirtual 73, 3) := by decide +kernel
theorem dX7_endBell_38 : decode cX7_endBell 38 = .ok (.iconst (-1), 1) := by decide +kernel
theorem dX7_endBell_39 : decode cX7_endBell 39 = .ok (.if_icmp .eq 8, 3) := by decide +kernel
theorem dX7_endBell_42 : decode cX7_endBell 42 = .ok (.aload_n 0, 1) := by decide +kernel
theorem dX7_endBell_43 : decode cX7_endBell 43 = .ok (.iload_n 1, 1) := by decide +kernel
theorem dX7_endBell_44 : decode cX7_endBell 44 = .ok (.invokevirtual 98, 3) := by decide +kernel
theorem dX7_endBell_47 : decode cX7_endBell 47 = .ok (.aload_n 0, 1) := by decide +kernel
theorem dX7_endBell_48 : decode cX7_endBell 48 = .ok (.iload_n 1, 1) := by decide +kernel
theorem dX7_endBell_49 : decode cX7_endBell 49 = .ok (.bipush 6, 2) := by decide +kernel
theorem dX7_endBell_51 : decode cX7_endBell 51 = .ok (.iconst 0, 1) := by decide +kernel
theorem dX7_endBell_52 : decode cX7_endBell 52 = .ok (.invokevirtual 88, 3) := by decide +kernel
theorem dX7_endBell_55 : decode cX7_endBell 55 = .ok (.iinc 1 1, 3) := by decide +kernel
theorem dX7_endBell_58 : decode cX7_endBell 58 = .ok (.goto (-37), 3) := by decide +kernel
theorem dX7_endBell_61 : decode cX7_endBell 61 = .ok (.return_, 1) := by decide +kernel
theorem hd_X7_endBell : yX7_endBell.cls = RX7 ∧ yX7_endBell.cls ≠ "java/lang/invoke/MethodHandle" ∧ yX7_endBell.cls ≠ "java/lang/invoke/VarHandle" ∧ (parseMethodDescriptor yX7_endBell.desc).map (fun d => d.parameters.length) = some 0 := by decide +kernel
set_option maxRecDepth 100000 in
set_option maxHeartbeats 4000000 in
theorem c_X7_endBell (l : Launch) (D : va_G) (g : xG) (tb : List xQ) (hT : x_T g tb)  (h0 : x_md tb) {M M' : xM} (hf : f_X7_endBell  M = some M') :
    cV l D g tb yX7_endBell cX7_endBell 2 ({ frames := 2, cells := 0, slots := 0, locals := 44 } : Room) [.ref (g.1 5 2500)] M M' := by
  refine x_startV (own := RX7) (by decide +kernel) rfl rfl (Nat.le_of_ble_eq_true rfl) hT ?_
  intro p e s m args below meth c Q C0 hend
  have B47 : ∀ (k21 : Int32 → xM → Option xM) (hk21 : ∀ (v1 : Int32)  (M : xM), k21 v1 M = some M' → WW p l e ({ frames := 2, cells := 0, slots := 0, locals := 44 } : Room) s m args below meth c 0 0 Q 2 D g tb 21 [(0, .ref (g.1 5 2500)), (1, .int v1)] [] M), ∀ (v1 : Int32)  (M : xM), f_X7_endBell_c47 k21  v1 M = some M' → WW p l e ({ frames := 2, cells := 0, slots := 0, locals := 44 } : Room) s m args below meth c 0 0 Q 2 D g tb 47 [(0, .ref (g.1 5 2500)), (1, .int v1)] [] M := by
    intro k21 hk21 v1  M hf
    unfold f_X7_endBell_c47 at hf
    refine r_aload_n C0 (kk := 0) 0 rfl dX7_endBell_47 ?_
    refine r_iload_n C0 (kk := 1) 1 rfl dX7_endBell_48 ?_
    refine r_bipush C0 (v := 6) dX7_endBell_49 rfl ?_
    refine r_iconst C0 (v := 0) dX7_endBell_51 rfl ?_
    obtain ⟨M9, hc8, hf⟩ := bd_e hf
    refine r_callVv C0 (As := [.int v1, .int 6, .int 0]) (rest := []) (c_X7_put l D g tb hT h0 hc8) w6_131 w6_133 wp4_8 w1_14 w6_134 (x_rec5 C0 h0.1) hd_X7_put rfl ⟨rfl, rfl⟩ ⟨Nat.le_of_ble_eq_true rfl, Nat.le_of_ble_eq_true rfl⟩ (by decide) (by decide) rfl (Nat.le_of_ble_eq_true rfl) dX7_endBell_52 ?_
    refine r_iincc C0 1 rfl (k0 := 1) (by decide) (by decide) (lv2 := [(1, .int (v1 + 1)), (0, .ref (g.1 5 2500))]) rfl dX7_endBell_55 ?_
    refine r_goto C0 (tgt := 21) (by decide) dX7_endBell_58 ?_
    refine WW.sub [1, 0] rfl ?_
    exact hk21 _   _ hf
  have B21 : ∀ (k21 : Int32 → xM → Option xM) (hk21 : ∀ (v1 : Int32)  (M : xM), k21 v1 M = some M' → WW p l e ({ frames := 2, cells := 0, slots := 0, locals := 44 } : Room) s m args below meth c 0 0 Q 2 D g tb 21 [(0, .ref (g.1 5 2500)), (1, .int v1)] [] M), ∀ (v1 : Int32)  (M : xM), fb_X7_endBell_c21 k21  v1 M = some M' → WW p l e ({ frames := 2, cells := 0, slots := 0, locals := 44 } : Room) s m args below meth c 0 0 Q 2 D g tb 21 [(0, .ref (g.1 5 2500)), (1, .int v1)] [] M := by
    intro k21 hk21 v1  M hf
    unfold fb_X7_endBell_c21 at hf
    refine r_iload_n C0 (kk := 1) 1 rfl dX7_endBell_21 ?_
    refine r_aload_n C0 (kk := 0) 0 rfl dX7_endBell_22 ?_
    refine r_get5 C0 h0.1 5 (by decide) (v := .ref (g.1 6 2520)) rfl rfl w6_221 dX7_endBell_23 ?_
    refine r_bipush C0 (v := 10) dX7_endBell_26 rfl ?_
    refine r_ialdc C0 h0.2.1 (z := 2530) (by decide) (by decide) dX7_endBell_28 ?_
    refine r_icmp_ge C0 (tgt := 61) (by decide) dX7_endBell_29 (fun q1 => ?_) (fun q1 => ?_)
    · have hf := ie_t hf q1
      exact hend hf dX7_endBell_61
    · have hf := ie_f hf q1
      refine r_aload_n C0 (kk := 0) 0 rfl dX7_endBell_32 ?_
      refine r_iload_n C0 (kk := 1) 1 rfl dX7_endBell_33 ?_
      refine r_iconst C0 (v := 4) dX7_endBell_34 rfl ?_
      obtain ⟨r4, M3, hc2, hf⟩ := bd2_e hf
      refine r_callVi C0 (As := [.int v1, .int 4]) (rest := []) (c_X7_by l D g tb hT h0 hc2) w6_103 w6_105 wp4_1 w1_14 w6_106 (x_rec5 C0 h0.1) hd_X7_by rfl ⟨rfl, rfl⟩ ⟨Nat.le_of_ble_eq_true rfl, Nat.le_of_ble_eq_true rfl⟩ (by decide) (by decide) rfl (Nat.le_of_ble_eq_true rfl) dX7_endBell_35 ?_
      refine r_iconst C0 (v := (-1)) dX7_endBell_38 rfl ?_
      refine r_icmp_eq C0 (tgt := 47) (by decide) dX7_endBell_39 (fun q5 => ?_) (fun q5 => ?_)
      · have hf := ie_t hf q5
        exact B47 k21 hk21 _   _ hf
      · have hf := ie_f hf q5
        refine r_aload_n C0 (kk := 0) 0 rfl dX7_endBell_42 ?_
        refine r_iload_n C0 (kk := 1) 1 rfl dX7_endBell_43 ?_
        obtain ⟨M7, hc6, hf⟩ := bd_e hf
        refine r_callVv C0 (As := [.int v1]) (rest := []) (c_X7_giveBack l D g tb hT h0 hc6) w6_155 w6_157 wp4_14 w1_14 w6_158 (x_rec5 C0 h0.1) hd_X7_giveBack rfl ⟨rfl, rfl⟩ ⟨Nat.le_of_ble_eq_true rfl, Nat.le_of_ble_eq_true rfl⟩ (by decide) (by decide) rfl (Nat.le_of_ble_eq_true rfl) dX7_endBell_44 ?_
        exact B47 k21 hk21 _   _ hf
  have L21 : ∀ (v1 : Int32)  (M : xM), f_X7_endBell_c21   v1 M = some M' → WW p l e ({ frames := 2, cells := 0, slots := 0, locals := 44 } : Room) s m args below meth c 0 0 Q 2 D g tb 21 [(0, .ref (g.1 5 2500)), (1, .int v1)] [] M := lp_ind (P := fun f => ∀ (v1 : Int32)  (M : xM), f v1 M = some M' → WW p l e ({ frames := 2, cells := 0, slots := 0, locals := 44 } : Room) s m args below meth c 0 0 Q 2 D g tb 21 [(0, .ref (g.1 5 2500)), (1, .int v1)] [] M) (fun _ _ h => none_ne h) (fun f hf => B21 f hf) FU
  unfold f_X7_endBell at hf
  refine r_aload_n C0 (kk := 0) 0 rfl dX7_endBell_0 ?_
  refine r_iconst C0 (v := 1) dX7_endBell_1 rfl ?_
  refine r_put5 C0 h0.1 12 rfl rfl w6_228 rfl rfl rfl dX7_endBell_2 ?_
  refine r_aload_n C0 (kk := 0) 0 rfl dX7_endBell_5 ?_
  refine r_get5 C0 h0.1 5 (by decide) (v := .ref (g.1 6 2520)) rfl rfl w6_221 dX7_endBell_6 ?_
  refine r_iconst C0 (v := 1) dX7_endBell_9 rfl ?_
  refine r_iconst C0 (v := 0) dX7_endBell_10 rfl ?_
  refine r_iastc C0 h0.2.1 (z := 2521) (by decide) (by decide) dX7_endBell_11 ?_
  refine r_aload_n C0 (kk := 0) 0 rfl dX7_endBell_12 ?_
  refine r_get5 C0 h0.1 5 (by decide) (v := .ref (g.1 6 2520)) rfl rfl w6_221 dX7_endBell_13 ?_
  refine r_iconst C0 (v := 3) dX7_endBell_16 rfl ?_
  refine r_iconst C0 (v := 0) dX7_endBell_17 rfl ?_
  refine r_iastc C0 h0.2.1 (z := 2523) (by decide) (by decide) dX7_endBell_18 ?_
  refine r_iconst C0 (v := 0) dX7_endBell_19 rfl ?_
  refine r_istore_n C0 (kk := 1) (lv2 := [(1, .int 0), (0, .ref (g.1 5 2500))]) (by decide) rfl dX7_endBell_20 ?_
  refine WW.sub [1, 0] rfl ?_
  exact L21   _   _ hf
theorem dX7_walk_0 : decode cX7_walk 0 = .ok (.aload_n 0, 1) := by decide +kernel
theorem dX7_walk_1 : decode cX7_walk 1 = .ok (.iload_n 1, 1) := by decide +kernel
theorem dX7_walk_2 : decode cX7_walk 2 = .ok (.iconst 0, 1) := by decide +kernel
theorem dX7_walk_3 : decode cX7_walk 3 = .ok (.invokevirtual 73, 3) := by decide +kernel
theorem dX7_walk_6 : decode cX7_walk 6 = .ok (.istore_n 3, 1) := by decide +kernel
theorem dX7_walk_7 : decode cX7_walk 7 = .ok (.aload_n 0, 1) := by decide +kernel
theorem dX7_walk_8 : decode cX7_walk 8 = .ok (.iload_n 1, 1) := by decide +kernel
theorem dX7_walk_9 : decode cX7_walk 9 = .ok (.iconst 3, 1) := by decide +kernel
theorem dX7_walk_10 : decode cX7_walk 10 = .ok (.invokevirtual 73, 3) := by decide +kernel
theorem dX7_walk_13 : decode cX7_walk 13 = .ok (.iload_n 3, 1) := by decide +kernel
theorem dX7_walk_14 : decode cX7_walk 14 = .ok (.iload_n 2, 1) := by decide +kernel
theorem dX7_walk_15 : decode cX7_walk 15 = .ok (.invokestatic 67, 3) := by decide +kernel
theorem dX7_walk_18 : decode cX7_walk 18 = .ok (.invokestatic 102, 3) := by decide +kernel
theorem dX7_walk_21 : decode cX7_walk 21 = .ok (.istore 4, 2) := by decide +kernel
theorem dX7_walk_23 : decode cX7_walk 23 = .ok (.aload_n 0, 1) := by decide +kernel
theorem dX7_walk_24 : decode cX7_walk 24 = .ok (.iload_n 1, 1) := by decide +kernel
theorem dX7_walk_25 : decode cX7_walk 25 = .ok (.iconst 0, 1) := by decide +kernel
theorem dX7_walk_26 : decode cX7_walk 26 = .ok (.iload_n 2, 1) := by decide +kernel
theorem dX7_walk_27 : decode cX7_walk 27 = .ok (.iload_n 3, 1) := by decide +kernel
theorem dX7_walk_28 : decode cX7_walk 28 = .ok (.if_icmp .ge 10, 3) := by decide +kernel
theorem dX7_walk_31 : decode cX7_walk 31 = .ok (.iload_n 3, 1) := by decide +kernel
theorem dX7_walk_32 : decode cX7_walk 32 = .ok (.iload 4, 2) := by decide +kernel
theorem dX7_walk_34 : decode cX7_walk 34 = .ok (.isub, 1) := by decide +kernel
theorem dX7_walk_35 : decode cX7_walk 35 = .ok (.goto 7, 3) := by decide +kernel
theorem dX7_walk_38 : decode cX7_walk 38 = .ok (.iload_n 3, 1) := by decide +kernel
theorem dX7_walk_39 : decode cX7_walk 39 = .ok (.iload 4, 2) := by decide +kernel
theorem dX7_walk_41 : decode cX7_walk 41 = .ok (.iadd, 1) := by decide +kernel
theorem dX7_walk_42 : decode cX7_walk 42 = .ok (.invokevirtual 88, 3) := by decide +kernel
theorem dX7_walk_45 : decode cX7_walk 45 = .ok (.return_, 1) := by decide +kernel
theorem hd_X7_walk : yX7_walk.cls = RX7 ∧ yX7_walk.cls ≠ "java/lang/invoke/MethodHandle" ∧ yX7_walk.cls ≠ "java/lang/invoke/VarHandle" ∧ (parseMethodDescriptor yX7_walk.desc).map (fun d => d.parameters.length) = some 2 := by decide +kernel
set_option maxRecDepth 100000 in
set_option maxHeartbeats 4000000 in
theorem c_X7_walk (l : Launch) (D : va_G) (g : xG) (tb : List xQ) (hT : x_T g tb) {a1 : Int32} {a2 : Int32} (h0 : x_md tb) {M M' : xM} (hf : f_X7_walk a1 a2 M = some M') :
    cV l D g tb yX7_walk cX7_walk 5 ({ frames := 1, cells := 0, slots := 0, locals := 23 } : Room) [.ref (g.1 5 2500), .int a1, .int a2] M M' := by
  refine x_startV (own := RX7) (by decide +kernel) rfl rfl (Nat.le_of_ble_eq_true rfl) hT ?_
  intro p e s m args below meth c Q C0 hend
  unfold f_X7_walk at hf
  refine r_aload_n C0 (kk := 0) 0 rfl dX7_walk_0 ?_
  refine r_iload_n C0 (kk := 1) 1 rfl dX7_walk_1 ?_
  refine r_iconst C0 (v := 0) dX7_walk_2 rfl ?_
  obtain ⟨r3, M2, hc1, hf⟩ := bd2_e hf
  refine r_callVi C0 (As := [.int a1, .int 0]) (rest := []) (c_X7_by l D g tb hT h0 hc1) w6_103 w6_105 wp4_1 w1_14 w6_106 (x_rec5 C0 h0.1) hd_X7_by rfl ⟨rfl, rfl⟩ ⟨Nat.le_of_ble_eq_true rfl, Nat.le_of_ble_eq_true rfl⟩ (by decide) (by decide) rfl (Nat.le_of_ble_eq_true rfl) dX7_walk_3 ?_
  refine r_istore_n C0 (kk := 3) (lv2 := [(3, .int r3), (0, .ref (g.1 5 2500)), (1, .int a1), (2, .int a2)]) (by decide) rfl dX7_walk_6 ?_
  refine r_aload_n C0 (kk := 0) 1 rfl dX7_walk_7 ?_
  refine r_iload_n C0 (kk := 1) 2 rfl dX7_walk_8 ?_
  refine r_iconst C0 (v := 3) dX7_walk_9 rfl ?_
  obtain ⟨r6, M5, hc4, hf⟩ := bd2_e hf
  refine r_callVi C0 (As := [.int a1, .int 3]) (rest := []) (c_X7_by l D g tb hT h0 hc4) w6_103 w6_105 wp4_1 w1_14 w6_106 (x_rec5 C0 h0.1) hd_X7_by rfl ⟨rfl, rfl⟩ ⟨Nat.le_of_ble_eq_true rfl, Nat.le_of_ble_eq_true rfl⟩ (by decide) (by decide) rfl (Nat.le_of_ble_eq_true rfl) dX7_walk_10 ?_
  refine r_iload_n C0 (kk := 3) 0 rfl dX7_walk_13 ?_
  refine r_iload_n C0 (kk := 2) 3 rfl dX7_walk_14 ?_
  obtain ⟨r9, M8, hc7, hf⟩ := bd2_e hf
  refine r_callSi C0 (As := [.int r3, .int a2]) (rest := [.int r6]) (c_X7_apart l D g tb hT  hc7) w6_167 w6_168 w1_14 w6_169 hd_X7_apart rfl ⟨rfl, rfl⟩ ⟨Nat.le_of_ble_eq_true rfl, Nat.le_of_ble_eq_true rfl⟩ (by decide) (by decide) rfl (Nat.le_of_ble_eq_true rfl) dX7_walk_15 ?_
  refine r_min C0 w6_170 w3_161 w1_13 w3_162 (by decide) (Nat.le_of_ble_eq_true rfl) (by decide) (by decide) dX7_walk_18 ?_
  refine r_istore C0 (lv2 := [(4, .int (imin r6 r9)), (3, .int r3), (0, .ref (g.1 5 2500)), (1, .int a1), (2, .int a2)]) (by decide) rfl dX7_walk_21 ?_
  refine r_aload_n C0 (kk := 0) 2 rfl dX7_walk_23 ?_
  refine r_iload_n C0 (kk := 1) 3 rfl dX7_walk_24 ?_
  refine r_iconst C0 (v := 0) dX7_walk_25 rfl ?_
  refine r_iload_n C0 (kk := 2) 4 rfl dX7_walk_26 ?_
  refine r_iload_n C0 (kk := 3) 1 rfl dX7_walk_27 ?_
  refine r_icmp_ge C0 (tgt := 38) (by decide) dX7_walk_28 (fun q10 => ?_) (fun q10 => ?_)
  · have hf := ie_t hf q10
    refine r_iload_n C0 (kk := 3) 1 rfl dX7_walk_38 ?_
    refine r_iload C0 0 rfl dX7_walk_39 ?_
    refine r_iadd C0 dX7_walk_41 ?_
    obtain ⟨M12, hc11, hf⟩ := bd_e hf
    refine r_callVv C0 (As := [.int a1, .int 0, .int (r3 + (imin r6 r9))]) (rest := []) (c_X7_put l D g tb hT h0 hc11) w6_131 w6_133 wp4_8 w1_14 w6_134 (x_rec5 C0 h0.1) hd_X7_put rfl ⟨rfl, rfl⟩ ⟨Nat.le_of_ble_eq_true rfl, Nat.le_of_ble_eq_true rfl⟩ (by decide) (by decide) rfl (Nat.le_of_ble_eq_true rfl) dX7_walk_42 ?_
    exact hend hf dX7_walk_45
  · have hf := ie_f hf q10
    refine r_iload_n C0 (kk := 3) 1 rfl dX7_walk_31 ?_
    refine r_iload C0 0 rfl dX7_walk_32 ?_
    refine r_isub C0 dX7_walk_34 ?_
    refine r_goto C0 (tgt := 42) (by decide) dX7_walk_35 ?_
    obtain ⟨M14, hc13, hf⟩ := bd_e hf
    refine r_callVv C0 (As := [.int a1, .int 0, .int (r3 - (imin r6 r9))]) (rest := []) (c_X7_put l D g tb hT h0 hc13) w6_131 w6_133 wp4_8 w1_14 w6_134 (x_rec5 C0 h0.1) hd_X7_put rfl ⟨rfl, rfl⟩ ⟨Nat.le_of_ble_eq_true rfl, Nat.le_of_ble_eq_true rfl⟩ (by decide) (by decide) rfl (Nat.le_of_ble_eq_true rfl) dX7_walk_42 ?_
    exact hend hf dX7_walk_45
theorem dX7_isSeen_0 : decode cX7_isSeen 0 = .ok (.aload_n 0, 1) := by decide +kernel
theorem dX7_isSeen_1 : decode cX7_isSeen 1 = .ok (.iload_n 1, 1) := by decide +kernel
theorem dX7_isSeen_2 : decode cX7_isSeen 2 = .ok (.iconst 0, 1) := by decide +kernel
theorem dX7_isSeen_3 : decode cX7_isSeen 3 = .ok (.invokevirtual 63, 3) := by decide +kernel
theorem dX7_isSeen_6 : decode cX7_isSeen 6 = .ok (.iload_n 2, 1) := by decide +kernel
theorem dX7_isSeen_7 : decode cX7_isSeen 7 = .ok (.invokestatic 67, 3) := by decide +kernel
theorem dX7_isSeen_10 : decode cX7_isSeen 10 = .ok (.aload_n 0, 1) := by decide +kernel
theorem dX7_isSeen_11 : decode cX7_isSeen 11 = .ok (.iload_n 1, 1) := by decide +kernel
theorem dX7_isSeen_12 : decode cX7_isSeen 12 = .ok (.iconst 1, 1) := by decide +kernel
theorem dX7_isSeen_13 : decode cX7_isSeen 13 = .ok (.invokevirtual 63, 3) := by decide +kernel
theorem dX7_isSeen_16 : decode cX7_isSeen 16 = .ok (.iload_n 3, 1) := by decide +kernel
theorem dX7_isSeen_17 : decode cX7_isSeen 17 = .ok (.invokestatic 70, 3) := by decide +kernel
theorem dX7_isSeen_20 : decode cX7_isSeen 20 = .ok (.if_icmp .gt 7, 3) := by decide +kernel
theorem dX7_isSeen_23 : decode cX7_isSeen 23 = .ok (.iconst 1, 1) := by decide +kernel
theorem dX7_isSeen_24 : decode cX7_isSeen 24 = .ok (.goto 4, 3) := by decide +kernel
theorem dX7_isSeen_27 : decode cX7_isSeen 27 = .ok (.iconst 0, 1) := by decide +kernel
theorem dX7_isSeen_28 : decode cX7_isSeen 28 = .ok (.ireturn, 1) := by decide +kernel
theorem hd_X7_isSeen : yX7_isSeen.cls = RX7 ∧ yX7_isSeen.cls ≠ "java/lang/invoke/MethodHandle" ∧ yX7_isSeen.cls ≠ "java/lang/invoke/VarHandle" ∧ (parseMethodDescriptor yX7_isSeen.desc).map (fun d => d.parameters.length) = some 3 := by decide +kernel
set_option maxRecDepth 100000 in
set_option maxHeartbeats 4000000 in
theorem c_X7_isSeen (l : Launch) (D : va_G) (g : xG) (tb : List xQ) (hT : x_T g tb) {a1 : Int32} {a2 : Int32} {a3 : Int32} (h0 : x_md tb) {M : xM} {r : Int32} {M' : xM} (hf : f_X7_isSeen a1 a2 a3 M = some (r, M')) :
    cI l D g tb yX7_isSeen cX7_isSeen 4 .boolean ({ frames := 1, cells := 0, slots := 0, locals := 22 } : Room) [.ref (g.1 5 2500), .int a1, .int a2, .int a3] M r M' := by
  refine x_startZ (own := RX7) (by decide +kernel) rfl rfl (Nat.le_of_ble_eq_true rfl) hT ?_
  intro p e s m args below meth c Q C0 hend
  unfold f_X7_isSeen at hf
  refine r_aload_n C0 (kk := 0) 0 rfl dX7_isSeen_0 ?_
  refine r_iload_n C0 (kk := 1) 1 rfl dX7_isSeen_1 ?_
  refine r_iconst C0 (v := 0) dX7_isSeen_2 rfl ?_
  obtain ⟨r3, M2, hc1, hf⟩ := bd2_e hf
  refine r_callVi C0 (As := [.int a1, .int 0]) (rest := []) (c_X7_st l D g tb hT h0 hc1) w6_111 w6_113 wp4_3 w1_14 w6_114 (x_rec5 C0 h0.1) hd_X7_st rfl ⟨rfl, rfl⟩ ⟨Nat.le_of_ble_eq_true rfl, Nat.le_of_ble_eq_true rfl⟩ (by decide) (by decide) rfl (Nat.le_of_ble_eq_true rfl) dX7_isSeen_3 ?_
  refine r_iload_n C0 (kk := 2) 2 rfl dX7_isSeen_6 ?_
  obtain ⟨r6, M5, hc4, hf⟩ := bd2_e hf
  refine r_callSi C0 (As := [.int r3, .int a2]) (rest := []) (c_X7_apart l D g tb hT  hc4) w6_167 w6_168 w1_14 w6_169 hd_X7_apart rfl ⟨rfl, rfl⟩ ⟨Nat.le_of_ble_eq_true rfl, Nat.le_of_ble_eq_true rfl⟩ (by decide) (by decide) rfl (Nat.le_of_ble_eq_true rfl) dX7_isSeen_7 ?_
  refine r_aload_n C0 (kk := 0) 0 rfl dX7_isSeen_10 ?_
  refine r_iload_n C0 (kk := 1) 1 rfl dX7_isSeen_11 ?_
  refine r_iconst C0 (v := 1) dX7_isSeen_12 rfl ?_
  obtain ⟨r9, M8, hc7, hf⟩ := bd2_e hf
  refine r_callVi C0 (As := [.int a1, .int 1]) (rest := [.int r6]) (c_X7_st l D g tb hT h0 hc7) w6_111 w6_113 wp4_3 w1_14 w6_114 (x_rec5 C0 h0.1) hd_X7_st rfl ⟨rfl, rfl⟩ ⟨Nat.le_of_ble_eq_true rfl, Nat.le_of_ble_eq_true rfl⟩ (by decide) (by decide) rfl (Nat.le_of_ble_eq_true rfl) dX7_isSeen_13 ?_
  refine r_iload_n C0 (kk := 3) 3 rfl dX7_isSeen_16 ?_
  obtain ⟨r12, M11, hc10, hf⟩ := bd2_e hf
  refine r_callSi C0 (As := [.int r9, .int a3]) (rest := [.int r6]) (c_X7_reachOf l D g tb hT  hc10) w6_186 w6_187 w1_14 w6_188 hd_X7_reachOf rfl ⟨rfl, rfl⟩ ⟨Nat.le_of_ble_eq_true rfl, Nat.le_of_ble_eq_true rfl⟩ (by decide) (by decide) rfl (Nat.le_of_ble_eq_true rfl) dX7_isSeen_17 ?_
  refine r_icmp_gt C0 (tgt := 27) (by decide) dX7_isSeen_20 (fun q13 => ?_) (fun q13 => ?_)
  · have hf := ie_t hf q13
    refine r_iconst C0 (v := 0) dX7_isSeen_27 rfl ?_
    exact hend (by decide) hf dX7_isSeen_28
  · have hf := ie_f hf q13
    refine r_iconst C0 (v := 1) dX7_isSeen_23 rfl ?_
    refine r_goto C0 (tgt := 28) (by decide) dX7_isSeen_24 ?_
    exact hend (by decide) hf dX7_isSeen_28
theorem dX7_takes_0 : decode cX7_takes 0 = .ok (.aload_n 0, 1) := by decide +kernel
theorem dX7_takes_1 : decode cX7_takes 1 = .ok (.iload_n 1, 1) := by decide +kernel
theorem dX7_takes_2 : decode cX7_takes 2 = .ok (.iload_n 2, 1) := by decide +kernel
theorem dX7_takes_3 : decode cX7_takes 3 = .ok (.invokevirtual 121, 3) := by decide +kernel
theorem dX7_takes_6 : decode cX7_takes 6 = .ok (.ifCond .eq 22, 3) := by decide +kernel
theorem dX7_takes_9 : decode cX7_takes 9 = .ok (.aload_n 0, 1) := by decide +kernel
theorem dX7_takes_10 : decode cX7_takes 10 = .ok (.iload_n 1, 1) := by decide +kernel
theorem dX7_takes_11 : decode cX7_takes 11 = .ok (.bipush 6, 2) := by decide +kernel
theorem dX7_takes_13 : decode cX7_takes 13 = .ok (.aload_n 0, 1) := by decide +kernel
theorem dX7_takes_14 : decode cX7_takes 14 = .ok (.iload_n 1, 1) := by decide +kernel
theorem dX7_takes_15 : decode cX7_takes 15 = .ok (.bipush 6, 2) := by decide +kernel
theorem dX7_takes_17 : decode cX7_takes 17 = .ok (.invokevirtual 73, 3) := by decide +kernel
theorem dX7_takes_20 : decode cX7_takes 20 = .ok (.iconst 1, 1) := by decide +kernel
theorem dX7_takes_21 : decode cX7_takes 21 = .ok (.iload_n 2, 1) := by decide +kernel
theorem dX7_takes_22 : decode cX7_takes 22 = .ok (.ishl, 1) := by decide +kernel
theorem dX7_takes_23 : decode cX7_takes 23 = .ok (.ior, 1) := by decide +kernel
theorem dX7_takes_24 : decode cX7_takes 24 = .ok (.invokevirtual 88, 3) := by decide +kernel
theorem dX7_takes_27 : decode cX7_takes 27 = .ok (.return_, 1) := by decide +kernel
theorem dX7_takes_28 : decode cX7_takes 28 = .ok (.aload_n 0, 1) := by decide +kernel
theorem dX7_takes_29 : decode cX7_takes 29 = .ok (.iload_n 2, 1) := by decide +kernel
theorem dX7_takes_30 : decode cX7_takes 30 = .ok (.iconst 4, 1) := by decide +kernel
theorem dX7_takes_31 : decode cX7_takes 31 = .ok (.iconst (-1), 1) := by decide +kernel
theorem dX7_takes_32 : decode cX7_takes 32 = .ok (.invokevirtual 84, 3) := by decide +kernel
theorem dX7_takes_35 : decode cX7_takes 35 = .ok (.aload_n 0, 1) := by decide +kernel
theorem dX7_takes_36 : decode cX7_takes 36 = .ok (.iload_n 1, 1) := by decide +kernel
theorem dX7_takes_37 : decode cX7_takes 37 = .ok (.iconst 4, 1) := by decide +kernel
theorem dX7_takes_38 : decode cX7_takes 38 = .ok (.iload_n 2, 1) := by decide +kernel
theorem dX7_takes_39 : decode cX7_takes 39 = .ok (.invokevirtual 88, 3) := by decide +kernel
theorem dX7_takes_42 : decode cX7_takes 42 = .ok (.aload_n 0, 1) := by decide +kernel
theorem dX7_takes_43 : decode cX7_takes 43 = .ok (.iload_n 1, 1) := by decide +kernel
theorem dX7_takes_44 : decode cX7_takes 44 = .ok (.iconst 5, 1) := by decide +kernel
theorem dX7_takes_45 : decode cX7_takes 45 = .ok (.aload_n 0, 1) := by decide +kernel
theorem dX7_takes_46 : decode cX7_takes 46 = .ok (.iload_n 2, 1) := by decide +kernel
theorem dX7_takes_47 : decode cX7_takes 47 = .ok (.iconst 3, 1) := by decide +kernel
theorem dX7_takes_48 : decode cX7_takes 48 = .ok (.invokevirtual 63, 3) := by decide +kernel
theorem dX7_takes_51 : decode cX7_takes 51 = .ok (.invokevirtual 88, 3) := by decide +kernel
theorem dX7_takes_54 : decode cX7_takes 54 = .ok (.return_, 1) := by decide +kernel
theorem hd_X7_takes : yX7_takes.cls = RX7 ∧ yX7_takes.cls ≠ "java/lang/invoke/MethodHandle" ∧ yX7_takes.cls ≠ "java/lang/invoke/VarHandle" ∧ (parseMethodDescriptor yX7_takes.desc).map (fun d => d.parameters.length) = some 2 := by decide +kernel
set_option maxRecDepth 100000 in
set_option maxHeartbeats 4000000 in
theorem c_X7_takes (l : Launch) (D : va_G) (g : xG) (tb : List xQ) (hT : x_T g tb) {a1 : Int32} {a2 : Int32} (h0 : x_md tb) {M M' : xM} (hf : f_X7_takes a1 a2 M = some M') :
    cV l D g tb yX7_takes cX7_takes 3 ({ frames := 2, cells := 0, slots := 0, locals := 44 } : Room) [.ref (g.1 5 2500), .int a1, .int a2] M M' := by
  refine x_startV (own := RX7) (by decide +kernel) rfl rfl (Nat.le_of_ble_eq_true rfl) hT ?_
  intro p e s m args below meth c Q C0 hend
  unfold f_X7_takes at hf
  refine r_aload_n C0 (kk := 0) 0 rfl dX7_takes_0 ?_
  refine r_iload_n C0 (kk := 1) 1 rfl dX7_takes_1 ?_
  refine r_iload_n C0 (kk := 2) 2 rfl dX7_takes_2 ?_
  obtain ⟨r3, M2, hc1, hf⟩ := bd2_e hf
  refine r_callVi C0 (As := [.int a1, .int a2]) (rest := []) (c_X7_feel l D g tb hT h0 hc1) w6_193 w6_195 wp5_5 w1_14 w6_196 (x_rec5 C0 h0.1) hd_X7_feel rfl ⟨rfl, rfl⟩ ⟨Nat.le_of_ble_eq_true rfl, Nat.le_of_ble_eq_true rfl⟩ (by decide) (by decide) rfl (Nat.le_of_ble_eq_true rfl) dX7_takes_3 ?_
  refine r_if_eq C0 (tgt := 28) (by decide) dX7_takes_6 (fun q4 => ?_) (fun q4 => ?_)
  · have hf := ie_t hf q4
    refine r_aload_n C0 (kk := 0) 0 rfl dX7_takes_28 ?_
    refine r_iload_n C0 (kk := 2) 2 rfl dX7_takes_29 ?_
    refine r_iconst C0 (v := 4) dX7_takes_30 rfl ?_
    refine r_iconst C0 (v := (-1)) dX7_takes_31 rfl ?_
    obtain ⟨M6, hc5, hf⟩ := bd_e hf
    refine r_callVv C0 (As := [.int a2, .int 4, .int (-1)]) (rest := []) (c_X7_more l D g tb hT h0 hc5) w6_123 w6_125 wp4_6 w1_14 w6_126 (x_rec5 C0 h0.1) hd_X7_more rfl ⟨rfl, rfl⟩ ⟨Nat.le_of_ble_eq_true rfl, Nat.le_of_ble_eq_true rfl⟩ (by decide) (by decide) rfl (Nat.le_of_ble_eq_true rfl) dX7_takes_32 ?_
    refine r_aload_n C0 (kk := 0) 0 rfl dX7_takes_35 ?_
    refine r_iload_n C0 (kk := 1) 1 rfl dX7_takes_36 ?_
    refine r_iconst C0 (v := 4) dX7_takes_37 rfl ?_
    refine r_iload_n C0 (kk := 2) 2 rfl dX7_takes_38 ?_
    obtain ⟨M8, hc7, hf⟩ := bd_e hf
    refine r_callVv C0 (As := [.int a1, .int 4, .int a2]) (rest := []) (c_X7_put l D g tb hT h0 hc7) w6_131 w6_133 wp4_8 w1_14 w6_134 (x_rec5 C0 h0.1) hd_X7_put rfl ⟨rfl, rfl⟩ ⟨Nat.le_of_ble_eq_true rfl, Nat.le_of_ble_eq_true rfl⟩ (by decide) (by decide) rfl (Nat.le_of_ble_eq_true rfl) dX7_takes_39 ?_
    refine r_aload_n C0 (kk := 0) 0 rfl dX7_takes_42 ?_
    refine r_iload_n C0 (kk := 1) 1 rfl dX7_takes_43 ?_
    refine r_iconst C0 (v := 5) dX7_takes_44 rfl ?_
    refine r_aload_n C0 (kk := 0) 0 rfl dX7_takes_45 ?_
    refine r_iload_n C0 (kk := 2) 2 rfl dX7_takes_46 ?_
    refine r_iconst C0 (v := 3) dX7_takes_47 rfl ?_
    obtain ⟨r11, M10, hc9, hf⟩ := bd2_e hf
    refine r_callVi C0 (As := [.int a2, .int 3]) (rest := [.int 5, .int a1, .ref (g.1 5 2500)]) (c_X7_st l D g tb hT h0 hc9) w6_111 w6_113 wp4_3 w1_14 w6_114 (x_rec5 C0 h0.1) hd_X7_st rfl ⟨rfl, rfl⟩ ⟨Nat.le_of_ble_eq_true rfl, Nat.le_of_ble_eq_true rfl⟩ (by decide) (by decide) rfl (Nat.le_of_ble_eq_true rfl) dX7_takes_48 ?_
    obtain ⟨M13, hc12, hf⟩ := bd_e hf
    refine r_callVv C0 (As := [.int a1, .int 5, .int r11]) (rest := []) (c_X7_put l D g tb hT h0 hc12) w6_131 w6_133 wp4_8 w1_14 w6_134 (x_rec5 C0 h0.1) hd_X7_put rfl ⟨rfl, rfl⟩ ⟨Nat.le_of_ble_eq_true rfl, Nat.le_of_ble_eq_true rfl⟩ (by decide) (by decide) rfl (Nat.le_of_ble_eq_true rfl) dX7_takes_51 ?_
    exact hend hf dX7_takes_54
  · have hf := ie_f hf q4
    refine r_aload_n C0 (kk := 0) 0 rfl dX7_takes_9 ?_
    refine r_iload_n C0 (kk := 1) 1 rfl dX7_takes_10 ?_
    refine r_bipush C0 (v := 6) dX7_takes_11 rfl ?_
    refine r_aload_n C0 (kk := 0) 0 rfl dX7_takes_13 ?_
    refine r_iload_n C0 (kk := 1) 1 rfl dX7_takes_14 ?_
    refine r_bipush C0 (v := 6) dX7_takes_15 rfl ?_
    obtain ⟨r16, M15, hc14, hf⟩ := bd2_e hf
    refine r_callVi C0 (As := [.int a1, .int 6]) (rest := [.int 6, .int a1, .ref (g.1 5 2500)]) (c_X7_by l D g tb hT h0 hc14) w6_103 w6_105 wp4_1 w1_14 w6_106 (x_rec5 C0 h0.1) hd_X7_by rfl ⟨rfl, rfl⟩ ⟨Nat.le_of_ble_eq_true rfl, Nat.le_of_ble_eq_true rfl⟩ (by decide) (by decide) rfl (Nat.le_of_ble_eq_true rfl) dX7_takes_17 ?_
    refine r_iconst C0 (v := 1) dX7_takes_20 rfl ?_
    refine r_iload_n C0 (kk := 2) 2 rfl dX7_takes_21 ?_
    refine r_ishl C0 dX7_takes_22 ?_
    refine r_ior C0 dX7_takes_23 ?_
    obtain ⟨M18, hc17, hf⟩ := bd_e hf
    refine r_callVv C0 (As := [.int a1, .int 6, .int (r16 ||| (1 <<< (a2 &&& 31)))]) (rest := []) (c_X7_put l D g tb hT h0 hc17) w6_131 w6_133 wp4_8 w1_14 w6_134 (x_rec5 C0 h0.1) hd_X7_put rfl ⟨rfl, rfl⟩ ⟨Nat.le_of_ble_eq_true rfl, Nat.le_of_ble_eq_true rfl⟩ (by decide) (by decide) rfl (Nat.le_of_ble_eq_true rfl) dX7_takes_24 ?_
    exact hend hf dX7_takes_27
theorem dX7_feed_0 : decode cX7_feed 0 = .ok (.aload_n 0, 1) := by decide +kernel
theorem dX7_feed_1 : decode cX7_feed 1 = .ok (.iconst 0, 1) := by decide +kernel
theorem dX7_feed_2 : decode cX7_feed 2 = .ok (.putfield 60, 3) := by decide +kernel
theorem dX7_feed_5 : decode cX7_feed 5 = .ok (.iconst 0, 1) := by decide +kernel
theorem dX7_feed_6 : decode cX7_feed 6 = .ok (.istore 6, 2) := by decide +kernel
theorem dX7_feed_8 : decode cX7_feed 8 = .ok (.iconst 0, 1) := by decide +kernel
theorem dX7_feed_9 : decode cX7_feed 9 = .ok (.istore 7, 2) := by decide +kernel
theorem dX7_feed_11 : decode cX7_feed 11 = .ok (.iload 7, 2) := by decide +kernel
theorem dX7_feed_13 : decode cX7_feed 13 = .ok (.bipush 20, 2) := by decide +kernel
theorem dX7_feed_15 : decode cX7_feed 15 = .ok (.if_icmp .ge 37, 3) := by decide +kernel
theorem dX7_feed_18 : decode cX7_feed 18 = .ok (.iload 6, 2) := by decide +kernel
theorem dX7_feed_20 : decode cX7_feed 20 = .ok (.iload_n 1, 1) := by decide +kernel
theorem dX7_feed_21 : decode cX7_feed 21 = .ok (.iload_n 2, 1) := by decide +kernel
theorem dX7_feed_22 : decode cX7_feed 22 = .ok (.iload_n 3, 1) := by decide +kernel
theorem dX7_feed_23 : decode cX7_feed 23 = .ok (.iload 4, 2) := by decide +kernel
theorem dX7_feed_25 : decode cX7_feed 25 = .ok (.iload 5, 2) := by decide +kernel
theorem dX7_feed_27 : decode cX7_feed 27 = .ok (.iload 7, 2) := by decide +kernel
theorem dX7_feed_29 : decode cX7_feed 29 = .ok (.invokestatic 139, 3) := by decide +kernel
theorem dX7_feed_32 : decode cX7_feed 32 = .ok (.ifCond .eq 7, 3) := by decide +kernel
theorem dX7_feed_35 : decode cX7_feed 35 = .ok (.iconst 1, 1) := by decide +kernel
theorem dX7_feed_36 : decode cX7_feed 36 = .ok (.goto 4, 3) := by decide +kernel
theorem dX7_feed_39 : decode cX7_feed 39 = .ok (.iconst 0, 1) := by decide +kernel
theorem dX7_feed_40 : decode cX7_feed 40 = .ok (.invokestatic 143, 3) := by decide +kernel
theorem dX7_feed_43 : decode cX7_feed 43 = .ok (.iadd, 1) := by decide +kernel
theorem dX7_feed_44 : decode cX7_feed 44 = .ok (.istore 6, 2) := by decide +kernel
theorem dX7_feed_46 : decode cX7_feed 46 = .ok (.iinc 7 1, 3) := by decide +kernel
theorem dX7_feed_49 : decode cX7_feed 49 = .ok (.goto (-38), 3) := by decide +kernel
theorem dX7_feed_52 : decode cX7_feed 52 = .ok (.aload_n 0, 1) := by decide +kernel
theorem dX7_feed_53 : decode cX7_feed 53 = .ok (.getfield 54, 3) := by decide +kernel
theorem dX7_feed_56 : decode cX7_feed 56 = .ok (.iload 6, 2) := by decide +kernel
theorem dX7_feed_58 : decode cX7_feed 58 = .ok (.iadd, 1) := by decide +kernel
theorem dX7_feed_59 : decode cX7_feed 59 = .ok (.sipush 700, 3) := by decide +kernel
theorem dX7_feed_62 : decode cX7_feed 62 = .ok (.if_icmp .le 5, 3) := by decide +kernel
theorem dX7_feed_65 : decode cX7_feed 65 = .ok (.iconst (-1), 1) := by decide +kernel
theorem dX7_feed_66 : decode cX7_feed 66 = .ok (.ireturn, 1) := by decide +kernel
theorem dX7_feed_67 : decode cX7_feed 67 = .ok (.iconst 0, 1) := by decide +kernel
theorem dX7_feed_68 : decode cX7_feed 68 = .ok (.istore 7, 2) := by decide +kernel
theorem dX7_feed_70 : decode cX7_feed 70 = .ok (.iload 7, 2) := by decide +kernel
theorem dX7_feed_72 : decode cX7_feed 72 = .ok (.bipush 20, 2) := by decide +kernel
theorem dX7_feed_74 : decode cX7_feed 74 = .ok (.if_icmp .ge 49, 3) := by decide +kernel
theorem dX7_feed_77 : decode cX7_feed 77 = .ok (.iload_n 1, 1) := by decide +kernel
theorem dX7_feed_78 : decode cX7_feed 78 = .ok (.iload_n 2, 1) := by decide +kernel
theorem dX7_feed_79 : decode cX7_feed 79 = .ok (.iload_n 3, 1) := by decide +kernel
theorem dX7_feed_80 : decode cX7_feed 80 = .ok (.iload 4, 2) := by decide +kernel
theorem dX7_feed_82 : decode cX7_feed 82 = .ok (.iload 5, 2) := by decide +kernel
theorem dX7_feed_84 : decode cX7_feed 84 = .ok (.iload 7, 2) := by decide +kernel
theorem dX7_feed_86 : decode cX7_feed 86 = .ok (.invokestatic 139, 3) := by decide +kernel
theorem dX7_feed_89 : decode cX7_feed 89 = .ok (.istore 8, 2) := by decide +kernel
theorem dX7_feed_91 : decode cX7_feed 91 = .ok (.iload 8, 2) := by decide +kernel
theorem dX7_feed_93 : decode cX7_feed 93 = .ok (.ifCond .eq 24, 3) := by decide +kernel
theorem dX7_feed_96 : decode cX7_feed 96 = .ok (.aload_n 0, 1) := by decide +kernel
theorem dX7_feed_97 : decode cX7_feed 97 = .ok (.getfield 7, 3) := by decide +kernel
theorem dX7_feed_100 : decode cX7_feed 100 = .ok (.aload_n 0, 1) := by decide +kernel
theorem dX7_feed_101 : decode cX7_feed 101 = .ok (.getfield 54, 3) := by decide +kernel
theorem dX7_feed_104 : decode cX7_feed 104 = .ok (.iload 8, 2) := by decide +kernel
theorem dX7_feed_106 : decode cX7_feed 106 = .ok (.iastore, 1) := by decide +kernel
theorem dX7_feed_107 : decode cX7_feed 107 = .ok (.aload_n 0, 1) := by decide +kernel
theorem dX7_feed_108 : decode cX7_feed 108 = .ok (.dup, 1) := by decide +kernel
theorem dX7_feed_109 : decode cX7_feed 109 = .ok (.getfield 54, 3) := by decide +kernel
theorem dX7_feed_112 : decode cX7_feed 112 = .ok (.iconst 1, 1) := by decide +kernel
theorem dX7_feed_113 : decode cX7_feed 113 = .ok (.iadd, 1) := by decide +kernel
theorem dX7_feed_114 : decode cX7_feed 114 = .ok (.putfield 54, 3) := by decide +kernel
theorem dX7_feed_117 : decode cX7_feed 117 = .ok (.iinc 7 1, 3) := by decide +kernel
theorem dX7_feed_120 : decode cX7_feed 120 = .ok (.goto (-50), 3) := by decide +kernel
theorem dX7_feed_123 : decode cX7_feed 123 = .ok (.aload_n 0, 1) := by decide +kernel
theorem dX7_feed_124 : decode cX7_feed 124 = .ok (.getfield 54, 3) := by decide +kernel
theorem dX7_feed_127 : decode cX7_feed 127 = .ok (.ireturn, 1) := by decide +kernel
theorem hd_X7_feed : yX7_feed.cls = RX7 ∧ yX7_feed.cls ≠ "java/lang/invoke/MethodHandle" ∧ yX7_feed.cls ≠ "java/lang/invoke/VarHandle" ∧ (parseMethodDescriptor yX7_feed.desc).map (fun d => d.parameters.length) = some 5 := by decide +kernel
set_option maxRecDepth 100000 in
set_option maxHeartbeats 4000000 in
theorem c_X7_feed (l : Launch) (D : va_G) (g : xG) (tb : List xQ) (hT : x_T g tb) {a1 : Int32} {a2 : Int32} {a3 : Int32} {a4 : Int32} {a5 : Int32} (h0 : x_md tb) {M : xM} {r : Int32} {M' : xM} (hf : f_X7_feed a1 a2 a3 a4 a5 M = some (r, M')) :
    cI l D g tb yX7_feed cX7_feed 9 .int ({ frames := 1, cells := 0, slots := 0, locals := 26 } : Room) [.ref (g.1 5 2500), .int a1, .int a2, .int a3, .int a4, .int a5] M r M' := by
  refine x_startI (own := RX7) (by decide +kernel) rfl rfl (Nat.le_of_ble_eq_true rfl) hT ?_
  intro p e s m args below meth c Q C0 hend
  have B40 : ∀ (k11 : Int32 → Int32 → xM → Option (Int32 × xM)) (hk11 : ∀ (v6 : Int32) (v7 : Int32)  (M : xM), k11 v6 v7 M = some (r, M') → WW p l e ({ frames := 1, cells := 0, slots := 0, locals := 26 } : Room) s m args below meth c 0 0 Q 9 D g tb 11 [(0, .ref (g.1 5 2500)), (1, .int a1), (2, .int a2), (3, .int a3), (4, .int a4), (5, .int a5), (6, .int v6), (7, .int v7)] [] M), ∀ (v7 : Int32) (s0 : Int32) (s1 : Int32)  (M : xM), f_X7_feed_c40 k11 a1 a2 a3 a4 a5 v7 s0 s1 M = some (r, M') → WW p l e ({ frames := 1, cells := 0, slots := 0, locals := 26 } : Room) s m args below meth c 0 0 Q 9 D g tb 40 [(0, .ref (g.1 5 2500)), (1, .int a1), (2, .int a2), (3, .int a3), (4, .int a4), (5, .int a5), (7, .int v7)] [.int s0, .int s1] M := by
    intro k11 hk11 v7 s0 s1  M hf
    unfold f_X7_feed_c40 at hf
    obtain ⟨r15, M14, hc13, hf⟩ := bd2_e hf
    refine r_callSi C0 (As := [.int s0]) (rest := [.int s1]) (c_X7_flag l D g tb hT  hc13) w6_32 w6_33 w1_14 w6_34 hd_X7_flag rfl ⟨rfl, rfl⟩ ⟨Nat.le_of_ble_eq_true rfl, Nat.le_of_ble_eq_true rfl⟩ (by decide) (by decide) rfl (Nat.le_of_ble_eq_true rfl) dX7_feed_40 ?_
    refine r_iadd C0 dX7_feed_43 ?_
    refine r_istore C0 (lv2 := [(6, .int (s1 + r15)), (0, .ref (g.1 5 2500)), (1, .int a1), (2, .int a2), (3, .int a3), (4, .int a4), (5, .int a5), (7, .int v7)]) (by decide) rfl dX7_feed_44 ?_
    refine r_iincc C0 7 rfl (k0 := 1) (by decide) (by decide) (lv2 := [(7, .int (v7 + 1)), (6, .int (s1 + r15)), (0, .ref (g.1 5 2500)), (1, .int a1), (2, .int a2), (3, .int a3), (4, .int a4), (5, .int a5)]) rfl dX7_feed_46 ?_
    refine r_goto C0 (tgt := 11) (by decide) dX7_feed_49 ?_
    refine WW.sub [2, 3, 4, 5, 6, 7, 1, 0] rfl ?_
    exact hk11 _ _   _ hf
  have B117 : ∀ (k70 : Int32 → xM → Option (Int32 × xM)) (hk70 : ∀ (v7 : Int32)  (M : xM), k70 v7 M = some (r, M') → WW p l e ({ frames := 1, cells := 0, slots := 0, locals := 26 } : Room) s m args below meth c 0 0 Q 9 D g tb 70 [(0, .ref (g.1 5 2500)), (1, .int a1), (2, .int a2), (3, .int a3), (4, .int a4), (5, .int a5), (7, .int v7)] [] M), ∀ (v7 : Int32)  (M : xM), f_X7_feed_c117 k70 a1 a2 a3 a4 a5 v7 M = some (r, M') → WW p l e ({ frames := 1, cells := 0, slots := 0, locals := 26 } : Room) s m args below meth c 0 0 Q 9 D g tb 117 [(0, .ref (g.1 5 2500)), (1, .int a1), (2, .int a2), (3, .int a3), (4, .int a4), (5, .int a5), (7, .int v7)] [] M := by
    intro k70 hk70 v7  M hf
    unfold f_X7_feed_c117 at hf
    refine r_iincc C0 6 rfl (k0 := 1) (by decide) (by decide) (lv2 := [(7, .int (v7 + 1)), (0, .ref (g.1 5 2500)), (1, .int a1), (2, .int a2), (3, .int a3), (4, .int a4), (5, .int a5)]) rfl dX7_feed_117 ?_
    refine r_goto C0 (tgt := 70) (by decide) dX7_feed_120 ?_
    refine WW.sub [1, 2, 3, 4, 5, 6, 0] rfl ?_
    exact hk70 _   _ hf
  have B70 : ∀ (k70 : Int32 → xM → Option (Int32 × xM)) (hk70 : ∀ (v7 : Int32)  (M : xM), k70 v7 M = some (r, M') → WW p l e ({ frames := 1, cells := 0, slots := 0, locals := 26 } : Room) s m args below meth c 0 0 Q 9 D g tb 70 [(0, .ref (g.1 5 2500)), (1, .int a1), (2, .int a2), (3, .int a3), (4, .int a4), (5, .int a5), (7, .int v7)] [] M), ∀ (v7 : Int32)  (M : xM), fb_X7_feed_c70 k70 a1 a2 a3 a4 a5 v7 M = some (r, M') → WW p l e ({ frames := 1, cells := 0, slots := 0, locals := 26 } : Room) s m args below meth c 0 0 Q 9 D g tb 70 [(0, .ref (g.1 5 2500)), (1, .int a1), (2, .int a2), (3, .int a3), (4, .int a4), (5, .int a5), (7, .int v7)] [] M := by
    intro k70 hk70 v7  M hf
    unfold fb_X7_feed_c70 at hf
    refine r_iload C0 6 rfl dX7_feed_70 ?_
    refine r_bipush C0 (v := 20) dX7_feed_72 rfl ?_
    refine r_icmp_ge C0 (tgt := 123) (by decide) dX7_feed_74 (fun q7 => ?_) (fun q7 => ?_)
    · have hf := ie_t hf q7
      refine r_aload_n C0 (kk := 0) 0 rfl dX7_feed_123 ?_
      refine r_get5 C0 h0.1 1 (by decide) (v := .int (M 2501)) rfl rfl w6_217 dX7_feed_124 ?_
      exact hend hf dX7_feed_127
    · have hf := ie_f hf q7
      refine r_iload_n C0 (kk := 1) 1 rfl dX7_feed_77 ?_
      refine r_iload_n C0 (kk := 2) 2 rfl dX7_feed_78 ?_
      refine r_iload_n C0 (kk := 3) 3 rfl dX7_feed_79 ?_
      refine r_iload C0 4 rfl dX7_feed_80 ?_
      refine r_iload C0 5 rfl dX7_feed_82 ?_
      refine r_iload C0 6 rfl dX7_feed_84 ?_
      obtain ⟨r10, M9, hc8, hf⟩ := bd2_e hf
      refine r_callSi C0 (As := [.int a1, .int a2, .int a3, .int a4, .int a5, .int v7]) (rest := []) (c_X7_byteOf l D g tb hT  hc8) w7_45 w7_46 w1_14 w7_47 hd_X7_byteOf rfl ⟨rfl, rfl⟩ ⟨Nat.le_of_ble_eq_true rfl, Nat.le_of_ble_eq_true rfl⟩ (by decide) (by decide) rfl (Nat.le_of_ble_eq_true rfl) dX7_feed_86 ?_
      refine r_istore C0 (lv2 := [(8, .int r10), (0, .ref (g.1 5 2500)), (1, .int a1), (2, .int a2), (3, .int a3), (4, .int a4), (5, .int a5), (7, .int v7)]) (by decide) rfl dX7_feed_89 ?_
      refine r_iload C0 0 rfl dX7_feed_91 ?_
      refine r_if_eq C0 (tgt := 117) (by decide) dX7_feed_93 (fun q11 => ?_) (fun q11 => ?_)
      · have hf := ie_t hf q11
        refine WW.sub [1, 2, 3, 4, 5, 6, 7] rfl ?_
        exact B117 k70 hk70 _   _ hf
      · have hf := ie_f hf q11
        refine r_aload_n C0 (kk := 0) 1 rfl dX7_feed_96 ?_
        refine r_get5 C0 h0.1 0 (by decide) (v := .ref (g.1 6 4252)) rfl rfl w6_216 dX7_feed_97 ?_
        refine r_aload_n C0 (kk := 0) 1 rfl dX7_feed_100 ?_
        refine r_get5 C0 h0.1 1 (by decide) (v := .int (M9 2501)) rfl rfl w6_217 dX7_feed_101 ?_
        refine r_iload C0 0 rfl dX7_feed_104 ?_
        obtain ⟨q12, hf⟩ := gd_e hf
        refine r_iastc C0 h0.2.2.2.2.2.2.2.2.2 q12 rfl dX7_feed_106 ?_
        refine r_aload_n C0 (kk := 0) 1 rfl dX7_feed_107 ?_
        refine r_dup C0 rfl dX7_feed_108 ?_
        refine r_get5 C0 h0.1 1 (by decide) (v := .int ((upd M9 (4252 + (M9 2501).toNatClampNeg) r10) 2501)) rfl rfl w6_217 dX7_feed_109 ?_
        refine r_iconst C0 (v := 1) dX7_feed_112 rfl ?_
        refine r_iadd C0 dX7_feed_113 ?_
        refine r_put5 C0 h0.1 1 rfl rfl w6_217 rfl rfl rfl dX7_feed_114 ?_
        refine WW.sub [1, 2, 3, 4, 5, 6, 7] rfl ?_
        exact B117 k70 hk70 _   _ hf
  have L70 : ∀ (v7 : Int32)  (M : xM), f_X7_feed_c70  a1 a2 a3 a4 a5 v7 M = some (r, M') → WW p l e ({ frames := 1, cells := 0, slots := 0, locals := 26 } : Room) s m args below meth c 0 0 Q 9 D g tb 70 [(0, .ref (g.1 5 2500)), (1, .int a1), (2, .int a2), (3, .int a3), (4, .int a4), (5, .int a5), (7, .int v7)] [] M := lp_ind (P := fun f => ∀ (v7 : Int32)  (M : xM), f v7 M = some (r, M') → WW p l e ({ frames := 1, cells := 0, slots := 0, locals := 26 } : Room) s m args below meth c 0 0 Q 9 D g tb 70 [(0, .ref (g.1 5 2500)), (1, .int a1), (2, .int a2), (3, .int a3), (4, .int a4), (5, .int a5), (7, .int v7)] [] M) (fun _ _ h => none_ne h) (fun f hf => B70 f hf) FU
  have B11 : ∀ (k11 : Int32 → Int32 → xM → Option (Int32 × xM)) (hk11 : ∀ (v6 : Int32) (v7 : Int32)  (M : xM), k11 v6 v7 M = some (r, M') → WW p l e ({ frames := 1, cells := 0, slots := 0, locals := 26 } : Room) s m args below meth c 0 0 Q 9 D g tb 11 [(0, .ref (g.1 5 2500)), (1, .int a1), (2, .int a2), (3, .int a3), (4, .int a4), (5, .int a5), (6, .int v6), (7, .int v7)] [] M), ∀ (v6 : Int32) (v7 : Int32)  (M : xM), fb_X7_feed_c11 k11 a1 a2 a3 a4 a5 v6 v7 M = some (r, M') → WW p l e ({ frames := 1, cells := 0, slots := 0, locals := 26 } : Room) s m args below meth c 0 0 Q 9 D g tb 11 [(0, .ref (g.1 5 2500)), (1, .int a1), (2, .int a2), (3, .int a3), (4, .int a4), (5, .int a5), (6, .int v6), (7, .int v7)] [] M := by
    intro k11 hk11 v6 v7  M hf
    unfold fb_X7_feed_c11 at hf
    refine r_iload C0 7 rfl dX7_feed_11 ?_
    refine r_bipush C0 (v := 20) dX7_feed_13 rfl ?_
    refine r_icmp_ge C0 (tgt := 52) (by decide) dX7_feed_15 (fun q1 => ?_) (fun q1 => ?_)
    · have hf := ie_t hf q1
      refine r_aload_n C0 (kk := 0) 0 rfl dX7_feed_52 ?_
      refine r_get5 C0 h0.1 1 (by decide) (v := .int (M 2501)) rfl rfl w6_217 dX7_feed_53 ?_
      refine r_iload C0 6 rfl dX7_feed_56 ?_
      refine r_iadd C0 dX7_feed_58 ?_
      refine r_sipush C0 (v := 700) dX7_feed_59 rfl ?_
      refine r_icmp_le C0 (tgt := 67) (by decide) dX7_feed_62 (fun q2 => ?_) (fun q2 => ?_)
      · have hf := ie_t hf q2
        refine r_iconst C0 (v := 0) dX7_feed_67 rfl ?_
        refine r_istore C0 (lv2 := [(7, .int 0), (0, .ref (g.1 5 2500)), (1, .int a1), (2, .int a2), (3, .int a3), (4, .int a4), (5, .int a5), (6, .int v6)]) (by decide) rfl dX7_feed_68 ?_
        refine WW.sub [1, 2, 3, 4, 5, 6, 0] rfl ?_
        exact L70   _   _ hf
      · have hf := ie_f hf q2
        refine r_iconst C0 (v := (-1)) dX7_feed_65 rfl ?_
        exact hend hf dX7_feed_66
    · have hf := ie_f hf q1
      refine r_iload C0 6 rfl dX7_feed_18 ?_
      refine r_iload_n C0 (kk := 1) 1 rfl dX7_feed_20 ?_
      refine r_iload_n C0 (kk := 2) 2 rfl dX7_feed_21 ?_
      refine r_iload_n C0 (kk := 3) 3 rfl dX7_feed_22 ?_
      refine r_iload C0 4 rfl dX7_feed_23 ?_
      refine r_iload C0 5 rfl dX7_feed_25 ?_
      refine r_iload C0 7 rfl dX7_feed_27 ?_
      obtain ⟨r5, M4, hc3, hf⟩ := bd2_e hf
      refine r_callSi C0 (As := [.int a1, .int a2, .int a3, .int a4, .int a5, .int v7]) (rest := [.int v6]) (c_X7_byteOf l D g tb hT  hc3) w7_45 w7_46 w1_14 w7_47 hd_X7_byteOf rfl ⟨rfl, rfl⟩ ⟨Nat.le_of_ble_eq_true rfl, Nat.le_of_ble_eq_true rfl⟩ (by decide) (by decide) rfl (Nat.le_of_ble_eq_true rfl) dX7_feed_29 ?_
      refine r_if_eq C0 (tgt := 39) (by decide) dX7_feed_32 (fun q6 => ?_) (fun q6 => ?_)
      · have hf := ie_t hf q6
        refine r_iconst C0 (v := 0) dX7_feed_39 rfl ?_
        refine WW.sub [0, 1, 2, 3, 4, 5, 7] rfl ?_
        exact B40 k11 hk11 _ _ _   _ hf
      · have hf := ie_f hf q6
        refine r_iconst C0 (v := 1) dX7_feed_35 rfl ?_
        refine r_goto C0 (tgt := 40) (by decide) dX7_feed_36 ?_
        refine WW.sub [0, 1, 2, 3, 4, 5, 7] rfl ?_
        exact B40 k11 hk11 _ _ _   _ hf
  have L11 : ∀ (v6 : Int32) (v7 : Int32)  (M : xM), f_X7_feed_c11  a1 a2 a3 a4 a5 v6 v7 M = some (r, M') → WW p l e ({ frames := 1, cells := 0, slots := 0, locals := 26 } : Room) s m args below meth c 0 0 Q 9 D g tb 11 [(0, .ref (g.1 5 2500)), (1, .int a1), (2, .int a2), (3, .int a3), (4, .int a4), (5, .int a5), (6, .int v6), (7, .int v7)] [] M := lp_ind (P := fun f => ∀ (v6 : Int32) (v7 : Int32)  (M : xM), f v6 v7 M = some (r, M') → WW p l e ({ frames := 1, cells := 0, slots := 0, locals := 26 } : Room) s m args below meth c 0 0 Q 9 D g tb 11 [(0, .ref (g.1 5 2500)), (1, .int a1), (2, .int a2), (3, .int a3), (4, .int a4), (5, .int a5), (6, .int v6), (7, .int v7)] [] M) (fun _ _ _ h => none_ne h) (fun f hf => B11 f hf) FU
  unfold f_X7_feed at hf
  refine r_aload_n C0 (kk := 0) 0 rfl dX7_feed_0 ?_
  refine r_iconst C0 (v := 0) dX7_feed_1 rfl ?_
  refine r_put5 C0 h0.1 4 rfl rfl w6_220 rfl rfl rfl dX7_feed_2 ?_
  refine r_iconst C0 (v := 0) dX7_feed_5 rfl ?_
  refine r_istore C0 (lv2 := [(6, .int 0), (0, .ref (g.1 5 2500)), (1, .int a1), (2, .int a2), (3, .int a3), (4, .int a4), (5, .int a5)]) (by decide) rfl dX7_feed_6 ?_
  refine r_iconst C0 (v := 0) dX7_feed_8 rfl ?_
  refine r_istore C0 (lv2 := [(7, .int 0), (6, .int 0), (0, .ref (g.1 5 2500)), (1, .int a1), (2, .int a2), (3, .int a3), (4, .int a4), (5, .int a5)]) (by decide) rfl dX7_feed_9 ?_
  refine WW.sub [2, 3, 4, 5, 6, 7, 1, 0] rfl ?_
  exact L11   _ _   _ hf
theorem dX7_errorCode_0 : decode cX7_errorCode 0 = .ok (.aload_n 0, 1) := by decide +kernel
theorem dX7_errorCode_1 : decode cX7_errorCode 1 = .ok (.aload_n 0, 1) := by decide +kernel
theorem dX7_errorCode_2 : decode cX7_errorCode 2 = .ok (.getfield 170, 3) := by decide +kernel
theorem dX7_errorCode_5 : decode cX7_errorCode 5 = .ok (.invokevirtual 301, 3) := by decide +kernel
theorem dX7_errorCode_8 : decode cX7_errorCode 8 = .ok (.ireturn, 1) := by decide +kernel
theorem hd_X7_errorCode : yX7_errorCode.cls = RX7 ∧ yX7_errorCode.cls ≠ "java/lang/invoke/MethodHandle" ∧ yX7_errorCode.cls ≠ "java/lang/invoke/VarHandle" ∧ (parseMethodDescriptor yX7_errorCode.desc).map (fun d => d.parameters.length) = some 0 := by decide +kernel
set_option maxRecDepth 100000 in
set_option maxHeartbeats 4000000 in
theorem c_X7_errorCode (l : Launch) (D : va_G) (g : xG) (tb : List xQ) (hT : x_T g tb)  (h0 : x_md tb) {M : xM} {r : Int32} {M' : xM} (hf : f_X7_errorCode  M = some (r, M')) :
    cI l D g tb yX7_errorCode cX7_errorCode 1 .int ({ frames := 1, cells := 0, slots := 0, locals := 21 } : Room) [.ref (g.1 5 2500)] M r M' := by
  refine x_startI (own := RX7) (by decide +kernel) rfl rfl (Nat.le_of_ble_eq_true rfl) hT ?_
  intro p e s m args below meth c Q C0 hend
  unfold f_X7_errorCode at hf
  refine r_aload_n C0 (kk := 0) 0 rfl dX7_errorCode_0 ?_
  refine r_aload_n C0 (kk := 0) 0 rfl dX7_errorCode_1 ?_
  refine r_get5 C0 h0.1 2 (by decide) (v := .int (M 2502)) rfl rfl w6_218 dX7_errorCode_2 ?_
  obtain ⟨r3, M2, hc1, hf⟩ := bd2_e hf
  refine r_callVi C0 (As := [.int (M 2502)]) (rest := []) (c_X7_plain l D g tb hT h0 hc1) w7_61 w7_63 wp5_11 w1_14 w7_64 (x_rec5 C0 h0.1) hd_X7_plain rfl ⟨rfl, rfl⟩ ⟨Nat.le_of_ble_eq_true rfl, Nat.le_of_ble_eq_true rfl⟩ (by decide) (by decide) rfl (Nat.le_of_ble_eq_true rfl) dX7_errorCode_5 ?_
  exact hend hf dX7_errorCode_8
theorem dX7_fogIn_0 : decode cX7_fogIn 0 = .ok (.aload_n 0, 1) := by decide +kernel
theorem dX7_fogIn_1 : decode cX7_fogIn 1 = .ok (.iconst 0, 1) := by decide +kernel
theorem dX7_fogIn_2 : decode cX7_fogIn 2 = .ok (.putfield 60, 3) := by decide +kernel
theorem dX7_fogIn_5 : decode cX7_fogIn 5 = .ok (.aload_n 0, 1) := by decide +kernel
theorem dX7_fogIn_6 : decode cX7_fogIn 6 = .ok (.iload_n 1, 1) := by decide +kernel
theorem dX7_fogIn_7 : decode cX7_fogIn 7 = .ok (.iconst 0, 1) := by decide +kernel
theorem dX7_fogIn_8 : decode cX7_fogIn 8 = .ok (.ldc 169, 2) := by decide +kernel
theorem dX7_fogIn_10 : decode cX7_fogIn 10 = .ok (.invokestatic 147, 3) := by decide +kernel
theorem dX7_fogIn_13 : decode cX7_fogIn 13 = .ok (.iconst 1, 1) := by decide +kernel
theorem dX7_fogIn_14 : decode cX7_fogIn 14 = .ok (.invokevirtual 304, 3) := by decide +kernel
theorem dX7_fogIn_17 : decode cX7_fogIn 17 = .ok (.ifCond .eq 7, 3) := by decide +kernel
theorem dX7_fogIn_20 : decode cX7_fogIn 20 = .ok (.iconst 0, 1) := by decide +kernel
theorem dX7_fogIn_21 : decode cX7_fogIn 21 = .ok (.goto 8, 3) := by decide +kernel
theorem dX7_fogIn_24 : decode cX7_fogIn 24 = .ok (.aload_n 0, 1) := by decide +kernel
theorem dX7_fogIn_25 : decode cX7_fogIn 25 = .ok (.iload_n 1, 1) := by decide +kernel
theorem dX7_fogIn_26 : decode cX7_fogIn 26 = .ok (.invokevirtual 124, 3) := by decide +kernel
theorem dX7_fogIn_29 : decode cX7_fogIn 29 = .ok (.ireturn, 1) := by decide +kernel
theorem hd_X7_fogIn : yX7_fogIn.cls = RX7 ∧ yX7_fogIn.cls ≠ "java/lang/invoke/MethodHandle" ∧ yX7_fogIn.cls ≠ "java/lang/invoke/VarHandle" ∧ (parseMethodDescriptor yX7_fogIn.desc).map (fun d => d.parameters.length) = some 1 := by decide +kernel
set_option maxRecDepth 100000 in
set_option maxHeartbeats 4000000 in
theorem c_X7_fogIn (l : Launch) (D : va_G) (g : xG) (tb : List xQ) (hT : x_T g tb) {a1 : Int32} (h0 : x_md tb) {M : xM} {r : Int32} {M' : xM} (hf : f_X7_fogIn a1 M = some (r, M')) :
    cI l D g tb yX7_fogIn cX7_fogIn 2 .int ({ frames := 1, cells := 0, slots := 0, locals := 22 } : Room) [.ref (g.1 5 2500), .int a1] M r M' := by
  refine x_startI (own := RX7) (by decide +kernel) rfl rfl (Nat.le_of_ble_eq_true rfl) hT ?_
  intro p e s m args below meth c Q C0 hend
  unfold f_X7_fogIn at hf
  refine r_aload_n C0 (kk := 0) 0 rfl dX7_fogIn_0 ?_
  refine r_iconst C0 (v := 0) dX7_fogIn_1 rfl ?_
  refine r_put5 C0 h0.1 4 rfl rfl w6_220 rfl rfl rfl dX7_fogIn_2 ?_
  refine r_aload_n C0 (kk := 0) 0 rfl dX7_fogIn_5 ?_
  refine r_iload_n C0 (kk := 1) 1 rfl dX7_fogIn_6 ?_
  refine r_iconst C0 (v := 0) dX7_fogIn_7 rfl ?_
  refine r_ldc C0 w6_18 dX7_fogIn_8 ?_
  obtain ⟨r3, M2, hc1, hf⟩ := bd2_e hf
  refine r_callSi C0 (As := [.int a1, .int 0, .int 99999]) (rest := [.ref (g.1 5 2500)]) (c_X7_inRange l D g tb hT  hc1) w6_12 w6_13 w1_14 w6_14 hd_X7_inRange rfl ⟨rfl, rfl⟩ ⟨Nat.le_of_ble_eq_true rfl, Nat.le_of_ble_eq_true rfl⟩ (by decide) (by decide) rfl (Nat.le_of_ble_eq_true rfl) dX7_fogIn_10 ?_
  refine r_iconst C0 (v := 1) dX7_fogIn_13 rfl ?_
  obtain ⟨r6, M5, hc4, hf⟩ := bd2_e hf
  refine r_callVi C0 (As := [.int r3, .int 1]) (rest := []) (c_X7_fails l D g tb hT h0 hc4) w7_93 w7_95 wp5_12 w1_14 w7_96 (x_rec5 C0 h0.1) hd_X7_fails rfl ⟨rfl, rfl⟩ ⟨Nat.le_of_ble_eq_true rfl, Nat.le_of_ble_eq_true rfl⟩ (by decide) (by decide) rfl (Nat.le_of_ble_eq_true rfl) dX7_fogIn_14 ?_
  refine r_if_eq C0 (tgt := 24) (by decide) dX7_fogIn_17 (fun q7 => ?_) (fun q7 => ?_)
  · have hf := ie_t hf q7
    refine r_aload_n C0 (kk := 0) 0 rfl dX7_fogIn_24 ?_
    refine r_iload_n C0 (kk := 1) 1 rfl dX7_fogIn_25 ?_
    obtain ⟨r10, M9, hc8, hf⟩ := bd2_e hf
    refine r_callVi C0 (As := [.int a1]) (rest := []) (c_X7_fogAt l D g tb hT h0 hc8) w6_143 w6_145 wp4_11 w1_14 w6_146 (x_rec5 C0 h0.1) hd_X7_fogAt rfl ⟨rfl, rfl⟩ ⟨Nat.le_of_ble_eq_true rfl, Nat.le_of_ble_eq_true rfl⟩ (by decide) (by decide) rfl (Nat.le_of_ble_eq_true rfl) dX7_fogIn_26 ?_
    exact hend hf dX7_fogIn_29
  · have hf := ie_f hf q7
    refine r_iconst C0 (v := 0) dX7_fogIn_20 rfl ?_
    refine r_goto C0 (tgt := 29) (by decide) dX7_fogIn_21 ?_
    exact hend hf dX7_fogIn_29
theorem dX7_asked_0 : decode cX7_asked 0 = .ok (.aload_n 0, 1) := by decide +kernel
theorem dX7_asked_1 : decode cX7_asked 1 = .ok (.iload_n 1, 1) := by decide +kernel
theorem dX7_asked_2 : decode cX7_asked 2 = .ok (.invokevirtual 311, 3) := by decide +kernel
theorem dX7_asked_5 : decode cX7_asked 5 = .ok (.ifCond .eq 12, 3) := by decide +kernel
theorem dX7_asked_8 : decode cX7_asked 8 = .ok (.aload_n 0, 1) := by decide +kernel
theorem dX7_asked_9 : decode cX7_asked 9 = .ok (.iload_n 1, 1) := by decide +kernel
theorem dX7_asked_10 : decode cX7_asked 10 = .ok (.iload_n 2, 1) := by decide +kernel
theorem dX7_asked_11 : decode cX7_asked 11 = .ok (.invokevirtual 63, 3) := by decide +kernel
theorem dX7_asked_14 : decode cX7_asked 14 = .ok (.goto 4, 3) := by decide +kernel
theorem dX7_asked_17 : decode cX7_asked 17 = .ok (.iconst 0, 1) := by decide +kernel
theorem dX7_asked_18 : decode cX7_asked 18 = .ok (.ireturn, 1) := by decide +kernel
theorem hd_X7_asked : yX7_asked.cls = RX7 ∧ yX7_asked.cls ≠ "java/lang/invoke/MethodHandle" ∧ yX7_asked.cls ≠ "java/lang/invoke/VarHandle" ∧ (parseMethodDescriptor yX7_asked.desc).map (fun d => d.parameters.length) = some 2 := by decide +kernel
set_option maxRecDepth 100000 in
set_option maxHeartbeats 4000000 in
theorem c_X7_asked (l : Launch) (D : va_G) (g : xG) (tb : List xQ) (hT : x_T g tb) {a1 : Int32} {a2 : Int32} (h0 : x_md tb) {M : xM} {r : Int32} {M' : xM} (hf : f_X7_asked a1 a2 M = some (r, M')) :
    cI l D g tb yX7_asked cX7_asked 3 .int ({ frames := 2, cells := 0, slots := 0, locals := 43 } : Room) [.ref (g.1 5 2500), .int a1, .int a2] M r M' := by
  refine x_startI (own := RX7) (by decide +kernel) rfl rfl (Nat.le_of_ble_eq_true rfl) hT ?_
  intro p e s m args below meth c Q C0 hend
  unfold f_X7_asked at hf
  refine r_aload_n C0 (kk := 0) 0 rfl dX7_asked_0 ?_
  refine r_iload_n C0 (kk := 1) 1 rfl dX7_asked_1 ?_
  obtain ⟨r3, M2, hc1, hf⟩ := bd2_e hf
  refine r_callVi C0 (As := [.int a1]) (rest := []) (c_X7_isStall l D g tb hT h0 hc1) w7_137 w7_139 wp5_15 w1_14 w7_140 (x_rec5 C0 h0.1) hd_X7_isStall rfl ⟨rfl, rfl⟩ ⟨Nat.le_of_ble_eq_true rfl, Nat.le_of_ble_eq_true rfl⟩ (by decide) (by decide) rfl (Nat.le_of_ble_eq_true rfl) dX7_asked_2 ?_
  refine r_if_eq C0 (tgt := 17) (by decide) dX7_asked_5 (fun q4 => ?_) (fun q4 => ?_)
  · have hf := ie_t hf q4
    refine r_iconst C0 (v := 0) dX7_asked_17 rfl ?_
    exact hend hf dX7_asked_18
  · have hf := ie_f hf q4
    refine r_aload_n C0 (kk := 0) 0 rfl dX7_asked_8 ?_
    refine r_iload_n C0 (kk := 1) 1 rfl dX7_asked_9 ?_
    refine r_iload_n C0 (kk := 2) 2 rfl dX7_asked_10 ?_
    obtain ⟨r7, M6, hc5, hf⟩ := bd2_e hf
    refine r_callVi C0 (As := [.int a1, .int a2]) (rest := []) (c_X7_st l D g tb hT h0 hc5) w6_111 w6_113 wp4_3 w1_14 w6_114 (x_rec5 C0 h0.1) hd_X7_st rfl ⟨rfl, rfl⟩ ⟨Nat.le_of_ble_eq_true rfl, Nat.le_of_ble_eq_true rfl⟩ (by decide) (by decide) rfl (Nat.le_of_ble_eq_true rfl) dX7_asked_11 ?_
    refine r_goto C0 (tgt := 18) (by decide) dX7_asked_14 ?_
    exact hend hf dX7_asked_18
theorem dX7_lanternOf_0 : decode cX7_lanternOf 0 = .ok (.aload_n 0, 1) := by decide +kernel
theorem dX7_lanternOf_1 : decode cX7_lanternOf 1 = .ok (.iload_n 1, 1) := by decide +kernel
theorem dX7_lanternOf_2 : decode cX7_lanternOf 2 = .ok (.iconst 1, 1) := by decide +kernel
theorem dX7_lanternOf_3 : decode cX7_lanternOf 3 = .ok (.invokevirtual 317, 3) := by decide +kernel
theorem dX7_lanternOf_6 : decode cX7_lanternOf 6 = .ok (.ireturn, 1) := by decide +kernel
theorem hd_X7_lanternOf : yX7_lanternOf.cls = RX7 ∧ yX7_lanternOf.cls ≠ "java/lang/invoke/MethodHandle" ∧ yX7_lanternOf.cls ≠ "java/lang/invoke/VarHandle" ∧ (parseMethodDescriptor yX7_lanternOf.desc).map (fun d => d.parameters.length) = some 1 := by decide +kernel
set_option maxRecDepth 100000 in
set_option maxHeartbeats 4000000 in
theorem c_X7_lanternOf (l : Launch) (D : va_G) (g : xG) (tb : List xQ) (hT : x_T g tb) {a1 : Int32} (h0 : x_md tb) {M : xM} {r : Int32} {M' : xM} (hf : f_X7_lanternOf a1 M = some (r, M')) :
    cI l D g tb yX7_lanternOf cX7_lanternOf 2 .int ({ frames := 3, cells := 0, slots := 0, locals := 65 } : Room) [.ref (g.1 5 2500), .int a1] M r M' := by
  refine x_startI (own := RX7) (by decide +kernel) rfl rfl (Nat.le_of_ble_eq_true rfl) hT ?_
  intro p e s m args below meth c Q C0 hend
  unfold f_X7_lanternOf at hf
  refine r_aload_n C0 (kk := 0) 0 rfl dX7_lanternOf_0 ?_
  refine r_iload_n C0 (kk := 1) 1 rfl dX7_lanternOf_1 ?_
  refine r_iconst C0 (v := 1) dX7_lanternOf_2 rfl ?_
  obtain ⟨r3, M2, hc1, hf⟩ := bd2_e hf
  refine r_callVi C0 (As := [.int a1, .int 1]) (rest := []) (c_X7_asked l D g tb hT h0 hc1) w7_133 w7_135 wp5_14 w1_14 w7_136 (x_rec5 C0 h0.1) hd_X7_asked rfl ⟨rfl, rfl⟩ ⟨Nat.le_of_ble_eq_true rfl, Nat.le_of_ble_eq_true rfl⟩ (by decide) (by decide) rfl (Nat.le_of_ble_eq_true rfl) dX7_lanternOf_3 ?_
  exact hend hf dX7_lanternOf_6
theorem dX7_textureOf_0 : decode cX7_textureOf 0 = .ok (.aload_n 0, 1) := by decide +kernel
theorem dX7_textureOf_1 : decode cX7_textureOf 1 = .ok (.iload_n 1, 1) := by decide +kernel
theorem dX7_textureOf_2 : decode cX7_textureOf 2 = .ok (.iconst 2, 1) := by decide +kernel
theorem dX7_textureOf_3 : decode cX7_textureOf 3 = .ok (.invokevirtual 317, 3) := by decide +kernel
theorem dX7_textureOf_6 : decode cX7_textureOf 6 = .ok (.ireturn, 1) := by decide +kernel
theorem hd_X7_textureOf : yX7_textureOf.cls = RX7 ∧ yX7_textureOf.cls ≠ "java/lang/invoke/MethodHandle" ∧ yX7_textureOf.cls ≠ "java/lang/invoke/VarHandle" ∧ (parseMethodDescriptor yX7_textureOf.desc).map (fun d => d.parameters.length) = some 1 := by decide +kernel
set_option maxRecDepth 100000 in
set_option maxHeartbeats 4000000 in
theorem c_X7_textureOf (l : Launch) (D : va_G) (g : xG) (tb : List xQ) (hT : x_T g tb) {a1 : Int32} (h0 : x_md tb) {M : xM} {r : Int32} {M' : xM} (hf : f_X7_textureOf a1 M = some (r, M')) :
    cI l D g tb yX7_textureOf cX7_textureOf 2 .int ({ frames := 3, cells := 0, slots := 0, locals := 65 } : Room) [.ref (g.1 5 2500), .int a1] M r M' := by
  refine x_startI (own := RX7) (by decide +kernel) rfl rfl (Nat.le_of_ble_eq_true rfl) hT ?_
  intro p e s m args below meth c Q C0 hend
  unfold f_X7_textureOf at hf
  refine r_aload_n C0 (kk := 0) 0 rfl dX7_textureOf_0 ?_
  refine r_iload_n C0 (kk := 1) 1 rfl dX7_textureOf_1 ?_
  refine r_iconst C0 (v := 2) dX7_textureOf_2 rfl ?_
  obtain ⟨r3, M2, hc1, hf⟩ := bd2_e hf
  refine r_callVi C0 (As := [.int a1, .int 2]) (rest := []) (c_X7_asked l D g tb hT h0 hc1) w7_133 w7_135 wp5_14 w1_14 w7_136 (x_rec5 C0 h0.1) hd_X7_asked rfl ⟨rfl, rfl⟩ ⟨Nat.le_of_ble_eq_true rfl, Nat.le_of_ble_eq_true rfl⟩ (by decide) (by decide) rfl (Nat.le_of_ble_eq_true rfl) dX7_textureOf_3 ?_
  exact hend hf dX7_textureOf_6
theorem dX7_priceOf_0 : decode cX7_priceOf 0 = .ok (.aload_n 0, 1) := by decide +kernel
theorem dX7_priceOf_1 : decode cX7_priceOf 1 = .ok (.iload_n 1, 1) := by decide +kernel
theorem dX7_priceOf_2 : decode cX7_priceOf 2 = .ok (.iconst 3, 1) := by decide +kernel
theorem dX7_priceOf_3 : decode cX7_priceOf 3 = .ok (.invokevirtual 317, 3) := by decide +kernel
theorem dX7_priceOf_6 : decode cX7_priceOf 6 = .ok (.ireturn, 1) := by decide +kernel
theorem hd_X7_priceOf : yX7_priceOf.cls = RX7 ∧ yX7_priceOf.cls ≠ "java/lang/invoke/MethodHandle" ∧ yX7_priceOf.cls ≠ "java/lang/invoke/VarHandle" ∧ (parseMethodDescriptor yX7_priceOf.desc).map (fun d => d.parameters.length) = some 1 := by decide +kernel
set_option maxRecDepth 100000 in
set_option maxHeartbeats 4000000 in
theorem c_X7_priceOf (l : Launch) (D : va_G) (g : xG) (tb : List xQ) (hT : x_T g tb) {a1 : Int32} (h0 : x_md tb) {M : xM} {r : Int32} {M' : xM} (hf : f_X7_priceOf a1 M = some (r, M')) :
    cI l D g tb yX7_priceOf cX7_priceOf 2 .int ({ frames := 3, cells := 0, slots := 0, locals := 65 } : Room) [.ref (g.1 5 2500), .int a1] M r M' := by
  refine x_startI (own := RX7) (by decide +kernel) rfl rfl (Nat.le_of_ble_eq_true rfl) hT ?_
  intro p e s m args below meth c Q C0 hend
  unfold f_X7_priceOf at hf
  refine r_aload_n C0 (kk := 0) 0 rfl dX7_priceOf_0 ?_
  refine r_iload_n C0 (kk := 1) 1 rfl dX7_priceOf_1 ?_
  refine r_iconst C0 (v := 3) dX7_priceOf_2 rfl ?_
  obtain ⟨r3, M2, hc1, hf⟩ := bd2_e hf
  refine r_callVi C0 (As := [.int a1, .int 3]) (rest := []) (c_X7_asked l D g tb hT h0 hc1) w7_133 w7_135 wp5_14 w1_14 w7_136 (x_rec5 C0 h0.1) hd_X7_asked rfl ⟨rfl, rfl⟩ ⟨Nat.le_of_ble_eq_true rfl, Nat.le_of_ble_eq_true rfl⟩ (by decide) (by decide) rfl (Nat.le_of_ble_eq_true rfl) dX7_priceOf_3 ?_
  exact hend hf dX7_priceOf_6
theorem dX7_stockOf_0 : decode cX7_stockOf 0 = .ok (.aload_n 0, 1) := by decide +kernel
theorem dX7_stockOf_1 : decode cX7_stockOf 1 = .ok (.iload_n 1, 1) := by decide +kernel
theorem dX7_stockOf_2 : decode cX7_stockOf 2 = .ok (.iconst 4, 1) := by decide +kernel
theorem dX7_stockOf_3 : decode cX7_stockOf 3 = .ok (.invokevirtual 317, 3) := by decide +kernel
theorem dX7_stockOf_6 : decode cX7_stockOf 6 = .ok (.ireturn, 1) := by decide +kernel
theorem hd_X7_stockOf : yX7_stockOf.cls = RX7 ∧ yX7_stockOf.cls ≠ "java/lang/invoke/MethodHandle" ∧ yX7_stockOf.cls ≠ "java/lang/invoke/VarHandle" ∧ (parseMethodDescriptor yX7_stockOf.desc).map (fun d => d.parameters.length) = some 1 := by decide +kernel
set_option maxRecDepth 100000 in
set_option maxHeartbeats 4000000 in
theorem c_X7_stockOf (l : Launch) (D : va_G) (g : xG) (tb : List xQ) (hT : x_T g tb) {a1 : Int32} (h0 : x_md tb) {M : xM} {r : Int32} {M' : xM} (hf : f_X7_stockOf a1 M = some (r, M')) :
    cI l D g tb yX7_stockOf cX7_stockOf 2 .int ({ frames := 3, cells := 0, slots := 0, locals := 65 } : Room) [.ref (g.1 5 2500), .int a1] M r M' := by
  refine x_startI (own := RX7) (by decide +kernel) rfl rfl (Nat.le_of_ble_eq_true rfl) hT ?_
  intro p e s m args below meth c Q C0 hend
  unfold f_X7_stockOf at hf
  refine r_aload_n C0 (kk := 0) 0 rfl dX7_stockOf_0 ?_
  refine r_iload_n C0 (kk := 1) 1 rfl dX7_stockOf_1 ?_
  refine r_iconst C0 (v := 4) dX7_stockOf_2 rfl ?_
  obtain ⟨r3, M2, hc1, hf⟩ := bd2_e hf
  refine r_callVi C0 (As := [.int a1, .int 4]) (rest := []) (c_X7_asked l D g tb hT h0 hc1) w7_133 w7_135 wp5_14 w1_14 w7_136 (x_rec5 C0 h0.1) hd_X7_asked rfl ⟨rfl, rfl⟩ ⟨Nat.le_of_ble_eq_true rfl, Nat.le_of_ble_eq_true rfl⟩ (by decide) (by decide) rfl (Nat.le_of_ble_eq_true rfl) dX7_stockOf_3 ?_
  exact hend hf dX7_stockOf_6
theorem dX7_heldOf_0 : decode cX7_heldOf 0 = .ok (.aload_n 0, 1) := by decide +kernel
theorem dX7_heldOf_1 : decode cX7_heldOf 1 = .ok (.iload_n 1, 1) := by decide +kernel
theorem dX7_heldOf_2 : decode cX7_heldOf 2 = .ok (.invokevirtual 311, 3) := by decide +kernel
theorem dX7_heldOf_5 : decode cX7_heldOf 5 = .ok (.ifCond .eq 11, 3) := by decide +kernel
theorem dX7_heldOf_8 : decode cX7_heldOf 8 = .ok (.aload_n 0, 1) := by decide +kernel
theorem dX7_heldOf_9 : decode cX7_heldOf 9 = .ok (.iload_n 1, 1) := by decide +kernel
theorem dX7_heldOf_10 : decode cX7_heldOf 10 = .ok (.invokevirtual 320, 3) := by decide +kernel
theorem dX7_heldOf_13 : decode cX7_heldOf 13 = .ok (.goto 4, 3) := by decide +kernel
theorem dX7_heldOf_16 : decode cX7_heldOf 16 = .ok (.iconst 0, 1) := by decide +kernel
theorem dX7_heldOf_17 : decode cX7_heldOf 17 = .ok (.ireturn, 1) := by decide +kernel
theorem hd_X7_heldOf : yX7_heldOf.cls = RX7 ∧ yX7_heldOf.cls ≠ "java/lang/invoke/MethodHandle" ∧ yX7_heldOf.cls ≠ "java/lang/invoke/VarHandle" ∧ (parseMethodDescriptor yX7_heldOf.desc).map (fun d => d.parameters.length) = some 1 := by decide +kernel
set_option maxRecDepth 100000 in
set_option maxHeartbeats 4000000 in
theorem c_X7_heldOf (l : Launch) (D : va_G) (g : xG) (tb : List xQ) (hT : x_T g tb) {a1 : Int32} (h0 : x_md tb) {M : xM} {r : Int32} {M' : xM} (hf : f_X7_heldOf a1 M = some (r, M')) :
    cI l D g tb yX7_heldOf cX7_heldOf 2 .int ({ frames := 2, cells := 0, slots := 0, locals := 45 } : Room) [.ref (g.1 5 2500), .int a1] M r M' := by
  refine x_startI (own := RX7) (by decide +kernel) rfl rfl (Nat.le_of_ble_eq_true rfl) hT ?_
  intro p e s m args below meth c Q C0 hend
  unfold f_X7_heldOf at hf
  refine r_aload_n C0 (kk := 0) 0 rfl dX7_heldOf_0 ?_
  refine r_iload_n C0 (kk := 1) 1 rfl dX7_heldOf_1 ?_
  obtain ⟨r3, M2, hc1, hf⟩ := bd2_e hf
  refine r_callVi C0 (As := [.int a1]) (rest := []) (c_X7_isStall l D g tb hT h0 hc1) w7_137 w7_139 wp5_15 w1_14 w7_140 (x_rec5 C0 h0.1) hd_X7_isStall rfl ⟨rfl, rfl⟩ ⟨Nat.le_of_ble_eq_true rfl, Nat.le_of_ble_eq_true rfl⟩ (by decide) (by decide) rfl (Nat.le_of_ble_eq_true rfl) dX7_heldOf_2 ?_
  refine r_if_eq C0 (tgt := 16) (by decide) dX7_heldOf_5 (fun q4 => ?_) (fun q4 => ?_)
  · have hf := ie_t hf q4
    refine r_iconst C0 (v := 0) dX7_heldOf_16 rfl ?_
    exact hend hf dX7_heldOf_17
  · have hf := ie_f hf q4
    refine r_aload_n C0 (kk := 0) 0 rfl dX7_heldOf_8 ?_
    refine r_iload_n C0 (kk := 1) 1 rfl dX7_heldOf_9 ?_
    obtain ⟨r7, M6, hc5, hf⟩ := bd2_e hf
    refine r_callVi C0 (As := [.int a1]) (rest := []) (c_X7_held l D g tb hT h0 hc5) w7_161 w7_163 wp6_0 w1_14 w7_164 (x_rec5 C0 h0.1) hd_X7_held rfl ⟨rfl, rfl⟩ ⟨Nat.le_of_ble_eq_true rfl, Nat.le_of_ble_eq_true rfl⟩ (by decide) (by decide) rfl (Nat.le_of_ble_eq_true rfl) dX7_heldOf_10 ?_
    refine r_goto C0 (tgt := 17) (by decide) dX7_heldOf_13 ?_
    exact hend hf dX7_heldOf_17
theorem dX7_soldOf_0 : decode cX7_soldOf 0 = .ok (.aload_n 0, 1) := by decide +kernel
theorem dX7_soldOf_1 : decode cX7_soldOf 1 = .ok (.iload_n 1, 1) := by decide +kernel
theorem dX7_soldOf_2 : decode cX7_soldOf 2 = .ok (.iconst 5, 1) := by decide +kernel
theorem dX7_soldOf_3 : decode cX7_soldOf 3 = .ok (.invokevirtual 317, 3) := by decide +kernel
theorem dX7_soldOf_6 : decode cX7_soldOf 6 = .ok (.ireturn, 1) := by decide +kernel
theorem hd_X7_soldOf : yX7_soldOf.cls = RX7 ∧ yX7_soldOf.cls ≠ "java/lang/invoke/MethodHandle" ∧ yX7_soldOf.cls ≠ "java/lang/invoke/VarHandle" ∧ (parseMethodDescriptor yX7_soldOf.desc).map (fun d => d.parameters.length) = some 1 := by decide +kernel
set_option maxRecDepth 100000 in
set_option maxHeartbeats 4000000 in
theorem c_X7_soldOf (l : Launch) (D : va_G) (g : xG) (tb : List xQ) (hT : x_T g tb) {a1 : Int32} (h0 : x_md tb) {M : xM} {r : Int32} {M' : xM} (hf : f_X7_soldOf a1 M = some (r, M')) :
    cI l D g tb yX7_soldOf cX7_soldOf 2 .int ({ frames := 3, cells := 0, slots := 0, locals := 65 } : Room) [.ref (g.1 5 2500), .int a1] M r M' := by
  refine x_startI (own := RX7) (by decide +kernel) rfl rfl (Nat.le_of_ble_eq_true rfl) hT ?_
  intro p e s m args below meth c Q C0 hend
  unfold f_X7_soldOf at hf
  refine r_aload_n C0 (kk := 0) 0 rfl dX7_soldOf_0 ?_
  refine r_iload_n C0 (kk := 1) 1 rfl dX7_soldOf_1 ?_
  refine r_iconst C0 (v := 5) dX7_soldOf_2 rfl ?_
  obtain ⟨r3, M2, hc1, hf⟩ := bd2_e hf
  refine r_callVi C0 (As := [.int a1, .int 5]) (rest := []) (c_X7_asked l D g tb hT h0 hc1) w7_133 w7_135 wp5_14 w1_14 w7_136 (x_rec5 C0 h0.1) hd_X7_asked rfl ⟨rfl, rfl⟩ ⟨Nat.le_of_ble_eq_true rfl, Nat.le_of_ble_eq_true rfl⟩ (by decide) (by decide) rfl (Nat.le_of_ble_eq_true rfl) dX7_soldOf_3 ?_
  exact hend hf dX7_soldOf_6
theorem dX7_lostOf_0 : decode cX7_lostOf 0 = .ok (.aload_n 0, 1) := by decide +kernel
theorem dX7_lostOf_1 : decode cX7_lostOf 1 = .ok (.iload_n 1, 1) := by decide +kernel
theorem dX7_lostOf_2 : decode cX7_lostOf 2 = .ok (.bipush 6, 2) := by decide +kernel
theorem dX7_lostOf_4 : decode cX7_lostOf 4 = .ok (.invokevirtual 317, 3) := by decide +kernel
theorem dX7_lostOf_7 : decode cX7_lostOf 7 = .ok (.ireturn, 1) := by decide +kernel
theorem hd_X7_lostOf : yX7_lostOf.cls = RX7 ∧ yX7_lostOf.cls ≠ "java/lang/invoke/MethodHandle" ∧ yX7_lostOf.cls ≠ "java/lang/invoke/VarHandle" ∧ (parseMethodDescriptor yX7_lostOf.desc).map (fun d => d.parameters.length) = some 1 := by decide +kernel
set_option maxRecDepth 100000 in
set_option maxHeartbeats 4000000 in
theorem c_X7_lostOf (l : Launch) (D : va_G) (g : xG) (tb : List xQ) (hT : x_T g tb) {a1 : Int32} (h0 : x_md tb) {M : xM} {r : Int32} {M' : xM} (hf : f_X7_lostOf a1 M = some (r, M')) :
    cI l D g tb yX7_lostOf cX7_lostOf 2 .int ({ frames := 3, cells := 0, slots := 0, locals := 65 } : Room) [.ref (g.1 5 2500), .int a1] M r M' := by
  refine x_startI (own := RX7) (by decide +kernel) rfl rfl (Nat.le_of_ble_eq_true rfl) hT ?_
  intro p e s m args below meth c Q C0 hend
  unfold f_X7_lostOf at hf
  refine r_aload_n C0 (kk := 0) 0 rfl dX7_lostOf_0 ?_
  refine r_iload_n C0 (kk := 1) 1 rfl dX7_lostOf_1 ?_
  refine r_bipush C0 (v := 6) dX7_lostOf_2 rfl ?_
  obtain ⟨r3, M2, hc1, hf⟩ := bd2_e hf
  refine r_callVi C0 (As := [.int a1, .int 6]) (rest := []) (c_X7_asked l D g tb hT h0 hc1) w7_133 w7_135 wp5_14 w1_14 w7_136 (x_rec5 C0 h0.1) hd_X7_asked rfl ⟨rfl, rfl⟩ ⟨Nat.le_of_ble_eq_true rfl, Nat.le_of_ble_eq_true rfl⟩ (by decide) (by decide) rfl (Nat.le_of_ble_eq_true rfl) dX7_lostOf_4 ?_
  exact hend hf dX7_lostOf_7
theorem dX7_earnings_0 : decode cX7_earnings 0 = .ok (.aload_n 0, 1) := by decide +kernel
theorem dX7_earnings_1 : decode cX7_earnings 1 = .ok (.iload_n 1, 1) := by decide +kernel
theorem dX7_earnings_2 : decode cX7_earnings 2 = .ok (.bipush 7, 2) := by decide +kernel
theorem dX7_earnings_4 : decode cX7_earnings 4 = .ok (.invokevirtual 317, 3) := by decide +kernel
theorem dX7_earnings_7 : decode cX7_earnings 7 = .ok (.ireturn, 1) := by decide +kernel
theorem hd_X7_earnings : yX7_earnings.cls = RX7 ∧ yX7_earnings.cls ≠ "java/lang/invoke/MethodHandle" ∧ yX7_earnings.cls ≠ "java/lang/invoke/VarHandle" ∧ (parseMethodDescriptor yX7_earnings.desc).map (fun d => d.parameters.length) = some 1 := by decide +kernel
set_option maxRecDepth 100000 in
set_option maxHeartbeats 4000000 in
theorem c_X7_earnings (l : Launch) (D : va_G) (g : xG) (tb : List xQ) (hT : x_T g tb) {a1 : Int32} (h0 : x_md tb) {M : xM} {r : Int32} {M' : xM} (hf : f_X7_earnings a1 M = some (r, M')) :
    cI l D g tb yX7_earnings cX7_earnings 2 .int ({ frames := 3, cells := 0, slots := 0, locals := 65 } : Room) [.ref (g.1 5 2500), .int a1] M r M' := by
  refine x_startI (own := RX7) (by decide +kernel) rfl rfl (Nat.le_of_ble_eq_true rfl) hT ?_
  intro p e s m args below meth c Q C0 hend
  unfold f_X7_earnings at hf
  refine r_aload_n C0 (kk := 0) 0 rfl dX7_earnings_0 ?_
  refine r_iload_n C0 (kk := 1) 1 rfl dX7_earnings_1 ?_
  refine r_bipush C0 (v := 7) dX7_earnings_2 rfl ?_
  obtain ⟨r3, M2, hc1, hf⟩ := bd2_e hf
  refine r_callVi C0 (As := [.int a1, .int 7]) (rest := []) (c_X7_asked l D g tb hT h0 hc1) w7_133 w7_135 wp5_14 w1_14 w7_136 (x_rec5 C0 h0.1) hd_X7_asked rfl ⟨rfl, rfl⟩ ⟨Nat.le_of_ble_eq_true rfl, Nat.le_of_ble_eq_true rfl⟩ (by decide) (by decide) rfl (Nat.le_of_ble_eq_true rfl) dX7_earnings_4 ?_
  exact hend hf dX7_earnings_7
theorem dX7_seenFrom_0 : decode cX7_seenFrom 0 = .ok (.aload_n 0, 1) := by decide +kernel
theorem dX7_seenFrom_1 : decode cX7_seenFrom 1 = .ok (.iconst 0, 1) := by decide +kernel
theorem dX7_seenFrom_2 : decode cX7_seenFrom 2 = .ok (.putfield 60, 3) := by decide +kernel
theorem dX7_seenFrom_5 : decode cX7_seenFrom 5 = .ok (.aload_n 0, 1) := by decide +kernel
theorem dX7_seenFrom_6 : decode cX7_seenFrom 6 = .ok (.iload_n 1, 1) := by decide +kernel
theorem dX7_seenFrom_7 : decode cX7_seenFrom 7 = .ok (.iconst 0, 1) := by decide +kernel
theorem dX7_seenFrom_8 : decode cX7_seenFrom 8 = .ok (.bipush 99, 2) := by decide +kernel
theorem dX7_seenFrom_10 : decode cX7_seenFrom 10 = .ok (.invokestatic 147, 3) := by decide +kernel
theorem dX7_seenFrom_13 : decode cX7_seenFrom 13 = .ok (.iconst 1, 1) := by decide +kernel
theorem dX7_seenFrom_14 : decode cX7_seenFrom 14 = .ok (.invokevirtual 304, 3) := by decide +kernel
theorem dX7_seenFrom_17 : decode cX7_seenFrom 17 = .ok (.ifCond .eq 5, 3) := by decide +kernel
theorem dX7_seenFrom_20 : decode cX7_seenFrom 20 = .ok (.iconst 0, 1) := by decide +kernel
theorem dX7_seenFrom_21 : decode cX7_seenFrom 21 = .ok (.ireturn, 1) := by decide +kernel
theorem dX7_seenFrom_22 : decode cX7_seenFrom 22 = .ok (.iconst 0, 1) := by decide +kernel
theorem dX7_seenFrom_23 : decode cX7_seenFrom 23 = .ok (.istore_n 2, 1) := by decide +kernel
theorem dX7_seenFrom_24 : decode cX7_seenFrom 24 = .ok (.iconst 0, 1) := by decide +kernel
theorem dX7_seenFrom_25 : decode cX7_seenFrom 25 = .ok (.istore_n 3, 1) := by decide +kernel
theorem dX7_seenFrom_26 : decode cX7_seenFrom 26 = .ok (.iload_n 3, 1) := by decide +kernel
theorem dX7_seenFrom_27 : decode cX7_seenFrom 27 = .ok (.aload_n 0, 1) := by decide +kernel
theorem dX7_seenFrom_28 : decode cX7_seenFrom 28 = .ok (.getfield 17, 3) := by decide +kernel
theorem dX7_seenFrom_31 : decode cX7_seenFrom 31 = .ok (.bipush 9, 2) := by decide +kernel
theorem dX7_seenFrom_33 : decode cX7_seenFrom 33 = .ok (.iaload, 1) := by decide +kernel
theorem dX7_seenFrom_34 : decode cX7_seenFrom 34 = .ok (.if_icmp .ge 38, 3) := by decide +kernel
theorem dX7_seenFrom_37 : decode cX7_seenFrom 37 = .ok (.iload_n 2, 1) := by decide +kernel
theorem dX7_seenFrom_38 : decode cX7_seenFrom 38 = .ok (.aload_n 0, 1) := by decide +kernel
theorem dX7_seenFrom_39 : decode cX7_seenFrom 39 = .ok (.iload_n 3, 1) := by decide +kernel
theorem dX7_seenFrom_40 : decode cX7_seenFrom 40 = .ok (.iload_n 1, 1) := by decide +kernel
theorem dX7_seenFrom_41 : decode cX7_seenFrom 41 = .ok (.aload_n 0, 1) := by decide +kernel
theorem dX7_seenFrom_42 : decode cX7_seenFrom 42 = .ok (.aload_n 0, 1) := by decide +kernel
theorem dX7_seenFrom_43 : decode cX7_seenFrom 43 = .ok (.getfield 17, 3) := by decide +kernel
theorem dX7_seenFrom_46 : decode cX7_seenFrom 46 = .ok (.iconst 0, 1) := by decide +kernel
theorem dX7_seenFrom_47 : decode cX7_seenFrom 47 = .ok (.iaload, 1) := by decide +kernel
theorem dX7_seenFrom_48 : decode cX7_seenFrom 48 = .ok (.invokevirtual 124, 3) := by decide +kernel
theorem dX7_seenFrom_51 : decode cX7_seenFrom 51 = .ok (.invokevirtual 80, 3) := by decide +kernel
theorem dX7_seenFrom_54 : decode cX7_seenFrom 54 = .ok (.ifCond .eq 9, 3) := by decide +kernel
theorem dX7_seenFrom_57 : decode cX7_seenFrom 57 = .ok (.iconst 1, 1) := by decide +kernel
theorem dX7_seenFrom_58 : decode cX7_seenFrom 58 = .ok (.iload_n 3, 1) := by decide +kernel
theorem dX7_seenFrom_59 : decode cX7_seenFrom 59 = .ok (.ishl, 1) := by decide +kernel
theorem dX7_seenFrom_60 : decode cX7_seenFrom 60 = .ok (.goto 4, 3) := by decide +kernel
theorem dX7_seenFrom_63 : decode cX7_seenFrom 63 = .ok (.iconst 0, 1) := by decide +kernel
theorem dX7_seenFrom_64 : decode cX7_seenFrom 64 = .ok (.ior, 1) := by decide +kernel
theorem dX7_seenFrom_65 : decode cX7_seenFrom 65 = .ok (.istore_n 2, 1) := by decide +kernel
theorem dX7_seenFrom_66 : decode cX7_seenFrom 66 = .ok (.iinc 3 1, 3) := by decide +kernel
theorem dX7_seenFrom_69 : decode cX7_seenFrom 69 = .ok (.goto (-43), 3) := by decide +kernel
theorem dX7_seenFrom_72 : decode cX7_seenFrom 72 = .ok (.iload_n 2, 1) := by decide +kernel
theorem dX7_seenFrom_73 : decode cX7_seenFrom 73 = .ok (.ireturn, 1) := by decide +kernel
theorem hd_X7_seenFrom : yX7_seenFrom.cls = RX7 ∧ yX7_seenFrom.cls ≠ "java/lang/invoke/MethodHandle" ∧ yX7_seenFrom.cls ≠ "java/lang/invoke/VarHandle" ∧ (parseMethodDescriptor yX7_seenFrom.desc).map (fun d => d.parameters.length) = some 1 := by decide +kernel
set_option maxRecDepth 100000 in
set_option maxHeartbeats 4000000 in
theorem c_X7_seenFrom (l : Launch) (D : va_G) (g : xG) (tb : List xQ) (hT : x_T g tb) {a1 : Int32} (h0 : x_md tb) {M : xM} {r : Int32} {M' : xM} (hf : f_X7_seenFrom a1 M = some (r, M')) :
    cI l D g tb yX7_seenFrom cX7_seenFrom 4 .int ({ frames := 2, cells := 0, slots := 0, locals := 45 } : Room) [.ref (g.1 5 2500), .int a1] M r M' := by
  refine x_startI (own := RX7) (by decide +kernel) rfl rfl (Nat.le_of_ble_eq_true rfl) hT ?_
  intro p e s m args below meth c Q C0 hend
  have B64 : ∀ (k26 : Int32 → Int32 → xM → Option (Int32 × xM)) (hk26 : ∀ (v2 : Int32) (v3 : Int32)  (M : xM), k26 v2 v3 M = some (r, M') → WW p l e ({ frames := 2, cells := 0, slots := 0, locals := 45 } : Room) s m args below meth c 0 0 Q 4 D g tb 26 [(0, .ref (g.1 5 2500)), (1, .int a1), (2, .int v2), (3, .int v3)] [] M), ∀ (v3 : Int32) (s0 : Int32) (s1 : Int32)  (M : xM), f_X7_seenFrom_c64 k26 a1 v3 s0 s1 M = some (r, M') → WW p l e ({ frames := 2, cells := 0, slots := 0, locals := 45 } : Room) s m args below meth c 0 0 Q 4 D g tb 64 [(0, .ref (g.1 5 2500)), (1, .int a1), (3, .int v3)] [.int s0, .int s1] M := by
    intro k26 hk26 v3 s0 s1  M hf
    unfold f_X7_seenFrom_c64 at hf
    refine r_ior C0 dX7_seenFrom_64 ?_
    refine r_istore_n C0 (kk := 2) (lv2 := [(2, .int (s1 ||| s0)), (0, .ref (g.1 5 2500)), (1, .int a1), (3, .int v3)]) (by decide) rfl dX7_seenFrom_65 ?_
    refine r_iincc C0 3 rfl (k0 := 1) (by decide) (by decide) (lv2 := [(3, .int (v3 + 1)), (2, .int (s1 ||| s0)), (0, .ref (g.1 5 2500)), (1, .int a1)]) rfl dX7_seenFrom_66 ?_
    refine r_goto C0 (tgt := 26) (by decide) dX7_seenFrom_69 ?_
    refine WW.sub [2, 3, 1, 0] rfl ?_
    exact hk26 _ _   _ hf
  have B26 : ∀ (k26 : Int32 → Int32 → xM → Option (Int32 × xM)) (hk26 : ∀ (v2 : Int32) (v3 : Int32)  (M : xM), k26 v2 v3 M = some (r, M') → WW p l e ({ frames := 2, cells := 0, slots := 0, locals := 45 } : Room) s m args below meth c 0 0 Q 4 D g tb 26 [(0, .ref (g.1 5 2500)), (1, .int a1), (2, .int v2), (3, .int v3)] [] M), ∀ (v2 : Int32) (v3 : Int32)  (M : xM), fb_X7_seenFrom_c26 k26 a1 v2 v3 M = some (r, M') → WW p l e ({ frames := 2, cells := 0, slots := 0, locals := 45 } : Room) s m args below meth c 0 0 Q 4 D g tb 26 [(0, .ref (g.1 5 2500)), (1, .int a1), (2, .int v2), (3, .int v3)] [] M := by
    intro k26 hk26 v2 v3  M hf
    unfold fb_X7_seenFrom_c26 at hf
    refine r_iload_n C0 (kk := 3) 3 rfl dX7_seenFrom_26 ?_
    refine r_aload_n C0 (kk := 0) 0 rfl dX7_seenFrom_27 ?_
    refine r_get5 C0 h0.1 5 (by decide) (v := .ref (g.1 6 2520)) rfl rfl w6_221 dX7_seenFrom_28 ?_
    refine r_bipush C0 (v := 9) dX7_seenFrom_31 rfl ?_
    refine r_ialdc C0 h0.2.1 (z := 2529) (by decide) (by decide) dX7_seenFrom_33 ?_
    refine r_icmp_ge C0 (tgt := 72) (by decide) dX7_seenFrom_34 (fun q8 => ?_) (fun q8 => ?_)
    · have hf := ie_t hf q8
      refine r_iload_n C0 (kk := 2) 2 rfl dX7_seenFrom_72 ?_
      exact hend hf dX7_seenFrom_73
    · have hf := ie_f hf q8
      refine r_iload_n C0 (kk := 2) 2 rfl dX7_seenFrom_37 ?_
      refine r_aload_n C0 (kk := 0) 0 rfl dX7_seenFrom_38 ?_
      refine r_iload_n C0 (kk := 3) 3 rfl dX7_seenFrom_39 ?_
      refine r_iload_n C0 (kk := 1) 1 rfl dX7_seenFrom_40 ?_
      refine r_aload_n C0 (kk := 0) 0 rfl dX7_seenFrom_41 ?_
      refine r_aload_n C0 (kk := 0) 0 rfl dX7_seenFrom_42 ?_
      refine r_get5 C0 h0.1 5 (by decide) (v := .ref (g.1 6 2520)) rfl rfl w6_221 dX7_seenFrom_43 ?_
      refine r_iconst C0 (v := 0) dX7_seenFrom_46 rfl ?_
      refine r_ialdc C0 h0.2.1 (z := 2520) (by decide) (by decide) dX7_seenFrom_47 ?_
      obtain ⟨r11, M10, hc9, hf⟩ := bd2_e hf
      refine r_callVi C0 (As := [.int (M 2520)]) (rest := [.int a1, .int v3, .ref (g.1 5 2500), .int v2]) (c_X7_fogAt l D g tb hT h0 hc9) w6_143 w6_145 wp4_11 w1_14 w6_146 (x_rec5 C0 h0.1) hd_X7_fogAt rfl ⟨rfl, rfl⟩ ⟨Nat.le_of_ble_eq_true rfl, Nat.le_of_ble_eq_true rfl⟩ (by decide) (by decide) rfl (Nat.le_of_ble_eq_true rfl) dX7_seenFrom_48 ?_
      obtain ⟨r14, M13, hc12, hf⟩ := bd2_e hf
      refine r_callVi C0 (As := [.int v3, .int a1, .int r11]) (rest := [.int v2]) (c_X7_isSeen l D g tb hT h0 hc12) w6_182 w6_184 wp5_3 w1_14 w6_185 (x_rec5 C0 h0.1) hd_X7_isSeen rfl ⟨rfl, rfl⟩ ⟨Nat.le_of_ble_eq_true rfl, Nat.le_of_ble_eq_true rfl⟩ (by decide) (by decide) rfl (Nat.le_of_ble_eq_true rfl) dX7_seenFrom_51 ?_
      refine r_if_eq C0 (tgt := 63) (by decide) dX7_seenFrom_54 (fun q15 => ?_) (fun q15 => ?_)
      · have hf := ie_t hf q15
        refine r_iconst C0 (v := 0) dX7_seenFrom_63 rfl ?_
        refine WW.sub [0, 1, 3] rfl ?_
        exact B64 k26 hk26 _ _ _   _ hf
      · have hf := ie_f hf q15
        refine r_iconst C0 (v := 1) dX7_seenFrom_57 rfl ?_
        refine r_iload_n C0 (kk := 3) 3 rfl dX7_seenFrom_58 ?_
        refine r_ishl C0 dX7_seenFrom_59 ?_
        refine r_goto C0 (tgt := 64) (by decide) dX7_seenFrom_60 ?_
        refine WW.sub [0, 1, 3] rfl ?_
        exact B64 k26 hk26 _ _ _   _ hf
  have L26 : ∀ (v2 : Int32) (v3 : Int32)  (M : xM), f_X7_seenFrom_c26  a1 v2 v3 M = some (r, M') → WW p l e ({ frames := 2, cells := 0, slots := 0, locals := 45 } : Room) s m args below meth c 0 0 Q 4 D g tb 26 [(0, .ref (g.1 5 2500)), (1, .int a1), (2, .int v2), (3, .int v3)] [] M := lp_ind (P := fun f => ∀ (v2 : Int32) (v3 : Int32)  (M : xM), f v2 v3 M = some (r, M') → WW p l e ({ frames := 2, cells := 0, slots := 0, locals := 45 } : Room) s m args below meth c 0 0 Q 4 D g tb 26 [(0, .ref (g.1 5 2500)), (1, .int a1), (2, .int v2), (3, .int v3)] [] M) (fun _ _ _ h => none_ne h) (fun f hf => B26 f hf) FU
  unfold f_X7_seenFrom at hf
  refine r_aload_n C0 (kk := 0) 0 rfl dX7_seenFrom_0 ?_
  refine r_iconst C0 (v := 0) dX7_seenFrom_1 rfl ?_
  refine r_put5 C0 h0.1 4 rfl rfl w6_220 rfl rfl rfl dX7_seenFrom_2 ?_
  refine r_aload_n C0 (kk := 0) 0 rfl dX7_seenFrom_5 ?_
  refine r_iload_n C0 (kk := 1) 1 rfl dX7_seenFrom_6 ?_
  refine r_iconst C0 (v := 0) dX7_seenFrom_7 rfl ?_
  refine r_bipush C0 (v := 99) dX7_seenFrom_8 rfl ?_
  obtain ⟨r3, M2, hc1, hf⟩ := bd2_e hf
  refine r_callSi C0 (As := [.int a1, .int 0, .int 99]) (rest := [.ref (g.1 5 2500)]) (c_X7_inRange l D g tb hT  hc1) w6_12 w6_13 w1_14 w6_14 hd_X7_inRange rfl ⟨rfl, rfl⟩ ⟨Nat.le_of_ble_eq_true rfl, Nat.le_of_ble_eq_true rfl⟩ (by decide) (by decide) rfl (Nat.le_of_ble_eq_true rfl) dX7_seenFrom_10 ?_
  refine r_iconst C0 (v := 1) dX7_seenFrom_13 rfl ?_
  obtain ⟨r6, M5, hc4, hf⟩ := bd2_e hf
  refine r_callVi C0 (As := [.int r3, .int 1]) (rest := []) (c_X7_fails l D g tb hT h0 hc4) w7_93 w7_95 wp5_12 w1_14 w7_96 (x_rec5 C0 h0.1) hd_X7_fails rfl ⟨rfl, rfl⟩ ⟨Nat.le_of_ble_eq_true rfl, Nat.le_of_ble_eq_true rfl⟩ (by decide) (by decide) rfl (Nat.le_of_ble_eq_true rfl) dX7_seenFrom_14 ?_
  refine r_if_eq C0 (tgt := 22) (by decide) dX7_seenFrom_17 (fun q7 => ?_) (fun q7 => ?_)
  · have hf := ie_t hf q7
    refine r_iconst C0 (v := 0) dX7_seenFrom_22 rfl ?_
    refine r_istore_n C0 (kk := 2) (lv2 := [(2, .int 0), (0, .ref (g.1 5 2500)), (1, .int a1)]) (by decide) rfl dX7_seenFrom_23 ?_
    refine r_iconst C0 (v := 0) dX7_seenFrom_24 rfl ?_
    refine r_istore_n C0 (kk := 3) (lv2 := [(3, .int 0), (2, .int 0), (0, .ref (g.1 5 2500)), (1, .int a1)]) (by decide) rfl dX7_seenFrom_25 ?_
    refine WW.sub [2, 3, 1, 0] rfl ?_
    exact L26   _ _   _ hf
  · have hf := ie_f hf q7
    refine r_iconst C0 (v := 0) dX7_seenFrom_20 rfl ?_
    exact hend hf dX7_seenFrom_21
