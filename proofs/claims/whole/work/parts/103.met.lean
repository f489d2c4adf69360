theorem dX7_held_0 : decode cX7_held 0 = .ok (.iconst 0, 1) := by decide +kernel
theorem dX7_held_1 : decode cX7_held 1 = .ok (.istore_n 2, 1) := by decide +kernel
theorem dX7_held_2 : decode cX7_held 2 = .ok (.iconst 0, 1) := by decide +kernel
theorem dX7_held_3 : decode cX7_held 3 = .ok (.istore_n 3, 1) := by decide +kernel
theorem dX7_held_4 : decode cX7_held 4 = .ok (.iload_n 3, 1) := by decide +kernel
theorem dX7_held_5 : decode cX7_held 5 = .ok (.aload_n 0, 1) := by decide +kernel
theorem dX7_held_6 : decode cX7_held 6 = .ok (.getfield 17, 3) := by decide +kernel
theorem dX7_held_9 : decode cX7_held 9 = .ok (.bipush 10, 2) := by decide +kernel
theorem dX7_held_11 : decode cX7_held 11 = .ok (.iaload, 1) := by decide +kernel
theorem dX7_held_12 : decode cX7_held 12 = .ok (.if_icmp .ge 30, 3) := by decide +kernel
theorem dX7_held_15 : decode cX7_held 15 = .ok (.iload_n 2, 1) := by decide +kernel
theorem dX7_held_16 : decode cX7_held 16 = .ok (.aload_n 0, 1) := by decide +kernel
theorem dX7_held_17 : decode cX7_held 17 = .ok (.iload_n 3, 1) := by decide +kernel
theorem dX7_held_18 : decode cX7_held 18 = .ok (.iconst 4, 1) := by decide +kernel
theorem dX7_held_19 : decode cX7_held 19 = .ok (.invokevirtual 73, 3) := by decide +kernel
theorem dX7_held_22 : decode cX7_held 22 = .ok (.iload_n 1, 1) := by decide +kernel
theorem dX7_held_23 : decode cX7_held 23 = .ok (.if_icmp .ne 7, 3) := by decide +kernel
theorem dX7_held_26 : decode cX7_held 26 = .ok (.iconst 1, 1) := by decide +kernel
theorem dX7_held_27 : decode cX7_held 27 = .ok (.goto 4, 3) := by decide +kernel
theorem dX7_held_30 : decode cX7_held 30 = .ok (.iconst 0, 1) := by decide +kernel
theorem dX7_held_31 : decode cX7_held 31 = .ok (.invokestatic 143, 3) := by decide +kernel
theorem dX7_held_34 : decode cX7_held 34 = .ok (.iadd, 1) := by decide +kernel
theorem dX7_held_35 : decode cX7_held 35 = .ok (.istore_n 2, 1) := by decide +kernel
theorem dX7_held_36 : decode cX7_held 36 = .ok (.iinc 3 1, 3) := by decide +kernel
theorem dX7_held_39 : decode cX7_held 39 = .ok (.goto (-35), 3) := by decide +kernel
theorem dX7_held_42 : decode cX7_held 42 = .ok (.iload_n 2, 1) := by decide +kernel
theorem dX7_held_43 : decode cX7_held 43 = .ok (.ireturn, 1) := by decide +kernel
theorem hd_X7_held : yX7_held.cls = RX7 ∧ yX7_held.cls ≠ "java/lang/invoke/MethodHandle" ∧ yX7_held.cls ≠ "java/lang/invoke/VarHandle" ∧ (parseMethodDescriptor yX7_held.desc).map (fun d => d.parameters.length) = some 1 := by decide +kernel
set_option maxRecDepth 100000 in
set_option maxHeartbeats 4000000 in
theorem c_X7_held (l : Launch) (D : va_G) (g : xG) (tb : List xQ) (hT : x_T g tb) {a1 : Int32} (h0 : x_md tb) {M : xM} {r : Int32} {M' : xM} (hf : f_X7_held a1 M = some (r, M')) :
    cI l D g tb yX7_held cX7_held 4 .int ({ frames := 1, cells := 0, slots := 0, locals := 22 } : Room) [.ref (g.1 5 2500), .int a1] M r M' := by
  refine x_startI (own := RX7) (by decide +kernel) rfl rfl (Nat.le_of_ble_eq_true rfl) hT ?_
  intro p e s m args below meth c Q C0 hend
  have B31 : ∀ (k4 : Int32 → Int32 → xM → Option (Int32 × xM)) (hk4 : ∀ (v2 : Int32) (v3 : Int32)  (M : xM), k4 v2 v3 M = some (r, M') → WW p l e ({ frames := 1, cells := 0, slots := 0, locals := 22 } : Room) s m args below meth c 0 0 Q 4 D g tb 4 [(0, .ref (g.1 5 2500)), (1, .int a1), (2, .int v2), (3, .int v3)] [] M), ∀ (v3 : Int32) (s0 : Int32) (s1 : Int32)  (M : xM), f_X7_held_c31 k4 a1 v3 s0 s1 M = some (r, M') → WW p l e ({ frames := 1, cells := 0, slots := 0, locals := 22 } : Room) s m args below meth c 0 0 Q 4 D g tb 31 [(0, .ref (g.1 5 2500)), (1, .int a1), (3, .int v3)] [.int s0, .int s1] M := by
    intro k4 hk4 v3 s0 s1  M hf
    unfold f_X7_held_c31 at hf
    obtain ⟨r8, M7, hc6, hf⟩ := bd2_e hf
    refine r_callSi C0 (As := [.int s0]) (rest := [.int s1]) (c_X7_flag l D g tb hT  hc6) w6_32 w6_33 w1_14 w6_34 hd_X7_flag rfl ⟨rfl, rfl⟩ ⟨Nat.le_of_ble_eq_true rfl, Nat.le_of_ble_eq_true rfl⟩ (by decide) (by decide) rfl (Nat.le_of_ble_eq_true rfl) dX7_held_31 ?_
    refine r_iadd C0 dX7_held_34 ?_
    refine r_istore_n C0 (kk := 2) (lv2 := [(2, .int (s1 + r8)), (0, .ref (g.1 5 2500)), (1, .int a1), (3, .int v3)]) (by decide) rfl dX7_held_35 ?_
    refine r_iincc C0 3 rfl (k0 := 1) (by decide) (by decide) (lv2 := [(3, .int (v3 + 1)), (2, .int (s1 + r8)), (0, .ref (g.1 5 2500)), (1, .int a1)]) rfl dX7_held_36 ?_
    refine r_goto C0 (tgt := 4) (by decide) dX7_held_39 ?_
    refine WW.sub [2, 3, 1, 0] rfl ?_
    exact hk4 _ _   _ hf
  have B4 : ∀ (k4 : Int32 → Int32 → xM → Option (Int32 × xM)) (hk4 : ∀ (v2 : Int32) (v3 : Int32)  (M : xM), k4 v2 v3 M = some (r, M') → WW p l e ({ frames := 1, cells := 0, slots := 0, locals := 22 } : Room) s m args below meth c 0 0 Q 4 D g tb 4 [(0, .ref (g.1 5 2500)), (1, .int a1), (2, .int v2), (3, .int v3)] [] M), ∀ (v2 : Int32) (v3 : Int32)  (M : xM), fb_X7_held_c4 k4 a1 v2 v3 M = some (r, M') → WW p l e ({ frames := 1, cells := 0, slots := 0, locals := 22 } : Room) s m args below meth c 0 0 Q 4 D g tb 4 [(0, .ref (g.1 5 2500)), (1, .int a1), (2, .int v2), (3, .int v3)] [] M := by
    intro k4 hk4 v2 v3  M hf
    unfold fb_X7_held_c4 at hf
    refine r_iload_n C0 (kk := 3) 3 rfl dX7_held_4 ?_
    refine r_aload_n C0 (kk := 0) 0 rfl dX7_held_5 ?_
    refine r_get5 C0 h0.1 5 (by decide) (v := .ref (g.1 6 2520)) rfl rfl w6_221 dX7_held_6 ?_
    refine r_bipush C0 (v := 10) dX7_held_9 rfl ?_
    refine r_ialdc C0 h0.2.1 (z := 2530) (by decide) (by decide) dX7_held_11 ?_
    refine r_icmp_ge C0 (tgt := 42) (by decide) dX7_held_12 (fun q1 => ?_) (fun q1 => ?_)
    · have hf := ie_t hf q1
      refine r_iload_n C0 (kk := 2) 2 rfl dX7_held_42 ?_
      exact hend hf dX7_held_43
    · have hf := ie_f hf q1
      refine r_iload_n C0 (kk := 2) 2 rfl dX7_held_15 ?_
      refine r_aload_n C0 (kk := 0) 0 rfl dX7_held_16 ?_
      refine r_iload_n C0 (kk := 3) 3 rfl dX7_held_17 ?_
      refine r_iconst C0 (v := 4) dX7_held_18 rfl ?_
      obtain ⟨r4, M3, hc2, hf⟩ := bd2_e hf
      refine r_callVi C0 (As := [.int v3, .int 4]) (rest := [.int v2]) (c_X7_by l D g tb hT h0 hc2) w6_103 w6_105 wp4_1 w1_14 w6_106 (x_rec5 C0 h0.1) hd_X7_by rfl ⟨rfl, rfl⟩ ⟨Nat.le_of_ble_eq_true rfl, Nat.le_of_ble_eq_true rfl⟩ (by decide) (by decide) rfl (Nat.le_of_ble_eq_true rfl) dX7_held_19 ?_
      refine r_iload_n C0 (kk := 1) 1 rfl dX7_held_22 ?_
      refine r_icmp_ne C0 (tgt := 30) (by decide) dX7_held_23 (fun q5 => ?_) (fun q5 => ?_)
      · have hf := ie_f hf q5
        refine r_iconst C0 (v := 0) dX7_held_30 rfl ?_
        refine WW.sub [0, 1, 3] rfl ?_
        exact B31 k4 hk4 _ _ _   _ hf
      · have hf := ie_t hf q5
        refine r_iconst C0 (v := 1) dX7_held_26 rfl ?_
        refine r_goto C0 (tgt := 31) (by decide) dX7_held_27 ?_
        refine WW.sub [0, 1, 3] rfl ?_
        exact B31 k4 hk4 _ _ _   _ hf
  have L4 : ∀ (v2 : Int32) (v3 : Int32)  (M : xM), f_X7_held_c4  a1 v2 v3 M = some (r, M') → WW p l e ({ frames := 1, cells := 0, slots := 0, locals := 22 } : Room) s m args below meth c 0 0 Q 4 D g tb 4 [(0, .ref (g.1 5 2500)), (1, .int a1), (2, .int v2), (3, .int v3)] [] M := lp_ind (P := fun f => ∀ (v2 : Int32) (v3 : Int32)  (M : xM), f v2 v3 M = some (r, M') → WW p l e ({ frames := 1, cells := 0, slots := 0, locals := 22 } : Room) s m args below meth c 0 0 Q 4 D g tb 4 [(0, .ref (g.1 5 2500)), (1, .int a1), (2, .int v2), (3, .int v3)] [] M) (fun _ _ _ h => none_ne h) (fun f hf => B4 f hf) FU
  unfold f_X7_held at hf
  refine r_iconst C0 (v := 0) dX7_held_0 rfl ?_
  refine r_istore_n C0 (kk := 2) (lv2 := [(2, .int 0), (0, .ref (g.1 5 2500)), (1, .int a1)]) (by decide) rfl dX7_held_1 ?_
  refine r_iconst C0 (v := 0) dX7_held_2 rfl ?_
  refine r_istore_n C0 (kk := 3) (lv2 := [(3, .int 0), (2, .int 0), (0, .ref (g.1 5 2500)), (1, .int a1)]) (by decide) rfl dX7_held_3 ?_
  refine WW.sub [2, 3, 1, 0] rfl ?_
  exact L4   _ _   _ hf
theorem dX7_reach_0 : decode cX7_reach 0 = .ok (.aload_n 0, 1) := by decide +kernel
theorem dX7_reach_1 : decode cX7_reach 1 = .ok (.iconst 0, 1) := by decide +kernel
theorem dX7_reach_2 : decode cX7_reach 2 = .ok (.putfield 60, 3) := by decide +kernel
theorem dX7_reach_5 : decode cX7_reach 5 = .ok (.aload_n 0, 1) := by decide +kernel
theorem dX7_reach_6 : decode cX7_reach 6 = .ok (.iload_n 1, 1) := by decide +kernel
theorem dX7_reach_7 : decode cX7_reach 7 = .ok (.iconst 0, 1) := by decide +kernel
theorem dX7_reach_8 : decode cX7_reach 8 = .ok (.iconst 3, 1) := by decide +kernel
theorem dX7_reach_9 : decode cX7_reach 9 = .ok (.invokestatic 147, 3) := by decide +kernel
theorem dX7_reach_12 : decode cX7_reach 12 = .ok (.ifCond .eq 17, 3) := by decide +kernel
theorem dX7_reach_15 : decode cX7_reach 15 = .ok (.iload_n 2, 1) := by decide +kernel
theorem dX7_reach_16 : decode cX7_reach 16 = .ok (.iconst 0, 1) := by decide +kernel
theorem dX7_reach_17 : decode cX7_reach 17 = .ok (.bipush 9, 2) := by decide +kernel
theorem dX7_reach_19 : decode cX7_reach 19 = .ok (.invokestatic 147, 3) := by decide +kernel
theorem dX7_reach_22 : decode cX7_reach 22 = .ok (.ifCond .eq 7, 3) := by decide +kernel
theorem dX7_reach_25 : decode cX7_reach 25 = .ok (.iconst 1, 1) := by decide +kernel
theorem dX7_reach_26 : decode cX7_reach 26 = .ok (.goto 4, 3) := by decide +kernel
theorem dX7_reach_29 : decode cX7_reach 29 = .ok (.iconst 0, 1) := by decide +kernel
theorem dX7_reach_30 : decode cX7_reach 30 = .ok (.iconst 1, 1) := by decide +kernel
theorem dX7_reach_31 : decode cX7_reach 31 = .ok (.invokevirtual 304, 3) := by decide +kernel
theorem dX7_reach_34 : decode cX7_reach 34 = .ok (.ifCond .eq 7, 3) := by decide +kernel
theorem dX7_reach_37 : decode cX7_reach 37 = .ok (.iconst 0, 1) := by decide +kernel
theorem dX7_reach_38 : decode cX7_reach 38 = .ok (.goto 8, 3) := by decide +kernel
theorem dX7_reach_41 : decode cX7_reach 41 = .ok (.iload_n 1, 1) := by decide +kernel
theorem dX7_reach_42 : decode cX7_reach 42 = .ok (.iload_n 2, 1) := by decide +kernel
theorem dX7_reach_43 : decode cX7_reach 43 = .ok (.invokestatic 70, 3) := by decide +kernel
theorem dX7_reach_46 : decode cX7_reach 46 = .ok (.ireturn, 1) := by decide +kernel
theorem hd_X7_reach : yX7_reach.cls = RX7 ∧ yX7_reach.cls ≠ "java/lang/invoke/MethodHandle" ∧ yX7_reach.cls ≠ "java/lang/invoke/VarHandle" ∧ (parseMethodDescriptor yX7_reach.desc).map (fun d => d.parameters.length) = some 2 := by decide +kernel
set_option maxRecDepth 100000 in
set_option maxHeartbeats 4000000 in
theorem c_X7_reach (l : Launch) (D : va_G) (g : xG) (tb : List xQ) (hT : x_T g tb) {a1 : Int32} {a2 : Int32} (h0 : x_md tb) {M : xM} {r : Int32} {M' : xM} (hf : f_X7_reach a1 a2 M = some (r, M')) :
    cI l D g tb yX7_reach cX7_reach 3 .int ({ frames := 1, cells := 0, slots := 0, locals := 22 } : Room) [.ref (g.1 5 2500), .int a1, .int a2] M r M' := by
  refine x_startI (own := RX7) (by decide +kernel) rfl rfl (Nat.le_of_ble_eq_true rfl) hT ?_
  intro p e s m args below meth c Q C0 hend
  have B30 : ∀ (s0 : Int32)  (M : xM), f_X7_reach_c30  a1 a2 s0 M = some (r, M') → WW p l e ({ frames := 1, cells := 0, slots := 0, locals := 22 } : Room) s m args below meth c 0 0 Q 3 D g tb 30 [(1, .int a1), (2, .int a2)] [.int s0, .ref (g.1 5 2500)] M := by
    intro   s0  M hf
    unfold f_X7_reach_c30 at hf
    refine r_iconst C0 (v := 1) dX7_reach_30 rfl ?_
    obtain ⟨r11, M10, hc9, hf⟩ := bd2_e hf
    refine r_callVi C0 (As := [.int s0, .int 1]) (rest := []) (c_X7_fails l D g tb hT h0 hc9) w7_93 w7_95 wp5_12 w1_14 w7_96 (x_rec5 C0 h0.1) hd_X7_fails rfl ⟨rfl, rfl⟩ ⟨Nat.le_of_ble_eq_true rfl, Nat.le_of_ble_eq_true rfl⟩ (by decide) (by decide) rfl (Nat.le_of_ble_eq_true rfl) dX7_reach_31 ?_
    refine r_if_eq C0 (tgt := 41) (by decide) dX7_reach_34 (fun q12 => ?_) (fun q12 => ?_)
    · have hf := ie_t hf q12
      refine r_iload_n C0 (kk := 1) 0 rfl dX7_reach_41 ?_
      refine r_iload_n C0 (kk := 2) 1 rfl dX7_reach_42 ?_
      obtain ⟨r15, M14, hc13, hf⟩ := bd2_e hf
      refine r_callSi C0 (As := [.int a1, .int a2]) (rest := []) (c_X7_reachOf l D g tb hT  hc13) w6_186 w6_187 w1_14 w6_188 hd_X7_reachOf rfl ⟨rfl, rfl⟩ ⟨Nat.le_of_ble_eq_true rfl, Nat.le_of_ble_eq_true rfl⟩ (by decide) (by decide) rfl (Nat.le_of_ble_eq_true rfl) dX7_reach_43 ?_
      exact hend hf dX7_reach_46
    · have hf := ie_f hf q12
      refine r_iconst C0 (v := 0) dX7_reach_37 rfl ?_
      refine r_goto C0 (tgt := 46) (by decide) dX7_reach_38 ?_
      exact hend hf dX7_reach_46
  have B29 : ∀ (M : xM), f_X7_reach_c29  a1 a2 M = some (r, M') → WW p l e ({ frames := 1, cells := 0, slots := 0, locals := 22 } : Room) s m args below meth c 0 0 Q 3 D g tb 29 [(1, .int a1), (2, .int a2)] [.ref (g.1 5 2500)] M := by
    intro     M hf
    unfold f_X7_reach_c29 at hf
    refine r_iconst C0 (v := 0) dX7_reach_29 rfl ?_
    exact B30   _   _ hf
  unfold f_X7_reach at hf
  refine r_aload_n C0 (kk := 0) 0 rfl dX7_reach_0 ?_
  refine r_iconst C0 (v := 0) dX7_reach_1 rfl ?_
  refine r_put5 C0 h0.1 4 rfl rfl w6_220 rfl rfl rfl dX7_reach_2 ?_
  refine r_aload_n C0 (kk := 0) 0 rfl dX7_reach_5 ?_
  refine r_iload_n C0 (kk := 1) 1 rfl dX7_reach_6 ?_
  refine r_iconst C0 (v := 0) dX7_reach_7 rfl ?_
  refine r_iconst C0 (v := 3) dX7_reach_8 rfl ?_
  obtain ⟨r3, M2, hc1, hf⟩ := bd2_e hf
  refine r_callSi C0 (As := [.int a1, .int 0, .int 3]) (rest := [.ref (g.1 5 2500)]) (c_X7_inRange l D g tb hT  hc1) w6_12 w6_13 w1_14 w6_14 hd_X7_inRange rfl ⟨rfl, rfl⟩ ⟨Nat.le_of_ble_eq_true rfl, Nat.le_of_ble_eq_true rfl⟩ (by decide) (by decide) rfl (Nat.le_of_ble_eq_true rfl) dX7_reach_9 ?_
  refine r_if_eq C0 (tgt := 29) (by decide) dX7_reach_12 (fun q4 => ?_) (fun q4 => ?_)
  · have hf := ie_t hf q4
    refine WW.sub [1, 2] rfl ?_
    exact B29     _ hf
  · have hf := ie_f hf q4
    refine r_iload_n C0 (kk := 2) 2 rfl dX7_reach_15 ?_
    refine r_iconst C0 (v := 0) dX7_reach_16 rfl ?_
    refine r_bipush C0 (v := 9) dX7_reach_17 rfl ?_
    obtain ⟨r7, M6, hc5, hf⟩ := bd2_e hf
    refine r_callSi C0 (As := [.int a2, .int 0, .int 9]) (rest := [.ref (g.1 5 2500)]) (c_X7_inRange l D g tb hT  hc5) w6_12 w6_13 w1_14 w6_14 hd_X7_inRange rfl ⟨rfl, rfl⟩ ⟨Nat.le_of_ble_eq_true rfl, Nat.le_of_ble_eq_true rfl⟩ (by decide) (by decide) rfl (Nat.le_of_ble_eq_true rfl) dX7_reach_19 ?_
    refine r_if_eq C0 (tgt := 29) (by decide) dX7_reach_22 (fun q8 => ?_) (fun q8 => ?_)
    · have hf := ie_t hf q8
      refine WW.sub [1, 2] rfl ?_
      exact B29     _ hf
    · have hf := ie_f hf q8
      refine r_iconst C0 (v := 1) dX7_reach_25 rfl ?_
      refine r_goto C0 (tgt := 30) (by decide) dX7_reach_26 ?_
      refine WW.sub [1, 2] rfl ?_
      exact B30   _   _ hf
theorem dX7_buyerCount_0 : decode cX7_buyerCount 0 = .ok (.aload_n 0, 1) := by decide +kernel
theorem dX7_buyerCount_1 : decode cX7_buyerCount 1 = .ok (.aload_n 0, 1) := by decide +kernel
theorem dX7_buyerCount_2 : decode cX7_buyerCount 2 = .ok (.getfield 17, 3) := by decide +kernel
theorem dX7_buyerCount_5 : decode cX7_buyerCount 5 = .ok (.bipush 10, 2) := by decide +kernel
theorem dX7_buyerCount_7 : decode cX7_buyerCount 7 = .ok (.iaload, 1) := by decide +kernel
theorem dX7_buyerCount_8 : decode cX7_buyerCount 8 = .ok (.invokevirtual 301, 3) := by decide +kernel
theorem dX7_buyerCount_11 : decode cX7_buyerCount 11 = .ok (.ireturn, 1) := by decide +kernel
theorem hd_X7_buyerCount : yX7_buyerCount.cls = RX7 ∧ yX7_buyerCount.cls ≠ "java/lang/invoke/MethodHandle" ∧ yX7_buyerCount.cls ≠ "java/lang/invoke/VarHandle" ∧ (parseMethodDescriptor yX7_buyerCount.desc).map (fun d => d.parameters.length) = some 0 := by decide +kernel
set_option maxRecDepth 100000 in
set_option maxHeartbeats 4000000 in
theorem c_X7_buyerCount (l : Launch) (D : va_G) (g : xG) (tb : List xQ) (hT : x_T g tb)  (h0 : x_md tb) {M : xM} {r : Int32} {M' : xM} (hf : f_X7_buyerCount  M = some (r, M')) :
    cI l D g tb yX7_buyerCount cX7_buyerCount 1 .int ({ frames := 1, cells := 0, slots := 0, locals := 21 } : Room) [.ref (g.1 5 2500)] M r M' := by
  refine x_startI (own := RX7) (by decide +kernel) rfl rfl (Nat.le_of_ble_eq_true rfl) hT ?_
  intro p e s m args below meth c Q C0 hend
  unfold f_X7_buyerCount at hf
  refine r_aload_n C0 (kk := 0) 0 rfl dX7_buyerCount_0 ?_
  refine r_aload_n C0 (kk := 0) 0 rfl dX7_buyerCount_1 ?_
  refine r_get5 C0 h0.1 5 (by decide) (v := .ref (g.1 6 2520)) rfl rfl w6_221 dX7_buyerCount_2 ?_
  refine r_bipush C0 (v := 10) dX7_buyerCount_5 rfl ?_
  refine r_ialdc C0 h0.2.1 (z := 2530) (by decide) (by decide) dX7_buyerCount_7 ?_
  obtain ⟨r3, M2, hc1, hf⟩ := bd2_e hf
  refine r_callVi C0 (As := [.int (M 2530)]) (rest := []) (c_X7_plain l D g tb hT h0 hc1) w7_61 w7_63 wp5_11 w1_14 w7_64 (x_rec5 C0 h0.1) hd_X7_plain rfl ⟨rfl, rfl⟩ ⟨Nat.le_of_ble_eq_true rfl, Nat.le_of_ble_eq_true rfl⟩ (by decide) (by decide) rfl (Nat.le_of_ble_eq_true rfl) dX7_buyerCount_8 ?_
  exact hend hf dX7_buyerCount_11
theorem dX7_isBuyer_0 : decode cX7_isBuyer 0 = .ok (.aload_n 0, 1) := by decide +kernel
theorem dX7_isBuyer_1 : decode cX7_isBuyer 1 = .ok (.iconst 0, 1) := by decide +kernel
theorem dX7_isBuyer_2 : decode cX7_isBuyer 2 = .ok (.putfield 60, 3) := by decide +kernel
theorem dX7_isBuyer_5 : decode cX7_isBuyer 5 = .ok (.aload_n 0, 1) := by decide +kernel
theorem dX7_isBuyer_6 : decode cX7_isBuyer 6 = .ok (.iload_n 1, 1) := by decide +kernel
theorem dX7_isBuyer_7 : decode cX7_isBuyer 7 = .ok (.iconst 0, 1) := by decide +kernel
theorem dX7_isBuyer_8 : decode cX7_isBuyer 8 = .ok (.aload_n 0, 1) := by decide +kernel
theorem dX7_isBuyer_9 : decode cX7_isBuyer 9 = .ok (.getfield 17, 3) := by decide +kernel
theorem dX7_isBuyer_12 : decode cX7_isBuyer 12 = .ok (.bipush 10, 2) := by decide +kernel
theorem dX7_isBuyer_14 : decode cX7_isBuyer 14 = .ok (.iaload, 1) := by decide +kernel
theorem dX7_isBuyer_15 : decode cX7_isBuyer 15 = .ok (.iconst 1, 1) := by decide +kernel
theorem dX7_isBuyer_16 : decode cX7_isBuyer 16 = .ok (.isub, 1) := by decide +kernel
theorem dX7_isBuyer_17 : decode cX7_isBuyer 17 = .ok (.invokestatic 147, 3) := by decide +kernel
theorem dX7_isBuyer_20 : decode cX7_isBuyer 20 = .ok (.iconst 1, 1) := by decide +kernel
theorem dX7_isBuyer_21 : decode cX7_isBuyer 21 = .ok (.invokevirtual 304, 3) := by decide +kernel
theorem dX7_isBuyer_24 : decode cX7_isBuyer 24 = .ok (.ifCond .ne 7, 3) := by decide +kernel
theorem dX7_isBuyer_27 : decode cX7_isBuyer 27 = .ok (.iconst 1, 1) := by decide +kernel
theorem dX7_isBuyer_28 : decode cX7_isBuyer 28 = .ok (.goto 4, 3) := by decide +kernel
theorem dX7_isBuyer_31 : decode cX7_isBuyer 31 = .ok (.iconst 0, 1) := by decide +kernel
theorem dX7_isBuyer_32 : decode cX7_isBuyer 32 = .ok (.ireturn, 1) := by decide +kernel
theorem hd_X7_isBuyer : yX7_isBuyer.cls = RX7 ∧ yX7_isBuyer.cls ≠ "java/lang/invoke/MethodHandle" ∧ yX7_isBuyer.cls ≠ "java/lang/invoke/VarHandle" ∧ (parseMethodDescriptor yX7_isBuyer.desc).map (fun d => d.parameters.length) = some 1 := by decide +kernel
set_option maxRecDepth 100000 in
set_option maxHeartbeats 4000000 in
theorem c_X7_isBuyer (l : Launch) (D : va_G) (g : xG) (tb : List xQ) (hT : x_T g tb) {a1 : Int32} (h0 : x_md tb) {M : xM} {r : Int32} {M' : xM} (hf : f_X7_isBuyer a1 M = some (r, M')) :
    cI l D g tb yX7_isBuyer cX7_isBuyer 2 .boolean ({ frames := 1, cells := 0, slots := 0, locals := 22 } : Room) [.ref (g.1 5 2500), .int a1] M r M' := by
  refine x_startZ (own := RX7) (by decide +kernel) rfl rfl (Nat.le_of_ble_eq_true rfl) hT ?_
  intro p e s m args below meth c Q C0 hend
  unfold f_X7_isBuyer at hf
  refine r_aload_n C0 (kk := 0) 0 rfl dX7_isBuyer_0 ?_
  refine r_iconst C0 (v := 0) dX7_isBuyer_1 rfl ?_
  refine r_put5 C0 h0.1 4 rfl rfl w6_220 rfl rfl rfl dX7_isBuyer_2 ?_
  refine r_aload_n C0 (kk := 0) 0 rfl dX7_isBuyer_5 ?_
  refine r_iload_n C0 (kk := 1) 1 rfl dX7_isBuyer_6 ?_
  refine r_iconst C0 (v := 0) dX7_isBuyer_7 rfl ?_
  refine r_aload_n C0 (kk := 0) 0 rfl dX7_isBuyer_8 ?_
  refine r_get5 C0 h0.1 5 (by decide) (v := .ref (g.1 6 2520)) rfl rfl w6_221 dX7_isBuyer_9 ?_
  refine r_bipush C0 (v := 10) dX7_isBuyer_12 rfl ?_
  refine r_ialdc C0 h0.2.1 (z := 2530) (by decide) (by decide) dX7_isBuyer_14 ?_
  refine r_iconst C0 (v := 1) dX7_isBuyer_15 rfl ?_
  refine r_isub C0 dX7_isBuyer_16 ?_
  obtain ⟨r3, M2, hc1, hf⟩ := bd2_e hf
  refine r_callSi C0 (As := [.int a1, .int 0, .int (((upd M 2504 0) 2530) - 1)]) (rest := [.ref (g.1 5 2500)]) (c_X7_inRange l D g tb hT  hc1) w6_12 w6_13 w1_14 w6_14 hd_X7_inRange rfl ⟨rfl, rfl⟩ ⟨Nat.le_of_ble_eq_true rfl, Nat.le_of_ble_eq_true rfl⟩ (by decide) (by decide) rfl (Nat.le_of_ble_eq_true rfl) dX7_isBuyer_17 ?_
  refine r_iconst C0 (v := 1) dX7_isBuyer_20 rfl ?_
  obtain ⟨r6, M5, hc4, hf⟩ := bd2_e hf
  refine r_callVi C0 (As := [.int r3, .int 1]) (rest := []) (c_X7_fails l D g tb hT h0 hc4) w7_93 w7_95 wp5_12 w1_14 w7_96 (x_rec5 C0 h0.1) hd_X7_fails rfl ⟨rfl, rfl⟩ ⟨Nat.le_of_ble_eq_true rfl, Nat.le_of_ble_eq_true rfl⟩ (by decide) (by decide) rfl (Nat.le_of_ble_eq_true rfl) dX7_isBuyer_21 ?_
  refine r_if_ne C0 (tgt := 31) (by decide) dX7_isBuyer_24 (fun q7 => ?_) (fun q7 => ?_)
  · have hf := ie_f hf q7
    refine r_iconst C0 (v := 0) dX7_isBuyer_31 rfl ?_
    exact hend (by decide) hf dX7_isBuyer_32
  · have hf := ie_t hf q7
    refine r_iconst C0 (v := 1) dX7_isBuyer_27 rfl ?_
    refine r_goto C0 (tgt := 32) (by decide) dX7_isBuyer_28 ?_
    exact hend (by decide) hf dX7_isBuyer_32
theorem dX7_touch_0 : decode cX7_touch 0 = .ok (.aload_n 0, 1) := by decide +kernel
theorem dX7_touch_1 : decode cX7_touch 1 = .ok (.iload_n 1, 1) := by decide +kernel
theorem dX7_touch_2 : decode cX7_touch 2 = .ok (.invokevirtual 314, 3) := by decide +kernel
theorem dX7_touch_5 : decode cX7_touch 5 = .ok (.ifCond .eq 20, 3) := by decide +kernel
theorem dX7_touch_8 : decode cX7_touch 8 = .ok (.aload_n 0, 1) := by decide +kernel
theorem dX7_touch_9 : decode cX7_touch 9 = .ok (.iload_n 2, 1) := by decide +kernel
theorem dX7_touch_10 : decode cX7_touch 10 = .ok (.invokevirtual 311, 3) := by decide +kernel
theorem dX7_touch_13 : decode cX7_touch 13 = .ok (.ifCond .eq 12, 3) := by decide +kernel
theorem dX7_touch_16 : decode cX7_touch 16 = .ok (.aload_n 0, 1) := by decide +kernel
theorem dX7_touch_17 : decode cX7_touch 17 = .ok (.iload_n 1, 1) := by decide +kernel
theorem dX7_touch_18 : decode cX7_touch 18 = .ok (.iload_n 2, 1) := by decide +kernel
theorem dX7_touch_19 : decode cX7_touch 19 = .ok (.invokevirtual 121, 3) := by decide +kernel
theorem dX7_touch_22 : decode cX7_touch 22 = .ok (.goto 4, 3) := by decide +kernel
theorem dX7_touch_25 : decode cX7_touch 25 = .ok (.iconst 0, 1) := by decide +kernel
theorem dX7_touch_26 : decode cX7_touch 26 = .ok (.ireturn, 1) := by decide +kernel
theorem hd_X7_touch : yX7_touch.cls = RX7 ∧ yX7_touch.cls ≠ "java/lang/invoke/MethodHandle" ∧ yX7_touch.cls ≠ "java/lang/invoke/VarHandle" ∧ (parseMethodDescriptor yX7_touch.desc).map (fun d => d.parameters.length) = some 2 := by decide +kernel
set_option maxRecDepth 100000 in
set_option maxHeartbeats 4000000 in
theorem c_X7_touch (l : Launch) (D : va_G) (g : xG) (tb : List xQ) (hT : x_T g tb) {a1 : Int32} {a2 : Int32} (h0 : x_md tb) {M : xM} {r : Int32} {M' : xM} (hf : f_X7_touch a1 a2 M = some (r, M')) :
    cI l D g tb yX7_touch cX7_touch 3 .int ({ frames := 2, cells := 0, slots := 0, locals := 44 } : Room) [.ref (g.1 5 2500), .int a1, .int a2] M r M' := by
  refine x_startI (own := RX7) (by decide +kernel) rfl rfl (Nat.le_of_ble_eq_true rfl) hT ?_
  intro p e s m args below meth c Q C0 hend
  unfold f_X7_touch at hf
  refine r_aload_n C0 (kk := 0) 0 rfl dX7_touch_0 ?_
  refine r_iload_n C0 (kk := 1) 1 rfl dX7_touch_1 ?_
  obtain ⟨r3, M2, hc1, hf⟩ := bd2_e hf
  refine r_callVi C0 (As := [.int a1]) (rest := []) (c_X7_isBuyer l D g tb hT h0 hc1) w7_197 w7_199 wp6_2 w1_14 w7_200 (x_rec5 C0 h0.1) hd_X7_isBuyer rfl ⟨rfl, rfl⟩ ⟨Nat.le_of_ble_eq_true rfl, Nat.le_of_ble_eq_true rfl⟩ (by decide) (by decide) rfl (Nat.le_of_ble_eq_true rfl) dX7_touch_2 ?_
  refine r_if_eq C0 (tgt := 25) (by decide) dX7_touch_5 (fun q4 => ?_) (fun q4 => ?_)
  · have hf := ie_t hf q4
    refine r_iconst C0 (v := 0) dX7_touch_25 rfl ?_
    exact hend hf dX7_touch_26
  · have hf := ie_f hf q4
    refine r_aload_n C0 (kk := 0) 0 rfl dX7_touch_8 ?_
    refine r_iload_n C0 (kk := 2) 2 rfl dX7_touch_9 ?_
    obtain ⟨r7, M6, hc5, hf⟩ := bd2_e hf
    refine r_callVi C0 (As := [.int a2]) (rest := []) (c_X7_isStall l D g tb hT h0 hc5) w7_137 w7_139 wp5_15 w1_14 w7_140 (x_rec5 C0 h0.1) hd_X7_isStall rfl ⟨rfl, rfl⟩ ⟨Nat.le_of_ble_eq_true rfl, Nat.le_of_ble_eq_true rfl⟩ (by decide) (by decide) rfl (Nat.le_of_ble_eq_true rfl) dX7_touch_10 ?_
    refine r_if_eq C0 (tgt := 25) (by decide) dX7_touch_13 (fun q8 => ?_) (fun q8 => ?_)
    · have hf := ie_t hf q8
      refine r_iconst C0 (v := 0) dX7_touch_25 rfl ?_
      exact hend hf dX7_touch_26
    · have hf := ie_f hf q8
      refine r_aload_n C0 (kk := 0) 0 rfl dX7_touch_16 ?_
      refine r_iload_n C0 (kk := 1) 1 rfl dX7_touch_17 ?_
      refine r_iload_n C0 (kk := 2) 2 rfl dX7_touch_18 ?_
      obtain ⟨r11, M10, hc9, hf⟩ := bd2_e hf
      refine r_callVi C0 (As := [.int a1, .int a2]) (rest := []) (c_X7_feel l D g tb hT h0 hc9) w6_193 w6_195 wp5_5 w1_14 w6_196 (x_rec5 C0 h0.1) hd_X7_feel rfl ⟨rfl, rfl⟩ ⟨Nat.le_of_ble_eq_true rfl, Nat.le_of_ble_eq_true rfl⟩ (by decide) (by decide) rfl (Nat.le_of_ble_eq_true rfl) dX7_touch_19 ?_
      refine r_goto C0 (tgt := 26) (by decide) dX7_touch_22 ?_
      exact hend hf dX7_touch_26
theorem dX7_sumOf_0 : decode cX7_sumOf 0 = .ok (.iconst 0, 1) := by decide +kernel
theorem dX7_sumOf_1 : decode cX7_sumOf 1 = .ok (.istore_n 2, 1) := by decide +kernel
theorem dX7_sumOf_2 : decode cX7_sumOf 2 = .ok (.iconst 0, 1) := by decide +kernel
theorem dX7_sumOf_3 : decode cX7_sumOf 3 = .ok (.istore_n 3, 1) := by decide +kernel
theorem dX7_sumOf_4 : decode cX7_sumOf 4 = .ok (.iload_n 3, 1) := by decide +kernel
theorem dX7_sumOf_5 : decode cX7_sumOf 5 = .ok (.aload_n 0, 1) := by decide +kernel
theorem dX7_sumOf_6 : decode cX7_sumOf 6 = .ok (.getfield 17, 3) := by decide +kernel
theorem dX7_sumOf_9 : decode cX7_sumOf 9 = .ok (.bipush 9, 2) := by decide +kernel
theorem dX7_sumOf_11 : decode cX7_sumOf 11 = .ok (.iaload, 1) := by decide +kernel
theorem dX7_sumOf_12 : decode cX7_sumOf 12 = .ok (.if_icmp .ge 18, 3) := by decide +kernel
theorem dX7_sumOf_15 : decode cX7_sumOf 15 = .ok (.iload_n 2, 1) := by decide +kernel
theorem dX7_sumOf_16 : decode cX7_sumOf 16 = .ok (.aload_n 0, 1) := by decide +kernel
theorem dX7_sumOf_17 : decode cX7_sumOf 17 = .ok (.iload_n 3, 1) := by decide +kernel
theorem dX7_sumOf_18 : decode cX7_sumOf 18 = .ok (.iload_n 1, 1) := by decide +kernel
theorem dX7_sumOf_19 : decode cX7_sumOf 19 = .ok (.invokevirtual 63, 3) := by decide +kernel
theorem dX7_sumOf_22 : decode cX7_sumOf 22 = .ok (.iadd, 1) := by decide +kernel
theorem dX7_sumOf_23 : decode cX7_sumOf 23 = .ok (.istore_n 2, 1) := by decide +kernel
theorem dX7_sumOf_24 : decode cX7_sumOf 24 = .ok (.iinc 3 1, 3) := by decide +kernel
theorem dX7_sumOf_27 : decode cX7_sumOf 27 = .ok (.goto (-23), 3) := by decide +kernel
theorem dX7_sumOf_30 : decode cX7_sumOf 30 = .ok (.iload_n 2, 1) := by decide +kernel
theorem dX7_sumOf_31 : decode cX7_sumOf 31 = .ok (.ireturn, 1) := by decide +kernel
theorem hd_X7_sumOf : yX7_sumOf.cls = RX7 ∧ yX7_sumOf.cls ≠ "java/lang/invoke/MethodHandle" ∧ yX7_sumOf.cls ≠ "java/lang/invoke/VarHandle" ∧ (parseMethodDescriptor yX7_sumOf.desc).map (fun d => d.parameters.length) = some 1 := by decide +kernel
set_option maxRecDepth 100000 in
set_option maxHeartbeats 4000000 in
theorem c_X7_sumOf (l : Launch) (D : va_G) (g : xG) (tb : List xQ) (hT : x_T g tb) {a1 : Int32} (h0 : x_md tb) {M : xM} {r : Int32} {M' : xM} (hf : f_X7_sumOf a1 M = some (r, M')) :
    cI l D g tb yX7_sumOf cX7_sumOf 4 .int ({ frames := 1, cells := 0, slots := 0, locals := 22 } : Room) [.ref (g.1 5 2500), .int a1] M r M' := by
  refine x_startI (own := RX7) (by decide +kernel) rfl rfl (Nat.le_of_ble_eq_true rfl) hT ?_
  intro p e s m args below meth c Q C0 hend
  have B4 : ∀ (k4 : Int32 → Int32 → xM → Option (Int32 × xM)) (hk4 : ∀ (v2 : Int32) (v3 : Int32)  (M : xM), k4 v2 v3 M = some (r, M') → WW p l e ({ frames := 1, cells := 0, slots := 0, locals := 22 } : Room) s m args below meth c 0 0 Q 4 D g tb 4 [(0, .ref (g.1 5 2500)), (1, .int a1), (2, .int v2), (3, .int v3)] [] M), ∀ (v2 : Int32) (v3 : Int32)  (M : xM), fb_X7_sumOf_c4 k4 a1 v2 v3 M = some (r, M') → WW p l e ({ frames := 1, cells := 0, slots := 0, locals := 22 } : Room) s m args below meth c 0 0 Q 4 D g tb 4 [(0, .ref (g.1 5 2500)), (1, .int a1), (2, .int v2), (3, .int v3)] [] M := by
    intro k4 hk4 v2 v3  M hf
    unfold fb_X7_sumOf_c4 at hf
    refine r_iload_n C0 (kk := 3) 3 rfl dX7_sumOf_4 ?_
    refine r_aload_n C0 (kk := 0) 0 rfl dX7_sumOf_5 ?_
    refine r_get5 C0 h0.1 5 (by decide) (v := .ref (g.1 6 2520)) rfl rfl w6_221 dX7_sumOf_6 ?_
    refine r_bipush C0 (v := 9) dX7_sumOf_9 rfl ?_
    refine r_ialdc C0 h0.2.1 (z := 2529) (by decide) (by decide) dX7_sumOf_11 ?_
    refine r_icmp_ge C0 (tgt := 30) (by decide) dX7_sumOf_12 (fun q1 => ?_) (fun q1 => ?_)
    · have hf := ie_t hf q1
      refine r_iload_n C0 (kk := 2) 2 rfl dX7_sumOf_30 ?_
      exact hend hf dX7_sumOf_31
    · have hf := ie_f hf q1
      refine r_iload_n C0 (kk := 2) 2 rfl dX7_sumOf_15 ?_
      refine r_aload_n C0 (kk := 0) 0 rfl dX7_sumOf_16 ?_
      refine r_iload_n C0 (kk := 3) 3 rfl dX7_sumOf_17 ?_
      refine r_iload_n C0 (kk := 1) 1 rfl dX7_sumOf_18 ?_
      obtain ⟨r4, M3, hc2, hf⟩ := bd2_e hf
      refine r_callVi C0 (As := [.int v3, .int a1]) (rest := [.int v2]) (c_X7_st l D g tb hT h0 hc2) w6_111 w6_113 wp4_3 w1_14 w6_114 (x_rec5 C0 h0.1) hd_X7_st rfl ⟨rfl, rfl⟩ ⟨Nat.le_of_ble_eq_true rfl, Nat.le_of_ble_eq_true rfl⟩ (by decide) (by decide) rfl (Nat.le_of_ble_eq_true rfl) dX7_sumOf_19 ?_
      refine r_iadd C0 dX7_sumOf_22 ?_
      refine r_istore_n C0 (kk := 2) (lv2 := [(2, .int (v2 + r4)), (0, .ref (g.1 5 2500)), (1, .int a1), (3, .int v3)]) (by decide) rfl dX7_sumOf_23 ?_
      refine r_iincc C0 3 rfl (k0 := 1) (by decide) (by decide) (lv2 := [(3, .int (v3 + 1)), (2, .int (v2 + r4)), (0, .ref (g.1 5 2500)), (1, .int a1)]) rfl dX7_sumOf_24 ?_
      refine r_goto C0 (tgt := 4) (by decide) dX7_sumOf_27 ?_
      refine WW.sub [2, 3, 1, 0] rfl ?_
      exact hk4 _ _   _ hf
  have L4 : ∀ (v2 : Int32) (v3 : Int32)  (M : xM), f_X7_sumOf_c4  a1 v2 v3 M = some (r, M') → WW p l e ({ frames := 1, cells := 0, slots := 0, locals := 22 } : Room) s m args below meth c 0 0 Q 4 D g tb 4 [(0, .ref (g.1 5 2500)), (1, .int a1), (2, .int v2), (3, .int v3)] [] M := lp_ind (P := fun f => ∀ (v2 : Int32) (v3 : Int32)  (M : xM), f v2 v3 M = some (r, M') → WW p l e ({ frames := 1, cells := 0, slots := 0, locals := 22 } : Room) s m args below meth c 0 0 Q 4 D g tb 4 [(0, .ref (g.1 5 2500)), (1, .int a1), (2, .int v2), (3, .int v3)] [] M) (fun _ _ _ h => none_ne h) (fun f hf => B4 f hf) FU
  unfold f_X7_sumOf at hf
  refine r_iconst C0 (v := 0) dX7_sumOf_0 rfl ?_
  refine r_istore_n C0 (kk := 2) (lv2 := [(2, .int 0), (0, .ref (g.1 5 2500)), (1, .int a1)]) (by decide) rfl dX7_sumOf_1 ?_
  refine r_iconst C0 (v := 0) dX7_sumOf_2 rfl ?_
  refine r_istore_n C0 (kk := 3) (lv2 := [(3, .int 0), (2, .int 0), (0, .ref (g.1 5 2500)), (1, .int a1)]) (by decide) rfl dX7_sumOf_3 ?_
  refine WW.sub [2, 3, 1, 0] rfl ?_
  exact L4   _ _   _ hf
theorem dX7_consistencyError_0 : decode cX7_consistencyError 0 = .ok (.aload_n 0, 1) := by decide +kernel
theorem dX7_consistencyError_1 : decode cX7_consistencyError 1 = .ok (.iconst 0, 1) := by decide +kernel
theorem dX7_consistencyError_2 : decode cX7_consistencyError 2 = .ok (.putfield 60, 3) := by decide +kernel
theorem dX7_consistencyError_5 : decode cX7_consistencyError 5 = .ok (.iconst 0, 1) := by decide +kernel
theorem dX7_consistencyError_6 : decode cX7_consistencyError 6 = .ok (.istore_n 1, 1) := by decide +kernel
theorem dX7_consistencyError_7 : decode cX7_consistencyError 7 = .ok (.iconst 0, 1) := by decide +kernel
theorem dX7_consistencyError_8 : decode cX7_consistencyError 8 = .ok (.istore_n 2, 1) := by decide +kernel
theorem dX7_consistencyError_9 : decode cX7_consistencyError 9 = .ok (.iload_n 2, 1) := by decide +kernel
theorem dX7_consistencyError_10 : decode cX7_consistencyError 10 = .ok (.aload_n 0, 1) := by decide +kernel
theorem dX7_consistencyError_11 : decode cX7_consistencyError 11 = .ok (.getfield 17, 3) := by decide +kernel
theorem dX7_consistencyError_14 : decode cX7_consistencyError 14 = .ok (.bipush 9, 2) := by decide +kernel
theorem dX7_consistencyError_16 : decode cX7_consistencyError 16 = .ok (.iaload, 1) := by decide +kernel
theorem dX7_consistencyError_17 : decode cX7_consistencyError 17 = .ok (.if_icmp .ge 50, 3) := by decide +kernel
theorem dX7_consistencyError_20 : decode cX7_consistencyError 20 = .ok (.iload_n 1, 1) := by decide +kernel
theorem dX7_consistencyError_21 : decode cX7_consistencyError 21 = .ok (.aload_n 0, 1) := by decide +kernel
theorem dX7_consistencyError_22 : decode cX7_consistencyError 22 = .ok (.iload_n 2, 1) := by decide +kernel
theorem dX7_consistencyError_23 : decode cX7_consistencyError 23 = .ok (.bipush 8, 2) := by decide +kernel
theorem dX7_consistencyError_25 : decode cX7_consistencyError 25 = .ok (.invokevirtual 63, 3) := by decide +kernel
theorem dX7_consistencyError_28 : decode cX7_consistencyError 28 = .ok (.aload_n 0, 1) := by decide +kernel
theorem dX7_consistencyError_29 : decode cX7_consistencyError 29 = .ok (.iload_n 2, 1) := by decide +kernel
theorem dX7_consistencyError_30 : decode cX7_consistencyError 30 = .ok (.iconst 4, 1) := by decide +kernel
theorem dX7_consistencyError_31 : decode cX7_consistencyError 31 = .ok (.invokevirtual 63, 3) := by decide +kernel
theorem dX7_consistencyError_34 : decode cX7_consistencyError 34 = .ok (.isub, 1) := by decide +kernel
theorem dX7_consistencyError_35 : decode cX7_consistencyError 35 = .ok (.aload_n 0, 1) := by decide +kernel
theorem dX7_consistencyError_36 : decode cX7_consistencyError 36 = .ok (.iload_n 2, 1) := by decide +kernel
theorem dX7_consistencyError_37 : decode cX7_consistencyError 37 = .ok (.invokevirtual 320, 3) := by decide +kernel
theorem dX7_consistencyError_40 : decode cX7_consistencyError 40 = .ok (.isub, 1) := by decide +kernel
theorem dX7_consistencyError_41 : decode cX7_consistencyError 41 = .ok (.aload_n 0, 1) := by decide +kernel
theorem dX7_consistencyError_42 : decode cX7_consistencyError 42 = .ok (.iload_n 2, 1) := by decide +kernel
theorem dX7_consistencyError_43 : decode cX7_consistencyError 43 = .ok (.iconst 5, 1) := by decide +kernel
theorem dX7_consistencyError_44 : decode cX7_consistencyError 44 = .ok (.invokevirtual 63, 3) := by decide +kernel
theorem dX7_consistencyError_47 : decode cX7_consistencyError 47 = .ok (.isub, 1) := by decide +kernel
theorem dX7_consistencyError_48 : decode cX7_consistencyError 48 = .ok (.aload_n 0, 1) := by decide +kernel
theorem dX7_consistencyError_49 : decode cX7_consistencyError 49 = .ok (.iload_n 2, 1) := by decide +kernel
theorem dX7_consistencyError_50 : decode cX7_consistencyError 50 = .ok (.bipush 6, 2) := by decide +kernel
theorem dX7_consistencyError_52 : decode cX7_consistencyError 52 = .ok (.invokevirtual 63, 3) := by decide +kernel
theorem dX7_consistencyError_55 : decode cX7_consistencyError 55 = .ok (.isub, 1) := by decide +kernel
theorem dX7_consistencyError_56 : decode cX7_consistencyError 56 = .ok (.invokestatic 329, 3) := by decide +kernel
theorem dX7_consistencyError_59 : decode cX7_consistencyError 59 = .ok (.iadd, 1) := by decide +kernel
theorem dX7_consistencyError_60 : decode cX7_consistencyError 60 = .ok (.istore_n 1, 1) := by decide +kernel
theorem dX7_consistencyError_61 : decode cX7_consistencyError 61 = .ok (.iinc 2 1, 3) := by decide +kernel
theorem dX7_consistencyError_64 : decode cX7_consistencyError 64 = .ok (.goto (-55), 3) := by decide +kernel
theorem dX7_consistencyError_67 : decode cX7_consistencyError 67 = .ok (.iload_n 1, 1) := by decide +kernel
theorem dX7_consistencyError_68 : decode cX7_consistencyError 68 = .ok (.ireturn, 1) := by decide +kernel
theorem hd_X7_consistencyError : yX7_consistencyError.cls = RX7 ∧ yX7_consistencyError.cls ≠ "java/lang/invoke/MethodHandle" ∧ yX7_consistencyError.cls ≠ "java/lang/invoke/VarHandle" ∧ (parseMethodDescriptor yX7_consistencyError.desc).map (fun d => d.parameters.length) = some 0 := by decide +kernel
set_option maxRecDepth 100000 in
set_option maxHeartbeats 4000000 in
theorem c_X7_consistencyError (l : Launch) (D : va_G) (g : xG) (tb : List xQ) (hT : x_T g tb)  (h0 : x_md tb) {M : xM} {r : Int32} {M' : xM} (hf : f_X7_consistencyError  M = some (r, M')) :
    cI l D g tb yX7_consistencyError cX7_consistencyError 3 .int ({ frames := 2, cells := 0, slots := 0, locals := 45 } : Room) [.ref (g.1 5 2500)] M r M' := by
  refine x_startI (own := RX7) (by decide +kernel) rfl rfl (Nat.le_of_ble_eq_true rfl) hT ?_
  intro p e s m args below meth c Q C0 hend
  have B9 : ∀ (k9 : Int32 → Int32 → xM → Option (Int32 × xM)) (hk9 : ∀ (v1 : Int32) (v2 : Int32)  (M : xM), k9 v1 v2 M = some (r, M') → WW p l e ({ frames := 2, cells := 0, slots := 0, locals := 45 } : Room) s m args below meth c 0 0 Q 3 D g tb 9 [(0, .ref (g.1 5 2500)), (1, .int v1), (2, .int v2)] [] M), ∀ (v1 : Int32) (v2 : Int32)  (M : xM), fb_X7_consistencyError_c9 k9  v1 v2 M = some (r, M') → WW p l e ({ frames := 2, cells := 0, slots := 0, locals := 45 } : Room) s m args below meth c 0 0 Q 3 D g tb 9 [(0, .ref (g.1 5 2500)), (1, .int v1), (2, .int v2)] [] M := by
    intro k9 hk9 v1 v2  M hf
    unfold fb_X7_consistencyError_c9 at hf
    refine r_iload_n C0 (kk := 2) 2 rfl dX7_consistencyError_9 ?_
    refine r_aload_n C0 (kk := 0) 0 rfl dX7_consistencyError_10 ?_
    refine r_get5 C0 h0.1 5 (by decide) (v := .ref (g.1 6 2520)) rfl rfl w6_221 dX7_consistencyError_11 ?_
    refine r_bipush C0 (v := 9) dX7_consistencyError_14 rfl ?_
    refine r_ialdc C0 h0.2.1 (z := 2529) (by decide) (by decide) dX7_consistencyError_16 ?_
    refine r_icmp_ge C0 (tgt := 67) (by decide) dX7_consistencyError_17 (fun q1 => ?_) (fun q1 => ?_)
    · have hf := ie_t hf q1
      refine r_iload_n C0 (kk := 1) 1 rfl dX7_consistencyError_67 ?_
      exact hend hf dX7_consistencyError_68
    · have hf := ie_f hf q1
      refine r_iload_n C0 (kk := 1) 1 rfl dX7_consistencyError_20 ?_
      refine r_aload_n C0 (kk := 0) 0 rfl dX7_consistencyError_21 ?_
      refine r_iload_n C0 (kk := 2) 2 rfl dX7_consistencyError_22 ?_
      refine r_bipush C0 (v := 8) dX7_consistencyError_23 rfl ?_
      obtain ⟨r4, M3, hc2, hf⟩ := bd2_e hf
      refine r_callVi C0 (As := [.int v2, .int 8]) (rest := [.int v1]) (c_X7_st l D g tb hT h0 hc2) w6_111 w6_113 wp4_3 w1_14 w6_114 (x_rec5 C0 h0.1) hd_X7_st rfl ⟨rfl, rfl⟩ ⟨Nat.le_of_ble_eq_true rfl, Nat.le_of_ble_eq_true rfl⟩ (by decide) (by decide) rfl (Nat.le_of_ble_eq_true rfl) dX7_consistencyError_25 ?_
      refine r_aload_n C0 (kk := 0) 0 rfl dX7_consistencyError_28 ?_
      refine r_iload_n C0 (kk := 2) 2 rfl dX7_consistencyError_29 ?_
      refine r_iconst C0 (v := 4) dX7_consistencyError_30 rfl ?_
      obtain ⟨r7, M6, hc5, hf⟩ := bd2_e hf
      refine r_callVi C0 (As := [.int v2, .int 4]) (rest := [.int r4, .int v1]) (c_X7_st l D g tb hT h0 hc5) w6_111 w6_113 wp4_3 w1_14 w6_114 (x_rec5 C0 h0.1) hd_X7_st rfl ⟨rfl, rfl⟩ ⟨Nat.le_of_ble_eq_true rfl, Nat.le_of_ble_eq_true rfl⟩ (by decide) (by decide) rfl (Nat.le_of_ble_eq_true rfl) dX7_consistencyError_31 ?_
      refine r_isub C0 dX7_consistencyError_34 ?_
      refine r_aload_n C0 (kk := 0) 0 rfl dX7_consistencyError_35 ?_
      refine r_iload_n C0 (kk := 2) 2 rfl dX7_consistencyError_36 ?_
      obtain ⟨r10, M9, hc8, hf⟩ := bd2_e hf
      refine r_callVi C0 (As := [.int v2]) (rest := [.int (r4 - r7), .int v1]) (c_X7_held l D g tb hT h0 hc8) w7_161 w7_163 wp6_0 w1_14 w7_164 (x_rec5 C0 h0.1) hd_X7_held rfl ⟨rfl, rfl⟩ ⟨Nat.le_of_ble_eq_true rfl, Nat.le_of_ble_eq_true rfl⟩ (by decide) (by decide) rfl (Nat.le_of_ble_eq_true rfl) dX7_consistencyError_37 ?_
      refine r_isub C0 dX7_consistencyError_40 ?_
      refine r_aload_n C0 (kk := 0) 0 rfl dX7_consistencyError_41 ?_
      refine r_iload_n C0 (kk := 2) 2 rfl dX7_consistencyError_42 ?_
      refine r_iconst C0 (v := 5) dX7_consistencyError_43 rfl ?_
      obtain ⟨r13, M12, hc11, hf⟩ := bd2_e hf
      refine r_callVi C0 (As := [.int v2, .int 5]) (rest := [.int ((r4 - r7) - r10), .int v1]) (c_X7_st l D g tb hT h0 hc11) w6_111 w6_113 wp4_3 w1_14 w6_114 (x_rec5 C0 h0.1) hd_X7_st rfl ⟨rfl, rfl⟩ ⟨Nat.le_of_ble_eq_true rfl, Nat.le_of_ble_eq_true rfl⟩ (by decide) (by decide) rfl (Nat.le_of_ble_eq_true rfl) dX7_consistencyError_44 ?_
      refine r_isub C0 dX7_consistencyError_47 ?_
      refine r_aload_n C0 (kk := 0) 0 rfl dX7_consistencyError_48 ?_
      refine r_iload_n C0 (kk := 2) 2 rfl dX7_consistencyError_49 ?_
      refine r_bipush C0 (v := 6) dX7_consistencyError_50 rfl ?_
      obtain ⟨r16, M15, hc14, hf⟩ := bd2_e hf
      refine r_callVi C0 (As := [.int v2, .int 6]) (rest := [.int (((r4 - r7) - r10) - r13), .int v1]) (c_X7_st l D g tb hT h0 hc14) w6_111 w6_113 wp4_3 w1_14 w6_114 (x_rec5 C0 h0.1) hd_X7_st rfl ⟨rfl, rfl⟩ ⟨Nat.le_of_ble_eq_true rfl, Nat.le_of_ble_eq_true rfl⟩ (by decide) (by decide) rfl (Nat.le_of_ble_eq_true rfl) dX7_consistencyError_52 ?_
      refine r_isub C0 dX7_consistencyError_55 ?_
      refine r_abs C0 w8_9 w3_50 w1_13 w3_51 (by decide) (Nat.le_of_ble_eq_true rfl) (by decide) (by decide) dX7_consistencyError_56 ?_
      refine r_iadd C0 dX7_consistencyError_59 ?_
      refine r_istore_n C0 (kk := 1) (lv2 := [(1, .int (v1 + (iabs ((((r4 - r7) - r10) - r13) - r16)))), (0, .ref (g.1 5 2500)), (2, .int v2)]) (by decide) rfl dX7_consistencyError_60 ?_
      refine r_iincc C0 2 rfl (k0 := 1) (by decide) (by decide) (lv2 := [(2, .int (v2 + 1)), (1, .int (v1 + (iabs ((((r4 - r7) - r10) - r13) - r16)))), (0, .ref (g.1 5 2500))]) rfl dX7_consistencyError_61 ?_
      refine r_goto C0 (tgt := 9) (by decide) dX7_consistencyError_64 ?_
      refine WW.sub [2, 1, 0] rfl ?_
      exact hk9 _ _   _ hf
  have L9 : ∀ (v1 : Int32) (v2 : Int32)  (M : xM), f_X7_consistencyError_c9   v1 v2 M = some (r, M') → WW p l e ({ frames := 2, cells := 0, slots := 0, locals := 45 } : Room) s m args below meth c 0 0 Q 3 D g tb 9 [(0, .ref (g.1 5 2500)), (1, .int v1), (2, .int v2)] [] M := lp_ind (P := fun f => ∀ (v1 : Int32) (v2 : Int32)  (M : xM), f v1 v2 M = some (r, M') → WW p l e ({ frames := 2, cells := 0, slots := 0, locals := 45 } : Room) s m args below meth c 0 0 Q 3 D g tb 9 [(0, .ref (g.1 5 2500)), (1, .int v1), (2, .int v2)] [] M) (fun _ _ _ h => none_ne h) (fun f hf => B9 f hf) FU
  unfold f_X7_consistencyError at hf
  refine r_aload_n C0 (kk := 0) 0 rfl dX7_consistencyError_0 ?_
  refine r_iconst C0 (v := 0) dX7_consistencyError_1 rfl ?_
  refine r_put5 C0 h0.1 4 rfl rfl w6_220 rfl rfl rfl dX7_consistencyError_2 ?_
  refine r_iconst C0 (v := 0) dX7_consistencyError_5 rfl ?_
  refine r_istore_n C0 (kk := 1) (lv2 := [(1, .int 0), (0, .ref (g.1 5 2500))]) (by decide) rfl dX7_consistencyError_6 ?_
  refine r_iconst C0 (v := 0) dX7_consistencyError_7 rfl ?_
  refine r_istore_n C0 (kk := 2) (lv2 := [(2, .int 0), (1, .int 0), (0, .ref (g.1 5 2500))]) (by decide) rfl dX7_consistencyError_8 ?_
  refine WW.sub [2, 1, 0] rfl ?_
  exact L9   _ _   _ hf
theorem dX7_record_0 : decode cX7_record 0 = .ok (.iconst 0, 1) := by decide +kernel
theorem dX7_record_1 : decode cX7_record 1 = .ok (.istore_n 1, 1) := by decide +kernel
theorem dX7_record_2 : decode cX7_record 2 = .ok (.iload_n 1, 1) := by decide +kernel
theorem dX7_record_3 : decode cX7_record 3 = .ok (.bipush 125, 2) := by decide +kernel
theorem dX7_record_5 : decode cX7_record 5 = .ok (.if_icmp .ge 21, 3) := by decide +kernel
theorem dX7_record_8 : decode cX7_record 8 = .ok (.aload_n 0, 1) := by decide +kernel
theorem dX7_record_9 : decode cX7_record 9 = .ok (.getfield 20, 3) := by decide +kernel
theorem dX7_record_12 : decode cX7_record 12 = .ok (.iload_n 1, 1) := by decide +kernel
theorem dX7_record_13 : decode cX7_record 13 = .ok (.aload_n 0, 1) := by decide +kernel
theorem dX7_record_14 : decode cX7_record 14 = .ok (.getfield 17, 3) := by decide +kernel
theorem dX7_record_17 : decode cX7_record 17 = .ok (.iload_n 1, 1) := by decide +kernel
theorem dX7_record_18 : decode cX7_record 18 = .ok (.iaload, 1) := by decide +kernel
theorem dX7_record_19 : decode cX7_record 19 = .ok (.iastore, 1) := by decide +kernel
theorem dX7_record_20 : decode cX7_record 20 = .ok (.iinc 1 1, 3) := by decide +kernel
theorem dX7_record_23 : decode cX7_record 23 = .ok (.goto (-21), 3) := by decide +kernel
theorem dX7_record_26 : decode cX7_record 26 = .ok (.aload_n 0, 1) := by decide +kernel
theorem dX7_record_27 : decode cX7_record 27 = .ok (.invokevirtual 298, 3) := by decide +kernel
theorem dX7_record_30 : decode cX7_record 30 = .ok (.return_, 1) := by decide +kernel
theorem hd_X7_record : yX7_record.cls = RX7 ∧ yX7_record.cls ≠ "java/lang/invoke/MethodHandle" ∧ yX7_record.cls ≠ "java/lang/invoke/VarHandle" ∧ (parseMethodDescriptor yX7_record.desc).map (fun d => d.parameters.length) = some 0 := by decide +kernel
set_option maxRecDepth 100000 in
set_option maxHeartbeats 4000000 in
theorem c_X7_record (l : Launch) (D : va_G) (g : xG) (tb : List xQ) (hT : x_T g tb)  (h0 : x_md tb) {M M' : xM} (hf : f_X7_record  M = some M') :
    cV l D g tb yX7_record cX7_record 2 ({ frames := 1, cells := 0, slots := 0, locals := 21 } : Room) [.ref (g.1 5 2500)] M M' := by
  refine x_startV (own := RX7) (by decide +kernel) rfl rfl (Nat.le_of_ble_eq_true rfl) hT ?_
  intro p e s m args below meth c Q C0 hend
  have B2 : ∀ (k2 : Int32 → xM → Option xM) (hk2 : ∀ (v1 : Int32)  (M : xM), k2 v1 M = some M' → WW p l e ({ frames := 1, cells := 0, slots := 0, locals := 21 } : Room) s m args below meth c 0 0 Q 2 D g tb 2 [(0, .ref (g.1 5 2500)), (1, .int v1)] [] M), ∀ (v1 : Int32)  (M : xM), fb_X7_record_c2 k2  v1 M = some M' → WW p l e ({ frames := 1, cells := 0, slots := 0, locals := 21 } : Room) s m args below meth c 0 0 Q 2 D g tb 2 [(0, .ref (g.1 5 2500)), (1, .int v1)] [] M := by
    intro k2 hk2 v1  M hf
    unfold fb_X7_record_c2 at hf
    refine r_iload_n C0 (kk := 1) 1 rfl dX7_record_2 ?_
    refine r_bipush C0 (v := 125) dX7_record_3 rfl ?_
    refine r_icmp_ge C0 (tgt := 26) (by decide) dX7_record_5 (fun q1 => ?_) (fun q1 => ?_)
    · have hf := ie_t hf q1
      refine r_aload_n C0 (kk := 0) 0 rfl dX7_record_26 ?_
      obtain ⟨M3, hc2, hf⟩ := bd_e hf
      refine r_callVv C0 (As := []) (rest := []) (c_X7_pushAside l D g tb hT h0 hc2) w7_53 w7_55 wp5_10 w1_14 w7_56 (x_rec5 C0 h0.1) hd_X7_pushAside rfl ⟨rfl, rfl⟩ ⟨Nat.le_of_ble_eq_true rfl, Nat.le_of_ble_eq_true rfl⟩ (by decide) (by decide) rfl (Nat.le_of_ble_eq_true rfl) dX7_record_27 ?_
      exact hend hf dX7_record_30
    · have hf := ie_f hf q1
      refine r_aload_n C0 (kk := 0) 0 rfl dX7_record_8 ?_
      refine r_get5 C0 h0.1 6 (by decide) (v := .ref (g.1 6 2645)) rfl rfl w6_222 dX7_record_9 ?_
      refine r_iload_n C0 (kk := 1) 1 rfl dX7_record_12 ?_
      refine r_aload_n C0 (kk := 0) 0 rfl dX7_record_13 ?_
      refine r_get5 C0 h0.1 5 (by decide) (v := .ref (g.1 6 2520)) rfl rfl w6_221 dX7_record_14 ?_
      refine r_iload_n C0 (kk := 1) 1 rfl dX7_record_17 ?_
      obtain ⟨q4, hf⟩ := gd_e hf
      refine r_ialdc C0 h0.2.1 q4 rfl dX7_record_18 ?_
      obtain ⟨q5, hf⟩ := gd_e hf
      refine r_iastc C0 h0.2.2.1 q5 rfl dX7_record_19 ?_
      refine r_iincc C0 1 rfl (k0 := 1) (by decide) (by decide) (lv2 := [(1, .int (v1 + 1)), (0, .ref (g.1 5 2500))]) rfl dX7_record_20 ?_
      refine r_goto C0 (tgt := 2) (by decide) dX7_record_23 ?_
      refine WW.sub [1, 0] rfl ?_
      exact hk2 _   _ hf
  have L2 : ∀ (v1 : Int32)  (M : xM), f_X7_record_c2   v1 M = some M' → WW p l e ({ frames := 1, cells := 0, slots := 0, locals := 21 } : Room) s m args below meth c 0 0 Q 2 D g tb 2 [(0, .ref (g.1 5 2500)), (1, .int v1)] [] M := lp_ind (P := fun f => ∀ (v1 : Int32)  (M : xM), f v1 M = some M' → WW p l e ({ frames := 1, cells := 0, slots := 0, locals := 21 } : Room) s m args below meth c 0 0 Q 2 D g tb 2 [(0, .ref (g.1 5 2500)), (1, .int v1)] [] M) (fun _ _ h => none_ne h) (fun f hf => B2 f hf) FU
  unfold f_X7_record at hf
  refine r_iconst C0 (v := 0) dX7_record_0 rfl ?_
  refine r_istore_n C0 (kk := 1) (lv2 := [(1, .int 0), (0, .ref (g.1 5 2500))]) (by decide) rfl dX7_record_1 ?_
  refine WW.sub [1, 0] rfl ?_
  exact L2   _   _ hf
theorem dX7_setPrice_0 : decode cX7_setPrice 0 = .ok (.aload_n 0, 1) := by decide +kernel
theorem dX7_setPrice_1 : decode cX7_setPrice 1 = .ok (.iload_n 1, 1) := by decide +kernel
theorem dX7_setPrice_2 : decode cX7_setPrice 2 = .ok (.invokevirtual 311, 3) := by decide +kernel
theorem dX7_setPrice_5 : decode cX7_setPrice 5 = .ok (.ifCond .eq 19, 3) := by decide +kernel
theorem dX7_setPrice_8 : decode cX7_setPrice 8 = .ok (.aload_n 0, 1) := by decide +kernel
theorem dX7_setPrice_9 : decode cX7_setPrice 9 = .ok (.iload_n 2, 1) := by decide +kernel
theorem dX7_setPrice_10 : decode cX7_setPrice 10 = .ok (.iconst 1, 1) := by decide +kernel
theorem dX7_setPrice_11 : decode cX7_setPrice 11 = .ok (.sipush 999, 3) := by decide +kernel
theorem dX7_setPrice_14 : decode cX7_setPrice 14 = .ok (.invokestatic 147, 3) := by decide +kernel
theorem dX7_setPrice_17 : decode cX7_setPrice 17 = .ok (.iconst 2, 1) := by decide +kernel
theorem dX7_setPrice_18 : decode cX7_setPrice 18 = .ok (.invokevirtual 304, 3) := by decide +kernel
theorem dX7_setPrice_21 : decode cX7_setPrice 21 = .ok (.ifCond .eq 5, 3) := by decide +kernel
theorem dX7_setPrice_24 : decode cX7_setPrice 24 = .ok (.iconst 0, 1) := by decide +kernel
theorem dX7_setPrice_25 : decode cX7_setPrice 25 = .ok (.ireturn, 1) := by decide +kernel
theorem dX7_setPrice_26 : decode cX7_setPrice 26 = .ok (.aload_n 0, 1) := by decide +kernel
theorem dX7_setPrice_27 : decode cX7_setPrice 27 = .ok (.invokevirtual 338, 3) := by decide +kernel
theorem dX7_setPrice_30 : decode cX7_setPrice 30 = .ok (.aload_n 0, 1) := by decide +kernel
theorem dX7_setPrice_31 : decode cX7_setPrice 31 = .ok (.bipush 23, 2) := by decide +kernel
theorem dX7_setPrice_33 : decode cX7_setPrice 33 = .ok (.bipush 9, 2) := by decide +kernel
theorem dX7_setPrice_35 : decode cX7_setPrice 35 = .ok (.iload_n 1, 1) := by decide +kernel
theorem dX7_setPrice_36 : decode cX7_setPrice 36 = .ok (.imul, 1) := by decide +kernel
theorem dX7_setPrice_37 : decode cX7_setPrice 37 = .ok (.iadd, 1) := by decide +kernel
theorem dX7_setPrice_38 : decode cX7_setPrice 38 = .ok (.iconst 3, 1) := by decide +kernel
theorem dX7_setPrice_39 : decode cX7_setPrice 39 = .ok (.iadd, 1) := by decide +kernel
theorem dX7_setPrice_40 : decode cX7_setPrice 40 = .ok (.iload_n 2, 1) := by decide +kernel
theorem dX7_setPrice_41 : decode cX7_setPrice 41 = .ok (.invokevirtual 274, 3) := by decide +kernel
theorem dX7_setPrice_44 : decode cX7_setPrice 44 = .ok (.ireturn, 1) := by decide +kernel
theorem hd_X7_setPrice : yX7_setPrice.cls = RX7 ∧ yX7_setPrice.cls ≠ "java/lang/invoke/MethodHandle" ∧ yX7_setPrice.cls ≠ "java/lang/invoke/VarHandle" ∧ (parseMethodDescriptor yX7_setPrice.desc).map (fun d => d.parameters.length) = some 2 := by decide +kernel
set_option maxRecDepth 100000 in
set_option maxHeartbeats 4000000 in
theorem c_X7_setPrice (l : Launch) (D : va_G) (g : xG) (tb : List xQ) (hT : x_T g tb) {a1 : Int32} {a2 : Int32} (h0 : x_md tb) {M : xM} {r : Int32} {M' : xM} (hf : f_X7_setPrice a1 a2 M = some (r, M')) :
    cI l D g tb yX7_setPrice cX7_setPrice 3 .int ({ frames := 2, cells := 0, slots := 0, locals := 43 } : Room) [.ref (g.1 5 2500), .int a1, .int a2] M r M' := by
  refine x_startI (own := RX7) (by decide +kernel) rfl rfl (Nat.le_of_ble_eq_true rfl) hT ?_
  intro p e s m args below meth c Q C0 hend
  unfold f_X7_setPrice at hf
  refine r_aload_n C0 (kk := 0) 0 rfl dX7_setPrice_0 ?_
  refine r_iload_n C0 (kk := 1) 1 rfl dX7_setPrice_1 ?_
  obtain ⟨r3, M2, hc1, hf⟩ := bd2_e hf
  refine r_callVi C0 (As := [.int a1]) (rest := []) (c_X7_isStall l D g tb hT h0 hc1) w7_137 w7_139 wp5_15 w1_14 w7_140 (x_rec5 C0 h0.1) hd_X7_isStall rfl ⟨rfl, rfl⟩ ⟨Nat.le_of_ble_eq_true rfl, Nat.le_of_ble_eq_true rfl⟩ (by decide) (by decide) rfl (Nat.le_of_ble_eq_true rfl) dX7_setPrice_2 ?_
  refine r_if_eq C0 (tgt := 24) (by decide) dX7_setPrice_5 (fun q4 => ?_) (fun q4 => ?_)
  · have hf := ie_t hf q4
    refine r_iconst C0 (v := 0) dX7_setPrice_24 rfl ?_
    exact hend hf dX7_setPrice_25
  · have hf := ie_f hf q4
    refine r_aload_n C0 (kk := 0) 0 rfl dX7_setPrice_8 ?_
    refine r_iload_n C0 (kk := 2) 2 rfl dX7_setPrice_9 ?_
    refine r_iconst C0 (v := 1) dX7_setPrice_10 rfl ?_
    refine r_sipush C0 (v := 999) dX7_setPrice_11 rfl ?_
    obtain ⟨r7, M6, hc5, hf⟩ := bd2_e hf
    refine r_callSi C0 (As := [.int a2, .int 1, .int 999]) (rest := [.ref (g.1 5 2500)]) (c_X7_inRange l D g tb hT  hc5) w6_12 w6_13 w1_14 w6_14 hd_X7_inRange rfl ⟨rfl, rfl⟩ ⟨Nat.le_of_ble_eq_true rfl, Nat.le_of_ble_eq_true rfl⟩ (by decide) (by decide) rfl (Nat.le_of_ble_eq_true rfl) dX7_setPrice_14 ?_
    refine r_iconst C0 (v := 2) dX7_setPrice_17 rfl ?_
    obtain ⟨r10, M9, hc8, hf⟩ := bd2_e hf
    refine r_callVi C0 (As := [.int r7, .int 2]) (rest := []) (c_X7_fails l D g tb hT h0 hc8) w7_93 w7_95 wp5_12 w1_14 w7_96 (x_rec5 C0 h0.1) hd_X7_fails rfl ⟨rfl, rfl⟩ ⟨Nat.le_of_ble_eq_true rfl, Nat.le_of_ble_eq_true rfl⟩ (by decide) (by decide) rfl (Nat.le_of_ble_eq_true rfl) dX7_setPrice_18 ?_
    refine r_if_eq C0 (tgt := 26) (by decide) dX7_setPrice_21 (fun q11 => ?_) (fun q11 => ?_)
    · have hf := ie_t hf q11
      refine r_aload_n C0 (kk := 0) 0 rfl dX7_setPrice_26 ?_
      obtain ⟨M13, hc12, hf⟩ := bd_e hf
      refine r_callVv C0 (As := []) (rest := []) (c_X7_record l D g tb hT h0 hc12) w8_54 w8_56 wp6_6 w1_14 w8_57 (x_rec5 C0 h0.1) hd_X7_record rfl ⟨rfl, rfl⟩ ⟨Nat.le_of_ble_eq_true rfl, Nat.le_of_ble_eq_true rfl⟩ (by decide) (by decide) rfl (Nat.le_of_ble_eq_true rfl) dX7_setPrice_27 ?_
      refine r_aload_n C0 (kk := 0) 0 rfl dX7_setPrice_30 ?_
      refine r_bipush C0 (v := 23) dX7_setPrice_31 rfl ?_
      refine r_bipush C0 (v := 9) dX7_setPrice_33 rfl ?_
      refine r_iload_n C0 (kk := 1) 1 rfl dX7_setPrice_35 ?_
      refine r_imul C0 dX7_setPrice_36 ?_
      refine r_iadd C0 dX7_setPrice_37 ?_
      refine r_iconst C0 (v := 3) dX7_setPrice_38 rfl ?_
      refine r_iadd C0 dX7_setPrice_39 ?_
      refine r_iload_n C0 (kk := 2) 2 rfl dX7_setPrice_40 ?_
      obtain ⟨r16, M15, hc14, hf⟩ := bd2_e hf
      refine r_callVi C0 (As := [.int ((23 + (9 * a1)) + 3), .int a2]) (rest := []) (c_X7_lays l D g tb hT h0 hc14) w6_200 w6_202 wp5_6 w1_14 w6_203 (x_rec5 C0 h0.1) hd_X7_lays rfl ⟨rfl, rfl⟩ ⟨Nat.le_of_ble_eq_true rfl, Nat.le_of_ble_eq_true rfl⟩ (by decide) (by decide) rfl (Nat.le_of_ble_eq_true rfl) dX7_setPrice_41 ?_
      exact hend hf dX7_setPrice_44
    · have hf := ie_f hf q11
      refine r_iconst C0 (v := 0) dX7_setPrice_24 rfl ?_
      exact hend hf dX7_setPrice_25
theorem dX7_addStock_0 : decode cX7_addStock 0 = .ok (.aload_n 0, 1) := by decide +kernel
theorem dX7_addStock_1 : decode cX7_addStock 1 = .ok (.iload_n 1, 1) := by decide +kernel
theorem dX7_addStock_2 : decode cX7_addStock 2 = .ok (.invokevirtual 311, 3) := by decide +kernel
theorem dX7_addStock_5 : decode cX7_addStock 5 = .ok (.ifCond .eq 44, 3) := by decide +kernel
theorem dX7_addStock_8 : decode cX7_addStock 8 = .ok (.aload_n 0, 1) := by decide +kernel
theorem dX7_addStock_9 : decode cX7_addStock 9 = .ok (.iload_n 2, 1) := by decide +kernel
theorem dX7_addStock_10 : decode cX7_addStock 10 = .ok (.iconst 0, 1) := by decide +kernel
theorem dX7_addStock_11 : decode cX7_addStock 11 = .ok (.bipush 99, 2) := by decide +kernel
theorem dX7_addStock_13 : decode cX7_addStock 13 = .ok (.invokestatic 147, 3) := by decide +kernel
theorem dX7_addStock_16 : decode cX7_addStock 16 = .ok (.iconst 2, 1) := by decide +kernel
theorem dX7_addStock_17 : decode cX7_addStock 17 = .ok (.invokevirtual 304, 3) := by decide +kernel
theorem dX7_addStock_20 : decode cX7_addStock 20 = .ok (.ifCond .ne 29, 3) := by decide +kernel
theorem dX7_addStock_23 : decode cX7_addStock 23 = .ok (.aload_n 0, 1) := by decide +kernel
theorem dX7_addStock_24 : decode cX7_addStock 24 = .ok (.aload_n 0, 1) := by decide +kernel
theorem dX7_addStock_25 : decode cX7_addStock 25 = .ok (.iload_n 1, 1) := by decide +kernel
theorem dX7_addStock_26 : decode cX7_addStock 26 = .ok (.iconst 4, 1) := by decide +kernel
theorem dX7_addStock_27 : decode cX7_addStock 27 = .ok (.invokevirtual 63, 3) := by decide +kernel
theorem dX7_addStock_30 : decode cX7_addStock 30 = .ok (.iload_n 2, 1) := by decide +kernel
theorem dX7_addStock_31 : decode cX7_addStock 31 = .ok (.iadd, 1) := by decide +kernel
theorem dX7_addStock_32 : decode cX7_addStock 32 = .ok (.bipush 99, 2) := by decide +kernel
theorem dX7_addStock_34 : decode cX7_addStock 34 = .ok (.if_icmp .gt 7, 3) := by decide +kernel
theorem dX7_addStock_37 : decode cX7_addStock 37 = .ok (.iconst 1, 1) := by decide +kernel
theorem dX7_addStock_38 : decode cX7_addStock 38 = .ok (.goto 4, 3) := by decide +kernel
theorem dX7_addStock_41 : decode cX7_addStock 41 = .ok (.iconst 0, 1) := by decide +kernel
theorem dX7_addStock_42 : decode cX7_addStock 42 = .ok (.iconst 3, 1) := by decide +kernel
theorem dX7_addStock_43 : decode cX7_addStock 43 = .ok (.invokevirtual 304, 3) := by decide +kernel
theorem dX7_addStock_46 : decode cX7_addStock 46 = .ok (.ifCond .eq 5, 3) := by decide +kernel
theorem dX7_addStock_49 : decode cX7_addStock 49 = .ok (.iconst 0, 1) := by decide +kernel
theorem dX7_addStock_50 : decode cX7_addStock 50 = .ok (.ireturn, 1) := by decide +kernel
theorem dX7_addStock_51 : decode cX7_addStock 51 = .ok (.aload_n 0, 1) := by decide +kernel
theorem dX7_addStock_52 : decode cX7_addStock 52 = .ok (.invokevirtual 338, 3) := by decide +kernel
theorem dX7_addStock_55 : decode cX7_addStock 55 = .ok (.aload_n 0, 1) := by decide +kernel
theorem dX7_addStock_56 : decode cX7_addStock 56 = .ok (.iload_n 1, 1) := by decide +kernel
theorem dX7_addStock_57 : decode cX7_addStock 57 = .ok (.iload_n 2, 1) := by decide +kernel
theorem dX7_addStock_58 : decode cX7_addStock 58 = .ok (.invokevirtual 280, 3) := by decide +kernel
theorem dX7_addStock_61 : decode cX7_addStock 61 = .ok (.ireturn, 1) := by decide +kernel
theorem hd_X7_addStock : yX7_addStock.cls = RX7 ∧ yX7_addStock.cls ≠ "java/lang/invoke/MethodHandle" ∧ yX7_addStock.cls ≠ "java/lang/invoke/VarHandle" ∧ (parseMethodDescriptor yX7_addStock.desc).map (fun d => d.parameters.length) = some 2 := by decide +kernel
set_option maxRecDepth 100000 in
set_option maxHeartbeats 4000000 in
theorem c_X7_addStock (l : Launch) (D : va_G) (g : xG) (tb : List xQ) (hT : x_T g tb) {a1 : Int32} {a2 : Int32} (h0 : x_md tb) {M : xM} {r : Int32} {M' : xM} (hf : f_X7_addStock a1 a2 M = some (r, M')) :
    cI l D g tb yX7_addStock cX7_addStock 3 .int ({ frames := 2, cells := 0, slots := 0, locals := 45 } : Room) [.ref (g.1 5 2500), .int a1, .int a2] M r M' := by
  refine x_startI (own := RX7) (by decide +kernel) rfl rfl (Nat.le_of_ble_eq_true rfl) hT ?_
  intro p e s m args below meth c Q C0 hend
  have B42 : ∀ (s0 : Int32)  (M : xM), f_X7_addStock_c42  a1 a2 s0 M = some (r, M') → WW p l e ({ frames := 2, cells := 0, slots := 0, locals := 45 } : Room) s m args below meth c 0 0 Q 3 D g tb 42 [(0, .ref (g.1 5 2500)), (1, .int a1), (2, .int a2)] [.int s0, .ref (g.1 5 2500)] M := by
    intro   s0  M hf
    unfold f_X7_addStock_c42 at hf
    refine r_iconst C0 (v := 3) dX7_addStock_42 rfl ?_
    obtain ⟨r18, M17, hc16, hf⟩ := bd2_e hf
    refine r_callVi C0 (As := [.int s0, .int 3]) (rest := []) (c_X7_fails l D g tb hT h0 hc16) w7_93 w7_95 wp5_12 w1_14 w7_96 (x_rec5 C0 h0.1) hd_X7_fails rfl ⟨rfl, rfl⟩ ⟨Nat.le_of_ble_eq_true rfl, Nat.le_of_ble_eq_true rfl⟩ (by decide) (by decide) rfl (Nat.le_of_ble_eq_true rfl) dX7_addStock_43 ?_
    refine r_if_eq C0 (tgt := 51) (by decide) dX7_addStock_46 (fun q19 => ?_) (fun q19 => ?_)
    · have hf := ie_t hf q19
      refine r_aload_n C0 (kk := 0) 0 rfl dX7_addStock_51 ?_
      obtain ⟨M21, hc20, hf⟩ := bd_e hf
      refine r_callVv C0 (As := []) (rest := []) (c_X7_record l D g tb hT h0 hc20) w8_54 w8_56 wp6_6 w1_14 w8_57 (x_rec5 C0 h0.1) hd_X7_record rfl ⟨rfl, rfl⟩ ⟨Nat.le_of_ble_eq_true rfl, Nat.le_of_ble_eq_true rfl⟩ (by decide) (by decide) rfl (Nat.le_of_ble_eq_true rfl) dX7_addStock_52 ?_
      refine r_aload_n C0 (kk := 0) 0 rfl dX7_addStock_55 ?_
      refine r_iload_n C0 (kk := 1) 1 rfl dX7_addStock_56 ?_
      refine r_iload_n C0 (kk := 2) 2 rfl dX7_addStock_57 ?_
      obtain ⟨r24, M23, hc22, hf⟩ := bd2_e hf
      refine r_callVi C0 (As := [.int a1, .int a2]) (rest := []) (c_X7_doStock l D g tb hT h0 hc22) w6_208 w6_210 wp5_8 w1_14 w6_211 (x_rec5 C0 h0.1) hd_X7_doStock rfl ⟨rfl, rfl⟩ ⟨Nat.le_of_ble_eq_true rfl, Nat.le_of_ble_eq_true rfl⟩ (by decide) (by decide) rfl (Nat.le_of_ble_eq_true rfl) dX7_addStock_58 ?_
      exact hend hf dX7_addStock_61
    · have hf := ie_f hf q19
      refine r_iconst C0 (v := 0) dX7_addStock_49 rfl ?_
      exact hend hf dX7_addStock_50
  unfold f_X7_addStock at hf
  refine r_aload_n C0 (kk := 0) 0 rfl dX7_addStock_0 ?_
  refine r_iload_n C0 (kk := 1) 1 rfl dX7_addStock_1 ?_
  obtain ⟨r3, M2, hc1, hf⟩ := bd2_e hf
  refine r_callVi C0 (As := [.int a1]) (rest := []) (c_X7_isStall l D g tb hT h0 hc1) w7_137 w7_139 wp5_15 w1_14 w7_140 (x_rec5 C0 h0.1) hd_X7_isStall rfl ⟨rfl, rfl⟩ ⟨Nat.le_of_ble_eq_true rfl, Nat.le_of_ble_eq_true rfl⟩ (by decide) (by decide) rfl (Nat.le_of_ble_eq_true rfl) dX7_addStock_2 ?_
  refine r_if_eq C0 (tgt := 49) (by decide) dX7_addStock_5 (fun q4 => ?_) (fun q4 => ?_)
  · have hf := ie_t hf q4
    refine r_iconst C0 (v := 0) dX7_addStock_49 rfl ?_
    exact hend hf dX7_addStock_50
  · have hf := ie_f hf q4
    refine r_aload_n C0 (kk := 0) 0 rfl dX7_addStock_8 ?_
    refine r_iload_n C0 (kk := 2) 2 rfl dX7_addStock_9 ?_
    refine r_iconst C0 (v := 0) dX7_addStock_10 rfl ?_
    refine r_bipush C0 (v := 99) dX7_addStock_11 rfl ?_
    obtain ⟨r7, M6, hc5, hf⟩ := bd2_e hf
    refine r_callSi C0 (As := [.int a2, .int 0, .int 99]) (rest := [.ref (g.1 5 2500)]) (c_X7_inRange l D g tb hT  hc5) w6_12 w6_13 w1_14 w6_14 hd_X7_inRange rfl ⟨rfl, rfl⟩ ⟨Nat.le_of_ble_eq_true rfl, Nat.le_of_ble_eq_true rfl⟩ (by decide) (by decide) rfl (Nat.le_of_ble_eq_true rfl) dX7_addStock_13 ?_
    refine r_iconst C0 (v := 2) dX7_addStock_16 rfl ?_
    obtain ⟨r10, M9, hc8, hf⟩ := bd2_e hf
    refine r_callVi C0 (As := [.int r7, .int 2]) (rest := []) (c_X7_fails l D g tb hT h0 hc8) w7_93 w7_95 wp5_12 w1_14 w7_96 (x_rec5 C0 h0.1) hd_X7_fails rfl ⟨rfl, rfl⟩ ⟨Nat.le_of_ble_eq_true rfl, Nat.le_of_ble_eq_true rfl⟩ (by decide) (by decide) rfl (Nat.le_of_ble_eq_true rfl) dX7_addStock_17 ?_
    refine r_if_ne C0 (tgt := 49) (by decide) dX7_addStock_20 (fun q11 => ?_) (fun q11 => ?_)
    · have hf := ie_f hf q11
      refine r_iconst C0 (v := 0) dX7_addStock_49 rfl ?_
      exact hend hf dX7_addStock_50
    · have hf := ie_t hf q11
      refine r_aload_n C0 (kk := 0) 0 rfl dX7_addStock_23 ?_
      refine r_aload_n C0 (kk := 0) 0 rfl dX7_addStock_24 ?_
      refine r_iload_n C0 (kk := 1) 1 rfl dX7_addStock_25 ?_
      refine r_iconst C0 (v := 4) dX7_addStock_26 rfl ?_
      obtain ⟨r14, M13, hc12, hf⟩ := bd2_e hf
      refine r_callVi C0 (As := [.int a1, .int 4]) (rest := [.ref (g.1 5 2500)]) (c_X7_st l D g tb hT h0 hc12) w6_111 w6_113 wp4_3 w1_14 w6_114 (x_rec5 C0 h0.1) hd_X7_st rfl ⟨rfl, rfl⟩ ⟨Nat.le_of_ble_eq_true rfl, Nat.le_of_ble_eq_true rfl⟩ (by decide) (by decide) rfl (Nat.le_of_ble_eq_true rfl) dX7_addStock_27 ?_
      refine r_iload_n C0 (kk := 2) 2 rfl dX7_addStock_30 ?_
      refine r_iadd C0 dX7_addStock_31 ?_
      refine r_bipush C0 (v := 99) dX7_addStock_32 rfl ?_
      refine r_icmp_gt C0 (tgt := 41) (by decide) dX7_addStock_34 (fun q15 => ?_) (fun q15 => ?_)
      · have hf := ie_t hf q15
        refine r_iconst C0 (v := 0) dX7_addStock_41 rfl ?_
        exact B42   _   _ hf
      · have hf := ie_f hf q15
        refine r_iconst C0 (v := 1) dX7_addStock_37 rfl ?_
        refine r_goto C0 (tgt := 42) (by decide) dX7_addStock_38 ?_
        exact B42   _   _ hf
theorem dX7_setLantern_0 : decode cX7_setLantern 0 = .ok (.aload_n 0, 1) := by decide +kernel
theorem dX7_setLantern_1 : decode cX7_setLantern 1 = .ok (.iload_n 1, 1) := by decide +kernel
theorem dX7_setLantern_2 : decode cX7_setLantern 2 = .ok (.invokevirtual 311, 3) := by decide +kernel
theorem dX7_setLantern_5 : decode cX7_setLantern 5 = .ok (.ifCond .eq 17, 3) := by decide +kernel
theorem dX7_setLantern_8 : decode cX7_setLantern 8 = .ok (.aload_n 0, 1) := by decide +kernel
theorem dX7_setLantern_9 : decode cX7_setLantern 9 = .ok (.iload_n 2, 1) := by decide +kernel
theorem dX7_setLantern_10 : decode cX7_setLantern 10 = .ok (.iconst 0, 1) := by decide +kernel
theorem dX7_setLantern_11 : decode cX7_setLantern 11 = .ok (.iconst 3, 1) := by decide +kernel
theorem dX7_setLantern_12 : decode cX7_setLantern 12 = .ok (.invokestatic 147, 3) := by decide +kernel
theorem dX7_setLantern_15 : decode cX7_setLantern 15 = .ok (.iconst 2, 1) := by decide +kernel
theorem dX7_setLantern_16 : decode cX7_setLantern 16 = .ok (.invokevirtual 304, 3) := by decide +kernel
theorem dX7_setLantern_19 : decode cX7_setLantern 19 = .ok (.ifCond .eq 5, 3) := by decide +kernel
theorem dX7_setLantern_22 : decode cX7_setLantern 22 = .ok (.iconst 0, 1) := by decide +kernel
theorem dX7_setLantern_23 : decode cX7_setLantern 23 = .ok (.ireturn, 1) := by decide +kernel
theorem dX7_setLantern_24 : decode cX7_setLantern 24 = .ok (.aload_n 0, 1) := by decide +kernel
theorem dX7_setLantern_25 : decode cX7_setLantern 25 = .ok (.invokevirtual 338, 3) := by decide +kernel
theorem dX7_setLantern_28 : decode cX7_setLantern 28 = .ok (.aload_n 0, 1) := by decide +kernel
theorem dX7_setLantern_29 : decode cX7_setLantern 29 = .ok (.bipush 23, 2) := by decide +kernel
theorem dX7_setLantern_31 : decode cX7_setLantern 31 = .ok (.bipush 9, 2) := by decide +kernel
theorem dX7_setLantern_33 : decode cX7_setLantern 33 = .ok (.iload_n 1, 1) := by decide +kernel
theorem dX7_setLantern_34 : decode cX7_setLantern 34 = .ok (.imul, 1) := by decide +kernel
theorem dX7_setLantern_35 : decode cX7_setLantern 35 = .ok (.iadd, 1) := by decide +kernel
theorem dX7_setLantern_36 : decode cX7_setLantern 36 = .ok (.iconst 1, 1) := by decide +kernel
theorem dX7_setLantern_37 : decode cX7_setLantern 37 = .ok (.iadd, 1) := by decide +kernel
theorem dX7_setLantern_38 : decode cX7_setLantern 38 = .ok (.iload_n 2, 1) := by decide +kernel
theorem dX7_setLantern_39 : decode cX7_setLantern 39 = .ok (.invokevirtual 274, 3) := by decide +kernel
theorem dX7_setLantern_42 : decode cX7_setLantern 42 = .ok (.ireturn, 1) := by decide +kernel
theorem hd_X7_setLantern : yX7_setLantern.cls = RX7 ∧ yX7_setLantern.cls ≠ "java/lang/invoke/MethodHandle" ∧ yX7_setLantern.cls ≠ "java/lang/invoke/VarHandle" ∧ (parseMethodDescriptor yX7_setLantern.desc).map (fun d => d.parameters.length) = some 2 := by decide +kernel
set_option maxRecDepth 100000 in
set_option maxHeartbeats 4000000 in
theorem c_X7_setLantern (l : Launch) (D : va_G) (g : xG) (tb : List xQ) (hT : x_T g tb) {a1 : Int32} {a2 : Int32} (h0 : x_md tb) {M : xM} {r : Int32} {M' : xM} (hf : f_X7_setLantern a1 a2 M = some (r, M')) :
    cI l D g tb yX7_setLantern cX7_setLantern 3 .int ({ frames := 2, cells := 0, slots := 0, locals := 43 } : Room) [.ref (g.1 5 2500), .int a1, .int a2] M r M' := by
  refine x_startI (own := RX7) (by decide +kernel) rfl rfl (Nat.le_of_ble_eq_true rfl) hT ?_
  intro p e s m args below meth c Q C0 hend
  unfold f_X7_setLantern at hf
  refine r_aload_n C0 (kk := 0) 0 rfl dX7_setLantern_0 ?_
  refine r_iload_n C0 (kk := 1) 1 rfl dX7_setLantern_1 ?_
  obtain ⟨r3, M2, hc1, hf⟩ := bd2_e hf
  refine r_callVi C0 (As := [.int a1]) (rest := []) (c_X7_isStall l D g tb hT h0 hc1) w7_137 w7_139 wp5_15 w1_14 w7_140 (x_rec5 C0 h0.1) hd_X7_isStall rfl ⟨rfl, rfl⟩ ⟨Nat.le_of_ble_eq_true rfl, Nat.le_of_ble_eq_true rfl⟩ (by decide) (by decide) rfl (Nat.le_of_ble_eq_true rfl) dX7_setLantern_2 ?_
  refine r_if_eq C0 (tgt := 22) (by decide) dX7_setLantern_5 (fun q4 => ?_) (fun q4 => ?_)
  · have hf := ie_t hf q4
    refine r_iconst C0 (v := 0) dX7_setLantern_22 rfl ?_
    exact hend hf dX7_setLantern_23
  · have hf := ie_f hf q4
    refine r_aload_n C0 (kk := 0) 0 rfl dX7_setLantern_8 ?_
    refine r_iload_n C0 (kk := 2) 2 rfl dX7_setLantern_9 ?_
    refine r_iconst C0 (v := 0) dX7_setLantern_10 rfl ?_
    refine r_iconst C0 (v := 3) dX7_setLantern_11 rfl ?_
    obtain ⟨r7, M6, hc5, hf⟩ := bd2_e hf
    refine r_callSi C0 (As := [.int a2, .int 0, .int 3]) (rest := [.ref (g.1 5 2500)]) (c_X7_inRange l D g tb hT  hc5) w6_12 w6_13 w1_14 w6_14 hd_X7_inRange rfl ⟨rfl, rfl⟩ ⟨Nat.le_of_ble_eq_true rfl, Nat.le_of_ble_eq_true rfl⟩ (by decide) (by decide) rfl (Nat.le_of_ble_eq_true rfl) dX7_setLantern_12 ?_
    refine r_iconst C0 (v := 2) dX7_setLantern_15 rfl ?_
    obtain ⟨r10, M9, hc8, hf⟩ := bd2_e hf
    refine r_callVi C0 (As := [.int r7, .int 2]) (rest := []) (c_X7_fails l D g tb hT h0 hc8) w7_93 w7_95 wp5_12 w1_14 w7_96 (x_rec5 C0 h0.1) hd_X7_fails rfl ⟨rfl, rfl⟩ ⟨Nat.le_of_ble_eq_true rfl, Nat.le_of_ble_eq_true rfl⟩ (by decide) (by decide) rfl (Nat.le_of_ble_eq_true rfl) dX7_setLantern_16 ?_
    refine r_if_eq C0 (tgt := 24) (by decide) dX7_setLantern_19 (fun q11 => ?_) (fun q11 => ?_)
    · have hf := ie_t hf q11
      refine r_aload_n C0 (kk := 0) 0 rfl dX7_setLantern_24 ?_
      obtain ⟨M13, hc12, hf⟩ := bd_e hf
      refine r_callVv C0 (As := []) (rest := []) (c_X7_record l D g tb hT h0 hc12) w8_54 w8_56 wp6_6 w1_14 w8_57 (x_rec5 C0 h0.1) hd_X7_record rfl ⟨rfl, rfl⟩ ⟨Nat.le_of_ble_eq_true rfl, Nat.le_of_ble_eq_true rfl⟩ (by decide) (by decide) rfl (Nat.le_of_ble_eq_true rfl) dX7_setLantern_25 ?_
      refine r_aload_n C0 (kk := 0) 0 rfl dX7_setLantern_28 ?_
      refine r_bipush C0 (v := 23) dX7_setLantern_29 rfl ?_
      refine r_bipush C0 (v := 9) dX7_setLantern_31 rfl ?_
      refine r_iload_n C0 (kk := 1) 1 rfl dX7_setLantern_33 ?_
      refine r_imul C0 dX7_setLantern_34 ?_
      refine r_iadd C0 dX7_setLantern_35 ?_
      refine r_iconst C0 (v := 1) dX7_setLantern_36 rfl ?_
      refine r_iadd C0 dX7_setLantern_37 ?_
      refine r_iload_n C0 (kk := 2) 2 rfl dX7_setLantern_38 ?_
      obtain ⟨r16, M15, hc14, hf⟩ := bd2_e hf
      refine r_callVi C0 (As := [.int ((23 + (9 * a1)) + 1), .int a2]) (rest := []) (c_X7_lays l D g tb hT h0 hc14) w6_200 w6_202 wp5_6 w1_14 w6_203 (x_rec5 C0 h0.1) hd_X7_lays rfl ⟨rfl, rfl⟩ ⟨Nat.le_of_ble_eq_true rfl, Nat.le_of_ble_eq_true rfl⟩ (by decide) (by decide) rfl (Nat.le_of_ble_eq_true rfl) dX7_setLantern_39 ?_
      exact hend hf dX7_setLantern_42
    · have hf := ie_f hf q11
      refine r_iconst C0 (v := 0) dX7_setLantern_22 rfl ?_
      exact hend hf dX7_setLantern_23
theorem dX7_moveStall_0 : decode cX7_moveStall 0 = .ok (.aload_n 0, 1) := by decide +kernel
theorem dX7_moveStall_1 : decode cX7_moveStall 1 = .ok (.iload_n 1, 1) := by decide +kernel
theorem dX7_moveStall_2 : decode cX7_moveStall 2 = .ok (.invokevirtual 311, 3) := by decide +kernel
theorem dX7_moveStall_5 : decode cX7_moveStall 5 = .ok (.ifCond .eq 18, 3) := by decide +kernel
theorem dX7_moveStall_8 : decode cX7_moveStall 8 = .ok (.aload_n 0, 1) := by decide +kernel
theorem dX7_moveStall_9 : decode cX7_moveStall 9 = .ok (.iload_n 2, 1) := by decide +kernel
theorem dX7_moveStall_10 : decode cX7_moveStall 10 = .ok (.iconst 0, 1) := by decide +kernel
theorem dX7_moveStall_11 : decode cX7_moveStall 11 = .ok (.bipush 99, 2) := by decide +kernel
theorem dX7_moveStall_13 : decode cX7_moveStall 13 = .ok (.invokestatic 147, 3) := by decide +kernel
theorem dX7_moveStall_16 : decode cX7_moveStall 16 = .ok (.iconst 2, 1) := by decide +kernel
theorem dX7_moveStall_17 : decode cX7_moveStall 17 = .ok (.invokevirtual 304, 3) := by decide +kernel
theorem dX7_moveStall_20 : decode cX7_moveStall 20 = .ok (.ifCond .eq 5, 3) := by decide +kernel
theorem dX7_moveStall_23 : decode cX7_moveStall 23 = .ok (.iconst 0, 1) := by decide +kernel
theorem dX7_moveStall_24 : decode cX7_moveStall 24 = .ok (.ireturn, 1) := by decide +kernel
theorem dX7_moveStall_25 : decode cX7_moveStall 25 = .ok (.aload_n 0, 1) := by decide +kernel
theorem dX7_moveStall_26 : decode cX7_moveStall 26 = .ok (.invokevirtual 338, 3) := by decide +kernel
theorem dX7_moveStall_29 : decode cX7_moveStall 29 = .ok (.aload_n 0, 1) := by decide +kernel
theorem dX7_moveStall_30 : decode cX7_moveStall 30 = .ok (.bipush 23, 2) := by decide +kernel
theorem dX7_moveStall_32 : decode cX7_moveStall 32 = .ok (.bipush 9, 2) := by decide +kernel
theorem dX7_moveStall_34 : decode cX7_moveStall 34 = .ok (.iload_n 1, 1) := by decide +kernel
theorem dX7_moveStall_35 : decode cX7_moveStall 35 = .ok (.imul, 1) := by decide +kernel
theorem dX7_moveStall_36 : decode cX7_moveStall 36 = .ok (.iadd, 1) := by decide +kernel
theorem dX7_moveStall_37 : decode cX7_moveStall 37 = .ok (.iconst 0, 1) := by decide +kernel
theorem dX7_moveStall_38 : decode cX7_moveStall 38 = .ok (.iadd, 1) := by decide +kernel
theorem dX7_moveStall_39 : decode cX7_moveStall 39 = .ok (.iload_n 2, 1) := by decide +kernel
theorem dX7_moveStall_40 : decode cX7_moveStall 40 = .ok (.invokevirtual 274, 3) := by decide +kernel
theorem dX7_moveStall_43 : decode cX7_moveStall 43 = .ok (.ireturn, 1) := by decide +kernel
theorem hd_X7_moveStall : yX7_moveStall.cls = RX7 ∧ yX7_moveStall.cls ≠ "java/lang/invoke/MethodHandle" ∧ yX7_moveStall.cls ≠ "java/lang/invoke/VarHandle" ∧ (parseMethodDescriptor yX7_moveStall.desc).map (fun d => d.parameters.length) = some 2 := by decide +kernel
set_option maxRecDepth 100000 in
set_option maxHeartbeats 4000000 in
theorem c_X7_moveStall (l : Launch) (D : va_G) (g : xG) (tb : List xQ) (hT : x_T g tb) {a1 : Int32} {a2 : Int32} (h0 : x_md tb) {M : xM} {r : Int32} {M' : xM} (hf : f_X7_moveStall a1 a2 M = some (r, M')) :
    cI l D g tb yX7_moveStall cX7_moveStall 3 .int ({ frames := 2, cells := 0, slots := 0, locals := 43 } : Room) [.ref (g.1 5 2500), .int a1, .int a2] M r M' := by
  refine x_startI (own := RX7) (by decide +kernel) rfl rfl (Nat.le_of_ble_eq_true rfl) hT ?_
  intro p e s m args below meth c Q C0 hend
  unfold f_X7_moveStall at hf
  refine r_aload_n C0 (kk := 0) 0 rfl dX7_moveStall_0 ?_
  refine r_iload_n C0 (kk := 1) 1 rfl dX7_moveStall_1 ?_
  obtain ⟨r3, M2, hc1, hf⟩ := bd2_e hf
  refine r_callVi C0 (As := [.int a1]) (rest := []) (c_X7_isStall l D g tb hT h0 hc1) w7_137 w7_139 wp5_15 w1_14 w7_140 (x_rec5 C0 h0.1) hd_X7_isStall rfl ⟨rfl, rfl⟩ ⟨Nat.le_of_ble_eq_true rfl, Nat.le_of_ble_eq_true rfl⟩ (by decide) (by decide) rfl (Nat.le_of_ble_eq_true rfl) dX7_moveStall_2 ?_
  refine r_if_eq C0 (tgt := 23) (by decide) dX7_moveStall_5 (fun q4 => ?_) (fun q4 => ?_)
  · have hf := ie_t hf q4
    refine r_iconst C0 (v := 0) dX7_moveStall_23 rfl ?_
    exact hend hf dX7_moveStall_24
  · have hf := ie_f hf q4
    refine r_aload_n C0 (kk := 0) 0 rfl dX7_moveStall_8 ?_
    refine r_iload_n C0 (kk := 2) 2 rfl dX7_moveStall_9 ?_
    refine r_iconst C0 (v := 0) dX7_moveStall_10 rfl ?_
    refine r_bipush C0 (v := 99) dX7_moveStall_11 rfl ?_
    obtain ⟨r7, M6, hc5, hf⟩ := bd2_e hf
    refine r_callSi C0 (As := [.int a2, .int 0, .int 99]) (rest := [.ref (g.1 5 2500)]) (c_X7_inRange l D g tb hT  hc5) w6_12 w6_13 w1_14 w6_14 hd_X7_inRange rfl ⟨rfl, rfl⟩ ⟨Nat.le_of_ble_eq_true rfl, Nat.le_of_ble_eq_true rfl⟩ (by decide) (by decide) rfl (Nat.le_of_ble_eq_true rfl) dX7_moveStall_13 ?_
    refine r_iconst C0 (v := 2) dX7_moveStall_16 rfl ?_
    obtain ⟨r10, M9, hc8, hf⟩ := bd2_e hf
    refine r_callVi C0 (As := [.int r7, .int 2]) (rest := []) (c_X7_fails l D g tb hT h0 hc8) w7_93 w7_95 wp5_12 w1_14 w7_96 (x_rec5 C0 h0.1) hd_X7_fails rfl ⟨rfl, rfl⟩ ⟨Nat.le_of_ble_eq_true rfl, Nat.le_of_ble_eq_true rfl⟩ (by decide) (by decide) rfl (Nat.le_of_ble_eq_true rfl) dX7_moveStall_17 ?_
    refine r_if_eq C0 (tgt := 25) (by decide) dX7_moveStall_20 (fun q11 => ?_) (fun q11 => ?_)
    · have hf := ie_t hf q11
      refine r_aload_n C0 (kk := 0) 0 rfl dX7_moveStall_25 ?_
      obtain ⟨M13, hc12, hf⟩ := bd_e hf
      refine r_callVv C0 (As := []) (rest := []) (c_X7_record l D g tb hT h0 hc12) w8_54 w8_56 wp6_6 w1_14 w8_57 (x_rec5 C0 h0.1) hd_X7_record rfl ⟨rfl, rfl⟩ ⟨Nat.le_of_ble_eq_true rfl, Nat.le_of_ble_eq_true rfl⟩ (by decide) (by decide) rfl (Nat.le_of_ble_eq_true rfl) dX7_moveStall_26 ?_
      refine r_aload_n C0 (kk := 0) 0 rfl dX7_moveStall_29 ?_
      refine r_bipush C0 (v := 23) dX7_moveStall_30 rfl ?_
      refine r_bipush C0 (v := 9) dX7_moveStall_32 rfl ?_
      refine r_iload_n C0 (kk := 1) 1 rfl dX7_moveStall_34 ?_
      refine r_imul C0 dX7_moveStall_35 ?_
      refine r_iadd C0 dX7_moveStall_36 ?_
      refine r_iconst C0 (v := 0) dX7_moveStall_37 rfl ?_
      refine r_iadd C0 dX7_moveStall_38 ?_
      refine r_iload_n C0 (kk := 2) 2 rfl dX7_moveStall_39 ?_
      obtain ⟨r16, M15, hc14, hf⟩ := bd2_e hf
      refine r_callVi C0 (As := [.int ((23 + (9 * a1)) + 0), .int a2]) (rest := []) (c_X7_lays l D g tb hT h0 hc14) w6_200 w6_202 wp5_6 w1_14 w6_203 (x_rec5 C0 h0.1) hd_X7_lays rfl ⟨rfl, rfl⟩ ⟨Nat.le_of_ble_eq_true rfl, Nat.le_of_ble_eq_true rfl⟩ (by decide) (by decide) rfl (Nat.le_of_ble_eq_true rfl) dX7_moveStall_40 ?_
      exact hend hf dX7_moveStall_43
    · have hf := ie_f hf q11
      refine r_iconst C0 (v := 0) dX7_moveStall_23 rfl ?_
      exact hend hf dX7_moveStall_24
theorem dX7_setFog_0 : decode cX7_setFog 0 = .ok (.aload_n 0, 1) := by decide +kernel
theorem dX7_setFog_1 : decode cX7_setFog 1 = .ok (.iconst 0, 1) := by decide +kernel
theorem dX7_setFog_2 : decode cX7_setFog 2 = .ok (.putfield 60, 3) := by decide +kernel
theorem dX7_setFog_5 : decode cX7_setFog 5 = .ok (.aload_n 0, 1) := by decide +kernel
theorem dX7_setFog_6 : decode cX7_setFog 6 = .ok (.iload_n 1, 1) := by decide +kernel
theorem dX7_setFog_7 : decode cX7_setFog 7 = .ok (.iconst 0, 1) := by decide +kernel
theorem dX7_setFog_8 : decode cX7_setFog 8 = .ok (.aload_n 0, 1) := by decide +kernel
theorem dX7_setFog_9 : decode cX7_setFog 9 = .ok (.getfield 17, 3) := by decide +kernel
theorem dX7_setFog_12 : decode cX7_setFog 12 = .ok (.bipush 8, 2) := by decide +kernel
theorem dX7_setFog_14 : decode cX7_setFog 14 = .ok (.iaload, 1) := by decide +kernel
theorem dX7_setFog_15 : decode cX7_setFog 15 = .ok (.iconst 1, 1) := by decide +kernel
theorem dX7_setFog_16 : decode cX7_setFog 16 = .ok (.isub, 1) := by decide +kernel
theorem dX7_setFog_17 : decode cX7_setFog 17 = .ok (.invokestatic 147, 3) := by decide +kernel
theorem dX7_setFog_20 : decode cX7_setFog 20 = .ok (.iconst 1, 1) := by decide +kernel
theorem dX7_setFog_21 : decode cX7_setFog 21 = .ok (.invokevirtual 304, 3) := by decide +kernel
theorem dX7_setFog_24 : decode cX7_setFog 24 = .ok (.ifCond .ne 18, 3) := by decide +kernel
theorem dX7_setFog_27 : decode cX7_setFog 27 = .ok (.aload_n 0, 1) := by decide +kernel
theorem dX7_setFog_28 : decode cX7_setFog 28 = .ok (.iload_n 2, 1) := by decide +kernel
theorem dX7_setFog_29 : decode cX7_setFog 29 = .ok (.iconst 0, 1) := by decide +kernel
theorem dX7_setFog_30 : decode cX7_setFog 30 = .ok (.bipush 9, 2) := by decide +kernel
theorem dX7_setFog_32 : decode cX7_setFog 32 = .ok (.invokestatic 147, 3) := by decide +kernel
theorem dX7_setFog_35 : decode cX7_setFog 35 = .ok (.iconst 2, 1) := by decide +kernel
theorem dX7_setFog_36 : decode cX7_setFog 36 = .ok (.invokevirtual 304, 3) := by decide +kernel
theorem dX7_setFog_39 : decode cX7_setFog 39 = .ok (.ifCond .eq 5, 3) := by decide +kernel
theorem dX7_setFog_42 : decode cX7_setFog 42 = .ok (.iconst 0, 1) := by decide +kernel
theorem dX7_setFog_43 : decode cX7_setFog 43 = .ok (.ireturn, 1) := by decide +kernel
theorem dX7_setFog_44 : decode cX7_setFog 44 = .ok (.aload_n 0, 1) := by decide +kernel
theorem dX7_setFog_45 : decode cX7_setFog 45 = .ok (.invokevirtual 338, 3) := by decide +kernel
theorem dX7_setFog_48 : decode cX7_setFog 48 = .ok (.aload_n 0, 1) := by decide +kernel
theorem dX7_setFog_49 : decode cX7_setFog 49 = .ok (.bipush 11, 2) := by decide +kernel
theorem dX7_setFog_51 : decode cX7_setFog 51 = .ok (.iload_n 1, 1) := by decide +kernel
theorem dX7_setFog_52 : decode cX7_setFog 52 = .ok (.iadd, 1) := by decide +kernel
theorem dX7_setFog_53 : decode cX7_setFog 53 = .ok (.iload_n 2, 1) := by decide +kernel
theorem dX7_setFog_54 : decode cX7_setFog 54 = .ok (.invokevirtual 274, 3) := by decide +kernel
theorem dX7_setFog_57 : decode cX7_setFog 57 = .ok (.ireturn, 1) := by decide +kernel
theorem hd_X7_setFog : yX7_setFog.cls = RX7 ∧ yX7_setFog.cls ≠ "java/lang/invoke/MethodHandle" ∧ yX7_setFog.cls ≠ "java/lang/invoke/VarHandle" ∧ (parseMethodDescriptor yX7_setFog.desc).map (fun d => d.parameters.length) = some 2 := by decide +kernel
set_option maxRecDepth 100000 in
set_option maxHeartbeats 4000000 in
theorem c_X7_setFog (l : Launch) (D : va_G) (g : xG) (tb : List xQ) (hT : x_T g tb) {a1 : Int32} {a2 : Int32} (h0 : x_md tb) {M : xM} {r : Int32} {M' : xM} (hf : f_X7_setFog a1 a2 M = some (r, M')) :
    cI l D g tb yX7_setFog cX7_setFog 3 .int ({ frames := 2, cells := 0, slots := 0, locals := 42 } : Room) [.ref (g.1 5 2500), .int a1, .int a2] M r M' := by
  refine x_startI (own := RX7) (by decide +kernel) rfl rfl (Nat.le_of_ble_eq_true rfl) hT ?_
  intro p e s m args below meth c Q C0 hend
  unfold f_X7_setFog at hf
  refine r_aload_n C0 (kk := 0) 0 rfl dX7_setFog_0 ?_
  refine r_iconst C0 (v := 0) dX7_setFog_1 rfl ?_
  refine r_put5 C0 h0.1 4 rfl rfl w6_220 rfl rfl rfl dX7_setFog_2 ?_
  refine r_aload_n C0 (kk := 0) 0 rfl dX7_setFog_5 ?_
  refine r_iload_n C0 (kk := 1) 1 rfl dX7_setFog_6 ?_
  refine r_iconst C0 (v := 0) dX7_setFog_7 rfl ?_
  refine r_aload_n C0 (kk := 0) 0 rfl dX7_setFog_8 ?_
  refine r_get5 C0 h0.1 5 (by decide) (v := .ref (g.1 6 2520)) rfl rfl w6_221 dX7_setFog_9 ?_
  refine r_bipush C0 (v := 8) dX7_setFog_12 rfl ?_
  refine r_ialdc C0 h0.2.1 (z := 2528) (by decide) (by decide) dX7_setFog_14 ?_
  refine r_iconst C0 (v := 1) dX7_setFog_15 rfl ?_
  refine r_isub C0 dX7_setFog_16 ?_
  obtain ⟨r3, M2, hc1, hf⟩ := bd2_e hf
  refine r_callSi C0 (As := [.int a1, .int 0, .int (((upd M 2504 0) 2528) - 1)]) (rest := [.ref (g.1 5 2500)]) (c_X7_inRange l D g tb hT  hc1) w6_12 w6_13 w1_14 w6_14 hd_X7_inRange rfl ⟨rfl, rfl⟩ ⟨Nat.le_of_ble_eq_true rfl, Nat.le_of_ble_eq_true rfl⟩ (by decide) (by decide) rfl (Nat.le_of_ble_eq_true rfl) dX7_setFog_17 ?_
  refine r_iconst C0 (v := 1) dX7_setFog_20 rfl ?_
  obtain ⟨r6, M5, hc4, hf⟩ := bd2_e hf
  refine r_callVi C0 (As := [.int r3, .int 1]) (rest := []) (c_X7_fails l D g tb hT h0 hc4) w7_93 w7_95 wp5_12 w1_14 w7_96 (x_rec5 C0 h0.1) hd_X7_fails rfl ⟨rfl, rfl⟩ ⟨Nat.le_of_ble_eq_true rfl, Nat.le_of_ble_eq_true rfl⟩ (by decide) (by decide) rfl (Nat.le_of_ble_eq_true rfl) dX7_setFog_21 ?_
  refine r_if_ne C0 (tgt := 42) (by decide) dX7_setFog_24 (fun q7 => ?_) (fun q7 => ?_)
  · have hf := ie_f hf q7
    refine r_iconst C0 (v := 0) dX7_setFog_42 rfl ?_
    exact hend hf dX7_setFog_43
  · have hf := ie_t hf q7
    refine r_aload_n C0 (kk := 0) 0 rfl dX7_setFog_27 ?_
    refine r_iload_n C0 (kk := 2) 2 rfl dX7_setFog_28 ?_
    refine r_iconst C0 (v := 0) dX7_setFog_29 rfl ?_
    refine r_bipush C0 (v := 9) dX7_setFog_30 rfl ?_
    obtain ⟨r10, M9, hc8, hf⟩ := bd2_e hf
    refine r_callSi C0 (As := [.int a2, .int 0, .int 9]) (rest := [.ref (g.1 5 2500)]) (c_X7_inRange l D g tb hT  hc8) w6_12 w6_13 w1_14 w6_14 hd_X7_inRange rfl ⟨rfl, rfl⟩ ⟨Nat.le_of_ble_eq_true rfl, Nat.le_of_ble_eq_true rfl⟩ (by decide) (by decide) rfl (Nat.le_of_ble_eq_true rfl) dX7_setFog_32 ?_
    refine r_iconst C0 (v := 2) dX7_setFog_35 rfl ?_
    obtain ⟨r13, M12, hc11, hf⟩ := bd2_e hf
    refine r_callVi C0 (As := [.int r10, .int 2]) (rest := []) (c_X7_fails l D g tb hT h0 hc11) w7_93 w7_95 wp5_12 w1_14 w7_96 (x_rec5 C0 h0.1) hd_X7_fails rfl ⟨rfl, rfl⟩ ⟨Nat.le_of_ble_eq_true rfl, Nat.le_of_ble_eq_true rfl⟩ (by decide) (by decide) rfl (Nat.le_of_ble_eq_true rfl) dX7_setFog_36 ?_
    refine r_if_eq C0 (tgt := 44) (by decide) dX7_setFog_39 (fun q14 => ?_) (fun q14 => ?_)
    · have hf := ie_t hf q14
      refine r_aload_n C0 (kk := 0) 0 rfl dX7_setFog_44 ?_
      obtain ⟨M16, hc15, hf⟩ := bd_e hf
      refine r_callVv C0 (As := []) (rest := []) (c_X7_record l D g tb hT h0 hc15) w8_54 w8_56 wp6_6 w1_14 w8_57 (x_rec5 C0 h0.1) hd_X7_record rfl ⟨rfl, rfl⟩ ⟨Nat.le_of_ble_eq_true rfl, Nat.le_of_ble_eq_true rfl⟩ (by decide) (by decide) rfl (Nat.le_of_ble_eq_true rfl) dX7_setFog_45 ?_
      refine r_aload_n C0 (kk := 0) 0 rfl dX7_setFog_48 ?_
      refine r_bipush C0 (v := 11) dX7_setFog_49 rfl ?_
      refine r_iload_n C0 (kk := 1) 1 rfl dX7_setFog_51 ?_
      refine r_iadd C0 dX7_setFog_52 ?_
      refine r_iload_n C0 (kk := 2) 2 rfl dX7_setFog_53 ?_
      obtain ⟨r19, M18, hc17, hf⟩ := bd2_e hf
      refine r_callVi C0 (As := [.int (11 + a1), .int a2]) (rest := []) (c_X7_lays l D g tb hT h0 hc17) w6_200 w6_202 wp5_6 w1_14 w6_203 (x_rec5 C0 h0.1) hd_X7_lays rfl ⟨rfl, rfl⟩ ⟨Nat.le_of_ble_eq_true rfl, Nat.le_of_ble_eq_true rfl⟩ (by decide) (by decide) rfl (Nat.le_of_ble_eq_true rfl) dX7_setFog_54 ?_
      exact hend hf dX7_setFog_57
    · have hf := ie_f hf q14
      refine r_iconst C0 (v := 0) dX7_setFog_42 rfl ?_
      exact hend hf dX7_setFog_43
theorem dX7_putBack_0 : decode cX7_putBack 0 = .ok (.aload_n 0, 1) := by decide +kernel
theorem dX7_putBack_1 : decode cX7_putBack 1 = .ok (.iload_n 1, 1) := by decide +kernel
theorem dX7_putBack_2 : decode cX7_putBack 2 = .ok (.invokevirtual 314, 3) := by decide +kernel
theorem dX7_putBack_5 : decode cX7_putBack 5 = .ok (.ifCond .eq 26, 3) := by decide +kernel
theorem dX7_putBack_8 : decode cX7_putBack 8 = .ok (.aload_n 0, 1) := by decide +kernel
theorem dX7_putBack_9 : decode cX7_putBack 9 = .ok (.aload_n 0, 1) := by decide +kernel
theorem dX7_putBack_10 : decode cX7_putBack 10 = .ok (.iload_n 1, 1) := by decide +kernel
theorem dX7_putBack_11 : decode cX7_putBack 11 = .ok (.iconst 4, 1) := by decide +kernel
theorem dX7_putBack_12 : decode cX7_putBack 12 = .ok (.invokevirtual 73, 3) := by decide +kernel
theorem dX7_putBack_15 : decode cX7_putBack 15 = .ok (.iconst (-1), 1) := by decide +kernel
theorem dX7_putBack_16 : decode cX7_putBack 16 = .ok (.if_icmp .eq 7, 3) := by decide +kernel
theorem dX7_putBack_19 : decode cX7_putBack 19 = .ok (.iconst 1, 1) := by decide +kernel
theorem dX7_putBack_20 : decode cX7_putBack 20 = .ok (.goto 4, 3) := by decide +kernel
theorem dX7_putBack_23 : decode cX7_putBack 23 = .ok (.iconst 0, 1) := by decide +kernel
theorem dX7_putBack_24 : decode cX7_putBack 24 = .ok (.iconst 2, 1) := by decide +kernel
theorem dX7_putBack_25 : decode cX7_putBack 25 = .ok (.invokevirtual 304, 3) := by decide +kernel
theorem dX7_putBack_28 : decode cX7_putBack 28 = .ok (.ifCond .eq 5, 3) := by decide +kernel
theorem dX7_putBack_31 : decode cX7_putBack 31 = .ok (.iconst 0, 1) := by decide +kernel
theorem dX7_putBack_32 : decode cX7_putBack 32 = .ok (.ireturn, 1) := by decide +kernel
theorem dX7_putBack_33 : decode cX7_putBack 33 = .ok (.aload_n 0, 1) := by decide +kernel
theorem dX7_putBack_34 : decode cX7_putBack 34 = .ok (.invokevirtual 338, 3) := by decide +kernel
theorem dX7_putBack_37 : decode cX7_putBack 37 = .ok (.aload_n 0, 1) := by decide +kernel
theorem dX7_putBack_38 : decode cX7_putBack 38 = .ok (.iload_n 1, 1) := by decide +kernel
theorem dX7_putBack_39 : decode cX7_putBack 39 = .ok (.invokevirtual 277, 3) := by decide +kernel
theorem dX7_putBack_42 : decode cX7_putBack 42 = .ok (.ireturn, 1) := by decide +kernel
theorem hd_X7_putBack : yX7_putBack.cls = RX7 ∧ yX7_putBack.cls ≠ "java/lang/invoke/MethodHandle" ∧ yX7_putBack.cls ≠ "java/lang/invoke/VarHandle" ∧ (parseMethodDescriptor yX7_putBack.desc).map (fun d => d.parameters.length) = some 1 := by decide +kernel
set_option maxRecDepth 100000 in
set_option maxHeartbeats 4000000 in
theorem c_X7_putBack (l : Launch) (D : va_G) (g : xG) (tb : List xQ) (hT : x_T g tb) {a1 : Int32} (h0 : x_md tb) {M : xM} {r : Int32} {M' : xM} (hf : f_X7_putBack a1 M = some (r, M')) :
    cI l D g tb yX7_putBack cX7_putBack 2 .int ({ frames := 3, cells := 0, slots := 0, locals := 66 } : Room) [.ref (g.1 5 2500), .int a1] M r M' := by
  refine x_startI (own := RX7) (by decide +kernel) rfl rfl (Nat.le_of_ble_eq_true rfl) hT ?_
  intro p e s m args below meth c Q C0 hend
  have B24 : ∀ (s0 : Int32)  (M : xM), f_X7_putBack_c24  a1 s0 M = some (r, M') → WW p l e ({ frames := 3, cells := 0, slots := 0, locals := 66 } : Room) s m args below meth c 0 0 Q 2 D g tb 24 [(0, .ref (g.1 5 2500)), (1, .int a1)] [.int s0, .ref (g.1 5 2500)] M := by
    intro   s0  M hf
    unfold f_X7_putBack_c24 at hf
    refine r_iconst C0 (v := 2) dX7_putBack_24 rfl ?_
    obtain ⟨r11, M10, hc9, hf⟩ := bd2_e hf
    refine r_callVi C0 (As := [.int s0, .int 2]) (rest := []) (c_X7_fails l D g tb hT h0 hc9) w7_93 w7_95 wp5_12 w1_14 w7_96 (x_rec5 C0 h0.1) hd_X7_fails rfl ⟨rfl, rfl⟩ ⟨Nat.le_of_ble_eq_true rfl, Nat.le_of_ble_eq_true rfl⟩ (by decide) (by decide) rfl (Nat.le_of_ble_eq_true rfl) dX7_putBack_25 ?_
    refine r_if_eq C0 (tgt := 33) (by decide) dX7_putBack_28 (fun q12 => ?_) (fun q12 => ?_)
    · have hf := ie_t hf q12
      refine r_aload_n C0 (kk := 0) 0 rfl dX7_putBack_33 ?_
      obtain ⟨M14, hc13, hf⟩ := bd_e hf
      refine r_callVv C0 (As := []) (rest := []) (c_X7_record l D g tb hT h0 hc13) w8_54 w8_56 wp6_6 w1_14 w8_57 (x_rec5 C0 h0.1) hd_X7_record rfl ⟨rfl, rfl⟩ ⟨Nat.le_of_ble_eq_true rfl, Nat.le_of_ble_eq_true rfl⟩ (by decide) (by decide) rfl (Nat.le_of_ble_eq_true rfl) dX7_putBack_34 ?_
      refine r_aload_n C0 (kk := 0) 0 rfl dX7_putBack_37 ?_
      refine r_iload_n C0 (kk := 1) 1 rfl dX7_putBack_38 ?_
      obtain ⟨r17, M16, hc15, hf⟩ := bd2_e hf
      refine r_callVi C0 (As := [.int a1]) (rest := []) (c_X7_doBack l D g tb hT h0 hc15) w6_204 w6_206 wp5_7 w1_14 w6_207 (x_rec5 C0 h0.1) hd_X7_doBack rfl ⟨rfl, rfl⟩ ⟨Nat.le_of_ble_eq_true rfl, Nat.le_of_ble_eq_true rfl⟩ (by decide) (by decide) rfl (Nat.le_of_ble_eq_true rfl) dX7_putBack_39 ?_
      exact hend hf dX7_putBack_42
    · have hf := ie_f hf q12
      refine r_iconst C0 (v := 0) dX7_putBack_31 rfl ?_
      exact hend hf dX7_putBack_32
  unfold f_X7_putBack at hf
  refine r_aload_n C0 (kk := 0) 0 rfl dX7_putBack_0 ?_
  refine r_iload_n C0 (kk := 1) 1 rfl dX7_putBack_1 ?_
  obtain ⟨r3, M2, hc1, hf⟩ := bd2_e hf
  refine r_callVi C0 (As := [.int a1]) (rest := []) (c_X7_isBuyer l D g tb hT h0 hc1) w7_197 w7_199 wp6_2 w1_14 w7_200 (x_rec5 C0 h0.1) hd_X7_isBuyer rfl ⟨rfl, rfl⟩ ⟨Nat.le_of_ble_eq_true rfl, Nat.le_of_ble_eq_true rfl⟩ (by decide) (by decide) rfl (Nat.le_of_ble_eq_true rfl) dX7_putBack_2 ?_
  refine r_if_eq C0 (tgt := 31) (by decide) dX7_putBack_5 (fun q4 => ?_) (fun q4 => ?_)
  · have hf := ie_t hf q4
    refine r_iconst C0 (v := 0) dX7_putBack_31 rfl ?_
    exact hend hf dX7_putBack_32
  · have hf := ie_f hf q4
    refine r_aload_n C0 (kk := 0) 0 rfl dX7_putBack_8 ?_
    refine r_aload_n C0 (kk := 0) 0 rfl dX7_putBack_9 ?_
    refine r_iload_n C0 (kk := 1) 1 rfl dX7_putBack_10 ?_
    refine r_iconst C0 (v := 4) dX7_putBack_11 rfl ?_
    obtain ⟨r7, M6, hc5, hf⟩ := bd2_e hf
    refine r_callVi C0 (As := [.int a1, .int 4]) (rest := [.ref (g.1 5 2500)]) (c_X7_by l D g tb hT h0 hc5) w6_103 w6_105 wp4_1 w1_14 w6_106 (x_rec5 C0 h0.1) hd_X7_by rfl ⟨rfl, rfl⟩ ⟨Nat.le_of_ble_eq_true rfl, Nat.le_of_ble_eq_true rfl⟩ (by decide) (by decide) rfl (Nat.le_of_ble_eq_true rfl) dX7_putBack_12 ?_
    refine r_iconst C0 (v := (-1)) dX7_putBack_15 rfl ?_
    refine r_icmp_eq C0 (tgt := 23) (by decide) dX7_putBack_16 (fun q8 => ?_) (fun q8 => ?_)
    · have hf := ie_t hf q8
      refine r_iconst C0 (v := 0) dX7_putBack_23 rfl ?_
      exact B24   _   _ hf
    · have hf := ie_f hf q8
      refine r_iconst C0 (v := 1) dX7_putBack_19 rfl ?_
      refine r_goto C0 (tgt := 24) (by decide) dX7_putBack_20 ?_
      exact B24   _   _ hf
theorem dX7_undo_0 : decode cX7_undo 0 = .ok (.aload_n 0, 1) := by decide +kernel
theorem dX7_undo_1 : decode cX7_undo 1 = .ok (.iconst 0, 1) := by decide +kernel
theorem dX7_undo_2 : decode cX7_undo 2 = .ok (.putfield 60, 3) := by decide +kernel
theorem dX7_undo_5 : decode cX7_undo 5 = .ok (.aload_n 0, 1) := by decide +kernel
theorem dX7_undo_6 : decode cX7_undo 6 = .ok (.aload_n 0, 1) := by decide +kernel
theorem dX7_undo_7 : decode cX7_undo 7 = .ok (.getfield 295, 3) := by decide +kernel
theorem dX7_undo_10 : decode cX7_undo 10 = .ok (.ifCond .le 7, 3) := by decide +kernel
theorem dX7_undo_13 : decode cX7_undo 13 = .ok (.iconst 1, 1) := by decide +kernel
theorem dX7_undo_14 : decode cX7_undo 14 = .ok (.goto 4, 3) := by decide +kernel
theorem dX7_undo_17 : decode cX7_undo 17 = .ok (.iconst 0, 1) := by decide +kernel
theorem dX7_undo_18 : decode cX7_undo 18 = .ok (.iconst 1, 1) := by decide +kernel
theorem dX7_undo_19 : decode cX7_undo 19 = .ok (.invokevirtual 304, 3) := by decide +kernel
theorem dX7_undo_22 : decode cX7_undo 22 = .ok (.ifCond .eq 5, 3) := by decide +kernel
theorem dX7_undo_25 : decode cX7_undo 25 = .ok (.iconst 0, 1) := by decide +kernel
theorem dX7_undo_26 : decode cX7_undo 26 = .ok (.ireturn, 1) := by decide +kernel
theorem dX7_undo_27 : decode cX7_undo 27 = .ok (.aload_n 0, 1) := by decide +kernel
theorem dX7_undo_28 : decode cX7_undo 28 = .ok (.dup, 1) := by decide +kernel
theorem dX7_undo_29 : decode cX7_undo 29 = .ok (.getfield 295, 3) := by decide +kernel
theorem dX7_undo_32 : decode cX7_undo 32 = .ok (.iconst 1, 1) := by decide +kernel
theorem dX7_undo_33 : decode cX7_undo 33 = .ok (.isub, 1) := by decide +kernel
theorem dX7_undo_34 : decode cX7_undo 34 = .ok (.putfield 295, 3) := by decide +kernel
theorem dX7_undo_37 : decode cX7_undo 37 = .ok (.iconst 0, 1) := by decide +kernel
theorem dX7_undo_38 : decode cX7_undo 38 = .ok (.istore_n 1, 1) := by decide +kernel
theorem dX7_undo_39 : decode cX7_undo 39 = .ok (.iload_n 1, 1) := by decide +kernel
theorem dX7_undo_40 : decode cX7_undo 40 = .ok (.bipush 125, 2) := by decide +kernel
theorem dX7_undo_42 : decode cX7_undo 42 = .ok (.if_icmp .ge 29, 3) := by decide +kernel
theorem dX7_undo_45 : decode cX7_undo 45 = .ok (.aload_n 0, 1) := by decide +kernel
theorem dX7_undo_46 : decode cX7_undo 46 = .ok (.getfield 17, 3) := by decide +kernel
theorem dX7_undo_49 : decode cX7_undo 49 = .ok (.iload_n 1, 1) := by decide +kernel
theorem dX7_undo_50 : decode cX7_undo 50 = .ok (.aload_n 0, 1) := by decide +kernel
theorem dX7_undo_51 : decode cX7_undo 51 = .ok (.getfield 26, 3) := by decide +kernel
theorem dX7_undo_54 : decode cX7_undo 54 = .ok (.bipush 125, 2) := by decide +kernel
theorem dX7_undo_56 : decode cX7_undo 56 = .ok (.aload_n 0, 1) := by decide +kernel
theorem dX7_undo_57 : decode cX7_undo 57 = .ok (.getfield 295, 3) := by decide +kernel
theorem dX7_undo_60 : decode cX7_undo 60 = .ok (.imul, 1) := by decide +kernel
theorem dX7_undo_61 : decode cX7_undo 61 = .ok (.iload_n 1, 1) := by decide +kernel
theorem dX7_undo_62 : decode cX7_undo 62 = .ok (.iadd, 1) := by decide +kernel
theorem dX7_undo_63 : decode cX7_undo 63 = .ok (.iaload, 1) := by decide +kernel
theorem dX7_undo_64 : decode cX7_undo 64 = .ok (.iastore, 1) := by decide +kernel
theorem dX7_undo_65 : decode cX7_undo 65 = .ok (.iinc 1 1, 3) := by decide +kernel
theorem dX7_undo_68 : decode cX7_undo 68 = .ok (.goto (-29), 3) := by decide +kernel
theorem dX7_undo_71 : decode cX7_undo 71 = .ok (.aload_n 0, 1) := by decide +kernel
theorem dX7_undo_72 : decode cX7_undo 72 = .ok (.getfield 295, 3) := by decide +kernel
theorem dX7_undo_75 : decode cX7_undo 75 = .ok (.ireturn, 1) := by decide +kernel
theorem hd_X7_undo : yX7_undo.cls = RX7 ∧ yX7_undo.cls ≠ "java/lang/invoke/MethodHandle" ∧ yX7_undo.cls ≠ "java/lang/invoke/VarHandle" ∧ (parseMethodDescriptor yX7_undo.desc).map (fun d => d.parameters.length) = some 0 := by decide +kernel
set_option maxRecDepth 100000 in
set_option maxHeartbeats 4000000 in
theorem c_X7_undo (l : Launch) (D : va_G) (g : xG) (tb : List xQ) (hT : x_T g tb)  (h0 : x_md tb) {M : xM} {r : Int32} {M' : xM} (hf : f_X7_undo  M = some (r, M')) :
    cI l D g tb yX7_undo cX7_undo 2 .int ({ frames := 1, cells := 0, slots := 0, locals := 22 } : Room) [.ref (g.1 5 2500)] M r M' := by
  refine x_startI (own := RX7) (by decide +kernel) rfl rfl (Nat.le_of_ble_eq_true rfl) hT ?_
  intro p e s m args below meth c Q C0 hend
  have B39 : ∀ (k39 : Int32 → xM → Option (Int32 × xM)) (hk39 : ∀ (v1 : Int32)  (M : xM), k39 v1 M = some (r, M') → WW p l e ({ frames := 1, cells := 0, slots := 0, locals := 22 } : Room) s m args below meth c 0 0 Q 2 D g tb 39 [(0, .ref (g.1 5 2500)), (1, .int v1)] [] M), ∀ (v1 : Int32)  (M : xM), fb_X7_undo_c39 k39  v1 M = some (r, M') → WW p l e ({ frames := 1, cells := 0, slots := 0, locals := 22 } : Room) s m args below meth c 0 0 Q 2 D g tb 39 [(0, .ref (g.1 5 2500)), (1, .int v1)] [] M := by
    intro k39 hk39 v1  M hf
    unfold fb_X7_undo_c39 at hf
    refine r_iload_n C0 (kk := 1) 1 rfl dX7_undo_39 ?_
    refine r_bipush C0 (v := 125) dX7_undo_40 rfl ?_
    refine r_icmp_ge C0 (tgt := 71) (by decide) dX7_undo_42 (fun q6 => ?_) (fun q6 => ?_)
    · have hf := ie_t hf q6
      refine r_aload_n C0 (kk := 0) 0 rfl dX7_undo_71 ?_
      refine r_get5 C0 h0.1 9 (by decide) (v := .int (M 2509)) rfl rfl w6_225 dX7_undo_72 ?_
      exact hend hf dX7_undo_75
    · have hf := ie_f hf q6
      refine r_aload_n C0 (kk := 0) 0 rfl dX7_undo_45 ?_
      refine r_get5 C0 h0.1 5 (by decide) (v := .ref (g.1 6 2520)) rfl rfl w6_221 dX7_undo_46 ?_
      refine r_iload_n C0 (kk := 1) 1 rfl dX7_undo_49 ?_
      refine r_aload_n C0 (kk := 0) 0 rfl dX7_undo_50 ?_
      refine r_get5 C0 h0.1 8 (by decide) (v := .ref (g.1 6 2895)) rfl rfl w6_224 dX7_undo_51 ?_
      refine r_bipush C0 (v := 125) dX7_undo_54 rfl ?_
      refine r_aload_n C0 (kk := 0) 0 rfl dX7_undo_56 ?_
      refine r_get5 C0 h0.1 9 (by decide) (v := .int (M 2509)) rfl rfl w6_225 dX7_undo_57 ?_
      refine r_imul C0 dX7_undo_60 ?_
      refine r_iload_n C0 (kk := 1) 1 rfl dX7_undo_61 ?_
      refine r_iadd C0 dX7_undo_62 ?_
      obtain ⟨q7, hf⟩ := gd_e hf
      refine r_ialdc C0 h0.2.2.2.2.1 q7 rfl dX7_undo_63 ?_
      obtain ⟨q8, hf⟩ := gd_e hf
      refine r_iastc C0 h0.2.1 q8 rfl dX7_undo_64 ?_
      refine r_iincc C0 1 rfl (k0 := 1) (by decide) (by decide) (lv2 := [(1, .int (v1 + 1)), (0, .ref (g.1 5 2500))]) rfl dX7_undo_65 ?_
      refine r_goto C0 (tgt := 39) (by decide) dX7_undo_68 ?_
      refine WW.sub [1, 0] rfl ?_
      exact hk39 _   _ hf
  have L39 : ∀ (v1 : Int32)  (M : xM), f_X7_undo_c39   v1 M = some (r, M') → WW p l e ({ frames := 1, cells := 0, slots := 0, locals := 22 } : Room) s m args below meth c 0 0 Q 2 D g tb 39 [(0, .ref (g.1 5 2500)), (1, .int v1)] [] M := lp_ind (P := fun f => ∀ (v1 : Int32)  (M : xM), f v1 M = some (r, M') → WW p l e ({ frames := 1, cells := 0, slots := 0, locals := 22 } : Room) s m args below meth c 0 0 Q 2 D g tb 39 [(0, .ref (g.1 5 2500)), (1, .int v1)] [] M) (fun _ _ h => none_ne h) (fun f hf => B39 f hf) FU
  have B18 : ∀ (s0 : Int32)  (M : xM), f_X7_undo_c18   s0 M = some (r, M') → WW p l e ({ frames := 1, cells := 0, slots := 0, locals := 22 } : Room) s m args below meth c 0 0 Q 2 D g tb 18 [(0, .ref (g.1 5 2500))] [.int s0, .ref (g.1 5 2500)] M := by
    intro   s0  M hf
    unfold f_X7_undo_c18 at hf
    refine r_iconst C0 (v := 1) dX7_undo_18 rfl ?_
    obtain ⟨r4, M3, hc2, hf⟩ := bd2_e hf
    refine r_callVi C0 (As := [.int s0, .int 1]) (rest := []) (c_X7_fails l D g tb hT h0 hc2) w7_93 w7_95 wp5_12 w1_14 w7_96 (x_rec5 C0 h0.1) hd_X7_fails rfl ⟨rfl, rfl⟩ ⟨Nat.le_of_ble_eq_true rfl, Nat.le_of_ble_eq_true rfl⟩ (by decide) (by decide) rfl (Nat.le_of_ble_eq_true rfl) dX7_undo_19 ?_
    refine r_if_eq C0 (tgt := 27) (by decide) dX7_undo_22 (fun q5 => ?_) (fun q5 => ?_)
    · have hf := ie_t hf q5
      refine r_aload_n C0 (kk := 0) 0 rfl dX7_undo_27 ?_
      refine r_dup C0 rfl dX7_undo_28 ?_
      refine r_get5 C0 h0.1 9 (by decide) (v := .int (M3 2509)) rfl rfl w6_225 dX7_undo_29 ?_
      refine r_iconst C0 (v := 1) dX7_undo_32 rfl ?_
      refine r_isub C0 dX7_undo_33 ?_
      refine r_put5 C0 h0.1 9 rfl rfl w6_225 rfl rfl rfl dX7_undo_34 ?_
      refine r_iconst C0 (v := 0) dX7_undo_37 rfl ?_
      refine r_istore_n C0 (kk := 1) (lv2 := [(1, .int 0), (0, .ref (g.1 5 2500))]) (by decide) rfl dX7_undo_38 ?_
      refine WW.sub [1, 0] rfl ?_
      exact L39   _   _ hf
    · have hf := ie_f hf q5
      refine r_iconst C0 (v := 0) dX7_undo_25 rfl ?_
      exact hend hf dX7_undo_26
  unfold f_X7_undo at hf
  refine r_aload_n C0 (kk := 0) 0 rfl dX7_undo_0 ?_
  refine r_iconst C0 (v := 0) dX7_undo_1 rfl ?_
  refine r_put5 C0 h0.1 4 rfl rfl w6_220 rfl rfl rfl dX7_undo_2 ?_
  refine r_aload_n C0 (kk := 0) 0 rfl dX7_undo_5 ?_
  refine r_aload_n C0 (kk := 0) 0 rfl dX7_undo_6 ?_
  refine r_get5 C0 h0.1 9 (by decide) (v := .int ((upd M 2504 0) 2509)) rfl rfl w6_225 dX7_undo_7 ?_
  refine r_if_le C0 (tgt := 17) (by decide) dX7_undo_10 (fun q1 => ?_) (fun q1 => ?_)
  · have hf := ie_t hf q1
    refine r_iconst C0 (v := 0) dX7_undo_17 rfl ?_
    exact B18   _   _ hf
  · have hf := ie_f hf q1
    refine r_iconst C0 (v := 1) dX7_undo_13 rfl ?_
    refine r_goto C0 (tgt := 18) (by decide) dX7_undo_14 ?_
    exact B18   _   _ hf
theorem dX7_save_0 : decode cX7_save 0 = .ok (.aload_n 0, 1) := by decide +kernel
theorem dX7_save_1 : decode cX7_save 1 = .ok (.iconst 0, 1) := by decide +kernel
theorem dX7_save_2 : decode cX7_save 2 = .ok (.putfield 60, 3) := by decide +kernel
theorem dX7_save_5 : decode cX7_save 5 = .ok (.aload_n 0, 1) := by decide +kernel
theorem dX7_save_6 : decode cX7_save 6 = .ok (.iload_n 1, 1) := by decide +kernel
theorem dX7_save_7 : decode cX7_save 7 = .ok (.iconst 0, 1) := by decide +kernel
theorem dX7_save_8 : decode cX7_save 8 = .ok (.iconst 1, 1) := by decide +kernel
theorem dX7_save_9 : decode cX7_save 9 = .ok (.invokestatic 147, 3) := by decide +kernel
theorem dX7_save_12 : decode cX7_save 12 = .ok (.iconst 1, 1) := by decide +kernel
theorem dX7_save_13 : decode cX7_save 13 = .ok (.invokevirtual 304, 3) := by decide +kernel
theorem dX7_save_16 : decode cX7_save 16 = .ok (.ifCond .eq 5, 3) := by decide +kernel
theorem dX7_save_19 : decode cX7_save 19 = .ok (.iconst 0, 1) := by decide +kernel
theorem dX7_save_20 : decode cX7_save 20 = .ok (.ireturn, 1) := by decide +kernel
theorem dX7_save_21 : decode cX7_save 21 = .ok (.iconst 0, 1) := by decide +kernel
theorem dX7_save_22 : decode cX7_save 22 = .ok (.istore_n 2, 1) := by decide +kernel
theorem dX7_save_23 : decode cX7_save 23 = .ok (.iload_n 2, 1) := by decide +kernel
theorem dX7_save_24 : decode cX7_save 24 = .ok (.bipush 125, 2) := by decide +kernel
theorem dX7_save_26 : decode cX7_save 26 = .ok (.if_icmp .ge 26, 3) := by decide +kernel
theorem dX7_save_29 : decode cX7_save 29 = .ok (.aload_n 0, 1) := by decide +kernel
theorem dX7_save_30 : decode cX7_save 30 = .ok (.getfield 29, 3) := by decide +kernel
theorem dX7_save_33 : decode cX7_save 33 = .ok (.bipush 125, 2) := by decide +kernel
theorem dX7_save_35 : decode cX7_save 35 = .ok (.iload_n 1, 1) := by decide +kernel
theorem dX7_save_36 : decode cX7_save 36 = .ok (.imul, 1) := by decide +kernel
theorem dX7_save_37 : decode cX7_save 37 = .ok (.iload_n 2, 1) := by decide +kernel
theorem dX7_save_38 : decode cX7_save 38 = .ok (.iadd, 1) := by decide +kernel
theorem dX7_save_39 : decode cX7_save 39 = .ok (.aload_n 0, 1) := by decide +kernel
theorem dX7_save_40 : decode cX7_save 40 = .ok (.getfield 17, 3) := by decide +kernel
theorem dX7_save_43 : decode cX7_save 43 = .ok (.iload_n 2, 1) := by decide +kernel
theorem dX7_save_44 : decode cX7_save 44 = .ok (.iaload, 1) := by decide +kernel
theorem dX7_save_45 : decode cX7_save 45 = .ok (.iastore, 1) := by decide +kernel
theorem dX7_save_46 : decode cX7_save 46 = .ok (.iinc 2 1, 3) := by decide +kernel
theorem dX7_save_49 : decode cX7_save 49 = .ok (.goto (-26), 3) := by decide +kernel
theorem dX7_save_52 : decode cX7_save 52 = .ok (.aload_n 0, 1) := by decide +kernel
theorem dX7_save_53 : decode cX7_save 53 = .ok (.getfield 32, 3) := by decide +kernel
theorem dX7_save_56 : decode cX7_save 56 = .ok (.iload_n 1, 1) := by decide +kernel
theorem dX7_save_57 : decode cX7_save 57 = .ok (.iconst 1, 1) := by decide +kernel
theorem dX7_save_58 : decode cX7_save 58 = .ok (.bastore, 1) := by decide +kernel
theorem dX7_save_59 : decode cX7_save 59 = .ok (.aload_n 0, 1) := by decide +kernel
theorem dX7_save_60 : decode cX7_save 60 = .ok (.getfield 17, 3) := by decide +kernel
theorem dX7_save_63 : decode cX7_save 63 = .ok (.iconst 0, 1) := by decide +kernel
theorem dX7_save_64 : decode cX7_save 64 = .ok (.iaload, 1) := by decide +kernel
theorem dX7_save_65 : decode cX7_save 65 = .ok (.ireturn, 1) := by decide +kernel
theorem hd_X7_save : yX7_save.cls = RX7 ∧ yX7_save.cls ≠ "java/lang/invoke/MethodHandle" ∧ yX7_save.cls ≠ "java/lang/invoke/VarHandle" ∧ (parseMethodDescriptor yX7_save.desc).map (fun d => d.parameters.length) = some 1 := by decide +kernel
set_option maxRecDepth 100000 in
set_option maxHeartbeats 4000000 in
theorem c_X7_save (l : Launch) (D : va_G) (g : xG) (tb : List xQ) (hT : x_T g tb) {a1 : Int32} (h0 : x_md tb) {M : xM} {r : Int32} {M' : xM} (hf : f_X7_save a1 M = some (r, M')) :
    cI l D g tb yX7_save cX7_save 3 .int ({ frames := 1, cells := 0, slots := 0, locals := 22 } : Room) [.ref (g.1 5 2500), .int a1] M r M' := by
  refine x_startI (own := RX7) (by decide +kernel) rfl rfl (Nat.le_of_ble_eq_true rfl) hT ?_
  intro p e s m args below meth c Q C0 hend
  have B23 : ∀ (k23 : Int32 → xM → Option (Int32 × xM)) (hk23 : ∀ (v2 : Int32)  (M : xM), k23 v2 M = some (r, M') → WW p l e ({ frames := 1, cells := 0, slots := 0, locals := 22 } : Room) s m args below meth c 0 0 Q 3 D g tb 23 [(0, .ref (g.1 5 2500)), (1, .int a1), (2, .int v2)] [] M), ∀ (v2 : Int32)  (M : xM), fb_X7_save_c23 k23 a1 v2 M = some (r, M') → WW p l e ({ frames := 1, cells := 0, slots := 0, locals := 22 } : Room) s m args below meth c 0 0 Q 3 D g tb 23 [(0, .ref (g.1 5 2500)), (1, .int a1), (2, .int v2)] [] M := by
    intro k23 hk23 v2  M hf
    unfold fb_X7_save_c23 at hf
    refine r_iload_n C0 (kk := 2) 2 rfl dX7_save_23 ?_
    refine r_bipush C0 (v := 125) dX7_save_24 rfl ?_
    refine r_icmp_ge C0 (tgt := 52) (by decide) dX7_save_26 (fun q8 => ?_) (fun q8 => ?_)
    · have hf := ie_t hf q8
      refine r_aload_n C0 (kk := 0) 0 rfl dX7_save_52 ?_
      refine r_get5 C0 h0.1 11 (by decide) (v := .ref (g.1 8 4145)) rfl rfl w6_227 dX7_save_53 ?_
      refine r_iload_n C0 (kk := 1) 1 rfl dX7_save_56 ?_
      refine r_iconst C0 (v := 1) dX7_save_57 rfl ?_
      obtain ⟨q9, hf⟩ := gd_e hf
      refine r_zastc C0 h0.2.2.2.2.2.2.1 q9 rfl dX7_save_58 ?_
      refine r_aload_n C0 (kk := 0) 0 rfl dX7_save_59 ?_
      refine r_get5 C0 h0.1 5 (by decide) (v := .ref (g.1 6 2520)) rfl rfl w6_221 dX7_save_60 ?_
      refine r_iconst C0 (v := 0) dX7_save_63 rfl ?_
      refine r_ialdc C0 h0.2.1 (z := 2520) (by decide) (by decide) dX7_save_64 ?_
      exact hend hf dX7_save_65
    · have hf := ie_f hf q8
      refine r_aload_n C0 (kk := 0) 0 rfl dX7_save_29 ?_
      refine r_get5 C0 h0.1 10 (by decide) (v := .ref (g.1 6 3895)) rfl rfl w6_226 dX7_save_30 ?_
      refine r_bipush C0 (v := 125) dX7_save_33 rfl ?_
      refine r_iload_n C0 (kk := 1) 1 rfl dX7_save_35 ?_
      refine r_imul C0 dX7_save_36 ?_
      refine r_iload_n C0 (kk := 2) 2 rfl dX7_save_37 ?_
      refine r_iadd C0 dX7_save_38 ?_
      refine r_aload_n C0 (kk := 0) 0 rfl dX7_save_39 ?_
      refine r_get5 C0 h0.1 5 (by decide) (v := .ref (g.1 6 2520)) rfl rfl w6_221 dX7_save_40 ?_
      refine r_iload_n C0 (kk := 2) 2 rfl dX7_save_43 ?_
      obtain ⟨q10, hf⟩ := gd_e hf
      refine r_ialdc C0 h0.2.1 q10 rfl dX7_save_44 ?_
      obtain ⟨q11, hf⟩ := gd_e hf
      refine r_iastc C0 h0.2.2.2.2.2.1 q11 rfl dX7_save_45 ?_
      refine r_iincc C0 2 rfl (k0 := 1) (by decide) (by decide) (lv2 := [(2, .int (v2 + 1)), (0, .ref (g.1 5 2500)), (1, .int a1)]) rfl dX7_save_46 ?_
      refine r_goto C0 (tgt := 23) (by decide) dX7_save_49 ?_
      refine WW.sub [1, 2, 0] rfl ?_
      exact hk23 _   _ hf
  have L23 : ∀ (v2 : Int32)  (M : xM), f_X7_save_c23  a1 v2 M = some (r, M') → WW p l e ({ frames := 1, cells := 0, slots := 0, locals := 22 } : Room) s m args below meth c 0 0 Q 3 D g tb 23 [(0, .ref (g.1 5 2500)), (1, .int a1), (2, .int v2)] [] M := lp_ind (P := fun f => ∀ (v2 : Int32)  (M : xM), f v2 M = some (r, M') → WW p l e ({ frames := 1, cells := 0, slots := 0, locals := 22 } : Room) s m args below meth c 0 0 Q 3 D g tb 23 [(0, .ref (g.1 5 2500)), (1, .int a1), (2, .int v2)] [] M) (fun _ _ h => none_ne h) (fun f hf => B23 f hf) FU
  unfold f_X7_save at hf
  refine r_aload_n C0 (kk := 0) 0 rfl dX7_save_0 ?_
  refine r_iconst C0 (v := 0) dX7_save_1 rfl ?_
  refine r_put5 C0 h0.1 4 rfl rfl w6_220 rfl rfl rfl dX7_save_2 ?_
  refine r_aload_n C0 (kk := 0) 0 rfl dX7_save_5 ?_
  refine r_iload_n C0 (kk := 1) 1 rfl dX7_save_6 ?_
  refine r_iconst C0 (v := 0) dX7_save_7 rfl ?_
  refine r_iconst C0 (v := 1) dX7_save_8 rfl ?_
  obtain ⟨r3, M2, hc1, hf⟩ := bd2_e hf
  refine r_callSi C0 (As := [.int a1, .int 0, .int 1]) (rest := [.ref (g.1 5 2500)]) (c_X7_inRange l D g tb hT  hc1) w6_12 w6_13 w1_14 w6_14 hd_X7_inRange rfl ⟨rfl, rfl⟩ ⟨Nat.le_of_ble_eq_true rfl, Nat.le_of_ble_eq_true rfl⟩ (by decide) (by decide) rfl (Nat.le_of_ble_eq_true rfl) dX7_save_9 ?_
  refine r_iconst C0 (v := 1) dX7_save_12 rfl ?_
  obtain ⟨r6, M5, hc4, hf⟩ := bd2_e hf
  refine r_callVi C0 (As := [.int r3, .int 1]) (rest := []) (c_X7_fails l D g tb hT h0 hc4) w7_93 w7_95 wp5_12 w1_14 w7_96 (x_rec5 C0 h0.1) hd_X7_fails rfl ⟨rfl, rfl⟩ ⟨Nat.le_of_ble_eq_true rfl, Nat.le_of_ble_eq_true rfl⟩ (by decide) (by decide) rfl (Nat.le_of_ble_eq_true rfl) dX7_save_13 ?_
  refine r_if_eq C0 (tgt := 21) (by decide) dX7_save_16 (fun q7 => ?_) (fun q7 => ?_)
  · have hf := ie_t hf q7
    refine r_iconst C0 (v := 0) dX7_save_21 rfl ?_
    refine r_istore_n C0 (kk := 2) (lv2 := [(2, .int 0), (0, .ref (g.1 5 2500)), (1, .int a1)]) (by decide) rfl dX7_save_22 ?_
    refine WW.sub [1, 2, 0] rfl ?_
    exact L23   _   _ hf
  · have hf := ie_f hf q7
    refine r_iconst C0 (v := 0) dX7_save_19 rfl ?_
    exact hend hf dX7_save_20
theorem dX7_restore_0 : decode cX7_restore 0 = .ok (.aload_n 0, 1) := by decide +kernel
theorem dX7_restore_1 : decode cX7_restore 1 = .ok (.iconst 0, 1) := by decide +kernel
theorem dX7_restore_2 : decode cX7_restore 2 = .ok (.putfield 60, 3) := by decide +kernel
theorem dX7_restore_5 : decode cX7_restore 5 = .ok (.aload_n 0, 1) := by decide +kernel
theorem dX7_restore_6 : decode cX7_restore 6 = .ok (.iload_n 1, 1) := by decide +kernel
theorem dX7_restore_7 : decode cX7_restore 7 = .ok (.iconst 0, 1) := by decide +kernel
theorem dX7_restore_8 : decode cX7_restore 8 = .ok (.iconst 1, 1) := by decide +kernel
theorem dX7_restore_9 : decode cX7_restore 9 = .ok (.invokestatic 147, 3) := by decide +kernel
theorem dX7_restore_12 : decode cX7_restore 12 = .ok (.iconst 1, 1) := by decide +kernel
theorem dX7_restore_13 : decode cX7_restore 13 = .ok (.invokevirtual 304, 3) := by decide +kernel
theorem dX7_restore_16 : decode cX7_restore 16 = .ok (.ifCond .ne 17, 3) := by decide +kernel
theorem dX7_restore_19 : decode cX7_restore 19 = .ok (.aload_n 0, 1) := by decide +kernel
theorem dX7_restore_20 : decode cX7_restore 20 = .ok (.aload_n 0, 1) := by decide +kernel
theorem dX7_restore_21 : decode cX7_restore 21 = .ok (.getfield 32, 3) := by decide +kernel
theorem dX7_restore_24 : decode cX7_restore 24 = .ok (.iload_n 1, 1) := by decide +kernel
theorem dX7_restore_25 : decode cX7_restore 25 = .ok (.baload, 1) := by decide +kernel
theorem dX7_restore_26 : decode cX7_restore 26 = .ok (.iconst 2, 1) := by decide +kernel
theorem dX7_restore_27 : decode cX7_restore 27 = .ok (.invokevirtual 304, 3) := by decide +kernel
theorem dX7_restore_30 : decode cX7_restore 30 = .ok (.ifCond .eq 5, 3) := by decide +kernel
theorem dX7_restore_33 : decode cX7_restore 33 = .ok (.iconst 0, 1) := by decide +kernel
theorem dX7_restore_34 : decode cX7_restore 34 = .ok (.ireturn, 1) := by decide +kernel
theorem dX7_restore_35 : decode cX7_restore 35 = .ok (.iconst 0, 1) := by decide +kernel
theorem dX7_restore_36 : decode cX7_restore 36 = .ok (.istore_n 2, 1) := by decide +kernel
theorem dX7_restore_37 : decode cX7_restore 37 = .ok (.iload_n 2, 1) := by decide +kernel
theorem dX7_restore_38 : decode cX7_restore 38 = .ok (.bipush 125, 2) := by decide +kernel
theorem dX7_restore_40 : decode cX7_restore 40 = .ok (.if_icmp .ge 26, 3) := by decide +kernel
theorem dX7_restore_43 : decode cX7_restore 43 = .ok (.aload_n 0, 1) := by decide +kernel
theorem dX7_restore_44 : decode cX7_restore 44 = .ok (.getfield 17, 3) := by decide +kernel
theorem dX7_restore_47 : decode cX7_restore 47 = .ok (.iload_n 2, 1) := by decide +kernel
theorem dX7_restore_48 : decode cX7_restore 48 = .ok (.aload_n 0, 1) := by decide +kernel
theorem dX7_restore_49 : decode cX7_restore 49 = .ok (.getfield 29, 3) := by decide +kernel
theorem dX7_restore_52 : decode cX7_restore 52 = .ok (.bipush 125, 2) := by decide +kernel
theorem dX7_restore_54 : decode cX7_restore 54 = .ok (.iload_n 1, 1) := by decide +kernel
theorem dX7_restore_55 : decode cX7_restore 55 = .ok (.imul, 1) := by decide +kernel
theorem dX7_restore_56 : decode cX7_restore 56 = .ok (.iload_n 2, 1) := by decide +kernel
theorem dX7_restore_57 : decode cX7_restore 57 = .ok (.iadd, 1) := by decide +kernel
theorem dX7_restore_58 : decode cX7_restore 58 = .ok (.iaload, 1) := by decide +kernel
theorem dX7_restore_59 : decode cX7_restore 59 = .ok (.iastore, 1) := by decide +kernel
theorem dX7_restore_60 : decode cX7_restore 60 = .ok (.iinc 2 1, 3) := by decide +kernel
theorem dX7_restore_63 : decode cX7_restore 63 = .ok (.goto (-26), 3) := by decide +kernel
theorem dX7_restore_66 : decode cX7_restore 66 = .ok (.aload_n 0, 1) := by decide +kernel
theorem dX7_restore_67 : decode cX7_restore 67 = .ok (.iconst 0, 1) := by decide +kernel
theorem dX7_restore_68 : decode cX7_restore 68 = .ok (.putfield 295, 3) := by decide +kernel
theorem dX7_restore_71 : decode cX7_restore 71 = .ok (.aload_n 0, 1) := by decide +kernel
theorem dX7_restore_72 : decode cX7_restore 72 = .ok (.getfield 17, 3) := by decide +kernel
theorem dX7_restore_75 : decode cX7_restore 75 = .ok (.iconst 0, 1) := by decide +kernel
theorem dX7_restore_76 : decode cX7_restore 76 = .ok (.iaload, 1) := by decide +kernel
theorem dX7_restore_77 : decode cX7_restore 77 = .ok (.ireturn, 1) := by decide +kernel
theorem hd_X7_restore : yX7_restore.cls = RX7 ∧ yX7_restore.cls ≠ "java/lang/invoke/MethodHandle" ∧ yX7_restore.cls ≠ "java/lang/invoke/VarHandle" ∧ (parseMethodDescriptor yX7_restore.desc).map (fun d => d.parameters.length) = some 1 := by decide +kernel
set_option maxRecDepth 100000 in
set_option maxHeartbeats 4000000 in
theorem c_X7_restore (l : Launch) (D : va_G) (g : xG) (tb : List xQ) (hT : x_T g tb) {a1 : Int32} (h0 : x_md tb) {M : xM} {r : Int32} {M' : xM} (hf : f_X7_restore a1 M = some (r, M')) :
    cI l D g tb yX7_restore cX7_restore 3 .int ({ frames := 1, cells := 0, slots := 0, locals := 22 } : Room) [.ref (g.1 5 2500), .int a1] M r M' := by
  refine x_startI (own := RX7) (by decide +kernel) rfl rfl (Nat.le_of_ble_eq_true rfl) hT ?_
  intro p e s m args below meth c Q C0 hend
  have B37 : ∀ (k37 : Int32 → xM → Option (Int32 × xM)) (hk37 : ∀ (v2 : Int32)  (M : xM), k37 v2 M = some (r, M') → WW p l e ({ frames := 1, cells := 0, slots := 0, locals := 22 } : Room) s m args below meth c 0 0 Q 3 D g tb 37 [(0, .ref (g.1 5 2500)), (1, .int a1), (2, .int v2)] [] M), ∀ (v2 : Int32)  (M : xM), fb_X7_restore_c37 k37 a1 v2 M = some (r, M') → WW p l e ({ frames := 1, cells := 0, slots := 0, locals := 22 } : Room) s m args below meth c 0 0 Q 3 D g tb 37 [(0, .ref (g.1 5 2500)), (1, .int a1), (2, .int v2)] [] M := by
    intro k37 hk37 v2  M hf
    unfold fb_X7_restore_c37 at hf
    refine r_iload_n C0 (kk := 2) 2 rfl dX7_restore_37 ?_
    refine r_bipush C0 (v := 125) dX7_restore_38 rfl ?_
    refine r_icmp_ge C0 (tgt := 66) (by decide) dX7_restore_40 (fun q13 => ?_) (fun q13 => ?_)
    · have hf := ie_t hf q13
      refine r_aload_n C0 (kk := 0) 0 rfl dX7_restore_66 ?_
      refine r_iconst C0 (v := 0) dX7_restore_67 rfl ?_
      refine r_put5 C0 h0.1 9 rfl rfl w6_225 rfl rfl rfl dX7_restore_68 ?_
      refine r_aload_n C0 (kk := 0) 0 rfl dX7_restore_71 ?_
      refine r_get5 C0 h0.1 5 (by decide) (v := .ref (g.1 6 2520)) rfl rfl w6_221 dX7_restore_72 ?_
      refine r_iconst C0 (v := 0) dX7_restore_75 rfl ?_
      refine r_ialdc C0 h0.2.1 (z := 2520) (by decide) (by decide) dX7_restore_76 ?_
      exact hend hf dX7_restore_77
    · have hf := ie_f hf q13
      refine r_aload_n C0 (kk := 0) 0 rfl dX7_restore_43 ?_
      refine r_get5 C0 h0.1 5 (by decide) (v := .ref (g.1 6 2520)) rfl rfl w6_221 dX7_restore_44 ?_
      refine r_iload_n C0 (kk := 2) 2 rfl dX7_restore_47 ?_
      refine r_aload_n C0 (kk := 0) 0 rfl dX7_restore_48 ?_
      refine r_get5 C0 h0.1 10 (by decide) (v := .ref (g.1 6 3895)) rfl rfl w6_226 dX7_restore_49 ?_
      refine r_bipush C0 (v := 125) dX7_restore_52 rfl ?_
      refine r_iload_n C0 (kk := 1) 1 rfl dX7_restore_54 ?_
      refine r_imul C0 dX7_restore_55 ?_
      refine r_iload_n C0 (kk := 2) 2 rfl dX7_restore_56 ?_
      refine r_iadd C0 dX7_restore_57 ?_
      obtain ⟨q14, hf⟩ := gd_e hf
      refine r_ialdc C0 h0.2.2.2.2.2.1 q14 rfl dX7_restore_58 ?_
      obtain ⟨q15, hf⟩ := gd_e hf
      refine r_iastc C0 h0.2.1 q15 rfl dX7_restore_59 ?_
      refine r_iincc C0 2 rfl (k0 := 1) (by decide) (by decide) (lv2 := [(2, .int (v2 + 1)), (0, .ref (g.1 5 2500)), (1, .int a1)]) rfl dX7_restore_60 ?_
      refine r_goto C0 (tgt := 37) (by decide) dX7_restore_63 ?_
      refine WW.sub [1, 2, 0] rfl ?_
      exact hk37 _   _ hf
  have L37 : ∀ (v2 : Int32)  (M : xM), f_X7_restore_c37  a1 v2 M = some (r, M') → WW p l e ({ frames := 1, cells := 0, slots := 0, locals := 22 } : Room) s m args below meth c 0 0 Q 3 D g tb 37 [(0, .ref (g.1 5 2500)), (1, .int a1), (2, .int v2)] [] M := lp_ind (P := fun f => ∀ (v2 : Int32)  (M : xM), f v2 M = some (r, M') → WW p l e ({ frames := 1, cells := 0, slots := 0, locals := 22 } : Room) s m args below meth c 0 0 Q 3 D g tb 37 [(0, .ref (g.1 5 2500)), (1, .int a1), (2, .int v2)] [] M) (fun _ _ h => none_ne h) (fun f hf => B37 f hf) FU
  unfold f_X7_restore at hf
  refine r_aload_n C0 (kk := 0) 0 rfl dX7_restore_0 ?_
  refine r_iconst C0 (v := 0) dX7_restore_1 rfl ?_
  refine r_put5 C0 h0.1 4 rfl rfl w6_220 rfl rfl rfl dX7_restore_2 ?_
  refine r_aload_n C0 (kk := 0) 0 rfl dX7_restore_5 ?_
  refine r_iload_n C0 (kk := 1) 1 rfl dX7_restore_6 ?_
  refine r_iconst C0 (v := 0) dX7_restore_7 rfl ?_
  refine r_iconst C0 (v := 1) dX7_restore_8 rfl ?_
  obtain ⟨r3, M2, hc1, hf⟩ := bd2_e hf
  refine r_callSi C0 (As := [.int a1, .int 0, .int 1]) (rest := [.ref (g.1 5 2500)]) (c_X7_inRange l D g tb hT  hc1) w6_12 w6_13 w1_14 w6_14 hd_X7_inRange rfl ⟨rfl, rfl⟩ ⟨Nat.le_of_ble_eq_true rfl, Nat.le_of_ble_eq_true rfl⟩ (by decide) (by decide) rfl (Nat.le_of_ble_eq_true rfl) dX7_restore_9 ?_
  refine r_iconst C0 (v := 1) dX7_restore_12 rfl ?_
  obtain ⟨r6, M5, hc4, hf⟩ := bd2_e hf
  refine r_callVi C0 (As := [.int r3, .int 1]) (rest := []) (c_X7_fails l D g tb hT h0 hc4) w7_93 w7_95 wp5_12 w1_14 w7_96 (x_rec5 C0 h0.1) hd_X7_fails rfl ⟨rfl, rfl⟩ ⟨Nat.le_of_ble_eq_true rfl, Nat.le_of_ble_eq_true rfl⟩ (by decide) (by decide) rfl (Nat.le_of_ble_eq_true rfl) dX7_restore_13 ?_
  refine r_if_ne C0 (tgt := 33) (by decide) dX7_restore_16 (fun q7 => ?_) (fun q7 => ?_)
  · have hf := ie_f hf q7
    refine r_iconst C0 (v := 0) dX7_restore_33 rfl ?_
    exact hend hf dX7_restore_34
  · have hf := ie_t hf q7
    refine r_aload_n C0 (kk := 0) 0 rfl dX7_restore_19 ?_
    refine r_aload_n C0 (kk := 0) 0 rfl dX7_restore_20 ?_
    refine r_get5 C0 h0.1 11 (by decide) (v := .ref (g.1 8 4145)) rfl rfl w6_227 dX7_restore_21 ?_
    refine r_iload_n C0 (kk := 1) 1 rfl dX7_restore_24 ?_
    obtain ⟨q8, hf⟩ := gd_e hf
    refine r_zaldc C0 h0.2.2.2.2.2.2.1 q8 rfl dX7_restore_25 ?_
    refine r_iconst C0 (v := 2) dX7_restore_26 rfl ?_
    obtain ⟨r11, M10, hc9, hf⟩ := bd2_e hf
    refine r_callVi C0 (As := [.int (M5 (4145 + a1.toNatClampNeg)), .int 2]) (rest := []) (c_X7_fails l D g tb hT h0 hc9) w7_93 w7_95 wp5_12 w1_14 w7_96 (x_rec5 C0 h0.1) hd_X7_fails rfl ⟨rfl, rfl⟩ ⟨Nat.le_of_ble_eq_true rfl, Nat.le_of_ble_eq_true rfl⟩ (by decide) (by decide) rfl (Nat.le_of_ble_eq_true rfl) dX7_restore_27 ?_
    refine r_if_eq C0 (tgt := 35) (by decide) dX7_restore_30 (fun q12 => ?_) (fun q12 => ?_)
    · have hf := ie_t hf q12
      refine r_iconst C0 (v := 0) dX7_restore_35 rfl ?_
      refine r_istore_n C0 (kk := 2) (lv2 := [(2, .int 0), (0, .ref (g.1 5 2500)), (1, .int a1)]) (by decide) rfl dX7_restore_36 ?_
      refine WW.sub [1, 2, 0] rfl ?_
      exact L37   _   _ hf
    · have hf := ie_f hf q12
      refine r_iconst C0 (v := 0) dX7_restore_33 rfl ?_
      exact hend hf dX7_restore_34
theorem dX7_signAt_0 : decode cX7_signAt 0 = .ok (.iload_n 1, 1) := by decide +kernel
theorem dX7_signAt_1 : decode cX7_signAt 1 = .ok (.aload_n 0, 1) := by decide +kernel
theorem dX7_signAt_2 : decode cX7_signAt 2 = .ok (.getfield 17, 3) := by decide +kernel
theorem dX7_signAt_5 : decode cX7_signAt 5 = .ok (.bipush 7, 2) := by decide +kernel
theorem dX7_signAt_7 : decode cX7_signAt 7 = .ok (.iaload, 1) := by decide +kernel
theorem dX7_signAt_8 : decode cX7_signAt 8 = .ok (.if_icmp .ne 6, 3) := by decide +kernel
theorem dX7_signAt_11 : decode cX7_signAt 11 = .ok (.bipush 42, 2) := by decide +kernel
theorem dX7_signAt_13 : decode cX7_signAt 13 = .ok (.ireturn, 1) := by decide +kernel
theorem dX7_signAt_14 : decode cX7_signAt 14 = .ok (.iconst 0, 1) := by decide +kernel
theorem dX7_signAt_15 : decode cX7_signAt 15 = .ok (.istore_n 2, 1) := by decide +kernel
theorem dX7_signAt_16 : decode cX7_signAt 16 = .ok (.iload_n 2, 1) := by decide +kernel
theorem dX7_signAt_17 : decode cX7_signAt 17 = .ok (.aload_n 0, 1) := by decide +kernel
theorem dX7_signAt_18 : decode cX7_signAt 18 = .ok (.getfield 17, 3) := by decide +kernel
theorem dX7_signAt_21 : decode cX7_signAt 21 = .ok (.bipush 10, 2) := by decide +kernel
theorem dX7_signAt_23 : decode cX7_signAt 23 = .ok (.iaload, 1) := by decide +kernel
theorem dX7_signAt_24 : decode cX7_signAt 24 = .ok (.if_icmp .ge 24, 3) := by decide +kernel
theorem dX7_signAt_27 : decode cX7_signAt 27 = .ok (.aload_n 0, 1) := by decide +kernel
theorem dX7_signAt_28 : decode cX7_signAt 28 = .ok (.iload_n 2, 1) := by decide +kernel
theorem dX7_signAt_29 : decode cX7_signAt 29 = .ok (.iconst 0, 1) := by decide +kernel
theorem dX7_signAt_30 : decode cX7_signAt 30 = .ok (.invokevirtual 73, 3) := by decide +kernel
theorem dX7_signAt_33 : decode cX7_signAt 33 = .ok (.iload_n 1, 1) := by decide +kernel
theorem dX7_signAt_34 : decode cX7_signAt 34 = .ok (.if_icmp .ne 8, 3) := by decide +kernel
theorem dX7_signAt_37 : decode cX7_signAt 37 = .ok (.bipush 97, 2) := by decide +kernel
theorem dX7_signAt_39 : decode cX7_signAt 39 = .ok (.iload_n 2, 1) := by decide +kernel
theorem dX7_signAt_40 : decode cX7_signAt 40 = .ok (.iadd, 1) := by decide +kernel
theorem dX7_signAt_41 : decode cX7_signAt 41 = .ok (.ireturn, 1) := by decide +kernel
theorem dX7_signAt_42 : decode cX7_signAt 42 = .ok (.iinc 2 1, 3) := by decide +kernel
theorem dX7_signAt_45 : decode cX7_signAt 45 = .ok (.goto (-29), 3) := by decide +kernel
theorem dX7_signAt_48 : decode cX7_signAt 48 = .ok (.iconst 0, 1) := by decide +kernel
theorem dX7_signAt_49 : decode cX7_signAt 49 = .ok (.istore_n 2, 1) := by decide +kernel
theorem dX7_signAt_50 : decode cX7_signAt 50 = .ok (.iload_n 2, 1) := by decide +kernel
theorem dX7_signAt_51 : decode cX7_signAt 51 = .ok (.aload_n 0, 1) := by decide +kernel
theorem dX7_signAt_52 : decode cX7_signAt 52 = .ok (.getfield 17, 3) := by decide +kernel
theorem dX7_signAt_55 : decode cX7_signAt 55 = .ok (.bipush 9, 2) := by decide +kernel
theorem dX7_signAt_57 : decode cX7_signAt 57 = .ok (.iaload, 1) := by decide +kernel
theorem dX7_signAt_58 : decode cX7_signAt 58 = .ok (.if_icmp .ge 24, 3) := by decide +kernel
theorem dX7_signAt_61 : decode cX7_signAt 61 = .ok (.aload_n 0, 1) := by decide +kernel
theorem dX7_signAt_62 : decode cX7_signAt 62 = .ok (.iload_n 2, 1) := by decide +kernel
theorem dX7_signAt_63 : decode cX7_signAt 63 = .ok (.iconst 0, 1) := by decide +kernel
theorem dX7_signAt_64 : decode cX7_signAt 64 = .ok (.invokevirtual 63, 3) := by decide +kernel
theorem dX7_signAt_67 : decode cX7_signAt 67 = .ok (.iload_n 1, 1) := by decide +kernel
theorem dX7_signAt_68 : decode cX7_signAt 68 = .ok (.if_icmp .ne 8, 3) := by decide +kernel
theorem dX7_signAt_71 : decode cX7_signAt 71 = .ok (.bipush 65, 2) := by decide +kernel
theorem dX7_signAt_73 : decode cX7_signAt 73 = .ok (.iload_n 2, 1) := by decide +kernel
theorem dX7_signAt_74 : decode cX7_signAt 74 = .ok (.iadd, 1) := by decide +kernel
theorem dX7_signAt_75 : decode cX7_signAt 75 = .ok (.ireturn, 1) := by decide +kernel
theorem dX7_signAt_76 : decode cX7_signAt 76 = .ok (.iinc 2 1, 3) := by decide +kernel
theorem dX7_signAt_79 : decode cX7_signAt 79 = .ok (.goto (-29), 3) := by decide +kernel
theorem dX7_signAt_82 : decode cX7_signAt 82 = .ok (.bipush 45, 2) := by decide +kernel
theorem dX7_signAt_84 : decode cX7_signAt 84 = .ok (.ireturn, 1) := by decide +kernel
theorem hd_X7_signAt : yX7_signAt.cls = RX7 ∧ yX7_signAt.cls ≠ "java/lang/invoke/MethodHandle" ∧ yX7_signAt.cls ≠ "java/lang/invoke/VarHandle" ∧ (parseMethodDescriptor yX7_signAt.desc).map (fun d => d.parameters.length) = some 1 := by decide +kernel
set_option maxRecDepth 100000 in
set_option maxHeartbeats 4000000 in
theorem c_X7_signAt (l : Launch) (D : va_G) (g : xG) (tb : List xQ) (hT : x_T g tb) {a1 : Int32} (h0 : x_md tb) {M : xM} {r : Int32} {M' : xM} (hf : f_X7_signAt a1 M = some (r, M')) :
    cI l D g tb yX7_signAt cX7_signAt 3 .int ({ frames := 1, cells := 0, slots := 0, locals := 22 } : Room) [.ref (g.1 5 2500), .int a1] M r M' := by
  refine x_startI (own := RX7) (by decide +kernel) rfl rfl (Nat.le_of_ble_eq_true rfl) hT ?_
  intro p e s m args below meth c Q C0 hend
  have B50 : ∀ (k50 : Int32 → xM → Option (Int32 × xM)) (hk50 : ∀ (v2 : Int32)  (M : xM), k50 v2 M = some (r, M') → WW p l e ({ frames := 1, cells := 0, slots := 0, locals := 22 } : Room) s m args below meth c 0 0 Q 3 D g tb 50 [(0, .ref (g.1 5 2500)), (1, .int a1), (2, .int v2)] [] M), ∀ (v2 : Int32)  (M : xM), fb_X7_signAt_c50 k50 a1 v2 M = some (r, M') → WW p l e ({ frames := 1, cells := 0, slots := 0, locals := 22 } : Room) s m args below meth c 0 0 Q 3 D g tb 50 [(0, .ref (g.1 5 2500)), (1, .int a1), (2, .int v2)] [] M := by
    intro k50 hk50 v2  M hf
    unfold fb_X7_signAt_c50 at hf
    refine r_iload_n C0 (kk := 2) 2 rfl dX7_signAt_50 ?_
    refine r_aload_n C0 (kk := 0) 0 rfl dX7_signAt_51 ?_
    refine r_get5 C0 h0.1 5 (by decide) (v := .ref (g.1 6 2520)) rfl rfl w6_221 dX7_signAt_52 ?_
    refine r_bipush C0 (v := 9) dX7_signAt_55 rfl ?_
    refine r_ialdc C0 h0.2.1 (z := 2529) (by decide) (by decide) dX7_signAt_57 ?_
    refine r_icmp_ge C0 (tgt := 82) (by decide) dX7_signAt_58 (fun q7 => ?_) (fun q7 => ?_)
    · have hf := ie_t hf q7
      refine r_bipush C0 (v := 45) dX7_signAt_82 rfl ?_
      exact hend hf dX7_signAt_84
    · have hf := ie_f hf q7
      refine r_aload_n C0 (kk := 0) 0 rfl dX7_signAt_61 ?_
      refine r_iload_n C0 (kk := 2) 2 rfl dX7_signAt_62 ?_
      refine r_iconst C0 (v := 0) dX7_signAt_63 rfl ?_
      obtain ⟨r10, M9, hc8, hf⟩ := bd2_e hf
      refine r_callVi C0 (As := [.int v2, .int 0]) (rest := []) (c_X7_st l D g tb hT h0 hc8) w6_111 w6_113 wp4_3 w1_14 w6_114 (x_rec5 C0 h0.1) hd_X7_st rfl ⟨rfl, rfl⟩ ⟨Nat.le_of_ble_eq_true rfl, Nat.le_of_ble_eq_true rfl⟩ (by decide) (by decide) rfl (Nat.le_of_ble_eq_true rfl) dX7_signAt_64 ?_
      refine r_iload_n C0 (kk := 1) 1 rfl dX7_signAt_67 ?_
      refine r_icmp_ne C0 (tgt := 76) (by decide) dX7_signAt_68 (fun q11 => ?_) (fun q11 => ?_)
      · have hf := ie_f hf q11
        refine r_iincc C0 2 rfl (k0 := 1) (by decide) (by decide) (lv2 := [(2, .int (v2 + 1)), (0, .ref (g.1 5 2500)), (1, .int a1)]) rfl dX7_signAt_76 ?_
        refine r_goto C0 (tgt := 50) (by decide) dX7_signAt_79 ?_
        refine WW.sub [1, 2, 0] rfl ?_
        exact hk50 _   _ hf
      · have hf := ie_t hf q11
        refine r_bipush C0 (v := 65) dX7_signAt_71 rfl ?_
        refine r_iload_n C0 (kk := 2) 2 rfl dX7_signAt_73 ?_
        refine r_iadd C0 dX7_signAt_74 ?_
        exact hend hf dX7_signAt_75
  have L50 : ∀ (v2 : Int32)  (M : xM), f_X7_signAt_c50  a1 v2 M = some (r, M') → WW p l e ({ frames := 1, cells := 0, slots := 0, locals := 22 } : Room) s m args below meth c 0 0 Q 3 D g tb 50 [(0, .ref (g.1 5 2500)), (1, .int a1), (2, .int v2)] [] M := lp_ind (P := fun f => ∀ (v2 : Int32)  (M : xM), f v2 M = some (r, M') → WW p l e ({ frames := 1, cells := 0, slots := 0, locals := 22 } : Room) s m args below meth c 0 0 Q 3 D g tb 50 [(0, .ref (g.1 5 2500)), (1, .int a1), (2, .int v2)] [] M) (fun _ _ h => none_ne h) (fun f hf => B50 f hf) FU
  have B16 : ∀ (k16 : Int32 → xM → Option (Int32 × xM)) (hk16 : ∀ (v2 : Int32)  (M : xM), k16 v2 M = some (r, M') → WW p l e ({ frames := 1, cells := 0, slots := 0, locals := 22 } : Room) s m args below meth c 0 0 Q 3 D g tb 16 [(0, .ref (g.1 5 2500)), (1, .int a1), (2, .int v2)] [] M), ∀ (v2 : Int32)  (M : xM), fb_X7_signAt_c16 k16 a1 v2 M = some (r, M') → WW p l e ({ frames := 1, cells := 0, slots := 0, locals := 22 } : Room) s m args below meth c 0 0 Q 3 D g tb 16 [(0, .ref (g.1 5 2500)), (1, .int a1), (2, .int v2)] [] M := by
    intro k16 hk16 v2  M hf
    unfold fb_X7_signAt_c16 at hf
    refine r_iload_n C0 (kk := 2) 2 rfl dX7_signAt_16 ?_
    refine r_aload_n C0 (kk := 0) 0 rfl dX7_signAt_17 ?_
    refine r_get5 C0 h0.1 5 (by decide) (v := .ref (g.1 6 2520)) rfl rfl w6_221 dX7_signAt_18 ?_
    refine r_bipush C0 (v := 10) dX7_signAt_21 rfl ?_
    refine r_ialdc C0 h0.2.1 (z := 2530) (by decide) (by decide) dX7_signAt_23 ?_
    refine r_icmp_ge C0 (tgt := 48) (by decide) dX7_signAt_24 (fun q2 => ?_) (fun q2 => ?_)
    · have hf := ie_t hf q2
      refine r_iconst C0 (v := 0) dX7_signAt_48 rfl ?_
      refine r_istore_n C0 (kk := 2) (lv2 := [(2, .int 0), (0, .ref (g.1 5 2500)), (1, .int a1)]) (by decide) rfl dX7_signAt_49 ?_
      refine WW.sub [1, 2, 0] rfl ?_
      exact L50   _   _ hf
    · have hf := ie_f hf q2
      refine r_aload_n C0 (kk := 0) 0 rfl dX7_signAt_27 ?_
      refine r_iload_n C0 (kk := 2) 2 rfl dX7_signAt_28 ?_
      refine r_iconst C0 (v := 0) dX7_signAt_29 rfl ?_
      obtain ⟨r5, M4, hc3, hf⟩ := bd2_e hf
      refine r_callVi C0 (As := [.int v2, .int 0]) (rest := []) (c_X7_by l D g tb hT h0 hc3) w6_103 w6_105 wp4_1 w1_14 w6_106 (x_rec5 C0 h0.1) hd_X7_by rfl ⟨rfl, rfl⟩ ⟨Nat.le_of_ble_eq_true rfl, Nat.le_of_ble_eq_true rfl⟩ (by decide) (by decide) rfl (Nat.le_of_ble_eq_true rfl) dX7_signAt_30 ?_
      refine r_iload_n C0 (kk := 1) 1 rfl dX7_signAt_33 ?_
      refine r_icmp_ne C0 (tgt := 42) (by decide) dX7_signAt_34 (fun q6 => ?_) (fun q6 => ?_)
      · have hf := ie_f hf q6
        refine r_iincc C0 2 rfl (k0 := 1) (by decide) (by decide) (lv2 := [(2, .int (v2 + 1)), (0, .ref (g.1 5 2500)), (1, .int a1)]) rfl dX7_signAt_42 ?_
        refine r_goto C0 (tgt := 16) (by decide) dX7_signAt_45 ?_
        refine WW.sub [1, 2, 0] rfl ?_
        exact hk16 _   _ hf
      · have hf := ie_t hf q6
        refine r_bipush C0 (v := 97) dX7_signAt_37 rfl ?_
        refine r_iload_n C0 (kk := 2) 2 rfl dX7_signAt_39 ?_
        refine r_iadd C0 dX7_signAt_40 ?_
        exact hend hf dX7_signAt_41
  have L16 : ∀ (v2 : Int32)  (M : xM), f_X7_signAt_c16  a1 v2 M = some (r, M') → WW p l e ({ frames := 1, cells := 0, slots := 0, locals := 22 } : Room) s m args below meth c 0 0 Q 3 D g tb 16 [(0, .ref (g.1 5 2500)), (1, .int a1), (2, .int v2)] [] M := lp_ind (P := fun f => ∀ (v2 : Int32)  (M : xM), f v2 M = some (r, M') → WW p l e ({ frames := 1, cells := 0, slots := 0, locals := 22 } : Room) s m args below meth c 0 0 Q 3 D g tb 16 [(0, .ref (g.1 5 2500)), (1, .int a1), (2, .int v2)] [] M) (fun _ _ h => none_ne h) (fun f hf => B16 f hf) FU
  unfold f_X7_signAt at hf
  refine r_iload_n C0 (kk := 1) 1 rfl dX7_signAt_0 ?_
  refine r_aload_n C0 (kk := 0) 0 rfl dX7_signAt_1 ?_
  refine r_get5 C0 h0.1 5 (by decide) (v := .ref (g.1 6 2520)) rfl rfl w6_221 dX7_signAt_2 ?_
  refine r_bipush C0 (v := 7) dX7_signAt_5 rfl ?_
  refine r_ialdc C0 h0.2.1 (z := 2527) (by decide) (by decide) dX7_signAt_7 ?_
  refine r_icmp_ne C0 (tgt := 14) (by decide) dX7_signAt_8 (fun q1 => ?_) (fun q1 => ?_)
  · have hf := ie_f hf q1
    refine r_iconst C0 (v := 0) dX7_signAt_14 rfl ?_
    refine r_istore_n C0 (kk := 2) (lv2 := [(2, .int 0), (0, .ref (g.1 5 2500)), (1, .int a1)]) (by decide) rfl dX7_signAt_15 ?_
    refine WW.sub [1, 2, 0] rfl ?_
    exact L16   _   _ hf
  · have hf := ie_t hf q1
    refine r_bipush C0 (v := 42) dX7_signAt_11 rfl ?_
    exact hend hf dX7_signAt_13
