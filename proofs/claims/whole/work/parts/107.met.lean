theorem dX7_askedOf_0 : decode cX7_askedOf 0 = .ok (.aload_n 0, 1) := by decide +kernel
theorem dX7_askedOf_1 : decode cX7_askedOf 1 = .ok (.iload_n 1, 1) := by decide +kernel
theorem dX7_askedOf_2 : decode cX7_askedOf 2 = .ok (.invokevirtual 314, 3) := by decide +kernel
theorem dX7_askedOf_5 : decode cX7_askedOf 5 = .ok (.ifCond .eq 12, 3) := by decide +kernel
theorem dX7_askedOf_8 : decode cX7_askedOf 8 = .ok (.aload_n 0, 1) := by decide +kernel
theorem dX7_askedOf_9 : decode cX7_askedOf 9 = .ok (.iload_n 1, 1) := by decide +kernel
theorem dX7_askedOf_10 : decode cX7_askedOf 10 = .ok (.iload_n 2, 1) := by decide +kernel
theorem dX7_askedOf_11 : decode cX7_askedOf 11 = .ok (.invokevirtual 73, 3) := by decide +kernel
theorem dX7_askedOf_14 : decode cX7_askedOf 14 = .ok (.goto 4, 3) := by decide +kernel
theorem dX7_askedOf_17 : decode cX7_askedOf 17 = .ok (.iconst 0, 1) := by decide +kernel
theorem dX7_askedOf_18 : decode cX7_askedOf 18 = .ok (.ireturn, 1) := by decide +kernel
theorem hd_X7_askedOf : yX7_askedOf.cls = RX7 ∧ yX7_askedOf.cls ≠ "java/lang/invoke/MethodHandle" ∧ yX7_askedOf.cls ≠ "java/lang/invoke/VarHandle" ∧ (parseMethodDescriptor yX7_askedOf.desc).map (fun d => d.parameters.length) = some 2 := by decide +kernel
set_option maxRecDepth 100000 in
set_option maxHeartbeats 4000000 in
theorem c_X7_askedOf (l : Launch) (D : va_G) (g : xG) (tb : List xQ) (hT : x_T g tb) {a1 : Int32} {a2 : Int32} (h0 : x_md tb) {M : xM} {r : Int32} {M' : xM} (hf : f_X7_askedOf a1 a2 M = some (r, M')) :
    cI l D g tb yX7_askedOf cX7_askedOf 3 .int ({ frames := 2, cells := 0, slots := 0, locals := 43 } : Room) [.ref (g.1 5 2500), .int a1, .int a2] M r M' := by
  refine x_startI (own := RX7) (by decide +kernel) rfl rfl (Nat.le_of_ble_eq_true rfl) hT ?_
  intro p e s m args below meth c Q C0 hend
  unfold f_X7_askedOf at hf
  refine r_aload_n C0 (kk := 0) 0 rfl dX7_askedOf_0 ?_
  refine r_iload_n C0 (kk := 1) 1 rfl dX7_askedOf_1 ?_
  obtain ⟨r3, M2, hc1, hf⟩ := bd2_e hf
  refine r_callVi C0 (As := [.int a1]) (rest := []) (c_X7_isBuyer l D g tb hT h0 hc1) w7_197 w7_199 wp6_2 w1_14 w7_200 (x_rec5 C0 h0.1) hd_X7_isBuyer rfl ⟨rfl, rfl⟩ ⟨Nat.le_of_ble_eq_true rfl, Nat.le_of_ble_eq_true rfl⟩ (by decide) (by decide) rfl (Nat.le_of_ble_eq_true rfl) dX7_askedOf_2 ?_
  refine r_if_eq C0 (tgt := 17) (by decide) dX7_askedOf_5 (fun q4 => ?_) (fun q4 => ?_)
  · have hf := ie_t hf q4
    refine r_iconst C0 (v := 0) dX7_askedOf_17 rfl ?_
    exact hend hf dX7_askedOf_18
  · have hf := ie_f hf q4
    refine r_aload_n C0 (kk := 0) 0 rfl dX7_askedOf_8 ?_
    refine r_iload_n C0 (kk := 1) 1 rfl dX7_askedOf_9 ?_
    refine r_iload_n C0 (kk := 2) 2 rfl dX7_askedOf_10 ?_
    obtain ⟨r7, M6, hc5, hf⟩ := bd2_e hf
    refine r_callVi C0 (As := [.int a1, .int a2]) (rest := []) (c_X7_by l D g tb hT h0 hc5) w6_103 w6_105 wp4_1 w1_14 w6_106 (x_rec5 C0 h0.1) hd_X7_by rfl ⟨rfl, rfl⟩ ⟨Nat.le_of_ble_eq_true rfl, Nat.le_of_ble_eq_true rfl⟩ (by decide) (by decide) rfl (Nat.le_of_ble_eq_true rfl) dX7_askedOf_11 ?_
    refine r_goto C0 (tgt := 18) (by decide) dX7_askedOf_14 ?_
    exact hend hf dX7_askedOf_18
theorem dX7_coinsOf_0 : decode cX7_coinsOf 0 = .ok (.aload_n 0, 1) := by decide +kernel
theorem dX7_coinsOf_1 : decode cX7_coinsOf 1 = .ok (.iload_n 1, 1) := by decide +kernel
theorem dX7_coinsOf_2 : decode cX7_coinsOf 2 = .ok (.iconst 1, 1) := by decide +kernel
theorem dX7_coinsOf_3 : decode cX7_coinsOf 3 = .ok (.invokevirtual 323, 3) := by decide +kernel
theorem dX7_coinsOf_6 : decode cX7_coinsOf 6 = .ok (.ireturn, 1) := by decide +kernel
theorem hd_X7_coinsOf : yX7_coinsOf.cls = RX7 ∧ yX7_coinsOf.cls ≠ "java/lang/invoke/MethodHandle" ∧ yX7_coinsOf.cls ≠ "java/lang/invoke/VarHandle" ∧ (parseMethodDescriptor yX7_coinsOf.desc).map (fun d => d.parameters.length) = some 1 := by decide +kernel
set_option maxRecDepth 100000 in
set_option maxHeartbeats 4000000 in
theorem c_X7_coinsOf (l : Launch) (D : va_G) (g : xG) (tb : List xQ) (hT : x_T g tb) {a1 : Int32} (h0 : x_md tb) {M : xM} {r : Int32} {M' : xM} (hf : f_X7_coinsOf a1 M = some (r, M')) :
    cI l D g tb yX7_coinsOf cX7_coinsOf 2 .int ({ frames := 3, cells := 0, slots := 0, locals := 65 } : Room) [.ref (g.1 5 2500), .int a1] M r M' := by
  refine x_startI (own := RX7) (by decide +kernel) rfl rfl (Nat.le_of_ble_eq_true rfl) hT ?_
  intro p e s m args below meth c Q C0 hend
  unfold f_X7_coinsOf at hf
  refine r_aload_n C0 (kk := 0) 0 rfl dX7_coinsOf_0 ?_
  refine r_iload_n C0 (kk := 1) 1 rfl dX7_coinsOf_1 ?_
  refine r_iconst C0 (v := 1) dX7_coinsOf_2 rfl ?_
  obtain ⟨r3, M2, hc1, hf⟩ := bd2_e hf
  refine r_callVi C0 (As := [.int a1, .int 1]) (rest := []) (c_X7_askedOf l D g tb hT h0 hc1) w7_193 w7_195 wp6_1 w1_14 w7_196 (x_rec5 C0 h0.1) hd_X7_askedOf rfl ⟨rfl, rfl⟩ ⟨Nat.le_of_ble_eq_true rfl, Nat.le_of_ble_eq_true rfl⟩ (by decide) (by decide) rfl (Nat.le_of_ble_eq_true rfl) dX7_coinsOf_3 ?_
  exact hend hf dX7_coinsOf_6
theorem dX7_wantedTexture_0 : decode cX7_wantedTexture 0 = .ok (.aload_n 0, 1) := by decide +kernel
theorem dX7_wantedTexture_1 : decode cX7_wantedTexture 1 = .ok (.iload_n 1, 1) := by decide +kernel
theorem dX7_wantedTexture_2 : decode cX7_wantedTexture 2 = .ok (.iconst 2, 1) := by decide +kernel
theorem dX7_wantedTexture_3 : decode cX7_wantedTexture 3 = .ok (.invokevirtual 323, 3) := by decide +kernel
theorem dX7_wantedTexture_6 : decode cX7_wantedTexture 6 = .ok (.ireturn, 1) := by decide +kernel
theorem hd_X7_wantedTexture : yX7_wantedTexture.cls = RX7 ∧ yX7_wantedTexture.cls ≠ "java/lang/invoke/MethodHandle" ∧ yX7_wantedTexture.cls ≠ "java/lang/invoke/VarHandle" ∧ (parseMethodDescriptor yX7_wantedTexture.desc).map (fun d => d.parameters.length) = some 1 := by decide +kernel
set_option maxRecDepth 100000 in
set_option maxHeartbeats 4000000 in
theorem c_X7_wantedTexture (l : Launch) (D : va_G) (g : xG) (tb : List xQ) (hT : x_T g tb) {a1 : Int32} (h0 : x_md tb) {M : xM} {r : Int32} {M' : xM} (hf : f_X7_wantedTexture a1 M = some (r, M')) :
    cI l D g tb yX7_wantedTexture cX7_wantedTexture 2 .int ({ frames := 3, cells := 0, slots := 0, locals := 65 } : Room) [.ref (g.1 5 2500), .int a1] M r M' := by
  refine x_startI (own := RX7) (by decide +kernel) rfl rfl (Nat.le_of_ble_eq_true rfl) hT ?_
  intro p e s m args below meth c Q C0 hend
  unfold f_X7_wantedTexture at hf
  refine r_aload_n C0 (kk := 0) 0 rfl dX7_wantedTexture_0 ?_
  refine r_iload_n C0 (kk := 1) 1 rfl dX7_wantedTexture_1 ?_
  refine r_iconst C0 (v := 2) dX7_wantedTexture_2 rfl ?_
  obtain ⟨r3, M2, hc1, hf⟩ := bd2_e hf
  refine r_callVi C0 (As := [.int a1, .int 2]) (rest := []) (c_X7_askedOf l D g tb hT h0 hc1) w7_193 w7_195 wp6_1 w1_14 w7_196 (x_rec5 C0 h0.1) hd_X7_askedOf rfl ⟨rfl, rfl⟩ ⟨Nat.le_of_ble_eq_true rfl, Nat.le_of_ble_eq_true rfl⟩ (by decide) (by decide) rfl (Nat.le_of_ble_eq_true rfl) dX7_wantedTexture_3 ?_
  exact hend hf dX7_wantedTexture_6
theorem dX7_speedOf_0 : decode cX7_speedOf 0 = .ok (.aload_n 0, 1) := by decide +kernel
theorem dX7_speedOf_1 : decode cX7_speedOf 1 = .ok (.iload_n 1, 1) := by decide +kernel
theorem dX7_speedOf_2 : decode cX7_speedOf 2 = .ok (.iconst 3, 1) := by decide +kernel
theorem dX7_speedOf_3 : decode cX7_speedOf 3 = .ok (.invokevirtual 323, 3) := by decide +kernel
theorem dX7_speedOf_6 : decode cX7_speedOf 6 = .ok (.ireturn, 1) := by decide +kernel
theorem hd_X7_speedOf : yX7_speedOf.cls = RX7 ∧ yX7_speedOf.cls ≠ "java/lang/invoke/MethodHandle" ∧ yX7_speedOf.cls ≠ "java/lang/invoke/VarHandle" ∧ (parseMethodDescriptor yX7_speedOf.desc).map (fun d => d.parameters.length) = some 1 := by decide +kernel
set_option maxRecDepth 100000 in
set_option maxHeartbeats 4000000 in
theorem c_X7_speedOf (l : Launch) (D : va_G) (g : xG) (tb : List xQ) (hT : x_T g tb) {a1 : Int32} (h0 : x_md tb) {M : xM} {r : Int32} {M' : xM} (hf : f_X7_speedOf a1 M = some (r, M')) :
    cI l D g tb yX7_speedOf cX7_speedOf 2 .int ({ frames := 3, cells := 0, slots := 0, locals := 65 } : Room) [.ref (g.1 5 2500), .int a1] M r M' := by
  refine x_startI (own := RX7) (by decide +kernel) rfl rfl (Nat.le_of_ble_eq_true rfl) hT ?_
  intro p e s m args below meth c Q C0 hend
  unfold f_X7_speedOf at hf
  refine r_aload_n C0 (kk := 0) 0 rfl dX7_speedOf_0 ?_
  refine r_iload_n C0 (kk := 1) 1 rfl dX7_speedOf_1 ?_
  refine r_iconst C0 (v := 3) dX7_speedOf_2 rfl ?_
  obtain ⟨r3, M2, hc1, hf⟩ := bd2_e hf
  refine r_callVi C0 (As := [.int a1, .int 3]) (rest := []) (c_X7_askedOf l D g tb hT h0 hc1) w7_193 w7_195 wp6_1 w1_14 w7_196 (x_rec5 C0 h0.1) hd_X7_askedOf rfl ⟨rfl, rfl⟩ ⟨Nat.le_of_ble_eq_true rfl, Nat.le_of_ble_eq_true rfl⟩ (by decide) (by decide) rfl (Nat.le_of_ble_eq_true rfl) dX7_speedOf_3 ?_
  exact hend hf dX7_speedOf_6
theorem dX7_heldFrom_0 : decode cX7_heldFrom 0 = .ok (.aload_n 0, 1) := by decide +kernel
theorem dX7_heldFrom_1 : decode cX7_heldFrom 1 = .ok (.iload_n 1, 1) := by decide +kernel
theorem dX7_heldFrom_2 : decode cX7_heldFrom 2 = .ok (.iconst 4, 1) := by decide +kernel
theorem dX7_heldFrom_3 : decode cX7_heldFrom 3 = .ok (.invokevirtual 323, 3) := by decide +kernel
theorem dX7_heldFrom_6 : decode cX7_heldFrom 6 = .ok (.ireturn, 1) := by decide +kernel
theorem hd_X7_heldFrom : yX7_heldFrom.cls = RX7 ∧ yX7_heldFrom.cls ≠ "java/lang/invoke/MethodHandle" ∧ yX7_heldFrom.cls ≠ "java/lang/invoke/VarHandle" ∧ (parseMethodDescriptor yX7_heldFrom.desc).map (fun d => d.parameters.length) = some 1 := by decide +kernel
set_option maxRecDepth 100000 in
set_option maxHeartbeats 4000000 in
theorem c_X7_heldFrom (l : Launch) (D : va_G) (g : xG) (tb : List xQ) (hT : x_T g tb) {a1 : Int32} (h0 : x_md tb) {M : xM} {r : Int32} {M' : xM} (hf : f_X7_heldFrom a1 M = some (r, M')) :
    cI l D g tb yX7_heldFrom cX7_heldFrom 2 .int ({ frames := 3, cells := 0, slots := 0, locals := 65 } : Room) [.ref (g.1 5 2500), .int a1] M r M' := by
  refine x_startI (own := RX7) (by decide +kernel) rfl rfl (Nat.le_of_ble_eq_true rfl) hT ?_
  intro p e s m args below meth c Q C0 hend
  unfold f_X7_heldFrom at hf
  refine r_aload_n C0 (kk := 0) 0 rfl dX7_heldFrom_0 ?_
  refine r_iload_n C0 (kk := 1) 1 rfl dX7_heldFrom_1 ?_
  refine r_iconst C0 (v := 4) dX7_heldFrom_2 rfl ?_
  obtain ⟨r3, M2, hc1, hf⟩ := bd2_e hf
  refine r_callVi C0 (As := [.int a1, .int 4]) (rest := []) (c_X7_askedOf l D g tb hT h0 hc1) w7_193 w7_195 wp6_1 w1_14 w7_196 (x_rec5 C0 h0.1) hd_X7_askedOf rfl ⟨rfl, rfl⟩ ⟨Nat.le_of_ble_eq_true rfl, Nat.le_of_ble_eq_true rfl⟩ (by decide) (by decide) rfl (Nat.le_of_ble_eq_true rfl) dX7_heldFrom_3 ?_
  exact hend hf dX7_heldFrom_6
theorem dX7_debtOf_0 : decode cX7_debtOf 0 = .ok (.aload_n 0, 1) := by decide +kernel
theorem dX7_debtOf_1 : decode cX7_debtOf 1 = .ok (.iload_n 1, 1) := by decide +kernel
theorem dX7_debtOf_2 : decode cX7_debtOf 2 = .ok (.iconst 5, 1) := by decide +kernel
theorem dX7_debtOf_3 : decode cX7_debtOf 3 = .ok (.invokevirtual 323, 3) := by decide +kernel
theorem dX7_debtOf_6 : decode cX7_debtOf 6 = .ok (.ireturn, 1) := by decide +kernel
theorem hd_X7_debtOf : yX7_debtOf.cls = RX7 ∧ yX7_debtOf.cls ≠ "java/lang/invoke/MethodHandle" ∧ yX7_debtOf.cls ≠ "java/lang/invoke/VarHandle" ∧ (parseMethodDescriptor yX7_debtOf.desc).map (fun d => d.parameters.length) = some 1 := by decide +kernel
set_option maxRecDepth 100000 in
set_option maxHeartbeats 4000000 in
theorem c_X7_debtOf (l : Launch) (D : va_G) (g : xG) (tb : List xQ) (hT : x_T g tb) {a1 : Int32} (h0 : x_md tb) {M : xM} {r : Int32} {M' : xM} (hf : f_X7_debtOf a1 M = some (r, M')) :
    cI l D g tb yX7_debtOf cX7_debtOf 2 .int ({ frames := 3, cells := 0, slots := 0, locals := 65 } : Room) [.ref (g.1 5 2500), .int a1] M r M' := by
  refine x_startI (own := RX7) (by decide +kernel) rfl rfl (Nat.le_of_ble_eq_true rfl) hT ?_
  intro p e s m args below meth c Q C0 hend
  unfold f_X7_debtOf at hf
  refine r_aload_n C0 (kk := 0) 0 rfl dX7_debtOf_0 ?_
  refine r_iload_n C0 (kk := 1) 1 rfl dX7_debtOf_1 ?_
  refine r_iconst C0 (v := 5) dX7_debtOf_2 rfl ?_
  obtain ⟨r3, M2, hc1, hf⟩ := bd2_e hf
  refine r_callVi C0 (As := [.int a1, .int 5]) (rest := []) (c_X7_askedOf l D g tb hT h0 hc1) w7_193 w7_195 wp6_1 w1_14 w7_196 (x_rec5 C0 h0.1) hd_X7_askedOf rfl ⟨rfl, rfl⟩ ⟨Nat.le_of_ble_eq_true rfl, Nat.le_of_ble_eq_true rfl⟩ (by decide) (by decide) rfl (Nat.le_of_ble_eq_true rfl) dX7_debtOf_3 ?_
  exact hend hf dX7_debtOf_6
theorem dX7_avoidedBy_0 : decode cX7_avoidedBy 0 = .ok (.aload_n 0, 1) := by decide +kernel
theorem dX7_avoidedBy_1 : decode cX7_avoidedBy 1 = .ok (.iload_n 1, 1) := by decide +kernel
theorem dX7_avoidedBy_2 : decode cX7_avoidedBy 2 = .ok (.bipush 6, 2) := by decide +kernel
theorem dX7_avoidedBy_4 : decode cX7_avoidedBy 4 = .ok (.invokevirtual 323, 3) := by decide +kernel
theorem dX7_avoidedBy_7 : decode cX7_avoidedBy 7 = .ok (.ireturn, 1) := by decide +kernel
theorem hd_X7_avoidedBy : yX7_avoidedBy.cls = RX7 ∧ yX7_avoidedBy.cls ≠ "java/lang/invoke/MethodHandle" ∧ yX7_avoidedBy.cls ≠ "java/lang/invoke/VarHandle" ∧ (parseMethodDescriptor yX7_avoidedBy.desc).map (fun d => d.parameters.length) = some 1 := by decide +kernel
set_option maxRecDepth 100000 in
set_option maxHeartbeats 4000000 in
theorem c_X7_avoidedBy (l : Launch) (D : va_G) (g : xG) (tb : List xQ) (hT : x_T g tb) {a1 : Int32} (h0 : x_md tb) {M : xM} {r : Int32} {M' : xM} (hf : f_X7_avoidedBy a1 M = some (r, M')) :
    cI l D g tb yX7_avoidedBy cX7_avoidedBy 2 .int ({ frames := 3, cells := 0, slots := 0, locals := 65 } : Room) [.ref (g.1 5 2500), .int a1] M r M' := by
  refine x_startI (own := RX7) (by decide +kernel) rfl rfl (Nat.le_of_ble_eq_true rfl) hT ?_
  intro p e s m args below meth c Q C0 hend
  unfold f_X7_avoidedBy at hf
  refine r_aload_n C0 (kk := 0) 0 rfl dX7_avoidedBy_0 ?_
  refine r_iload_n C0 (kk := 1) 1 rfl dX7_avoidedBy_1 ?_
  refine r_bipush C0 (v := 6) dX7_avoidedBy_2 rfl ?_
  obtain ⟨r3, M2, hc1, hf⟩ := bd2_e hf
  refine r_callVi C0 (As := [.int a1, .int 6]) (rest := []) (c_X7_askedOf l D g tb hT h0 hc1) w7_193 w7_195 wp6_1 w1_14 w7_196 (x_rec5 C0 h0.1) hd_X7_askedOf rfl ⟨rfl, rfl⟩ ⟨Nat.le_of_ble_eq_true rfl, Nat.le_of_ble_eq_true rfl⟩ (by decide) (by decide) rfl (Nat.le_of_ble_eq_true rfl) dX7_avoidedBy_4 ?_
  exact hend hf dX7_avoidedBy_7
theorem dX7_boughtBy_0 : decode cX7_boughtBy 0 = .ok (.aload_n 0, 1) := by decide +kernel
theorem dX7_boughtBy_1 : decode cX7_boughtBy 1 = .ok (.iload_n 1, 1) := by decide +kernel
theorem dX7_boughtBy_2 : decode cX7_boughtBy 2 = .ok (.bipush 7, 2) := by decide +kernel
theorem dX7_boughtBy_4 : decode cX7_boughtBy 4 = .ok (.invokevirtual 323, 3) := by decide +kernel
theorem dX7_boughtBy_7 : decode cX7_boughtBy 7 = .ok (.ireturn, 1) := by decide +kernel
theorem hd_X7_boughtBy : yX7_boughtBy.cls = RX7 ∧ yX7_boughtBy.cls ≠ "java/lang/invoke/MethodHandle" ∧ yX7_boughtBy.cls ≠ "java/lang/invoke/VarHandle" ∧ (parseMethodDescriptor yX7_boughtBy.desc).map (fun d => d.parameters.length) = some 1 := by decide +kernel
set_option maxRecDepth 100000 in
set_option maxHeartbeats 4000000 in
theorem c_X7_boughtBy (l : Launch) (D : va_G) (g : xG) (tb : List xQ) (hT : x_T g tb) {a1 : Int32} (h0 : x_md tb) {M : xM} {r : Int32} {M' : xM} (hf : f_X7_boughtBy a1 M = some (r, M')) :
    cI l D g tb yX7_boughtBy cX7_boughtBy 2 .int ({ frames := 3, cells := 0, slots := 0, locals := 65 } : Room) [.ref (g.1 5 2500), .int a1] M r M' := by
  refine x_startI (own := RX7) (by decide +kernel) rfl rfl (Nat.le_of_ble_eq_true rfl) hT ?_
  intro p e s m args below meth c Q C0 hend
  unfold f_X7_boughtBy at hf
  refine r_aload_n C0 (kk := 0) 0 rfl dX7_boughtBy_0 ?_
  refine r_iload_n C0 (kk := 1) 1 rfl dX7_boughtBy_1 ?_
  refine r_bipush C0 (v := 7) dX7_boughtBy_2 rfl ?_
  obtain ⟨r3, M2, hc1, hf⟩ := bd2_e hf
  refine r_callVi C0 (As := [.int a1, .int 7]) (rest := []) (c_X7_askedOf l D g tb hT h0 hc1) w7_193 w7_195 wp6_1 w1_14 w7_196 (x_rec5 C0 h0.1) hd_X7_askedOf rfl ⟨rfl, rfl⟩ ⟨Nat.le_of_ble_eq_true rfl, Nat.le_of_ble_eq_true rfl⟩ (by decide) (by decide) rfl (Nat.le_of_ble_eq_true rfl) dX7_boughtBy_4 ?_
  exact hend hf dX7_boughtBy_7
theorem dX7_coinsInAll_0 : decode cX7_coinsInAll 0 = .ok (.aload_n 0, 1) := by decide +kernel
theorem dX7_coinsInAll_1 : decode cX7_coinsInAll 1 = .ok (.iconst 0, 1) := by decide +kernel
theorem dX7_coinsInAll_2 : decode cX7_coinsInAll 2 = .ok (.putfield 60, 3) := by decide +kernel
theorem dX7_coinsInAll_5 : decode cX7_coinsInAll 5 = .ok (.aload_n 0, 1) := by decide +kernel
theorem dX7_coinsInAll_6 : decode cX7_coinsInAll 6 = .ok (.bipush 7, 2) := by decide +kernel
theorem dX7_coinsInAll_8 : decode cX7_coinsInAll 8 = .ok (.invokevirtual 326, 3) := by decide +kernel
theorem dX7_coinsInAll_11 : decode cX7_coinsInAll 11 = .ok (.istore_n 1, 1) := by decide +kernel
theorem dX7_coinsInAll_12 : decode cX7_coinsInAll 12 = .ok (.iconst 0, 1) := by decide +kernel
theorem dX7_coinsInAll_13 : decode cX7_coinsInAll 13 = .ok (.istore_n 2, 1) := by decide +kernel
theorem dX7_coinsInAll_14 : decode cX7_coinsInAll 14 = .ok (.iload_n 2, 1) := by decide +kernel
theorem dX7_coinsInAll_15 : decode cX7_coinsInAll 15 = .ok (.aload_n 0, 1) := by decide +kernel
theorem dX7_coinsInAll_16 : decode cX7_coinsInAll 16 = .ok (.getfield 17, 3) := by decide +kernel
theorem dX7_coinsInAll_19 : decode cX7_coinsInAll 19 = .ok (.bipush 10, 2) := by decide +kernel
theorem dX7_coinsInAll_21 : decode cX7_coinsInAll 21 = .ok (.iaload, 1) := by decide +kernel
theorem dX7_coinsInAll_22 : decode cX7_coinsInAll 22 = .ok (.if_icmp .ge 18, 3) := by decide +kernel
theorem dX7_coinsInAll_25 : decode cX7_coinsInAll 25 = .ok (.iload_n 1, 1) := by decide +kernel
theorem dX7_coinsInAll_26 : decode cX7_coinsInAll 26 = .ok (.aload_n 0, 1) := by decide +kernel
theorem dX7_coinsInAll_27 : decode cX7_coinsInAll 27 = .ok (.iload_n 2, 1) := by decide +kernel
theorem dX7_coinsInAll_28 : decode cX7_coinsInAll 28 = .ok (.iconst 1, 1) := by decide +kernel
theorem dX7_coinsInAll_29 : decode cX7_coinsInAll 29 = .ok (.invokevirtual 73, 3) := by decide +kernel
theorem dX7_coinsInAll_32 : decode cX7_coinsInAll 32 = .ok (.iadd, 1) := by decide +kernel
theorem dX7_coinsInAll_33 : decode cX7_coinsInAll 33 = .ok (.istore_n 1, 1) := by decide +kernel
theorem dX7_coinsInAll_34 : decode cX7_coinsInAll 34 = .ok (.iinc 2 1, 3) := by decide +kernel
theorem dX7_coinsInAll_37 : decode cX7_coinsInAll 37 = .ok (.goto (-23), 3) := by decide +kernel
theorem dX7_coinsInAll_40 : decode cX7_coinsInAll 40 = .ok (.iload_n 1, 1) := by decide +kernel
theorem dX7_coinsInAll_41 : decode cX7_coinsInAll 41 = .ok (.ireturn, 1) := by decide +kernel
theorem hd_X7_coinsInAll : yX7_coinsInAll.cls = RX7 ∧ yX7_coinsInAll.cls ≠ "java/lang/invoke/MethodHandle" ∧ yX7_coinsInAll.cls ≠ "java/lang/invoke/VarHandle" ∧ (parseMethodDescriptor yX7_coinsInAll.desc).map (fun d => d.parameters.length) = some 0 := by decide +kernel
set_option maxRecDepth 100000 in
set_option maxHeartbeats 4000000 in
theorem c_X7_coinsInAll (l : Launch) (D : va_G) (g : xG) (tb : List xQ) (hT : x_T g tb)  (h0 : x_md tb) {M : xM} {r : Int32} {M' : xM} (hf : f_X7_coinsInAll  M = some (r, M')) :
    cI l D g tb yX7_coinsInAll cX7_coinsInAll 3 .int ({ frames := 2, cells := 0, slots := 0, locals := 45 } : Room) [.ref (g.1 5 2500)] M r M' := by
  refine x_startI (own := RX7) (by decide +kernel) rfl rfl (Nat.le_of_ble_eq_true rfl) hT ?_
  intro p e s m args below meth c Q C0 hend
  have B14 : ∀ (k14 : Int32 → Int32 → xM → Option (Int32 × xM)) (hk14 : ∀ (v1 : Int32) (v2 : Int32)  (M : xM), k14 v1 v2 M = some (r, M') → WW p l e ({ frames := 2, cells := 0, slots := 0, locals := 45 } : Room) s m args below meth c 0 0 Q 3 D g tb 14 [(0, .ref (g.1 5 2500)), (1, .int v1), (2, .int v2)] [] M), ∀ (v1 : Int32) (v2 : Int32)  (M : xM), fb_X7_coinsInAll_c14 k14  v1 v2 M = some (r, M') → WW p l e ({ frames := 2, cells := 0, slots := 0, locals := 45 } : Room) s m args below meth c 0 0 Q 3 D g tb 14 [(0, .ref (g.1 5 2500)), (1, .int v1), (2, .int v2)] [] M := by
    intro k14 hk14 v1 v2  M hf
    unfold fb_X7_coinsInAll_c14 at hf
    refine r_iload_n C0 (kk := 2) 2 rfl dX7_coinsInAll_14 ?_
    refine r_aload_n C0 (kk := 0) 0 rfl dX7_coinsInAll_15 ?_
    refine r_get5 C0 h0.1 5 (by decide) (v := .ref (g.1 6 2520)) rfl rfl w6_221 dX7_coinsInAll_16 ?_
    refine r_bipush C0 (v := 10) dX7_coinsInAll_19 rfl ?_
    refine r_ialdc C0 h0.2.1 (z := 2530) (by decide) (by decide) dX7_coinsInAll_21 ?_
    refine r_icmp_ge C0 (tgt := 40) (by decide) dX7_coinsInAll_22 (fun q4 => ?_) (fun q4 => ?_)
    · have hf := ie_t hf q4
      refine r_iload_n C0 (kk := 1) 1 rfl dX7_coinsInAll_40 ?_
      exact hend hf dX7_coinsInAll_41
    · have hf := ie_f hf q4
      refine r_iload_n C0 (kk := 1) 1 rfl dX7_coinsInAll_25 ?_
      refine r_aload_n C0 (kk := 0) 0 rfl dX7_coinsInAll_26 ?_
      refine r_iload_n C0 (kk := 2) 2 rfl dX7_coinsInAll_27 ?_
      refine r_iconst C0 (v := 1) dX7_coinsInAll_28 rfl ?_
      obtain ⟨r7, M6, hc5, hf⟩ := bd2_e hf
      refine r_callVi C0 (As := [.int v2, .int 1]) (rest := [.int v1]) (c_X7_by l D g tb hT h0 hc5) w6_103 w6_105 wp4_1 w1_14 w6_106 (x_rec5 C0 h0.1) hd_X7_by rfl ⟨rfl, rfl⟩ ⟨Nat.le_of_ble_eq_true rfl, Nat.le_of_ble_eq_true rfl⟩ (by decide) (by decide) rfl (Nat.le_of_ble_eq_true rfl) dX7_coinsInAll_29 ?_
      refine r_iadd C0 dX7_coinsInAll_32 ?_
      refine r_istore_n C0 (kk := 1) (lv2 := [(1, .int (v1 + r7)), (0, .ref (g.1 5 2500)), (2, .int v2)]) (by decide) rfl dX7_coinsInAll_33 ?_
      refine r_iincc C0 2 rfl (k0 := 1) (by decide) (by decide) (lv2 := [(2, .int (v2 + 1)), (1, .int (v1 + r7)), (0, .ref (g.1 5 2500))]) rfl dX7_coinsInAll_34 ?_
      refine r_goto C0 (tgt := 14) (by decide) dX7_coinsInAll_37 ?_
      refine WW.sub [2, 1, 0] rfl ?_
      exact hk14 _ _   _ hf
  have L14 : ∀ (v1 : Int32) (v2 : Int32)  (M : xM), f_X7_coinsInAll_c14   v1 v2 M = some (r, M') → WW p l e ({ frames := 2, cells := 0, slots := 0, locals := 45 } : Room) s m args below meth c 0 0 Q 3 D g tb 14 [(0, .ref (g.1 5 2500)), (1, .int v1), (2, .int v2)] [] M := lp_ind (P := fun f => ∀ (v1 : Int32) (v2 : Int32)  (M : xM), f v1 v2 M = some (r, M') → WW p l e ({ frames := 2, cells := 0, slots := 0, locals := 45 } : Room) s m args below meth c 0 0 Q 3 D g tb 14 [(0, .ref (g.1 5 2500)), (1, .int v1), (2, .int v2)] [] M) (fun _ _ _ h => none_ne h) (fun f hf => B14 f hf) FU
  unfold f_X7_coinsInAll at hf
  refine r_aload_n C0 (kk := 0) 0 rfl dX7_coinsInAll_0 ?_
  refine r_iconst C0 (v := 0) dX7_coinsInAll_1 rfl ?_
  refine r_put5 C0 h0.1 4 rfl rfl w6_220 rfl rfl rfl dX7_coinsInAll_2 ?_
  refine r_aload_n C0 (kk := 0) 0 rfl dX7_coinsInAll_5 ?_
  refine r_bipush C0 (v := 7) dX7_coinsInAll_6 rfl ?_
  obtain ⟨r3, M2, hc1, hf⟩ := bd2_e hf
  refine r_callVi C0 (As := [.int 7]) (rest := []) (c_X7_sumOf l D g tb hT h0 hc1) w8_1 w8_3 wp6_3 w1_14 w8_4 (x_rec5 C0 h0.1) hd_X7_sumOf rfl ⟨rfl, rfl⟩ ⟨Nat.le_of_ble_eq_true rfl, Nat.le_of_ble_eq_true rfl⟩ (by decide) (by decide) rfl (Nat.le_of_ble_eq_true rfl) dX7_coinsInAll_8 ?_
  refine r_istore_n C0 (kk := 1) (lv2 := [(1, .int r3), (0, .ref (g.1 5 2500))]) (by decide) rfl dX7_coinsInAll_11 ?_
  refine r_iconst C0 (v := 0) dX7_coinsInAll_12 rfl ?_
  refine r_istore_n C0 (kk := 2) (lv2 := [(2, .int 0), (1, .int r3), (0, .ref (g.1 5 2500))]) (by decide) rfl dX7_coinsInAll_13 ?_
  refine WW.sub [2, 1, 0] rfl ?_
  exact L14   _ _   _ hf
theorem dX7_addStall_0 : decode cX7_addStall 0 = .ok (.aload_n 0, 1) := by decide +kernel
theorem dX7_addStall_1 : decode cX7_addStall 1 = .ok (.iconst 0, 1) := by decide +kernel
theorem dX7_addStall_2 : decode cX7_addStall 2 = .ok (.putfield 60, 3) := by decide +kernel
theorem dX7_addStall_5 : decode cX7_addStall 5 = .ok (.iload_n 1, 1) := by decide +kernel
theorem dX7_addStall_6 : decode cX7_addStall 6 = .ok (.iconst 0, 1) := by decide +kernel
theorem dX7_addStall_7 : decode cX7_addStall 7 = .ok (.bipush 99, 2) := by decide +kernel
theorem dX7_addStall_9 : decode cX7_addStall 9 = .ok (.invokestatic 147, 3) := by decide +kernel
theorem dX7_addStall_12 : decode cX7_addStall 12 = .ok (.ifCond .eq 25, 3) := by decide +kernel
theorem dX7_addStall_15 : decode cX7_addStall 15 = .ok (.iload_n 2, 1) := by decide +kernel
theorem dX7_addStall_16 : decode cX7_addStall 16 = .ok (.iconst 0, 1) := by decide +kernel
theorem dX7_addStall_17 : decode cX7_addStall 17 = .ok (.iconst 3, 1) := by decide +kernel
theorem dX7_addStall_18 : decode cX7_addStall 18 = .ok (.invokestatic 147, 3) := by decide +kernel
theorem dX7_addStall_21 : decode cX7_addStall 21 = .ok (.ifCond .eq 16, 3) := by decide +kernel
theorem dX7_addStall_24 : decode cX7_addStall 24 = .ok (.iload_n 3, 1) := by decide +kernel
theorem dX7_addStall_25 : decode cX7_addStall 25 = .ok (.iconst 0, 1) := by decide +kernel
theorem dX7_addStall_26 : decode cX7_addStall 26 = .ok (.iconst 2, 1) := by decide +kernel
theorem dX7_addStall_27 : decode cX7_addStall 27 = .ok (.invokestatic 147, 3) := by decide +kernel
theorem dX7_addStall_30 : decode cX7_addStall 30 = .ok (.ifCond .eq 7, 3) := by decide +kernel
theorem dX7_addStall_33 : decode cX7_addStall 33 = .ok (.iconst 1, 1) := by decide +kernel
theorem dX7_addStall_34 : decode cX7_addStall 34 = .ok (.goto 4, 3) := by decide +kernel
theorem dX7_addStall_37 : decode cX7_addStall 37 = .ok (.iconst 0, 1) := by decide +kernel
theorem dX7_addStall_38 : decode cX7_addStall 38 = .ok (.istore 6, 2) := by decide +kernel
theorem dX7_addStall_40 : decode cX7_addStall 40 = .ok (.aload_n 0, 1) := by decide +kernel
theorem dX7_addStall_41 : decode cX7_addStall 41 = .ok (.iload 6, 2) := by decide +kernel
theorem dX7_addStall_43 : decode cX7_addStall 43 = .ok (.ifCond .eq 30, 3) := by decide +kernel
theorem dX7_addStall_46 : decode cX7_addStall 46 = .ok (.iload 4, 2) := by decide +kernel
theorem dX7_addStall_48 : decode cX7_addStall 48 = .ok (.iconst 1, 1) := by decide +kernel
theorem dX7_addStall_49 : decode cX7_addStall 49 = .ok (.sipush 999, 3) := by decide +kernel
theorem dX7_addStall_52 : decode cX7_addStall 52 = .ok (.invokestatic 147, 3) := by decide +kernel
theorem dX7_addStall_55 : decode cX7_addStall 55 = .ok (.ifCond .eq 18, 3) := by decide +kernel
theorem dX7_addStall_58 : decode cX7_addStall 58 = .ok (.iload 5, 2) := by decide +kernel
theorem dX7_addStall_60 : decode cX7_addStall 60 = .ok (.iconst 0, 1) := by decide +kernel
theorem dX7_addStall_61 : decode cX7_addStall 61 = .ok (.bipush 99, 2) := by decide +kernel
theorem dX7_addStall_63 : decode cX7_addStall 63 = .ok (.invokestatic 147, 3) := by decide +kernel
theorem dX7_addStall_66 : decode cX7_addStall 66 = .ok (.ifCond .eq 7, 3) := by decide +kernel
theorem dX7_addStall_69 : decode cX7_addStall 69 = .ok (.iconst 1, 1) := by decide +kernel
theorem dX7_addStall_70 : decode cX7_addStall 70 = .ok (.goto 4, 3) := by decide +kernel
theorem dX7_addStall_73 : decode cX7_addStall 73 = .ok (.iconst 0, 1) := by decide +kernel
theorem dX7_addStall_74 : decode cX7_addStall 74 = .ok (.iconst 1, 1) := by decide +kernel
theorem dX7_addStall_75 : decode cX7_addStall 75 = .ok (.invokevirtual 304, 3) := by decide +kernel
theorem dX7_addStall_78 : decode cX7_addStall 78 = .ok (.ifCond .ne 28, 3) := by decide +kernel
theorem dX7_addStall_81 : decode cX7_addStall 81 = .ok (.aload_n 0, 1) := by decide +kernel
theorem dX7_addStall_82 : decode cX7_addStall 82 = .ok (.aload_n 0, 1) := by decide +kernel
theorem dX7_addStall_83 : decode cX7_addStall 83 = .ok (.getfield 17, 3) := by decide +kernel
theorem dX7_addStall_86 : decode cX7_addStall 86 = .ok (.bipush 9, 2) := by decide +kernel
theorem dX7_addStall_88 : decode cX7_addStall 88 = .ok (.iaload, 1) := by decide +kernel
theorem dX7_addStall_89 : decode cX7_addStall 89 = .ok (.bipush 6, 2) := by decide +kernel
theorem dX7_addStall_91 : decode cX7_addStall 91 = .ok (.if_icmp .ge 7, 3) := by decide +kernel
theorem dX7_addStall_94 : decode cX7_addStall 94 = .ok (.iconst 1, 1) := by decide +kernel
theorem dX7_addStall_95 : decode cX7_addStall 95 = .ok (.goto 4, 3) := by decide +kernel
theorem dX7_addStall_98 : decode cX7_addStall 98 = .ok (.iconst 0, 1) := by decide +kernel
theorem dX7_addStall_99 : decode cX7_addStall 99 = .ok (.iconst 2, 1) := by decide +kernel
theorem dX7_addStall_100 : decode cX7_addStall 100 = .ok (.invokevirtual 304, 3) := by decide +kernel
theorem dX7_addStall_103 : decode cX7_addStall 103 = .ok (.ifCond .eq 5, 3) := by decide +kernel
theorem dX7_addStall_106 : decode cX7_addStall 106 = .ok (.iconst 0, 1) := by decide +kernel
theorem dX7_addStall_107 : decode cX7_addStall 107 = .ok (.ireturn, 1) := by decide +kernel
theorem dX7_addStall_108 : decode cX7_addStall 108 = .ok (.aload_n 0, 1) := by decide +kernel
theorem dX7_addStall_109 : decode cX7_addStall 109 = .ok (.invokevirtual 338, 3) := by decide +kernel
theorem dX7_addStall_112 : decode cX7_addStall 112 = .ok (.aload_n 0, 1) := by decide +kernel
theorem dX7_addStall_113 : decode cX7_addStall 113 = .ok (.iload_n 1, 1) := by decide +kernel
theorem dX7_addStall_114 : decode cX7_addStall 114 = .ok (.iload_n 2, 1) := by decide +kernel
theorem dX7_addStall_115 : decode cX7_addStall 115 = .ok (.iload_n 3, 1) := by decide +kernel
theorem dX7_addStall_116 : decode cX7_addStall 116 = .ok (.iload 4, 2) := by decide +kernel
theorem dX7_addStall_118 : decode cX7_addStall 118 = .ok (.iload 5, 2) := by decide +kernel
theorem dX7_addStall_120 : decode cX7_addStall 120 = .ok (.invokevirtual 263, 3) := by decide +kernel
theorem dX7_addStall_123 : decode cX7_addStall 123 = .ok (.ireturn, 1) := by decide +kernel
theorem hd_X7_addStall : yX7_addStall.cls = RX7 ∧ yX7_addStall.cls ≠ "java/lang/invoke/MethodHandle" ∧ yX7_addStall.cls ≠ "java/lang/invoke/VarHandle" ∧ (parseMethodDescriptor yX7_addStall.desc).map (fun d => d.parameters.length) = some 5 := by decide +kernel
set_option maxRecDepth 100000 in
set_option maxHeartbeats 4000000 in
theorem c_X7_addStall (l : Launch) (D : va_G) (g : xG) (tb : List xQ) (hT : x_T g tb) {a1 : Int32} {a2 : Int32} {a3 : Int32} {a4 : Int32} {a5 : Int32} (h0 : x_md tb) {M : xM} {r : Int32} {M' : xM} (hf : f_X7_addStall a1 a2 a3 a4 a5 M = some (r, M')) :
    cI l D g tb yX7_addStall cX7_addStall 7 .int ({ frames := 2, cells := 0, slots := 0, locals := 50 } : Room) [.ref (g.1 5 2500), .int a1, .int a2, .int a3, .int a4, .int a5] M r M' := by
  refine x_startI (own := RX7) (by decide +kernel) rfl rfl (Nat.le_of_ble_eq_true rfl) hT ?_
  intro p e s m args below meth c Q C0 hend
  have B99 : ∀ (s0 : Int32)  (M : xM), f_X7_addStall_c99  a1 a2 a3 a4 a5 s0 M = some (r, M') → WW p l e ({ frames := 2, cells := 0, slots := 0, locals := 50 } : Room) s m args below meth c 0 0 Q 7 D g tb 99 [(0, .ref (g.1 5 2500)), (1, .int a1), (2, .int a2), (3, .int a3), (4, .int a4), (5, .int a5)] [.int s0, .ref (g.1 5 2500)] M := by
    intro   s0  M hf
    unfold f_X7_addStall_c99 at hf
    refine r_iconst C0 (v := 2) dX7_addStall_99 rfl ?_
    obtain ⟨r29, M28, hc27, hf⟩ := bd2_e hf
    refine r_callVi C0 (As := [.int s0, .int 2]) (rest := []) (c_X7_fails l D g tb hT h0 hc27) w7_93 w7_95 wp5_12 w1_14 w7_96 (x_rec5 C0 h0.1) hd_X7_fails rfl ⟨rfl, rfl⟩ ⟨Nat.le_of_ble_eq_true rfl, Nat.le_of_ble_eq_true rfl⟩ (by decide) (by decide) rfl (Nat.le_of_ble_eq_true rfl) dX7_addStall_100 ?_
    refine r_if_eq C0 (tgt := 108) (by decide) dX7_addStall_103 (fun q30 => ?_) (fun q30 => ?_)
    · have hf := ie_t hf q30
      refine r_aload_n C0 (kk := 0) 0 rfl dX7_addStall_108 ?_
      obtain ⟨M32, hc31, hf⟩ := bd_e hf
      refine r_callVv C0 (As := []) (rest := []) (c_X7_record l D g tb hT h0 hc31) w8_54 w8_56 wp6_6 w1_14 w8_57 (x_rec5 C0 h0.1) hd_X7_record rfl ⟨rfl, rfl⟩ ⟨Nat.le_of_ble_eq_true rfl, Nat.le_of_ble_eq_true rfl⟩ (by decide) (by decide) rfl (Nat.le_of_ble_eq_true rfl) dX7_addStall_109 ?_
      refine r_aload_n C0 (kk := 0) 0 rfl dX7_addStall_112 ?_
      refine r_iload_n C0 (kk := 1) 1 rfl dX7_addStall_113 ?_
      refine r_iload_n C0 (kk := 2) 2 rfl dX7_addStall_114 ?_
      refine r_iload_n C0 (kk := 3) 3 rfl dX7_addStall_115 ?_
      refine r_iload C0 4 rfl dX7_addStall_116 ?_
      refine r_iload C0 5 rfl dX7_addStall_118 ?_
      obtain ⟨r35, M34, hc33, hf⟩ := bd2_e hf
      refine r_callVi C0 (As := [.int a1, .int a2, .int a3, .int a4, .int a5]) (rest := []) (c_X7_doStall l D g tb hT h0 hc33) w6_119 w6_121 wp4_5 w1_14 w6_122 (x_rec5 C0 h0.1) hd_X7_doStall rfl ⟨rfl, rfl⟩ ⟨Nat.le_of_ble_eq_true rfl, Nat.le_of_ble_eq_true rfl⟩ (by decide) (by decide) rfl (Nat.le_of_ble_eq_true rfl) dX7_addStall_120 ?_
      exact hend hf dX7_addStall_123
    · have hf := ie_f hf q30
      refine r_iconst C0 (v := 0) dX7_addStall_106 rfl ?_
      exact hend hf dX7_addStall_107
  have B74 : ∀ (s0 : Int32)  (M : xM), f_X7_addStall_c74  a1 a2 a3 a4 a5 s0 M = some (r, M') → WW p l e ({ frames := 2, cells := 0, slots := 0, locals := 50 } : Room) s m args below meth c 0 0 Q 7 D g tb 74 [(0, .ref (g.1 5 2500)), (1, .int a1), (2, .int a2), (3, .int a3), (4, .int a4), (5, .int a5)] [.int s0, .ref (g.1 5 2500)] M := by
    intro   s0  M hf
    unfold f_X7_addStall_c74 at hf
    refine r_iconst C0 (v := 1) dX7_addStall_74 rfl ?_
    obtain ⟨r24, M23, hc22, hf⟩ := bd2_e hf
    refine r_callVi C0 (As := [.int s0, .int 1]) (rest := []) (c_X7_fails l D g tb hT h0 hc22) w7_93 w7_95 wp5_12 w1_14 w7_96 (x_rec5 C0 h0.1) hd_X7_fails rfl ⟨rfl, rfl⟩ ⟨Nat.le_of_ble_eq_true rfl, Nat.le_of_ble_eq_true rfl⟩ (by decide) (by decide) rfl (Nat.le_of_ble_eq_true rfl) dX7_addStall_75 ?_
    refine r_if_ne C0 (tgt := 106) (by decide) dX7_addStall_78 (fun q25 => ?_) (fun q25 => ?_)
    · have hf := ie_f hf q25
      refine r_iconst C0 (v := 0) dX7_addStall_106 rfl ?_
      exact hend hf dX7_addStall_107
    · have hf := ie_t hf q25
      refine r_aload_n C0 (kk := 0) 0 rfl dX7_addStall_81 ?_
      refine r_aload_n C0 (kk := 0) 0 rfl dX7_addStall_82 ?_
      refine r_get5 C0 h0.1 5 (by decide) (v := .ref (g.1 6 2520)) rfl rfl w6_221 dX7_addStall_83 ?_
      refine r_bipush C0 (v := 9) dX7_addStall_86 rfl ?_
      refine r_ialdc C0 h0.2.1 (z := 2529) (by decide) (by decide) dX7_addStall_88 ?_
      refine r_bipush C0 (v := 6) dX7_addStall_89 rfl ?_
      refine r_icmp_ge C0 (tgt := 98) (by decide) dX7_addStall_91 (fun q26 => ?_) (fun q26 => ?_)
      · have hf := ie_t hf q26
        refine r_iconst C0 (v := 0) dX7_addStall_98 rfl ?_
        exact B99   _   _ hf
      · have hf := ie_f hf q26
        refine r_iconst C0 (v := 1) dX7_addStall_94 rfl ?_
        refine r_goto C0 (tgt := 99) (by decide) dX7_addStall_95 ?_
        exact B99   _   _ hf
  have B73 : ∀ (M : xM), f_X7_addStall_c73  a1 a2 a3 a4 a5 M = some (r, M') → WW p l e ({ frames := 2, cells := 0, slots := 0, locals := 50 } : Room) s m args below meth c 0 0 Q 7 D g tb 73 [(0, .ref (g.1 5 2500)), (1, .int a1), (2, .int a2), (3, .int a3), (4, .int a4), (5, .int a5)] [.ref (g.1 5 2500)] M := by
    intro     M hf
    unfold f_X7_addStall_c73 at hf
    refine r_iconst C0 (v := 0) dX7_addStall_73 rfl ?_
    exact B74   _   _ hf
  have B38 : ∀ (s0 : Int32)  (M : xM), f_X7_addStall_c38  a1 a2 a3 a4 a5 s0 M = some (r, M') → WW p l e ({ frames := 2, cells := 0, slots := 0, locals := 50 } : Room) s m args below meth c 0 0 Q 7 D g tb 38 [(0, .ref (g.1 5 2500)), (1, .int a1), (2, .int a2), (3, .int a3), (4, .int a4), (5, .int a5)] [.int s0] M := by
    intro   s0  M hf
    unfold f_X7_addStall_c38 at hf
    refine r_istore C0 (lv2 := [(6, .int s0), (0, .ref (g.1 5 2500)), (1, .int a1), (2, .int a2), (3, .int a3), (4, .int a4), (5, .int a5)]) (by decide) rfl dX7_addStall_38 ?_
    refine r_aload_n C0 (kk := 0) 1 rfl dX7_addStall_40 ?_
    refine r_iload C0 0 rfl dX7_addStall_41 ?_
    refine r_if_eq C0 (tgt := 73) (by decide) dX7_addStall_43 (fun q13 => ?_) (fun q13 => ?_)
    · have hf := ie_t hf q13
      refine WW.sub [1, 2, 3, 4, 5, 6] rfl ?_
      exact B73     _ hf
    · have hf := ie_f hf q13
      refine r_iload C0 5 rfl dX7_addStall_46 ?_
      refine r_iconst C0 (v := 1) dX7_addStall_48 rfl ?_
      refine r_sipush C0 (v := 999) dX7_addStall_49 rfl ?_
      obtain ⟨r16, M15, hc14, hf⟩ := bd2_e hf
      refine r_callSi C0 (As := [.int a4, .int 1, .int 999]) (rest := [.ref (g.1 5 2500)]) (c_X7_inRange l D g tb hT  hc14) w6_12 w6_13 w1_14 w6_14 hd_X7_inRange rfl ⟨rfl, rfl⟩ ⟨Nat.le_of_ble_eq_true rfl, Nat.le_of_ble_eq_true rfl⟩ (by decide) (by decide) rfl (Nat.le_of_ble_eq_true rfl) dX7_addStall_52 ?_
      refine r_if_eq C0 (tgt := 73) (by decide) dX7_addStall_55 (fun q17 => ?_) (fun q17 => ?_)
      · have hf := ie_t hf q17
        refine WW.sub [1, 2, 3, 4, 5, 6] rfl ?_
        exact B73     _ hf
      · have hf := ie_f hf q17
        refine r_iload C0 6 rfl dX7_addStall_58 ?_
        refine r_iconst C0 (v := 0) dX7_addStall_60 rfl ?_
        refine r_bipush C0 (v := 99) dX7_addStall_61 rfl ?_
        obtain ⟨r20, M19, hc18, hf⟩ := bd2_e hf
        refine r_callSi C0 (As := [.int a5, .int 0, .int 99]) (rest := [.ref (g.1 5 2500)]) (c_X7_inRange l D g tb hT  hc18) w6_12 w6_13 w1_14 w6_14 hd_X7_inRange rfl ⟨rfl, rfl⟩ ⟨Nat.le_of_ble_eq_true rfl, Nat.le_of_ble_eq_true rfl⟩ (by decide) (by decide) rfl (Nat.le_of_ble_eq_true rfl) dX7_addStall_63 ?_
        refine r_if_eq C0 (tgt := 73) (by decide) dX7_addStall_66 (fun q21 => ?_) (fun q21 => ?_)
        · have hf := ie_t hf q21
          refine WW.sub [1, 2, 3, 4, 5, 6] rfl ?_
          exact B73     _ hf
        · have hf := ie_f hf q21
          refine r_iconst C0 (v := 1) dX7_addStall_69 rfl ?_
          refine r_goto C0 (tgt := 74) (by decide) dX7_addStall_70 ?_
          refine WW.sub [1, 2, 3, 4, 5, 6] rfl ?_
          exact B74   _   _ hf
  have B37 : ∀ (M : xM), f_X7_addStall_c37  a1 a2 a3 a4 a5 M = some (r, M') → WW p l e ({ frames := 2, cells := 0, slots := 0, locals := 50 } : Room) s m args below meth c 0 0 Q 7 D g tb 37 [(0, .ref (g.1 5 2500)), (1, .int a1), (2, .int a2), (3, .int a3), (4, .int a4), (5, .int a5)] [] M := by
    intro     M hf
    unfold f_X7_addStall_c37 at hf
    refine r_iconst C0 (v := 0) dX7_addStall_37 rfl ?_
    exact B38   _   _ hf
  unfold f_X7_addStall at hf
  refine r_aload_n C0 (kk := 0) 0 rfl dX7_addStall_0 ?_
  refine r_iconst C0 (v := 0) dX7_addStall_1 rfl ?_
  refine r_put5 C0 h0.1 4 rfl rfl w6_220 rfl rfl rfl dX7_addStall_2 ?_
  refine r_iload_n C0 (kk := 1) 1 rfl dX7_addStall_5 ?_
  refine r_iconst C0 (v := 0) dX7_addStall_6 rfl ?_
  refine r_bipush C0 (v := 99) dX7_addStall_7 rfl ?_
  obtain ⟨r3, M2, hc1, hf⟩ := bd2_e hf
  refine r_callSi C0 (As := [.int a1, .int 0, .int 99]) (rest := []) (c_X7_inRange l D g tb hT  hc1) w6_12 w6_13 w1_14 w6_14 hd_X7_inRange rfl ⟨rfl, rfl⟩ ⟨Nat.le_of_ble_eq_true rfl, Nat.le_of_ble_eq_true rfl⟩ (by decide) (by decide) rfl (Nat.le_of_ble_eq_true rfl) dX7_addStall_9 ?_
  refine r_if_eq C0 (tgt := 37) (by decide) dX7_addStall_12 (fun q4 => ?_) (fun q4 => ?_)
  · have hf := ie_t hf q4
    exact B37     _ hf
  · have hf := ie_f hf q4
    refine r_iload_n C0 (kk := 2) 2 rfl dX7_addStall_15 ?_
    refine r_iconst C0 (v := 0) dX7_addStall_16 rfl ?_
    refine r_iconst C0 (v := 3) dX7_addStall_17 rfl ?_
    obtain ⟨r7, M6, hc5, hf⟩ := bd2_e hf
    refine r_callSi C0 (As := [.int a2, .int 0, .int 3]) (rest := []) (c_X7_inRange l D g tb hT  hc5) w6_12 w6_13 w1_14 w6_14 hd_X7_inRange rfl ⟨rfl, rfl⟩ ⟨Nat.le_of_ble_eq_true rfl, Nat.le_of_ble_eq_true rfl⟩ (by decide) (by decide) rfl (Nat.le_of_ble_eq_true rfl) dX7_addStall_18 ?_
    refine r_if_eq C0 (tgt := 37) (by decide) dX7_addStall_21 (fun q8 => ?_) (fun q8 => ?_)
    · have hf := ie_t hf q8
      exact B37     _ hf
    · have hf := ie_f hf q8
      refine r_iload_n C0 (kk := 3) 3 rfl dX7_addStall_24 ?_
      refine r_iconst C0 (v := 0) dX7_addStall_25 rfl ?_
      refine r_iconst C0 (v := 2) dX7_addStall_26 rfl ?_
      obtain ⟨r11, M10, hc9, hf⟩ := bd2_e hf
      refine r_callSi C0 (As := [.int a3, .int 0, .int 2]) (rest := []) (c_X7_inRange l D g tb hT  hc9) w6_12 w6_13 w1_14 w6_14 hd_X7_inRange rfl ⟨rfl, rfl⟩ ⟨Nat.le_of_ble_eq_true rfl, Nat.le_of_ble_eq_true rfl⟩ (by decide) (by decide) rfl (Nat.le_of_ble_eq_true rfl) dX7_addStall_27 ?_
      refine r_if_eq C0 (tgt := 37) (by decide) dX7_addStall_30 (fun q12 => ?_) (fun q12 => ?_)
      · have hf := ie_t hf q12
        exact B37     _ hf
      · have hf := ie_f hf q12
        refine r_iconst C0 (v := 1) dX7_addStall_33 rfl ?_
        refine r_goto C0 (tgt := 38) (by decide) dX7_addStall_34 ?_
        exact B38   _   _ hf
theorem dX7_addBuyer_0 : decode cX7_addBuyer 0 = .ok (.aload_n 0, 1) := by decide +kernel
theorem dX7_addBuyer_1 : decode cX7_addBuyer 1 = .ok (.iconst 0, 1) := by decide +kernel
theorem dX7_addBuyer_2 : decode cX7_addBuyer 2 = .ok (.putfield 60, 3) := by decide +kernel
theorem dX7_addBuyer_5 : decode cX7_addBuyer 5 = .ok (.iload_n 1, 1) := by decide +kernel
theorem dX7_addBuyer_6 : decode cX7_addBuyer 6 = .ok (.iconst 0, 1) := by decide +kernel
theorem dX7_addBuyer_7 : decode cX7_addBuyer 7 = .ok (.bipush 99, 2) := by decide +kernel
theorem dX7_addBuyer_9 : decode cX7_addBuyer 9 = .ok (.invokestatic 147, 3) := by decide +kernel
theorem dX7_addBuyer_12 : decode cX7_addBuyer 12 = .ok (.ifCond .eq 38, 3) := by decide +kernel
theorem dX7_addBuyer_15 : decode cX7_addBuyer 15 = .ok (.iload_n 2, 1) := by decide +kernel
theorem dX7_addBuyer_16 : decode cX7_addBuyer 16 = .ok (.iconst 0, 1) := by decide +kernel
theorem dX7_addBuyer_17 : decode cX7_addBuyer 17 = .ok (.sipush 9999, 3) := by decide +kernel
theorem dX7_addBuyer_20 : decode cX7_addBuyer 20 = .ok (.invokestatic 147, 3) := by decide +kernel
theorem dX7_addBuyer_23 : decode cX7_addBuyer 23 = .ok (.ifCond .eq 27, 3) := by decide +kernel
theorem dX7_addBuyer_26 : decode cX7_addBuyer 26 = .ok (.iload_n 3, 1) := by decide +kernel
theorem dX7_addBuyer_27 : decode cX7_addBuyer 27 = .ok (.iconst 0, 1) := by decide +kernel
theorem dX7_addBuyer_28 : decode cX7_addBuyer 28 = .ok (.iconst 2, 1) := by decide +kernel
theorem dX7_addBuyer_29 : decode cX7_addBuyer 29 = .ok (.invokestatic 147, 3) := by decide +kernel
theorem dX7_addBuyer_32 : decode cX7_addBuyer 32 = .ok (.ifCond .eq 18, 3) := by decide +kernel
theorem dX7_addBuyer_35 : decode cX7_addBuyer 35 = .ok (.iload 4, 2) := by decide +kernel
theorem dX7_addBuyer_37 : decode cX7_addBuyer 37 = .ok (.iconst 1, 1) := by decide +kernel
theorem dX7_addBuyer_38 : decode cX7_addBuyer 38 = .ok (.bipush 20, 2) := by decide +kernel
theorem dX7_addBuyer_40 : decode cX7_addBuyer 40 = .ok (.invokestatic 147, 3) := by decide +kernel
theorem dX7_addBuyer_43 : decode cX7_addBuyer 43 = .ok (.ifCond .eq 7, 3) := by decide +kernel
theorem dX7_addBuyer_46 : decode cX7_addBuyer 46 = .ok (.iconst 1, 1) := by decide +kernel
theorem dX7_addBuyer_47 : decode cX7_addBuyer 47 = .ok (.goto 4, 3) := by decide +kernel
theorem dX7_addBuyer_50 : decode cX7_addBuyer 50 = .ok (.iconst 0, 1) := by decide +kernel
theorem dX7_addBuyer_51 : decode cX7_addBuyer 51 = .ok (.istore 5, 2) := by decide +kernel
theorem dX7_addBuyer_53 : decode cX7_addBuyer 53 = .ok (.aload_n 0, 1) := by decide +kernel
theorem dX7_addBuyer_54 : decode cX7_addBuyer 54 = .ok (.iload 5, 2) := by decide +kernel
theorem dX7_addBuyer_56 : decode cX7_addBuyer 56 = .ok (.iconst 1, 1) := by decide +kernel
theorem dX7_addBuyer_57 : decode cX7_addBuyer 57 = .ok (.invokevirtual 304, 3) := by decide +kernel
theorem dX7_addBuyer_60 : decode cX7_addBuyer 60 = .ok (.ifCond .ne 28, 3) := by decide +kernel
theorem dX7_addBuyer_63 : decode cX7_addBuyer 63 = .ok (.aload_n 0, 1) := by decide +kernel
theorem dX7_addBuyer_64 : decode cX7_addBuyer 64 = .ok (.aload_n 0, 1) := by decide +kernel
theorem dX7_addBuyer_65 : decode cX7_addBuyer 65 = .ok (.getfield 17, 3) := by decide +kernel
theorem dX7_addBuyer_68 : decode cX7_addBuyer 68 = .ok (.bipush 10, 2) := by decide +kernel
theorem dX7_addBuyer_70 : decode cX7_addBuyer 70 = .ok (.iaload, 1) := by decide +kernel
theorem dX7_addBuyer_71 : decode cX7_addBuyer 71 = .ok (.bipush 6, 2) := by decide +kernel
theorem dX7_addBuyer_73 : decode cX7_addBuyer 73 = .ok (.if_icmp .ge 7, 3) := by decide +kernel
theorem dX7_addBuyer_76 : decode cX7_addBuyer 76 = .ok (.iconst 1, 1) := by decide +kernel
theorem dX7_addBuyer_77 : decode cX7_addBuyer 77 = .ok (.goto 4, 3) := by decide +kernel
theorem dX7_addBuyer_80 : decode cX7_addBuyer 80 = .ok (.iconst 0, 1) := by decide +kernel
theorem dX7_addBuyer_81 : decode cX7_addBuyer 81 = .ok (.iconst 2, 1) := by decide +kernel
theorem dX7_addBuyer_82 : decode cX7_addBuyer 82 = .ok (.invokevirtual 304, 3) := by decide +kernel
theorem dX7_addBuyer_85 : decode cX7_addBuyer 85 = .ok (.ifCond .eq 5, 3) := by decide +kernel
theorem dX7_addBuyer_88 : decode cX7_addBuyer 88 = .ok (.iconst 0, 1) := by decide +kernel
theorem dX7_addBuyer_89 : decode cX7_addBuyer 89 = .ok (.ireturn, 1) := by decide +kernel
theorem dX7_addBuyer_90 : decode cX7_addBuyer 90 = .ok (.aload_n 0, 1) := by decide +kernel
theorem dX7_addBuyer_91 : decode cX7_addBuyer 91 = .ok (.invokevirtual 338, 3) := by decide +kernel
theorem dX7_addBuyer_94 : decode cX7_addBuyer 94 = .ok (.aload_n 0, 1) := by decide +kernel
theorem dX7_addBuyer_95 : decode cX7_addBuyer 95 = .ok (.iload_n 1, 1) := by decide +kernel
theorem dX7_addBuyer_96 : decode cX7_addBuyer 96 = .ok (.iload_n 2, 1) := by decide +kernel
theorem dX7_addBuyer_97 : decode cX7_addBuyer 97 = .ok (.iload_n 3, 1) := by decide +kernel
theorem dX7_addBuyer_98 : decode cX7_addBuyer 98 = .ok (.iload 4, 2) := by decide +kernel
theorem dX7_addBuyer_100 : decode cX7_addBuyer 100 = .ok (.invokevirtual 267, 3) := by decide +kernel
theorem dX7_addBuyer_103 : decode cX7_addBuyer 103 = .ok (.ireturn, 1) := by decide +kernel
theorem hd_X7_addBuyer : yX7_addBuyer.cls = RX7 ∧ yX7_addBuyer.cls ≠ "java/lang/invoke/MethodHandle" ∧ yX7_addBuyer.cls ≠ "java/lang/invoke/VarHandle" ∧ (parseMethodDescriptor yX7_addBuyer.desc).map (fun d => d.parameters.length) = some 4 := by decide +kernel
set_option maxRecDepth 100000 in
set_option maxHeartbeats 4000000 in
theorem c_X7_addBuyer (l : Launch) (D : va_G) (g : xG) (tb : List xQ) (hT : x_T g tb) {a1 : Int32} {a2 : Int32} {a3 : Int32} {a4 : Int32} (h0 : x_md tb) {M : xM} {r : Int32} {M' : xM} (hf : f_X7_addBuyer a1 a2 a3 a4 M = some (r, M')) :
    cI l D g tb yX7_addBuyer cX7_addBuyer 6 .int ({ frames := 2, cells := 0, slots := 0, locals := 49 } : Room) [.ref (g.1 5 2500), .int a1, .int a2, .int a3, .int a4] M r M' := by
  refine x_startI (own := RX7) (by decide +kernel) rfl rfl (Nat.le_of_ble_eq_true rfl) hT ?_
  intro p e s m args below meth c Q C0 hend
  have B81 : ∀ (s0 : Int32)  (M : xM), f_X7_addBuyer_c81  a1 a2 a3 a4 s0 M = some (r, M') → WW p l e ({ frames := 2, cells := 0, slots := 0, locals := 49 } : Room) s m args below meth c 0 0 Q 6 D g tb 81 [(0, .ref (g.1 5 2500)), (1, .int a1), (2, .int a2), (3, .int a3), (4, .int a4)] [.int s0, .ref (g.1 5 2500)] M := by
    intro   s0  M hf
    unfold f_X7_addBuyer_c81 at hf
    refine r_iconst C0 (v := 2) dX7_addBuyer_81 rfl ?_
    obtain ⟨r24, M23, hc22, hf⟩ := bd2_e hf
    refine r_callVi C0 (As := [.int s0, .int 2]) (rest := []) (c_X7_fails l D g tb hT h0 hc22) w7_93 w7_95 wp5_12 w1_14 w7_96 (x_rec5 C0 h0.1) hd_X7_fails rfl ⟨rfl, rfl⟩ ⟨Nat.le_of_ble_eq_true rfl, Nat.le_of_ble_eq_true rfl⟩ (by decide) (by decide) rfl (Nat.le_of_ble_eq_true rfl) dX7_addBuyer_82 ?_
    refine r_if_eq C0 (tgt := 90) (by decide) dX7_addBuyer_85 (fun q25 => ?_) (fun q25 => ?_)
    · have hf := ie_t hf q25
      refine r_aload_n C0 (kk := 0) 0 rfl dX7_addBuyer_90 ?_
      obtain ⟨M27, hc26, hf⟩ := bd_e hf
      refine r_callVv C0 (As := []) (rest := []) (c_X7_record l D g tb hT h0 hc26) w8_54 w8_56 wp6_6 w1_14 w8_57 (x_rec5 C0 h0.1) hd_X7_record rfl ⟨rfl, rfl⟩ ⟨Nat.le_of_ble_eq_true rfl, Nat.le_of_ble_eq_true rfl⟩ (by decide) (by decide) rfl (Nat.le_of_ble_eq_true rfl) dX7_addBuyer_91 ?_
      refine r_aload_n C0 (kk := 0) 0 rfl dX7_addBuyer_94 ?_
      refine r_iload_n C0 (kk := 1) 1 rfl dX7_addBuyer_95 ?_
      refine r_iload_n C0 (kk := 2) 2 rfl dX7_addBuyer_96 ?_
      refine r_iload_n C0 (kk := 3) 3 rfl dX7_addBuyer_97 ?_
      refine r_iload C0 4 rfl dX7_addBuyer_98 ?_
      obtain ⟨r30, M29, hc28, hf⟩ := bd2_e hf
      refine r_callVi C0 (As := [.int a1, .int a2, .int a3, .int a4]) (rest := []) (c_X7_doBuyer l D g tb hT h0 hc28) w6_127 w6_129 wp4_7 w1_14 w6_130 (x_rec5 C0 h0.1) hd_X7_doBuyer rfl ⟨rfl, rfl⟩ ⟨Nat.le_of_ble_eq_true rfl, Nat.le_of_ble_eq_true rfl⟩ (by decide) (by decide) rfl (Nat.le_of_ble_eq_true rfl) dX7_addBuyer_100 ?_
      exact hend hf dX7_addBuyer_103
    · have hf := ie_f hf q25
      refine r_iconst C0 (v := 0) dX7_addBuyer_88 rfl ?_
      exact hend hf dX7_addBuyer_89
  have B51 : ∀ (s0 : Int32)  (M : xM), f_X7_addBuyer_c51  a1 a2 a3 a4 s0 M = some (r, M') → WW p l e ({ frames := 2, cells := 0, slots := 0, locals := 49 } : Room) s m args below meth c 0 0 Q 6 D g tb 51 [(0, .ref (g.1 5 2500)), (1, .int a1), (2, .int a2), (3, .int a3), (4, .int a4)] [.int s0] M := by
    intro   s0  M hf
    unfold f_X7_addBuyer_c51 at hf
    refine r_istore C0 (lv2 := [(5, .int s0), (0, .ref (g.1 5 2500)), (1, .int a1), (2, .int a2), (3, .int a3), (4, .int a4)]) (by decide) rfl dX7_addBuyer_51 ?_
    refine r_aload_n C0 (kk := 0) 1 rfl dX7_addBuyer_53 ?_
    refine r_iload C0 0 rfl dX7_addBuyer_54 ?_
    refine r_iconst C0 (v := 1) dX7_addBuyer_56 rfl ?_
    obtain ⟨r19, M18, hc17, hf⟩ := bd2_e hf
    refine r_callVi C0 (As := [.int s0, .int 1]) (rest := []) (c_X7_fails l D g tb hT h0 hc17) w7_93 w7_95 wp5_12 w1_14 w7_96 (x_rec5 C0 h0.1) hd_X7_fails rfl ⟨rfl, rfl⟩ ⟨Nat.le_of_ble_eq_true rfl, Nat.le_of_ble_eq_true rfl⟩ (by decide) (by decide) rfl (Nat.le_of_ble_eq_true rfl) dX7_addBuyer_57 ?_
    refine r_if_ne C0 (tgt := 88) (by decide) dX7_addBuyer_60 (fun q20 => ?_) (fun q20 => ?_)
    · have hf := ie_f hf q20
      refine r_iconst C0 (v := 0) dX7_addBuyer_88 rfl ?_
      exact hend hf dX7_addBuyer_89
    · have hf := ie_t hf q20
      refine r_aload_n C0 (kk := 0) 1 rfl dX7_addBuyer_63 ?_
      refine r_aload_n C0 (kk := 0) 1 rfl dX7_addBuyer_64 ?_
      refine r_get5 C0 h0.1 5 (by decide) (v := .ref (g.1 6 2520)) rfl rfl w6_221 dX7_addBuyer_65 ?_
      refine r_bipush C0 (v := 10) dX7_addBuyer_68 rfl ?_
      refine r_ialdc C0 h0.2.1 (z := 2530) (by decide) (by decide) dX7_addBuyer_70 ?_
      refine r_bipush C0 (v := 6) dX7_addBuyer_71 rfl ?_
      refine r_icmp_ge C0 (tgt := 80) (by decide) dX7_addBuyer_73 (fun q21 => ?_) (fun q21 => ?_)
      · have hf := ie_t hf q21
        refine r_iconst C0 (v := 0) dX7_addBuyer_80 rfl ?_
        refine WW.sub [1, 2, 3, 4, 5] rfl ?_
        exact B81   _   _ hf
      · have hf := ie_f hf q21
        refine r_iconst C0 (v := 1) dX7_addBuyer_76 rfl ?_
        refine r_goto C0 (tgt := 81) (by decide) dX7_addBuyer_77 ?_
        refine WW.sub [1, 2, 3, 4, 5] rfl ?_
        exact B81   _   _ hf
  have B50 : ∀ (M : xM), f_X7_addBuyer_c50  a1 a2 a3 a4 M = some (r, M') → WW p l e ({ frames := 2, cells := 0, slots := 0, locals := 49 } : Room) s m args below meth c 0 0 Q 6 D g tb 50 [(0, .ref (g.1 5 2500)), (1, .int a1), (2, .int a2), (3, .int a3), (4, .int a4)] [] M := by
    intro     M hf
    unfold f_X7_addBuyer_c50 at hf
    refine r_iconst C0 (v := 0) dX7_addBuyer_50 rfl ?_
    exact B51   _   _ hf
  unfold f_X7_addBuyer at hf
  refine r_aload_n C0 (kk := 0) 0 rfl dX7_addBuyer_0 ?_
  refine r_iconst C0 (v := 0) dX7_addBuyer_1 rfl ?_
  refine r_put5 C0 h0.1 4 rfl rfl w6_220 rfl rfl rfl dX7_addBuyer_2 ?_
  refine r_iload_n C0 (kk := 1) 1 rfl dX7_addBuyer_5 ?_
  refine r_iconst C0 (v := 0) dX7_addBuyer_6 rfl ?_
  refine r_bipush C0 (v := 99) dX7_addBuyer_7 rfl ?_
  obtain ⟨r3, M2, hc1, hf⟩ := bd2_e hf
  refine r_callSi C0 (As := [.int a1, .int 0, .int 99]) (rest := []) (c_X7_inRange l D g tb hT  hc1) w6_12 w6_13 w1_14 w6_14 hd_X7_inRange rfl ⟨rfl, rfl⟩ ⟨Nat.le_of_ble_eq_true rfl, Nat.le_of_ble_eq_true rfl⟩ (by decide) (by decide) rfl (Nat.le_of_ble_eq_true rfl) dX7_addBuyer_9 ?_
  refine r_if_eq C0 (tgt := 50) (by decide) dX7_addBuyer_12 (fun q4 => ?_) (fun q4 => ?_)
  · have hf := ie_t hf q4
    exact B50     _ hf
  · have hf := ie_f hf q4
    refine r_iload_n C0 (kk := 2) 2 rfl dX7_addBuyer_15 ?_
    refine r_iconst C0 (v := 0) dX7_addBuyer_16 rfl ?_
    refine r_sipush C0 (v := 9999) dX7_addBuyer_17 rfl ?_
    obtain ⟨r7, M6, hc5, hf⟩ := bd2_e hf
    refine r_callSi C0 (As := [.int a2, .int 0, .int 9999]) (rest := []) (c_X7_inRange l D g tb hT  hc5) w6_12 w6_13 w1_14 w6_14 hd_X7_inRange rfl ⟨rfl, rfl⟩ ⟨Nat.le_of_ble_eq_true rfl, Nat.le_of_ble_eq_true rfl⟩ (by decide) (by decide) rfl (Nat.le_of_ble_eq_true rfl) dX7_addBuyer_20 ?_
    refine r_if_eq C0 (tgt := 50) (by decide) dX7_addBuyer_23 (fun q8 => ?_) (fun q8 => ?_)
    · have hf := ie_t hf q8
      exact B50     _ hf
    · have hf := ie_f hf q8
      refine r_iload_n C0 (kk := 3) 3 rfl dX7_addBuyer_26 ?_
      refine r_iconst C0 (v := 0) dX7_addBuyer_27 rfl ?_
      refine r_iconst C0 (v := 2) dX7_addBuyer_28 rfl ?_
      obtain ⟨r11, M10, hc9, hf⟩ := bd2_e hf
      refine r_callSi C0 (As := [.int a3, .int 0, .int 2]) (rest := []) (c_X7_inRange l D g tb hT  hc9) w6_12 w6_13 w1_14 w6_14 hd_X7_inRange rfl ⟨rfl, rfl⟩ ⟨Nat.le_of_ble_eq_true rfl, Nat.le_of_ble_eq_true rfl⟩ (by decide) (by decide) rfl (Nat.le_of_ble_eq_true rfl) dX7_addBuyer_29 ?_
      refine r_if_eq C0 (tgt := 50) (by decide) dX7_addBuyer_32 (fun q12 => ?_) (fun q12 => ?_)
      · have hf := ie_t hf q12
        exact B50     _ hf
      · have hf := ie_f hf q12
        refine r_iload C0 4 rfl dX7_addBuyer_35 ?_
        refine r_iconst C0 (v := 1) dX7_addBuyer_37 rfl ?_
        refine r_bipush C0 (v := 20) dX7_addBuyer_38 rfl ?_
        obtain ⟨r15, M14, hc13, hf⟩ := bd2_e hf
        refine r_callSi C0 (As := [.int a4, .int 1, .int 20]) (rest := []) (c_X7_inRange l D g tb hT  hc13) w6_12 w6_13 w1_14 w6_14 hd_X7_inRange rfl ⟨rfl, rfl⟩ ⟨Nat.le_of_ble_eq_true rfl, Nat.le_of_ble_eq_true rfl⟩ (by decide) (by decide) rfl (Nat.le_of_ble_eq_true rfl) dX7_addBuyer_40 ?_
        refine r_if_eq C0 (tgt := 50) (by decide) dX7_addBuyer_43 (fun q16 => ?_) (fun q16 => ?_)
        · have hf := ie_t hf q16
          exact B50     _ hf
        · have hf := ie_f hf q16
          refine r_iconst C0 (v := 1) dX7_addBuyer_46 rfl ?_
          refine r_goto C0 (tgt := 51) (by decide) dX7_addBuyer_47 ?_
          exact B51   _   _ hf
theorem dX7_writeRope_0 : decode cX7_writeRope 0 = .ok (.aload_n 0, 1) := by decide +kernel
theorem dX7_writeRope_1 : decode cX7_writeRope 1 = .ok (.iconst 0, 1) := by decide +kernel
theorem dX7_writeRope_2 : decode cX7_writeRope 2 = .ok (.putfield 60, 3) := by decide +kernel
theorem dX7_writeRope_5 : decode cX7_writeRope 5 = .ok (.aload_n 0, 1) := by decide +kernel
theorem dX7_writeRope_6 : decode cX7_writeRope 6 = .ok (.bipush 100, 2) := by decide +kernel
theorem dX7_writeRope_8 : decode cX7_writeRope 8 = .ok (.putfield 341, 3) := by decide +kernel
theorem dX7_writeRope_11 : decode cX7_writeRope 11 = .ok (.iconst 0, 1) := by decide +kernel
theorem dX7_writeRope_12 : decode cX7_writeRope 12 = .ok (.istore_n 1, 1) := by decide +kernel
theorem dX7_writeRope_13 : decode cX7_writeRope 13 = .ok (.iload_n 1, 1) := by decide +kernel
theorem dX7_writeRope_14 : decode cX7_writeRope 14 = .ok (.bipush 100, 2) := by decide +kernel
theorem dX7_writeRope_16 : decode cX7_writeRope 16 = .ok (.if_icmp .ge 20, 3) := by decide +kernel
theorem dX7_writeRope_19 : decode cX7_writeRope 19 = .ok (.aload_n 0, 1) := by decide +kernel
theorem dX7_writeRope_20 : decode cX7_writeRope 20 = .ok (.getfield 39, 3) := by decide +kernel
theorem dX7_writeRope_23 : decode cX7_writeRope 23 = .ok (.iload_n 1, 1) := by decide +kernel
theorem dX7_writeRope_24 : decode cX7_writeRope 24 = .ok (.aload_n 0, 1) := by decide +kernel
theorem dX7_writeRope_25 : decode cX7_writeRope 25 = .ok (.iload_n 1, 1) := by decide +kernel
theorem dX7_writeRope_26 : decode cX7_writeRope 26 = .ok (.invokevirtual 344, 3) := by decide +kernel
theorem dX7_writeRope_29 : decode cX7_writeRope 29 = .ok (.iastore, 1) := by decide +kernel
theorem dX7_writeRope_30 : decode cX7_writeRope 30 = .ok (.iinc 1 1, 3) := by decide +kernel
theorem dX7_writeRope_33 : decode cX7_writeRope 33 = .ok (.goto (-20), 3) := by decide +kernel
theorem dX7_writeRope_36 : decode cX7_writeRope 36 = .ok (.aload_n 0, 1) := by decide +kernel
theorem dX7_writeRope_37 : decode cX7_writeRope 37 = .ok (.getfield 341, 3) := by decide +kernel
theorem dX7_writeRope_40 : decode cX7_writeRope 40 = .ok (.ireturn, 1) := by decide +kernel
theorem hd_X7_writeRope : yX7_writeRope.cls = RX7 ∧ yX7_writeRope.cls ≠ "java/lang/invoke/MethodHandle" ∧ yX7_writeRope.cls ≠ "java/lang/invoke/VarHandle" ∧ (parseMethodDescriptor yX7_writeRope.desc).map (fun d => d.parameters.length) = some 0 := by decide +kernel
set_option maxRecDepth 100000 in
set_option maxHeartbeats 4000000 in
theorem c_X7_writeRope (l : Launch) (D : va_G) (g : xG) (tb : List xQ) (hT : x_T g tb)  (h0 : x_md tb) {M : xM} {r : Int32} {M' : xM} (hf : f_X7_writeRope  M = some (r, M')) :
    cI l D g tb yX7_writeRope cX7_writeRope 2 .int ({ frames := 2, cells := 0, slots := 0, locals := 44 } : Room) [.ref (g.1 5 2500)] M r M' := by
  refine x_startI (own := RX7) (by decide +kernel) rfl rfl (Nat.le_of_ble_eq_true rfl) hT ?_
  intro p e s m args below meth c Q C0 hend
  have B13 : ∀ (k13 : Int32 → xM → Option (Int32 × xM)) (hk13 : ∀ (v1 : Int32)  (M : xM), k13 v1 M = some (r, M') → WW p l e ({ frames := 2, cells := 0, slots := 0, locals := 44 } : Room) s m args below meth c 0 0 Q 2 D g tb 13 [(0, .ref (g.1 5 2500)), (1, .int v1)] [] M), ∀ (v1 : Int32)  (M : xM), fb_X7_writeRope_c13 k13  v1 M = some (r, M') → WW p l e ({ frames := 2, cells := 0, slots := 0, locals := 44 } : Room) s m args below meth c 0 0 Q 2 D g tb 13 [(0, .ref (g.1 5 2500)), (1, .int v1)] [] M := by
    intro k13 hk13 v1  M hf
    unfold fb_X7_writeRope_c13 at hf
    refine r_iload_n C0 (kk := 1) 1 rfl dX7_writeRope_13 ?_
    refine r_bipush C0 (v := 100) dX7_writeRope_14 rfl ?_
    refine r_icmp_ge C0 (tgt := 36) (by decide) dX7_writeRope_16 (fun q1 => ?_) (fun q1 => ?_)
    · have hf := ie_t hf q1
      refine r_aload_n C0 (kk := 0) 0 rfl dX7_writeRope_36 ?_
      refine r_get5 C0 h0.1 19 (by decide) (v := .int (M 2519)) rfl rfl w6_235 dX7_writeRope_37 ?_
      exact hend hf dX7_writeRope_40
    · have hf := ie_f hf q1
      refine r_aload_n C0 (kk := 0) 0 rfl dX7_writeRope_19 ?_
      refine r_get5 C0 h0.1 14 (by decide) (v := .ref (g.1 6 4152)) rfl rfl w6_230 dX7_writeRope_20 ?_
      refine r_iload_n C0 (kk := 1) 1 rfl dX7_writeRope_23 ?_
      refine r_aload_n C0 (kk := 0) 0 rfl dX7_writeRope_24 ?_
      refine r_iload_n C0 (kk := 1) 1 rfl dX7_writeRope_25 ?_
      obtain ⟨r4, M3, hc2, hf⟩ := bd2_e hf
      refine r_callVi C0 (As := [.int v1]) (rest := [.int v1, .ref (g.1 6 4152)]) (c_X7_signAt l D g tb hT h0 hc2) w8_106 w8_108 wp6_7 w1_14 w8_109 (x_rec5 C0 h0.1) hd_X7_signAt rfl ⟨rfl, rfl⟩ ⟨Nat.le_of_ble_eq_true rfl, Nat.le_of_ble_eq_true rfl⟩ (by decide) (by decide) rfl (Nat.le_of_ble_eq_true rfl) dX7_writeRope_26 ?_
      obtain ⟨q5, hf⟩ := gd_e hf
      refine r_iastc C0 h0.2.2.2.2.2.2.2.2.1 q5 rfl dX7_writeRope_29 ?_
      refine r_iincc C0 1 rfl (k0 := 1) (by decide) (by decide) (lv2 := [(1, .int (v1 + 1)), (0, .ref (g.1 5 2500))]) rfl dX7_writeRope_30 ?_
      refine r_goto C0 (tgt := 13) (by decide) dX7_writeRope_33 ?_
      refine WW.sub [1, 0] rfl ?_
      exact hk13 _   _ hf
  have L13 : ∀ (v1 : Int32)  (M : xM), f_X7_writeRope_c13   v1 M = some (r, M') → WW p l e ({ frames := 2, cells := 0, slots := 0, locals := 44 } : Room) s m args below meth c 0 0 Q 2 D g tb 13 [(0, .ref (g.1 5 2500)), (1, .int v1)] [] M := lp_ind (P := fun f => ∀ (v1 : Int32)  (M : xM), f v1 M = some (r, M') → WW p l e ({ frames := 2, cells := 0, slots := 0, locals := 44 } : Room) s m args below meth c 0 0 Q 2 D g tb 13 [(0, .ref (g.1 5 2500)), (1, .int v1)] [] M) (fun _ _ h => none_ne h) (fun f hf => B13 f hf) FU
  unfold f_X7_writeRope at hf
  refine r_aload_n C0 (kk := 0) 0 rfl dX7_writeRope_0 ?_
  refine r_iconst C0 (v := 0) dX7_writeRope_1 rfl ?_
  refine r_put5 C0 h0.1 4 rfl rfl w6_220 rfl rfl rfl dX7_writeRope_2 ?_
  refine r_aload_n C0 (kk := 0) 0 rfl dX7_writeRope_5 ?_
  refine r_bipush C0 (v := 100) dX7_writeRope_6 rfl ?_
  refine r_put5 C0 h0.1 19 rfl rfl w6_235 rfl rfl rfl dX7_writeRope_8 ?_
  refine r_iconst C0 (v := 0) dX7_writeRope_11 rfl ?_
  refine r_istore_n C0 (kk := 1) (lv2 := [(1, .int 0), (0, .ref (g.1 5 2500))]) (by decide) rfl dX7_writeRope_12 ?_
  refine WW.sub [1, 0] rfl ?_
  exact L13   _   _ hf
theorem dX2_returnAndAvoid_0 : decode cX2_returnAndAvoid 0 = .ok (.aload_n 1, 1) := by decide +kernel
theorem dX2_returnAndAvoid_1 : decode cX2_returnAndAvoid 1 = .ok (.getfield 81, 3) := by decide +kernel
theorem dX2_returnAndAvoid_4 : decode cX2_returnAndAvoid 4 = .ok (.istore_n 2, 1) := by decide +kernel
theorem dX2_returnAndAvoid_5 : decode cX2_returnAndAvoid 5 = .ok (.aload_n 0, 1) := by decide +kernel
theorem dX2_returnAndAvoid_6 : decode cX2_returnAndAvoid 6 = .ok (.aload_n 1, 1) := by decide +kernel
theorem dX2_returnAndAvoid_7 : decode cX2_returnAndAvoid 7 = .ok (.invokevirtual 122, 3) := by decide +kernel
theorem dX2_returnAndAvoid_10 : decode cX2_returnAndAvoid 10 = .ok (.aload_n 1, 1) := by decide +kernel
theorem dX2_returnAndAvoid_11 : decode cX2_returnAndAvoid 11 = .ok (.iload_n 2, 1) := by decide +kernel
theorem dX2_returnAndAvoid_12 : decode cX2_returnAndAvoid 12 = .ok (.invokevirtual 125, 3) := by decide +kernel
theorem dX2_returnAndAvoid_15 : decode cX2_returnAndAvoid 15 = .ok (.return_, 1) := by decide +kernel
theorem hd_X2_returnAndAvoid : yX2_returnAndAvoid.cls = RX2 ∧ yX2_returnAndAvoid.cls ≠ "java/lang/invoke/MethodHandle" ∧ yX2_returnAndAvoid.cls ≠ "java/lang/invoke/VarHandle" ∧ (parseMethodDescriptor yX2_returnAndAvoid.desc).map (fun d => d.parameters.length) = some 1 := by decide +kernel
set_option maxRecDepth 100000 in
set_option maxHeartbeats 4000000 in
theorem c_X2_returnAndAvoid (l : Launch) (D : va_G) (g : xG) (tb : List xQ) (hT : x_T g tb) {a0 : Nat} {a1 : Nat} (h0 : x_mk tb a0) (h1 : ((1, a1, 0) : xQ) ∈ tb) {M M' : xM} (hf : f_X2_returnAndAvoid a0 a1 M = some M') :
    cV l D g tb yX2_returnAndAvoid cX2_returnAndAvoid 3 ({ frames := 2, cells := 0, slots := 0, locals := 42 } : Room) [.ref (g.1 2 a0), .ref (g.1 1 a1)] M M' := by
  refine x_startV (own := RX2) (by decide +kernel) rfl rfl (Nat.le_of_ble_eq_true rfl) hT ?_
  intro p e s m args below meth c Q C0 hend
  unfold f_X2_returnAndAvoid at hf
  refine r_aload_n C0 (kk := 1) 1 rfl dX2_returnAndAvoid_0 ?_
  refine r_get1 C0 h1 4 (by decide) (v := .int (M (a1 + 4))) rfl rfl w1_109 dX2_returnAndAvoid_1 ?_
  refine r_istore_n C0 (kk := 2) (lv2 := [(2, .int (M (a1 + 4))), (0, .ref (g.1 2 a0)), (1, .ref (g.1 1 a1))]) (by decide) rfl dX2_returnAndAvoid_4 ?_
  refine r_aload_n C0 (kk := 0) 1 rfl dX2_returnAndAvoid_5 ?_
  refine r_aload_n C0 (kk := 1) 2 rfl dX2_returnAndAvoid_6 ?_
  obtain ⟨M2, hc1, hf⟩ := bd_e hf
  refine r_callVv C0 (As := [.ref (g.1 1 a1)]) (rest := []) (c_X2_returnGood l D g tb hT h0 h1 hc1) w3_3 w3_4 w3_5 w1_2 w3_6 (x_rec2 C0 h0.1) hd_X2_returnGood rfl ⟨rfl, rfl⟩ ⟨Nat.le_of_ble_eq_true rfl, Nat.le_of_ble_eq_true rfl⟩ (by decide) (by decide) rfl (Nat.le_of_ble_eq_true rfl) dX2_returnAndAvoid_7 ?_
  refine r_aload_n C0 (kk := 1) 2 rfl dX2_returnAndAvoid_10 ?_
  refine r_iload_n C0 (kk := 2) 0 rfl dX2_returnAndAvoid_11 ?_
  obtain ⟨M4, hc3, hf⟩ := bd_e hf
  refine r_callVv C0 (As := [.int (M (a1 + 4))]) (rest := []) (c_X1_avoid l D g tb hT h1 hc3) w3_12 w3_13 w3_14 w1_4 w3_15 (x_rec1 C0 h1) hd_X1_avoid rfl ⟨rfl, rfl⟩ ⟨Nat.le_of_ble_eq_true rfl, Nat.le_of_ble_eq_true rfl⟩ (by decide) (by decide) rfl (Nat.le_of_ble_eq_true rfl) dX2_returnAndAvoid_12 ?_
  exact hend hf dX2_returnAndAvoid_15
theorem dX2_letAct_0 : decode cX2_letAct 0 = .ok (.aload_n 0, 1) := by decide +kernel
theorem dX2_letAct_1 : decode cX2_letAct 1 = .ok (.aload_n 1, 1) := by decide +kernel
theorem dX2_letAct_2 : decode cX2_letAct 2 = .ok (.getfield 81, 3) := by decide +kernel
theorem dX2_letAct_5 : decode cX2_letAct 5 = .ok (.invokevirtual 113, 3) := by decide +kernel
theorem dX2_letAct_8 : decode cX2_letAct 8 = .ok (.ifCond .eq 36, 3) := by decide +kernel
theorem dX2_letAct_11 : decode cX2_letAct 11 = .ok (.aload_n 1, 1) := by decide +kernel
theorem dX2_letAct_12 : decode cX2_letAct 12 = .ok (.aload_n 0, 1) := by decide +kernel
theorem dX2_letAct_13 : decode cX2_letAct 13 = .ok (.getfield 42, 3) := by decide +kernel
theorem dX2_letAct_16 : decode cX2_letAct 16 = .ok (.invokevirtual 148, 3) := by decide +kernel
theorem dX2_letAct_19 : decode cX2_letAct 19 = .ok (.aload_n 1, 1) := by decide +kernel
theorem dX2_letAct_20 : decode cX2_letAct 20 = .ok (.getfield 87, 3) := by decide +kernel
theorem dX2_letAct_23 : decode cX2_letAct 23 = .ok (.aload_n 0, 1) := by decide +kernel
theorem dX2_letAct_24 : decode cX2_letAct 24 = .ok (.getfield 42, 3) := by decide +kernel
theorem dX2_letAct_27 : decode cX2_letAct 27 = .ok (.if_icmp .ne 16, 3) := by decide +kernel
theorem dX2_letAct_30 : decode cX2_letAct 30 = .ok (.aload_n 1, 1) := by decide +kernel
theorem dX2_letAct_31 : decode cX2_letAct 31 = .ok (.aload_n 0, 1) := by decide +kernel
theorem dX2_letAct_32 : decode cX2_letAct 32 = .ok (.getfield 11, 3) := by decide +kernel
theorem dX2_letAct_35 : decode cX2_letAct 35 = .ok (.aload_n 1, 1) := by decide +kernel
theorem dX2_letAct_36 : decode cX2_letAct 36 = .ok (.getfield 81, 3) := by decide +kernel
theorem dX2_letAct_39 : decode cX2_letAct 39 = .ok (.aaload, 1) := by decide +kernel
theorem dX2_letAct_40 : decode cX2_letAct 40 = .ok (.invokevirtual 151, 3) := by decide +kernel
theorem dX2_letAct_43 : decode cX2_letAct 43 = .ok (.return_, 1) := by decide +kernel
theorem dX2_letAct_44 : decode cX2_letAct 44 = .ok (.aload_n 0, 1) := by decide +kernel
theorem dX2_letAct_45 : decode cX2_letAct 45 = .ok (.aload_n 1, 1) := by decide +kernel
theorem dX2_letAct_46 : decode cX2_letAct 46 = .ok (.iload_n 2, 1) := by decide +kernel
theorem dX2_letAct_47 : decode cX2_letAct 47 = .ok (.invokevirtual 154, 3) := by decide +kernel
theorem dX2_letAct_50 : decode cX2_letAct 50 = .ok (.istore_n 3, 1) := by decide +kernel
theorem dX2_letAct_51 : decode cX2_letAct 51 = .ok (.aload_n 0, 1) := by decide +kernel
theorem dX2_letAct_52 : decode cX2_letAct 52 = .ok (.iload_n 3, 1) := by decide +kernel
theorem dX2_letAct_53 : decode cX2_letAct 53 = .ok (.invokevirtual 113, 3) := by decide +kernel
theorem dX2_letAct_56 : decode cX2_letAct 56 = .ok (.ifCond .ne 4, 3) := by decide +kernel
theorem dX2_letAct_59 : decode cX2_letAct 59 = .ok (.return_, 1) := by decide +kernel
theorem dX2_letAct_60 : decode cX2_letAct 60 = .ok (.aload_n 0, 1) := by decide +kernel
theorem dX2_letAct_61 : decode cX2_letAct 61 = .ok (.getfield 11, 3) := by decide +kernel
theorem dX2_letAct_64 : decode cX2_letAct 64 = .ok (.iload_n 3, 1) := by decide +kernel
theorem dX2_letAct_65 : decode cX2_letAct 65 = .ok (.aaload, 1) := by decide +kernel
theorem dX2_letAct_66 : decode cX2_letAct 66 = .ok (.astore 4, 2) := by decide +kernel
theorem dX2_letAct_68 : decode cX2_letAct 68 = .ok (.aload_n 1, 1) := by decide +kernel
theorem dX2_letAct_69 : decode cX2_letAct 69 = .ok (.aload 4, 2) := by decide +kernel
theorem dX2_letAct_71 : decode cX2_letAct 71 = .ok (.getfield 84, 3) := by decide +kernel
theorem dX2_letAct_74 : decode cX2_letAct 74 = .ok (.invokevirtual 148, 3) := by decide +kernel
theorem dX2_letAct_77 : decode cX2_letAct 77 = .ok (.aload_n 1, 1) := by decide +kernel
theorem dX2_letAct_78 : decode cX2_letAct 78 = .ok (.getfield 87, 3) := by decide +kernel
theorem dX2_letAct_81 : decode cX2_letAct 81 = .ok (.aload 4, 2) := by decide +kernel
theorem dX2_letAct_83 : decode cX2_letAct 83 = .ok (.getfield 84, 3) := by decide +kernel
theorem dX2_letAct_86 : decode cX2_letAct 86 = .ok (.if_icmp .eq 4, 3) := by decide +kernel
theorem dX2_letAct_89 : decode cX2_letAct 89 = .ok (.return_, 1) := by decide +kernel
theorem dX2_letAct_90 : decode cX2_letAct 90 = .ok (.aload_n 1, 1) := by decide +kernel
theorem dX2_letAct_91 : decode cX2_letAct 91 = .ok (.aload 4, 2) := by decide +kernel
theorem dX2_letAct_93 : decode cX2_letAct 93 = .ok (.invokevirtual 158, 3) := by decide +kernel
theorem dX2_letAct_96 : decode cX2_letAct 96 = .ok (.ifCond .ne 13, 3) := by decide +kernel
theorem dX2_letAct_99 : decode cX2_letAct 99 = .ok (.aload_n 1, 1) := by decide +kernel
theorem dX2_letAct_100 : decode cX2_letAct 100 = .ok (.aload 4, 2) := by decide +kernel
theorem dX2_letAct_102 : decode cX2_letAct 102 = .ok (.iload_n 3, 1) := by decide +kernel
theorem dX2_letAct_103 : decode cX2_letAct 103 = .ok (.invokevirtual 162, 3) := by decide +kernel
theorem dX2_letAct_106 : decode cX2_letAct 106 = .ok (.goto 8, 3) := by decide +kernel
theorem dX2_letAct_109 : decode cX2_letAct 109 = .ok (.aload_n 1, 1) := by decide +kernel
theorem dX2_letAct_110 : decode cX2_letAct 110 = .ok (.iload_n 3, 1) := by decide +kernel
theorem dX2_letAct_111 : decode cX2_letAct 111 = .ok (.invokevirtual 125, 3) := by decide +kernel
theorem dX2_letAct_114 : decode cX2_letAct 114 = .ok (.return_, 1) := by decide +kernel
theorem hd_X2_letAct : yX2_letAct.cls = RX2 ∧ yX2_letAct.cls ≠ "java/lang/invoke/MethodHandle" ∧ yX2_letAct.cls ≠ "java/lang/invoke/VarHandle" ∧ (parseMethodDescriptor yX2_letAct.desc).map (fun d => d.parameters.length) = some 2 := by decide +kernel
set_option maxRecDepth 100000 in
set_option maxHeartbeats 4000000 in
theorem c_X2_letAct (l : Launch) (D : va_G) (g : xG) (tb : List xQ) (hT : x_T g tb) {a0 : Nat} {a1 : Nat} {a2 : Int32} (h0 : x_mk tb a0) (h1 : ((1, a1, 0) : xQ) ∈ tb) {M M' : xM} (hf : f_X2_letAct a0 a1 a2 M = some M') :
    cV l D g tb yX2_letAct cX2_letAct 5 ({ frames := 2, cells := 0, slots := 0, locals := 48 } : Room) [.ref (g.1 2 a0), .ref (g.1 1 a1), .int a2] M M' := by
  refine x_startV (own := RX2) (by decide +kernel) rfl rfl (Nat.le_of_ble_eq_true rfl) hT ?_
  intro p e s m args below meth c Q C0 hend
  unfold f_X2_letAct at hf
  refine r_aload_n C0 (kk := 0) 0 rfl dX2_letAct_0 ?_
  refine r_aload_n C0 (kk := 1) 1 rfl dX2_letAct_1 ?_
  refine r_get1 C0 h1 4 (by decide) (v := .int (M (a1 + 4))) rfl rfl w1_109 dX2_letAct_2 ?_
  obtain ⟨r3, M2, hc1, hf⟩ := bd2_e hf
  refine r_callVi C0 (As := [.int (M (a1 + 4))]) (rest := []) (c_X2_isStall l D g tb hT h0 hc1) w3_7 w2_188 w2_189 w1_2 w2_190 (x_rec2 C0 h0.1) hd_X2_isStall rfl ⟨rfl, rfl⟩ ⟨Nat.le_of_ble_eq_true rfl, Nat.le_of_ble_eq_true rfl⟩ (by decide) (by decide) rfl (Nat.le_of_ble_eq_true rfl) dX2_letAct_5 ?_
  refine r_if_eq C0 (tgt := 44) (by decide) dX2_letAct_8 (fun q4 => ?_) (fun q4 => ?_)
  · have hf := ie_t hf q4
    refine r_aload_n C0 (kk := 0) 0 rfl dX2_letAct_44 ?_
    refine r_aload_n C0 (kk := 1) 1 rfl dX2_letAct_45 ?_
    refine r_iload_n C0 (kk := 2) 2 rfl dX2_letAct_46 ?_
    obtain ⟨r7, M6, hc5, hf⟩ := bd2_e hf
    refine r_callVi C0 (As := [.ref (g.1 1 a1), .int a2]) (rest := []) (c_X2_findTarget l D g tb hT h0 h1 hc5) w3_45 w3_46 w3_47 w1_2 w3_48 (x_rec2 C0 h0.1) hd_X2_findTarget rfl ⟨rfl, rfl⟩ ⟨Nat.le_of_ble_eq_true rfl, Nat.le_of_ble_eq_true rfl⟩ (by decide) (by decide) rfl (Nat.le_of_ble_eq_true rfl) dX2_letAct_47 ?_
    refine r_istore_n C0 (kk := 3) (lv2 := [(3, .int r7), (0, .ref (g.1 2 a0)), (1, .ref (g.1 1 a1)), (2, .int a2)]) (by decide) rfl dX2_letAct_50 ?_
    refine r_aload_n C0 (kk := 0) 1 rfl dX2_letAct_51 ?_
    refine r_iload_n C0 (kk := 3) 0 rfl dX2_letAct_52 ?_
    obtain ⟨r10, M9, hc8, hf⟩ := bd2_e hf
    refine r_callVi C0 (As := [.int r7]) (rest := []) (c_X2_isStall l D g tb hT h0 hc8) w3_7 w2_188 w2_189 w1_2 w2_190 (x_rec2 C0 h0.1) hd_X2_isStall rfl ⟨rfl, rfl⟩ ⟨Nat.le_of_ble_eq_true rfl, Nat.le_of_ble_eq_true rfl⟩ (by decide) (by decide) rfl (Nat.le_of_ble_eq_true rfl) dX2_letAct_53 ?_
    refine r_if_ne C0 (tgt := 60) (by decide) dX2_letAct_56 (fun q11 => ?_) (fun q11 => ?_)
    · have hf := ie_f hf q11
      refine r_aload_n C0 (kk := 0) 1 rfl dX2_letAct_60 ?_
      refine r_get2 C0 h0.1 0 (by decide) (v := .ref (g.1 10 (a0 + 23))) rfl rfl w1_135 dX2_letAct_61 ?_
      refine r_iload_n C0 (kk := 3) 0 rfl dX2_letAct_64 ?_
      obtain ⟨q12, hf⟩ := gd_e hf
      have hm13 : ((0, ((a0 + 23) + 9 * r7.toNatClampNeg), 0) : xQ) ∈ tb := h0.2.2.2.2.1 _ (inb_lt q12)
      refine r_aald10 C0 h0.2.1 (inb_in q12) dX2_letAct_65 ?_
      refine r_astore C0 (lv2 := [(4, .ref (g.1 0 ((a0 + 23) + 9 * r7.toNatClampNeg))), (3, .int r7), (0, .ref (g.1 2 a0)), (1, .ref (g.1 1 a1)), (2, .int a2)]) (by decide) rfl dX2_letAct_66 ?_
      refine r_aload_n C0 (kk := 1) 3 rfl dX2_letAct_68 ?_
      refine r_aload C0 0 rfl dX2_letAct_69 ?_
      refine r_get0 C0 hm13 0 (by decide) (v := .int (M9 (((a0 + 23) + 9 * r7.toNatClampNeg) + 0))) rfl rfl w1_46 dX2_letAct_71 ?_
      obtain ⟨M15, hc14, hf⟩ := bd_e hf
      refine r_callVv C0 (As := [.int (M9 (((a0 + 23) + 9 * r7.toNatClampNeg) + 0))]) (rest := []) (c_X1_walkTo l D g tb hT h1 hc14) w3_36 w3_37 w3_38 w1_4 w3_39 (x_rec1 C0 h1) hd_X1_walkTo rfl ⟨rfl, rfl⟩ ⟨Nat.le_of_ble_eq_true rfl, Nat.le_of_ble_eq_true rfl⟩ (by decide) (by decide) rfl (Nat.le_of_ble_eq_true rfl) dX2_letAct_74 ?_
      refine r_aload_n C0 (kk := 1) 3 rfl dX2_letAct_77 ?_
      refine r_get1 C0 h1 0 (by decide) (v := .int (M15 (a1 + 0))) rfl rfl w1_100 dX2_letAct_78 ?_
      refine r_aload C0 0 rfl dX2_letAct_81 ?_
      refine r_get0 C0 hm13 0 (by decide) (v := .int (M15 (((a0 + 23) + 9 * r7.toNatClampNeg) + 0))) rfl rfl w1_46 dX2_letAct_83 ?_
      refine r_icmp_eq C0 (tgt := 90) (by decide) dX2_letAct_86 (fun q16 => ?_) (fun q16 => ?_)
      · have hf := ie_t hf q16
        refine r_aload_n C0 (kk := 1) 3 rfl dX2_letAct_90 ?_
        refine r_aload C0 0 rfl dX2_letAct_91 ?_
        obtain ⟨r19, M18, hc17, hf⟩ := bd2_e hf
        refine r_callVi C0 (As := [.ref (g.1 0 ((a0 + 23) + 9 * r7.toNatClampNeg))]) (rest := []) (c_X1_feel l D g tb hT h1 hm13 hc17) w3_59 w3_60 w3_61 w1_4 w3_62 (x_rec1 C0 h1) hd_X1_feel rfl ⟨rfl, rfl⟩ ⟨Nat.le_of_ble_eq_true rfl, Nat.le_of_ble_eq_true rfl⟩ (by decide) (by decide) rfl (Nat.le_of_ble_eq_true rfl) dX2_letAct_93 ?_
        refine r_if_ne C0 (tgt := 109) (by decide) dX2_letAct_96 (fun q20 => ?_) (fun q20 => ?_)
        · have hf := ie_f hf q20
          refine r_aload_n C0 (kk := 1) 3 rfl dX2_letAct_109 ?_
          refine r_iload_n C0 (kk := 3) 1 rfl dX2_letAct_110 ?_
          obtain ⟨M22, hc21, hf⟩ := bd_e hf
          refine r_callVv C0 (As := [.int r7]) (rest := []) (c_X1_avoid l D g tb hT h1 hc21) w3_12 w3_13 w3_14 w1_4 w3_15 (x_rec1 C0 h1) hd_X1_avoid rfl ⟨rfl, rfl⟩ ⟨Nat.le_of_ble_eq_true rfl, Nat.le_of_ble_eq_true rfl⟩ (by decide) (by decide) rfl (Nat.le_of_ble_eq_true rfl) dX2_letAct_111 ?_
          exact hend hf dX2_letAct_114
        · have hf := ie_t hf q20
          refine r_aload_n C0 (kk := 1) 3 rfl dX2_letAct_99 ?_
          refine r_aload C0 0 rfl dX2_letAct_100 ?_
          refine r_iload_n C0 (kk := 3) 1 rfl dX2_letAct_102 ?_
          obtain ⟨M24, hc23, hf⟩ := bd_e hf
          refine r_callVv C0 (As := [.ref (g.1 0 ((a0 + 23) + 9 * r7.toNatClampNeg)), .int r7]) (rest := []) (c_X1_take l D g tb hT h1 hm13 hc23) w3_63 w3_64 w3_65 w1_4 w3_66 (x_rec1 C0 h1) hd_X1_take rfl ⟨rfl, rfl⟩ ⟨Nat.le_of_ble_eq_true rfl, Nat.le_of_ble_eq_true rfl⟩ (by decide) (by decide) rfl (Nat.le_of_ble_eq_true rfl) dX2_letAct_103 ?_
          refine r_goto C0 (tgt := 114) (by decide) dX2_letAct_106 ?_
          exact hend hf dX2_letAct_114
      · have hf := ie_f hf q16
        exact hend hf dX2_letAct_89
    · have hf := ie_t hf q11
      exact hend hf dX2_letAct_59
  · have hf := ie_f hf q4
    refine r_aload_n C0 (kk := 1) 1 rfl dX2_letAct_11 ?_
    refine r_aload_n C0 (kk := 0) 0 rfl dX2_letAct_12 ?_
    refine r_get2 C0 h0.1 7 (by decide) (v := .int (M2 (a0 + 7))) rfl rfl w1_154 dX2_letAct_13 ?_
    obtain ⟨M26, hc25, hf⟩ := bd_e hf
    refine r_callVv C0 (As := [.int (M2 (a0 + 7))]) (rest := []) (c_X1_walkTo l D g tb hT h1 hc25) w3_36 w3_37 w3_38 w1_4 w3_39 (x_rec1 C0 h1) hd_X1_walkTo rfl ⟨rfl, rfl⟩ ⟨Nat.le_of_ble_eq_true rfl, Nat.le_of_ble_eq_true rfl⟩ (by decide) (by decide) rfl (Nat.le_of_ble_eq_true rfl) dX2_letAct_16 ?_
    refine r_aload_n C0 (kk := 1) 1 rfl dX2_letAct_19 ?_
    refine r_get1 C0 h1 0 (by decide) (v := .int (M26 (a1 + 0))) rfl rfl w1_100 dX2_letAct_20 ?_
    refine r_aload_n C0 (kk := 0) 0 rfl dX2_letAct_23 ?_
    refine r_get2 C0 h0.1 7 (by decide) (v := .int (M26 (a0 + 7))) rfl rfl w1_154 dX2_letAct_24 ?_
    refine r_icmp_ne C0 (tgt := 43) (by decide) dX2_letAct_27 (fun q27 => ?_) (fun q27 => ?_)
    · have hf := ie_f hf q27
      exact hend hf dX2_letAct_43
    · have hf := ie_t hf q27
      refine r_aload_n C0 (kk := 1) 1 rfl dX2_letAct_30 ?_
      refine r_aload_n C0 (kk := 0) 0 rfl dX2_letAct_31 ?_
      refine r_get2 C0 h0.1 0 (by decide) (v := .ref (g.1 10 (a0 + 23))) rfl rfl w1_135 dX2_letAct_32 ?_
      refine r_aload_n C0 (kk := 1) 1 rfl dX2_letAct_35 ?_
      refine r_get1 C0 h1 4 (by decide) (v := .int (M26 (a1 + 4))) rfl rfl w1_109 dX2_letAct_36 ?_
      obtain ⟨q28, hf⟩ := gd_e hf
      have hm29 : ((0, ((a0 + 23) + 9 * (M26 (a1 + 4)).toNatClampNeg), 0) : xQ) ∈ tb := h0.2.2.2.2.1 _ (inb_lt q28)
      refine r_aald10 C0 h0.2.1 (inb_in q28) dX2_letAct_39 ?_
      obtain ⟨M31, hc30, hf⟩ := bd_e hf
      refine r_callVv C0 (As := [.ref (g.1 0 ((a0 + 23) + 9 * (M26 (a1 + 4)).toNatClampNeg))]) (rest := []) (c_X1_payTo l D g tb hT h1 hm29 hc30) w3_40 w3_41 w3_42 w1_4 w3_43 (x_rec1 C0 h1) hd_X1_payTo rfl ⟨rfl, rfl⟩ ⟨Nat.le_of_ble_eq_true rfl, Nat.le_of_ble_eq_true rfl⟩ (by decide) (by decide) rfl (Nat.le_of_ble_eq_true rfl) dX2_letAct_40 ?_
      exact hend hf dX2_letAct_43
theorem dX6_positionOf_0 : decode cX6_positionOf 0 = .ok (.aload_n 0, 1) := by decide +kernel
theorem dX6_positionOf_1 : decode cX6_positionOf 1 = .ok (.iload_n 1, 1) := by decide +kernel
theorem dX6_positionOf_2 : decode cX6_positionOf 2 = .ok (.invokevirtual 152, 3) := by decide +kernel
theorem dX6_positionOf_5 : decode cX6_positionOf 5 = .ok (.getfield 156, 3) := by decide +kernel
theorem dX6_positionOf_8 : decode cX6_positionOf 8 = .ok (.ireturn, 1) := by decide +kernel
theorem hd_X6_positionOf : yX6_positionOf.cls = RX6 ∧ yX6_positionOf.cls ≠ "java/lang/invoke/MethodHandle" ∧ yX6_positionOf.cls ≠ "java/lang/invoke/VarHandle" ∧ (parseMethodDescriptor yX6_positionOf.desc).map (fun d => d.parameters.length) = some 1 := by decide +kernel
set_option maxRecDepth 100000 in
set_option maxHeartbeats 4000000 in
theorem c_X6_positionOf (l : Launch) (D : va_G) (g : xG) (tb : List xQ) (hT : x_T g tb) (hlst : l.stackTraces = false) {a1 : Int32} (h0 : x_fb tb) {M : xM} {k : Nat} {r : Int32} {M' : xM} (hf : f_X6_positionOf a1 M = some (k, r, M')) :
    tI l D g tb yX6_positionOf cX6_positionOf 2 .int ({ frames := 8, cells := 1, slots := 6, locals := 124 } : Room) 1 [.ref (g.1 4 1664), .int a1] M k r M' := by
  refine x_tstartI (own := RX6) (r := r) (by decide +kernel) rfl rfl (Nat.le_of_ble_eq_true rfl) hT ?_
  intro p e s m args below meth c Q C0 hend hpr hthr
  unfold f_X6_positionOf at hf
  refine r_aload_n C0 (kk := 0) 0 rfl dX6_positionOf_0 ?_
  refine r_iload_n C0 (kk := 1) 1 rfl dX6_positionOf_1 ?_
  obtain ⟨k2, r4, M3, hc1, hx5, hf⟩ := tbd_e hf
  refine r_tcallVr C0 (As := [.int a1]) (rest := []) (c_X6_stallAt l D g tb hT hlst h0 hc1) w4_125 w4_127 wp2_10 w1_1 w4_128 (x_rec4 C0 h0.1) hd_X6_stallAt rfl ⟨rfl, rfl⟩ ⟨Nat.le_of_ble_eq_true rfl, Nat.le_of_ble_eq_true rfl⟩ (by decide) (by decide) rfl (Nat.le_of_ble_eq_true rfl) dX6_positionOf_2 (fun H1 locs1 ls E ce q hk hE hH hS hl h1 h2 h3 => hpr (by decide) (by decide) hk hE hH hS h1 h2 h3 (hx5 hk)) (fun hm6 hk => ?_)
  have hf := hf hk
  refine r_get0 C0 hm6 0 (by decide) (v := .int (M3 (r4 + 0))) rfl rfl w1_47 dX6_positionOf_5 ?_
  exact hend (by decide) (by decide) hf dX6_positionOf_8
theorem dX6_placeOf_0 : decode cX6_placeOf 0 = .ok (.aload_n 0, 1) := by decide +kernel
theorem dX6_placeOf_1 : decode cX6_placeOf 1 = .ok (.iload_n 1, 1) := by decide +kernel
theorem dX6_placeOf_2 : decode cX6_placeOf 2 = .ok (.invokevirtual 214, 3) := by decide +kernel
theorem dX6_placeOf_5 : decode cX6_placeOf 5 = .ok (.getfield 218, 3) := by decide +kernel
theorem dX6_placeOf_8 : decode cX6_placeOf 8 = .ok (.ireturn, 1) := by decide +kernel
theorem hd_X6_placeOf : yX6_placeOf.cls = RX6 ∧ yX6_placeOf.cls ≠ "java/lang/invoke/MethodHandle" ∧ yX6_placeOf.cls ≠ "java/lang/invoke/VarHandle" ∧ (parseMethodDescriptor yX6_placeOf.desc).map (fun d => d.parameters.length) = some 1 := by decide +kernel
set_option maxRecDepth 100000 in
set_option maxHeartbeats 4000000 in
theorem c_X6_placeOf (l : Launch) (D : va_G) (g : xG) (tb : List xQ) (hT : x_T g tb) (hlst : l.stackTraces = false) {a1 : Int32} (h0 : x_fb tb) {M : xM} {k : Nat} {r : Int32} {M' : xM} (hf : f_X6_placeOf a1 M = some (k, r, M')) :
    tI l D g tb yX6_placeOf cX6_placeOf 2 .int ({ frames := 8, cells := 1, slots := 6, locals := 124 } : Room) 1 [.ref (g.1 4 1664), .int a1] M k r M' := by
  refine x_tstartI (own := RX6) (r := r) (by decide +kernel) rfl rfl (Nat.le_of_ble_eq_true rfl) hT ?_
  intro p e s m args below meth c Q C0 hend hpr hthr
  unfold f_X6_placeOf at hf
  refine r_aload_n C0 (kk := 0) 0 rfl dX6_placeOf_0 ?_
  refine r_iload_n C0 (kk := 1) 1 rfl dX6_placeOf_1 ?_
  obtain ⟨k2, r4, M3, hc1, hx5, hf⟩ := tbd_e hf
  refine r_tcallVr C0 (As := [.int a1]) (rest := []) (c_X6_buyerAt l D g tb hT hlst h0 hc1) w4_233 w4_235 wp2_12 w1_1 w4_236 (x_rec4 C0 h0.1) hd_X6_buyerAt rfl ⟨rfl, rfl⟩ ⟨Nat.le_of_ble_eq_true rfl, Nat.le_of_ble_eq_true rfl⟩ (by decide) (by decide) rfl (Nat.le_of_ble_eq_true rfl) dX6_placeOf_2 (fun H1 locs1 ls E ce q hk hE hH hS hl h1 h2 h3 => hpr (by decide) (by decide) hk hE hH hS h1 h2 h3 (hx5 hk)) (fun hm6 hk => ?_)
  have hf := hf hk
  refine r_get1 C0 hm6 0 (by decide) (v := .int (M3 (r4 + 0))) rfl rfl w1_101 dX6_placeOf_5 ?_
  exact hend (by decide) (by decide) hf dX6_placeOf_8
theorem dX6_putBack_0 : decode cX6_putBack 0 = .ok (.aload_n 0, 1) := by decide +kernel
theorem dX6_putBack_1 : decode cX6_putBack 1 = .ok (.iload_n 1, 1) := by decide +kernel
theorem dX6_putBack_2 : decode cX6_putBack 2 = .ok (.invokevirtual 214, 3) := by decide +kernel
theorem dX6_putBack_5 : decode cX6_putBack 5 = .ok (.astore_n 2, 1) := by decide +kernel
theorem dX6_putBack_6 : decode cX6_putBack 6 = .ok (.aload_n 2, 1) := by decide +kernel
theorem dX6_putBack_7 : decode cX6_putBack 7 = .ok (.invokevirtual 242, 3) := by decide +kernel
theorem dX6_putBack_10 : decode cX6_putBack 10 = .ok (.ifCond .ne 14, 3) := by decide +kernel
theorem dX6_putBack_13 : decode cX6_putBack 13 = .ok (.new 279, 3) := by decide +kernel
theorem dX6_putBack_16 : decode cX6_putBack 16 = .ok (.dup, 1) := by decide +kernel
theorem dX6_putBack_17 : decode cX6_putBack 17 = .ok (.ldc_w 312, 3) := by decide +kernel
theorem dX6_putBack_20 : decode cX6_putBack 20 = .ok (.invokespecial 283, 3) := by decide +kernel
theorem dX6_putBack_23 : decode cX6_putBack 23 = .ok (.athrow, 1) := by decide +kernel
theorem dX6_putBack_24 : decode cX6_putBack 24 = .ok (.aload_n 0, 1) := by decide +kernel
theorem dX6_putBack_25 : decode cX6_putBack 25 = .ok (.invokevirtual 83, 3) := by decide +kernel
theorem dX6_putBack_28 : decode cX6_putBack 28 = .ok (.aload_n 2, 1) := by decide +kernel
theorem dX6_putBack_29 : decode cX6_putBack 29 = .ok (.getfield 230, 3) := by decide +kernel
theorem dX6_putBack_32 : decode cX6_putBack 32 = .ok (.istore_n 3, 1) := by decide +kernel
theorem dX6_putBack_33 : decode cX6_putBack 33 = .ok (.aload_n 0, 1) := by decide +kernel
theorem dX6_putBack_34 : decode cX6_putBack 34 = .ok (.getfield 10, 3) := by decide +kernel
theorem dX6_putBack_37 : decode cX6_putBack 37 = .ok (.aload_n 2, 1) := by decide +kernel
theorem dX6_putBack_38 : decode cX6_putBack 38 = .ok (.invokevirtual 314, 3) := by decide +kernel
theorem dX6_putBack_41 : decode cX6_putBack 41 = .ok (.iload_n 3, 1) := by decide +kernel
theorem dX6_putBack_42 : decode cX6_putBack 42 = .ok (.ireturn, 1) := by decide +kernel
theorem hd_X6_putBack : yX6_putBack.cls = RX6 ∧ yX6_putBack.cls ≠ "java/lang/invoke/MethodHandle" ∧ yX6_putBack.cls ≠ "java/lang/invoke/VarHandle" ∧ (parseMethodDescriptor yX6_putBack.desc).map (fun d => d.parameters.length) = some 1 := by decide +kernel
set_option maxRecDepth 100000 in
set_option maxHeartbeats 4000000 in
theorem c_X6_putBack (l : Launch) (D : va_G) (g : xG) (tb : List xQ) (hT : x_T g tb) (hlst : l.stackTraces = false) {a1 : Int32} (h0 : x_fb tb) {M : xM} {k : Nat} {r : Int32} {M' : xM} (hf : f_X6_putBack a1 M = some (k, r, M')) :
    tI l D g tb yX6_putBack cX6_putBack 4 .int ({ frames := 8, cells := 2, slots := 12, locals := 124 } : Room) 2 [.ref (g.1 4 1664), .int a1] M k r M' := by
  refine x_tstartI (own := RX6) (r := r) (by decide +kernel) rfl rfl (Nat.le_of_ble_eq_true rfl) hT ?_
  intro p e s m args below meth c Q C0 hend hpr hthr
  unfold f_X6_putBack at hf
  refine r_aload_n C0 (kk := 0) 0 rfl dX6_putBack_0 ?_
  refine r_iload_n C0 (kk := 1) 1 rfl dX6_putBack_1 ?_
  obtain ⟨k2, r4, M3, hc1, hx5, hf⟩ := tbd_e hf
  refine r_tcallVr C0 (As := [.int a1]) (rest := []) (c_X6_buyerAt l D g tb hT hlst h0 hc1) w4_233 w4_235 wp2_12 w1_1 w4_236 (x_rec4 C0 h0.1) hd_X6_buyerAt rfl ⟨rfl, rfl⟩ ⟨Nat.le_of_ble_eq_true rfl, Nat.le_of_ble_eq_true rfl⟩ (by decide) (by decide) rfl (Nat.le_of_ble_eq_true rfl) dX6_putBack_2 (fun H1 locs1 ls E ce q hk hE hH hS hl h1 h2 h3 => hpr (by decide) (by decide) hk hE hH hS h1 h2 h3 (hx5 hk)) (fun hm6 hk => ?_)
  have hf := hf hk
  refine r_astore_n C0 (kk := 2) (lv2 := [(2, .ref (g.1 1 r4)), (0, .ref (g.1 4 1664)), (1, .int a1)]) (by decide) rfl dX6_putBack_5 ?_
  refine r_aload_n C0 (kk := 2) 0 rfl dX6_putBack_6 ?_
  obtain ⟨r9, M8, hc7, hf⟩ := bd2_e hf
  refine r_callVi C0 (As := []) (rest := []) (c_X1_holds l D g tb hT hm6 hc7) w5_58 w2_202 w2_203 w1_4 w2_204 (x_rec1 C0 hm6) hd_X1_holds rfl ⟨rfl, rfl⟩ ⟨Nat.le_of_ble_eq_true rfl, Nat.le_of_ble_eq_true rfl⟩ (by decide) (by decide) rfl (Nat.le_of_ble_eq_true rfl) dX6_putBack_7 ?_
  refine r_if_ne C0 (tgt := 24) (by decide) dX6_putBack_10 (fun q10 => ?_) (fun q10 => ?_)
  · have hf := ie_f hf q10
    refine r_aload_n C0 (kk := 0) 1 rfl dX6_putBack_24 ?_
    obtain ⟨M12, hc11, hf⟩ := bd_e hf
    refine r_callVv C0 (As := []) (rest := []) (c_X6_remember l D g tb hT h0 hc11) w3_156 w3_158 wp2_7 w1_1 w3_159 (x_rec4 C0 h0.1) hd_X6_remember rfl ⟨rfl, rfl⟩ ⟨Nat.le_of_ble_eq_true rfl, Nat.le_of_ble_eq_true rfl⟩ (by decide) (by decide) rfl (Nat.le_of_ble_eq_true rfl) dX6_putBack_25 ?_
    refine r_aload_n C0 (kk := 2) 0 rfl dX6_putBack_28 ?_
    refine r_get1 C0 hm6 4 (by decide) (v := .int (M12 (r4 + 4))) rfl rfl w1_110 dX6_putBack_29 ?_
    refine r_istore_n C0 (kk := 3) (lv2 := [(3, .int (M12 (r4 + 4))), (2, .ref (g.1 1 r4)), (0, .ref (g.1 4 1664)), (1, .int a1)]) (by decide) rfl dX6_putBack_32 ?_
    refine r_aload_n C0 (kk := 0) 2 rfl dX6_putBack_33 ?_
    refine r_get4 C0 h0.1 0 (by decide) (v := .ref (g.1 2 0)) rfl rfl w3_102 dX6_putBack_34 ?_
    refine r_aload_n C0 (kk := 2) 1 rfl dX6_putBack_37 ?_
    obtain ⟨M14, hc13, hf⟩ := bd_e hf
    refine r_callVv C0 (As := [.ref (g.1 1 r4)]) (rest := []) (c_X2_returnAndAvoid l D g tb hT h0.2.1 hm6 hc13) w5_177 w3_0 w3_1 w1_2 w3_2 (x_rec2 C0 h0.2.1.1) hd_X2_returnAndAvoid rfl ⟨rfl, rfl⟩ ⟨Nat.le_of_ble_eq_true rfl, Nat.le_of_ble_eq_true rfl⟩ (by decide) (by decide) rfl (Nat.le_of_ble_eq_true rfl) dX6_putBack_38 ?_
    refine r_iload_n C0 (kk := 3) 0 rfl dX6_putBack_41 ?_
    exact hend (by decide) (by decide) hf dX6_putBack_42
  · have hf := ie_t hf q10
    exact hthr hlst rfl x_tk3 (by decide) (si := 17) rfl dX6_putBack_13 dX6_putBack_16 (Or.inr ⟨dX6_putBack_17, dX6_putBack_20, dX6_putBack_23⟩) (by decide) (Nat.le_of_ble_eq_true rfl) (by decide) (by decide) (by decide) (by decide) hf
theorem dX7_next_0 : decode cX7_next 0 = .ok (.aload_n 0, 1) := by decide +kernel
theorem dX7_next_1 : decode cX7_next 1 = .ok (.getfield 150, 3) := by decide +kernel
theorem dX7_next_4 : decode cX7_next 4 = .ok (.aload_n 0, 1) := by decide +kernel
theorem dX7_next_5 : decode cX7_next 5 = .ok (.getfield 54, 3) := by decide +kernel
theorem dX7_next_8 : decode cX7_next 8 = .ok (.if_icmp .ge 44, 3) := by decide +kernel
theorem dX7_next_11 : decode cX7_next 11 = .ok (.aload_n 0, 1) := by decide +kernel
theorem dX7_next_12 : decode cX7_next 12 = .ok (.getfield 7, 3) := by decide +kernel
theorem dX7_next_15 : decode cX7_next 15 = .ok (.aload_n 0, 1) := by decide +kernel
theorem dX7_next_16 : decode cX7_next 16 = .ok (.getfield 150, 3) := by decide +kernel
theorem dX7_next_19 : decode cX7_next 19 = .ok (.iaload, 1) := by decide +kernel
theorem dX7_next_20 : decode cX7_next 20 = .ok (.bipush 32, 2) := by decide +kernel
theorem dX7_next_22 : decode cX7_next 22 = .ok (.if_icmp .eq 17, 3) := by decide +kernel
theorem dX7_next_25 : decode cX7_next 25 = .ok (.aload_n 0, 1) := by decide +kernel
theorem dX7_next_26 : decode cX7_next 26 = .ok (.getfield 7, 3) := by decide +kernel
theorem dX7_next_29 : decode cX7_next 29 = .ok (.aload_n 0, 1) := by decide +kernel
theorem dX7_next_30 : decode cX7_next 30 = .ok (.getfield 150, 3) := by decide +kernel
theorem dX7_next_33 : decode cX7_next 33 = .ok (.iaload, 1) := by decide +kernel
theorem dX7_next_34 : decode cX7_next 34 = .ok (.bipush 10, 2) := by decide +kernel
theorem dX7_next_36 : decode cX7_next 36 = .ok (.if_icmp .ne 16, 3) := by decide +kernel
theorem dX7_next_39 : decode cX7_next 39 = .ok (.aload_n 0, 1) := by decide +kernel
theorem dX7_next_40 : decode cX7_next 40 = .ok (.dup, 1) := by decide +kernel
theorem dX7_next_41 : decode cX7_next 41 = .ok (.getfield 150, 3) := by decide +kernel
theorem dX7_next_44 : decode cX7_next 44 = .ok (.iconst 1, 1) := by decide +kernel
theorem dX7_next_45 : decode cX7_next 45 = .ok (.iadd, 1) := by decide +kernel
theorem dX7_next_46 : decode cX7_next 46 = .ok (.putfield 150, 3) := by decide +kernel
theorem dX7_next_49 : decode cX7_next 49 = .ok (.goto (-49), 3) := by decide +kernel
theorem dX7_next_52 : decode cX7_next 52 = .ok (.aload_n 0, 1) := by decide +kernel
theorem dX7_next_53 : decode cX7_next 53 = .ok (.aload_n 0, 1) := by decide +kernel
theorem dX7_next_54 : decode cX7_next 54 = .ok (.getfield 150, 3) := by decide +kernel
theorem dX7_next_57 : decode cX7_next 57 = .ok (.putfield 153, 3) := by decide +kernel
theorem dX7_next_60 : decode cX7_next 60 = .ok (.aload_n 0, 1) := by decide +kernel
theorem dX7_next_61 : decode cX7_next 61 = .ok (.getfield 150, 3) := by decide +kernel
theorem dX7_next_64 : decode cX7_next 64 = .ok (.aload_n 0, 1) := by decide +kernel
theorem dX7_next_65 : decode cX7_next 65 = .ok (.getfield 54, 3) := by decide +kernel
theorem dX7_next_68 : decode cX7_next 68 = .ok (.if_icmp .ne 9, 3) := by decide +kernel
theorem dX7_next_71 : decode cX7_next 71 = .ok (.aload_n 0, 1) := by decide +kernel
theorem dX7_next_72 : decode cX7_next 72 = .ok (.iconst 4, 1) := by decide +kernel
theorem dX7_next_73 : decode cX7_next 73 = .ok (.putfield 156, 3) := by decide +kernel
theorem dX7_next_76 : decode cX7_next 76 = .ok (.return_, 1) := by decide +kernel
theorem dX7_next_77 : decode cX7_next 77 = .ok (.aload_n 0, 1) := by decide +kernel
theorem dX7_next_78 : decode cX7_next 78 = .ok (.getfield 7, 3) := by decide +kernel
theorem dX7_next_81 : decode cX7_next 81 = .ok (.aload_n 0, 1) := by decide +kernel
theorem dX7_next_82 : decode cX7_next 82 = .ok (.getfield 150, 3) := by decide +kernel
theorem dX7_next_85 : decode cX7_next 85 = .ok (.iaload, 1) := by decide +kernel
theorem dX7_next_86 : decode cX7_next 86 = .ok (.istore_n 1, 1) := by decide +kernel
theorem dX7_next_87 : decode cX7_next 87 = .ok (.aload_n 0, 1) := by decide +kernel
theorem dX7_next_88 : decode cX7_next 88 = .ok (.dup, 1) := by decide +kernel
theorem dX7_next_89 : decode cX7_next 89 = .ok (.getfield 150, 3) := by decide +kernel
theorem dX7_next_92 : decode cX7_next 92 = .ok (.iconst 1, 1) := by decide +kernel
theorem dX7_next_93 : decode cX7_next 93 = .ok (.iadd, 1) := by decide +kernel
theorem dX7_next_94 : decode cX7_next 94 = .ok (.putfield 150, 3) := by decide +kernel
theorem dX7_next_97 : decode cX7_next 97 = .ok (.iload_n 1, 1) := by decide +kernel
theorem dX7_next_98 : decode cX7_next 98 = .ok (.invokestatic 159, 3) := by decide +kernel
theorem dX7_next_101 : decode cX7_next 101 = .ok (.ifCond .eq 47, 3) := by decide +kernel
theorem dX7_next_104 : decode cX7_next 104 = .ok (.aload_n 0, 1) := by decide +kernel
theorem dX7_next_105 : decode cX7_next 105 = .ok (.iconst 0, 1) := by decide +kernel
theorem dX7_next_106 : decode cX7_next 106 = .ok (.putfield 156, 3) := by decide +kernel
theorem dX7_next_109 : decode cX7_next 109 = .ok (.aload_n 0, 1) := by decide +kernel
theorem dX7_next_110 : decode cX7_next 110 = .ok (.getfield 150, 3) := by decide +kernel
theorem dX7_next_113 : decode cX7_next 113 = .ok (.aload_n 0, 1) := by decide +kernel
theorem dX7_next_114 : decode cX7_next 114 = .ok (.getfield 54, 3) := by decide +kernel
theorem dX7_next_117 : decode cX7_next 117 = .ok (.if_icmp .ge 144, 3) := by decide +kernel
theorem dX7_next_120 : decode cX7_next 120 = .ok (.aload_n 0, 1) := by decide +kernel
theorem dX7_next_121 : decode cX7_next 121 = .ok (.getfield 7, 3) := by decide +kernel
theorem dX7_next_124 : decode cX7_next 124 = .ok (.aload_n 0, 1) := by decide +kernel
theorem dX7_next_125 : decode cX7_next 125 = .ok (.getfield 150, 3) := by decide +kernel
theorem dX7_next_128 : decode cX7_next 128 = .ok (.iaload, 1) := by decide +kernel
theorem dX7_next_129 : decode cX7_next 129 = .ok (.invokestatic 159, 3) := by decide +kernel
theorem dX7_next_132 : decode cX7_next 132 = .ok (.ifCond .eq 129, 3) := by decide +kernel
theorem dX7_next_135 : decode cX7_next 135 = .ok (.aload_n 0, 1) := by decide +kernel
theorem dX7_next_136 : decode cX7_next 136 = .ok (.dup, 1) := by decide +kernel
theorem dX7_next_137 : decode cX7_next 137 = .ok (.getfield 150, 3) := by decide +kernel
theorem dX7_next_140 : decode cX7_next 140 = .ok (.iconst 1, 1) := by decide +kernel
theorem dX7_next_141 : decode cX7_next 141 = .ok (.iadd, 1) := by decide +kernel
theorem dX7_next_142 : decode cX7_next 142 = .ok (.putfield 150, 3) := by decide +kernel
theorem dX7_next_145 : decode cX7_next 145 = .ok (.goto (-36), 3) := by decide +kernel
theorem dX7_next_148 : decode cX7_next 148 = .ok (.iload_n 1, 1) := by decide +kernel
theorem dX7_next_149 : decode cX7_next 149 = .ok (.invokestatic 163, 3) := by decide +kernel
theorem dX7_next_152 : decode cX7_next 152 = .ok (.ifCond .eq 94, 3) := by decide +kernel
theorem dX7_next_155 : decode cX7_next 155 = .ok (.aload_n 0, 1) := by decide +kernel
theorem dX7_next_156 : decode cX7_next 156 = .ok (.iconst 1, 1) := by decide +kernel
theorem dX7_next_157 : decode cX7_next 157 = .ok (.putfield 156, 3) := by decide +kernel
theorem dX7_next_160 : decode cX7_next 160 = .ok (.aload_n 0, 1) := by decide +kernel
theorem dX7_next_161 : decode cX7_next 161 = .ok (.iload_n 1, 1) := by decide +kernel
theorem dX7_next_162 : decode cX7_next 162 = .ok (.bipush 48, 2) := by decide +kernel
theorem dX7_next_164 : decode cX7_next 164 = .ok (.isub, 1) := by decide +kernel
theorem dX7_next_165 : decode cX7_next 165 = .ok (.putfield 166, 3) := by decide +kernel
theorem dX7_next_168 : decode cX7_next 168 = .ok (.aload_n 0, 1) := by decide +kernel
theorem dX7_next_169 : decode cX7_next 169 = .ok (.getfield 150, 3) := by decide +kernel
theorem dX7_next_172 : decode cX7_next 172 = .ok (.aload_n 0, 1) := by decide +kernel
theorem dX7_next_173 : decode cX7_next 173 = .ok (.getfield 54, 3) := by decide +kernel
theorem dX7_next_176 : decode cX7_next 176 = .ok (.if_icmp .ge 85, 3) := by decide +kernel
theorem dX7_next_179 : decode cX7_next 179 = .ok (.aload_n 0, 1) := by decide +kernel
theorem dX7_next_180 : decode cX7_next 180 = .ok (.getfield 7, 3) := by decide +kernel
theorem dX7_next_183 : decode cX7_next 183 = .ok (.aload_n 0, 1) := by decide +kernel
theorem dX7_next_184 : decode cX7_next 184 = .ok (.getfield 150, 3) := by decide +kernel
theorem dX7_next_187 : decode cX7_next 187 = .ok (.iaload, 1) := by decide +kernel
theorem dX7_next_188 : decode cX7_next 188 = .ok (.invokestatic 163, 3) := by decide +kernel
theorem dX7_next_191 : decode cX7_next 191 = .ok (.ifCond .eq 70, 3) := by decide +kernel
theorem dX7_next_194 : decode cX7_next 194 = .ok (.aload_n 0, 1) := by decide +kernel
theorem dX7_next_195 : decode cX7_next 195 = .ok (.aload_n 0, 1) := by decide +kernel
theorem dX7_next_196 : decode cX7_next 196 = .ok (.getfield 166, 3) := by decide +kernel
theorem dX7_next_199 : decode cX7_next 199 = .ok (.sipush 9999, 3) := by decide +kernel
theorem dX7_next_202 : decode cX7_next 202 = .ok (.if_icmp .le 8, 3) := by decide +kernel
theorem dX7_next_205 : decode cX7_next 205 = .ok (.ldc 169, 2) := by decide +kernel
theorem dX7_next_207 : decode cX7_next 207 = .ok (.goto 23, 3) := by decide +kernel
theorem dX7_next_210 : decode cX7_next 210 = .ok (.bipush 10, 2) := by decide +kernel
theorem dX7_next_212 : decode cX7_next 212 = .ok (.aload_n 0, 1) := by decide +kernel
theorem dX7_next_213 : decode cX7_next 213 = .ok (.getfield 166, 3) := by decide +kernel
theorem dX7_next_216 : decode cX7_next 216 = .ok (.imul, 1) := by decide +kernel
theorem dX7_next_217 : decode cX7_next 217 = .ok (.aload_n 0, 1) := by decide +kernel
theorem dX7_next_218 : decode cX7_next 218 = .ok (.getfield 7, 3) := by decide +kernel
theorem dX7_next_221 : decode cX7_next 221 = .ok (.aload_n 0, 1) := by decide +kernel
theorem dX7_next_222 : decode cX7_next 222 = .ok (.getfield 150, 3) := by decide +kernel
theorem dX7_next_225 : decode cX7_next 225 = .ok (.iaload, 1) := by decide +kernel
theorem dX7_next_226 : decode cX7_next 226 = .ok (.iadd, 1) := by decide +kernel
theorem dX7_next_227 : decode cX7_next 227 = .ok (.bipush 48, 2) := by decide +kernel
theorem dX7_next_229 : decode cX7_next 229 = .ok (.isub, 1) := by decide +kernel
theorem dX7_next_230 : decode cX7_next 230 = .ok (.putfield 166, 3) := by decide +kernel
theorem dX7_next_233 : decode cX7_next 233 = .ok (.aload_n 0, 1) := by decide +kernel
theorem dX7_next_234 : decode cX7_next 234 = .ok (.dup, 1) := by decide +kernel
theorem dX7_next_235 : decode cX7_next 235 = .ok (.getfield 150, 3) := by decide +kernel
theorem dX7_next_238 : decode cX7_next 238 = .ok (.iconst 1, 1) := by decide +kernel
theorem dX7_next_239 : decode cX7_next 239 = .ok (.iadd, 1) := by decide +kernel
theorem dX7_next_240 : decode cX7_next 240 = .ok (.putfield 150, 3) := by decide +kernel
theorem dX7_next_243 : decode cX7_next 243 = .ok (.goto (-75), 3) := by decide +kernel
theorem dX7_next_246 : decode cX7_next 246 = .ok (.aload_n 0, 1) := by decide +kernel
theorem dX7_next_247 : decode cX7_next 247 = .ok (.iload_n 1, 1) := by decide +kernel
theorem dX7_next_248 : decode cX7_next 248 = .ok (.bipush 59, 2) := by decide +kernel
theorem dX7_next_250 : decode cX7_next 250 = .ok (.if_icmp .ne 7, 3) := by decide +kernel
theorem dX7_next_253 : decode cX7_next 253 = .ok (.iconst 2, 1) := by decide +kernel
theorem dX7_next_254 : decode cX7_next 254 = .ok (.goto 4, 3) := by decide +kernel
theorem dX7_next_257 : decode cX7_next 257 = .ok (.iconst 3, 1) := by decide +kernel
theorem dX7_next_258 : decode cX7_next 258 = .ok (.putfield 156, 3) := by decide +kernel
theorem dX7_next_261 : decode cX7_next 261 = .ok (.return_, 1) := by decide +kernel
theorem hd_X7_next : yX7_next.cls = RX7 ∧ yX7_next.cls ≠ "java/lang/invoke/MethodHandle" ∧ yX7_next.cls ≠ "java/lang/invoke/VarHandle" ∧ (parseMethodDescriptor yX7_next.desc).map (fun d => d.parameters.length) = some 0 := by decide +kernel
set_option maxRecDepth 100000 in
set_option maxHeartbeats 4000000 in
theorem c_X7_next (l : Launch) (D : va_G) (g : xG) (tb : List xQ) (hT : x_T g tb)  (h0 : x_md tb) {M M' : xM} (hf : f_X7_next  M = some M') :
    cV l D g tb yX7_next cX7_next 2 ({ frames := 2, cells := 0, slots := 0, locals := 42 } : Room) [.ref (g.1 5 2500)] M M' := by
  refine x_startV (own := RX7) (by decide +kernel) rfl rfl (Nat.le_of_ble_eq_true rfl) hT ?_
  intro p e s m args below meth c Q C0 hend
  have B39 : ∀ (k0 : xM → Option xM) (hk0 : ∀ (M : xM), k0 M = some M' → WW p l e ({ frames := 2, cells := 0, slots := 0, locals := 42 } : Room) s m args below meth c 0 0 Q 2 D g tb 0 [(0, .ref (g.1 5 2500))] [] M), ∀ (M : xM), f_X7_next_c39 k0  M = some M' → WW p l e ({ frames := 2, cells := 0, slots := 0, locals := 42 } : Room) s m args below meth c 0 0 Q 2 D g tb 39 [(0, .ref (g.1 5 2500))] [] M := by
    intro k0 hk0   M hf
    unfold f_X7_next_c39 at hf
    refine r_aload_n C0 (kk := 0) 0 rfl dX7_next_39 ?_
    refine r_dup C0 rfl dX7_next_40 ?_
    refine r_get5 C0 h0.1 15 (by decide) (v := .int (M 2515)) rfl rfl w6_231 dX7_next_41 ?_
    refine r_iconst C0 (v := 1) dX7_next_44 rfl ?_
    refine r_iadd C0 dX7_next_45 ?_
    refine r_put5 C0 h0.1 15 rfl rfl w6_231 rfl rfl rfl dX7_next_46 ?_
    refine r_goto C0 (tgt := 0) (by decide) dX7_next_49 ?_
    exact hk0   _ hf
  have B109 : ∀ (k109 : xM → Option xM) (hk109 : ∀ (M : xM), k109 M = some M' → WW p l e ({ frames := 2, cells := 0, slots := 0, locals := 42 } : Room) s m args below meth c 0 0 Q 2 D g tb 109 [(0, .ref (g.1 5 2500))] [] M), ∀ (M : xM), fb_X7_next_c109 k109  M = some M' → WW p l e ({ frames := 2, cells := 0, slots := 0, locals := 42 } : Room) s m args below meth c 0 0 Q 2 D g tb 109 [(0, .ref (g.1 5 2500))] [] M := by
    intro k109 hk109   M hf
    unfold fb_X7_next_c109 at hf
    refine r_aload_n C0 (kk := 0) 0 rfl dX7_next_109 ?_
    refine r_get5 C0 h0.1 15 (by decide) (v := .int (M 2515)) rfl rfl w6_231 dX7_next_110 ?_
    refine r_aload_n C0 (kk := 0) 0 rfl dX7_next_113 ?_
    refine r_get5 C0 h0.1 1 (by decide) (v := .int (M 2501)) rfl rfl w6_217 dX7_next_114 ?_
    refine r_icmp_ge C0 (tgt := 261) (by decide) dX7_next_117 (fun q25 => ?_) (fun q25 => ?_)
    · have hf := ie_t hf q25
      exact hend hf dX7_next_261
    · have hf := ie_f hf q25
      refine r_aload_n C0 (kk := 0) 0 rfl dX7_next_120 ?_
      refine r_get5 C0 h0.1 0 (by decide) (v := .ref (g.1 6 4252)) rfl rfl w6_216 dX7_next_121 ?_
      refine r_aload_n C0 (kk := 0) 0 rfl dX7_next_124 ?_
      refine r_get5 C0 h0.1 15 (by decide) (v := .int (M 2515)) rfl rfl w6_231 dX7_next_125 ?_
      obtain ⟨q26, hf⟩ := gd_e hf
      refine r_ialdc C0 h0.2.2.2.2.2.2.2.2.2 q26 rfl dX7_next_128 ?_
      obtain ⟨r29, M28, hc27, hf⟩ := bd2_e hf
      refine r_callSi C0 (As := [.int (M (4252 + (M 2515).toNatClampNeg))]) (rest := []) (c_X7_isSmall l D g tb hT  hc27) w6_9 w6_10 w1_14 w6_11 hd_X7_isSmall rfl ⟨rfl, rfl⟩ ⟨Nat.le_of_ble_eq_true rfl, Nat.le_of_ble_eq_true rfl⟩ (by decide) (by decide) rfl (Nat.le_of_ble_eq_true rfl) dX7_next_129 ?_
      refine r_if_eq C0 (tgt := 261) (by decide) dX7_next_132 (fun q30 => ?_) (fun q30 => ?_)
      · have hf := ie_t hf q30
        exact hend hf dX7_next_261
      · have hf := ie_f hf q30
        refine r_aload_n C0 (kk := 0) 0 rfl dX7_next_135 ?_
        refine r_dup C0 rfl dX7_next_136 ?_
        refine r_get5 C0 h0.1 15 (by decide) (v := .int (M28 2515)) rfl rfl w6_231 dX7_next_137 ?_
        refine r_iconst C0 (v := 1) dX7_next_140 rfl ?_
        refine r_iadd C0 dX7_next_141 ?_
        refine r_put5 C0 h0.1 15 rfl rfl w6_231 rfl rfl rfl dX7_next_142 ?_
        refine r_goto C0 (tgt := 109) (by decide) dX7_next_145 ?_
        exact hk109   _ hf
  have L109 : ∀ (M : xM), f_X7_next_c109   M = some M' → WW p l e ({ frames := 2, cells := 0, slots := 0, locals := 42 } : Room) s m args below meth c 0 0 Q 2 D g tb 109 [(0, .ref (g.1 5 2500))] [] M := lp_ind (P := fun f => ∀ (M : xM), f M = some M' → WW p l e ({ frames := 2, cells := 0, slots := 0, locals := 42 } : Room) s m args below meth c 0 0 Q 2 D g tb 109 [(0, .ref (g.1 5 2500))] [] M) (fun  _ h => none_ne h) (fun f hf => B109 f hf) FU
  have B230 : ∀ (k168 : xM → Option xM) (hk168 : ∀ (M : xM), k168 M = some M' → WW p l e ({ frames := 2, cells := 0, slots := 0, locals := 42 } : Room) s m args below meth c 0 0 Q 2 D g tb 168 [(0, .ref (g.1 5 2500))] [] M), ∀ (s0 : Int32)  (M : xM), f_X7_next_c230 k168  s0 M = some M' → WW p l e ({ frames := 2, cells := 0, slots := 0, locals := 42 } : Room) s m args below meth c 0 0 Q 2 D g tb 230 [(0, .ref (g.1 5 2500))] [.int s0, .ref (g.1 5 2500)] M := by
    intro k168 hk168 s0  M hf
    unfold f_X7_next_c230 at hf
    refine r_put5 C0 h0.1 18 rfl rfl w6_234 rfl rfl rfl dX7_next_230 ?_
    refine r_aload_n C0 (kk := 0) 0 rfl dX7_next_233 ?_
    refine r_dup C0 rfl dX7_next_234 ?_
    refine r_get5 C0 h0.1 15 (by decide) (v := .int ((upd M 2518 s0) 2515)) rfl rfl w6_231 dX7_next_235 ?_
    refine r_iconst C0 (v := 1) dX7_next_238 rfl ?_
    refine r_iadd C0 dX7_next_239 ?_
    refine r_put5 C0 h0.1 15 rfl rfl w6_231 rfl rfl rfl dX7_next_240 ?_
    refine r_goto C0 (tgt := 168) (by decide) dX7_next_243 ?_
    exact hk168   _ hf
  have B168 : ∀ (k168 : xM → Option xM) (hk168 : ∀ (M : xM), k168 M = some M' → WW p l e ({ frames := 2, cells := 0, slots := 0, locals := 42 } : Room) s m args below meth c 0 0 Q 2 D g tb 168 [(0, .ref (g.1 5 2500))] [] M), ∀ (M : xM), fb_X7_next_c168 k168  M = some M' → WW p l e ({ frames := 2, cells := 0, slots := 0, locals := 42 } : Room) s m args below meth c 0 0 Q 2 D g tb 168 [(0, .ref (g.1 5 2500))] [] M := by
    intro k168 hk168   M hf
    unfold fb_X7_next_c168 at hf
    refine r_aload_n C0 (kk := 0) 0 rfl dX7_next_168 ?_
    refine r_get5 C0 h0.1 15 (by decide) (v := .int (M 2515)) rfl rfl w6_231 dX7_next_169 ?_
    refine r_aload_n C0 (kk := 0) 0 rfl dX7_next_172 ?_
    refine r_get5 C0 h0.1 1 (by decide) (v := .int (M 2501)) rfl rfl w6_217 dX7_next_173 ?_
    refine r_icmp_ge C0 (tgt := 261) (by decide) dX7_next_176 (fun q17 => ?_) (fun q17 => ?_)
    · have hf := ie_t hf q17
      exact hend hf dX7_next_261
    · have hf := ie_f hf q17
      refine r_aload_n C0 (kk := 0) 0 rfl dX7_next_179 ?_
      refine r_get5 C0 h0.1 0 (by decide) (v := .ref (g.1 6 4252)) rfl rfl w6_216 dX7_next_180 ?_
      refine r_aload_n C0 (kk := 0) 0 rfl dX7_next_183 ?_
      refine r_get5 C0 h0.1 15 (by decide) (v := .int (M 2515)) rfl rfl w6_231 dX7_next_184 ?_
      obtain ⟨q18, hf⟩ := gd_e hf
      refine r_ialdc C0 h0.2.2.2.2.2.2.2.2.2 q18 rfl dX7_next_187 ?_
      obtain ⟨r21, M20, hc19, hf⟩ := bd2_e hf
      refine r_callSi C0 (As := [.int (M (4252 + (M 2515).toNatClampNeg))]) (rest := []) (c_X7_isDigit l D g tb hT  hc19) w6_15 w6_16 w1_14 w6_17 hd_X7_isDigit rfl ⟨rfl, rfl⟩ ⟨Nat.le_of_ble_eq_true rfl, Nat.le_of_ble_eq_true rfl⟩ (by decide) (by decide) rfl (Nat.le_of_ble_eq_true rfl) dX7_next_188 ?_
      refine r_if_eq C0 (tgt := 261) (by decide) dX7_next_191 (fun q22 => ?_) (fun q22 => ?_)
      · have hf := ie_t hf q22
        exact hend hf dX7_next_261
      · have hf := ie_f hf q22
        refine r_aload_n C0 (kk := 0) 0 rfl dX7_next_194 ?_
        refine r_aload_n C0 (kk := 0) 0 rfl dX7_next_195 ?_
        refine r_get5 C0 h0.1 18 (by decide) (v := .int (M20 2518)) rfl rfl w6_234 dX7_next_196 ?_
        refine r_sipush C0 (v := 9999) dX7_next_199 rfl ?_
        refine r_icmp_le C0 (tgt := 210) (by decide) dX7_next_202 (fun q23 => ?_) (fun q23 => ?_)
        · have hf := ie_t hf q23
          refine r_bipush C0 (v := 10) dX7_next_210 rfl ?_
          refine r_aload_n C0 (kk := 0) 0 rfl dX7_next_212 ?_
          refine r_get5 C0 h0.1 18 (by decide) (v := .int (M20 2518)) rfl rfl w6_234 dX7_next_213 ?_
          refine r_imul C0 dX7_next_216 ?_
          refine r_aload_n C0 (kk := 0) 0 rfl dX7_next_217 ?_
          refine r_get5 C0 h0.1 0 (by decide) (v := .ref (g.1 6 4252)) rfl rfl w6_216 dX7_next_218 ?_
          refine r_aload_n C0 (kk := 0) 0 rfl dX7_next_221 ?_
          refine r_get5 C0 h0.1 15 (by decide) (v := .int (M20 2515)) rfl rfl w6_231 dX7_next_222 ?_
          obtain ⟨q24, hf⟩ := gd_e hf
          refine r_ialdc C0 h0.2.2.2.2.2.2.2.2.2 q24 rfl dX7_next_225 ?_
          refine r_iadd C0 dX7_next_226 ?_
          refine r_bipush C0 (v := 48) dX7_next_227 rfl ?_
          refine r_isub C0 dX7_next_229 ?_
          exact B230 k168 hk168 _   _ hf
        · have hf := ie_f hf q23
          refine r_ldc C0 w6_18 dX7_next_205 ?_
          refine r_goto C0 (tgt := 230) (by decide) dX7_next_207 ?_
          exact B230 k168 hk168 _   _ hf
  have L168 : ∀ (M : xM), f_X7_next_c168   M = some M' → WW p l e ({ frames := 2, cells := 0, slots := 0, locals := 42 } : Room) s m args below meth c 0 0 Q 2 D g tb 168 [(0, .ref (g.1 5 2500))] [] M := lp_ind (P := fun f => ∀ (M : xM), f M = some M' → WW p l e ({ frames := 2, cells := 0, slots := 0, locals := 42 } : Room) s m args below meth c 0 0 Q 2 D g tb 168 [(0, .ref (g.1 5 2500))] [] M) (fun  _ h => none_ne h) (fun f hf => B168 f hf) FU
  have B52 : ∀ (M : xM), f_X7_next_c52   M = some M' → WW p l e ({ frames := 2, cells := 0, slots := 0, locals := 42 } : Room) s m args below meth c 0 0 Q 2 D g tb 52 [(0, .ref (g.1 5 2500))] [] M := by
    intro     M hf
    unfold f_X7_next_c52 at hf
    refine r_aload_n C0 (kk := 0) 0 rfl dX7_next_52 ?_
    refine r_aload_n C0 (kk := 0) 0 rfl dX7_next_53 ?_
    refine r_get5 C0 h0.1 15 (by decide) (v := .int (M 2515)) rfl rfl w6_231 dX7_next_54 ?_
    refine r_put5 C0 h0.1 17 rfl rfl w6_233 rfl rfl rfl dX7_next_57 ?_
    refine r_aload_n C0 (kk := 0) 0 rfl dX7_next_60 ?_
    refine r_get5 C0 h0.1 15 (by decide) (v := .int ((upd M 2517 (M 2515)) 2515)) rfl rfl w6_231 dX7_next_61 ?_
    refine r_aload_n C0 (kk := 0) 0 rfl dX7_next_64 ?_
    refine r_get5 C0 h0.1 1 (by decide) (v := .int ((upd M 2517 (M 2515)) 2501)) rfl rfl w6_217 dX7_next_65 ?_
    refine r_icmp_ne C0 (tgt := 77) (by decide) dX7_next_68 (fun q6 => ?_) (fun q6 => ?_)
    · have hf := ie_f hf q6
      refine r_aload_n C0 (kk := 0) 0 rfl dX7_next_77 ?_
      refine r_get5 C0 h0.1 0 (by decide) (v := .ref (g.1 6 4252)) rfl rfl w6_216 dX7_next_78 ?_
      refine r_aload_n C0 (kk := 0) 0 rfl dX7_next_81 ?_
      refine r_get5 C0 h0.1 15 (by decide) (v := .int ((upd M 2517 (M 2515)) 2515)) rfl rfl w6_231 dX7_next_82 ?_
      obtain ⟨q7, hf⟩ := gd_e hf
      refine r_ialdc C0 h0.2.2.2.2.2.2.2.2.2 q7 rfl dX7_next_85 ?_
      refine r_istore_n C0 (kk := 1) (lv2 := [(1, .int ((upd M 2517 (M 2515)) (4252 + ((upd M 2517 (M 2515)) 2515).toNatClampNeg))), (0, .ref (g.1 5 2500))]) (by decide) rfl dX7_next_86 ?_
      refine r_aload_n C0 (kk := 0) 1 rfl dX7_next_87 ?_
      refine r_dup C0 rfl dX7_next_88 ?_
      refine r_get5 C0 h0.1 15 (by decide) (v := .int ((upd M 2517 (M 2515)) 2515)) rfl rfl w6_231 dX7_next_89 ?_
      refine r_iconst C0 (v := 1) dX7_next_92 rfl ?_
      refine r_iadd C0 dX7_next_93 ?_
      refine r_put5 C0 h0.1 15 rfl rfl w6_231 rfl rfl rfl dX7_next_94 ?_
      refine r_iload_n C0 (kk := 1) 0 rfl dX7_next_97 ?_
      obtain ⟨r10, M9, hc8, hf⟩ := bd2_e hf
      refine r_callSi C0 (As := [.int ((upd M 2517 (M 2515)) (4252 + ((upd M 2517 (M 2515)) 2515).toNatClampNeg))]) (rest := []) (c_X7_isSmall l D g tb hT  hc8) w6_9 w6_10 w1_14 w6_11 hd_X7_isSmall rfl ⟨rfl, rfl⟩ ⟨Nat.le_of_ble_eq_true rfl, Nat.le_of_ble_eq_true rfl⟩ (by decide) (by decide) rfl (Nat.le_of_ble_eq_true rfl) dX7_next_98 ?_
      refine r_if_eq C0 (tgt := 148) (by decide) dX7_next_101 (fun q11 => ?_) (fun q11 => ?_)
      · have hf := ie_t hf q11
        refine r_iload_n C0 (kk := 1) 0 rfl dX7_next_148 ?_
        obtain ⟨r14, M13, hc12, hf⟩ := bd2_e hf
        refine r_callSi C0 (As := [.int ((upd M 2517 (M 2515)) (4252 + ((upd M 2517 (M 2515)) 2515).toNatClampNeg))]) (rest := []) (c_X7_isDigit l D g tb hT  hc12) w6_15 w6_16 w1_14 w6_17 hd_X7_isDigit rfl ⟨rfl, rfl⟩ ⟨Nat.le_of_ble_eq_true rfl, Nat.le_of_ble_eq_true rfl⟩ (by decide) (by decide) rfl (Nat.le_of_ble_eq_true rfl) dX7_next_149 ?_
        refine r_if_eq C0 (tgt := 246) (by decide) dX7_next_152 (fun q15 => ?_) (fun q15 => ?_)
        · have hf := ie_t hf q15
          refine r_aload_n C0 (kk := 0) 1 rfl dX7_next_246 ?_
          refine r_iload_n C0 (kk := 1) 0 rfl dX7_next_247 ?_
          refine r_bipush C0 (v := 59) dX7_next_248 rfl ?_
          refine r_icmp_ne C0 (tgt := 257) (by decide) dX7_next_250 (fun q16 => ?_) (fun q16 => ?_)
          · have hf := ie_f hf q16
            refine r_iconst C0 (v := 3) dX7_next_257 rfl ?_
            refine r_put5 C0 h0.1 16 rfl rfl w6_232 rfl rfl rfl dX7_next_258 ?_
            exact hend hf dX7_next_261
          · have hf := ie_t hf q16
            refine r_iconst C0 (v := 2) dX7_next_253 rfl ?_
            refine r_goto C0 (tgt := 258) (by decide) dX7_next_254 ?_
            refine r_put5 C0 h0.1 16 rfl rfl w6_232 rfl rfl rfl dX7_next_258 ?_
            exact hend hf dX7_next_261
        · have hf := ie_f hf q15
          refine r_aload_n C0 (kk := 0) 1 rfl dX7_next_155 ?_
          refine r_iconst C0 (v := 1) dX7_next_156 rfl ?_
          refine r_put5 C0 h0.1 16 rfl rfl w6_232 rfl rfl rfl dX7_next_157 ?_
          refine r_aload_n C0 (kk := 0) 1 rfl dX7_next_160 ?_
          refine r_iload_n C0 (kk := 1) 0 rfl dX7_next_161 ?_
          refine r_bipush C0 (v := 48) dX7_next_162 rfl ?_
          refine r_isub C0 dX7_next_164 ?_
          refine r_put5 C0 h0.1 18 rfl rfl w6_234 rfl rfl rfl dX7_next_165 ?_
          refine WW.sub [1] rfl ?_
          exact L168     _ hf
      · have hf := ie_f hf q11
        refine r_aload_n C0 (kk := 0) 1 rfl dX7_next_104 ?_
        refine r_iconst C0 (v := 0) dX7_next_105 rfl ?_
        refine r_put5 C0 h0.1 16 rfl rfl w6_232 rfl rfl rfl dX7_next_106 ?_
        refine WW.sub [1] rfl ?_
        exact L109     _ hf
    · have hf := ie_t hf q6
      refine r_aload_n C0 (kk := 0) 0 rfl dX7_next_71 ?_
      refine r_iconst C0 (v := 4) dX7_next_72 rfl ?_
      refine r_put5 C0 h0.1 16 rfl rfl w6_232 rfl rfl rfl dX7_next_73 ?_
      exact hend hf dX7_next_76
  have B0 : ∀ (k0 : xM → Option xM) (hk0 : ∀ (M : xM), k0 M = some M' → WW p l e ({ frames := 2, cells := 0, slots := 0, locals := 42 } : Room) s m args below meth c 0 0 Q 2 D g tb 0 [(0, .ref (g.1 5 2500))] [] M), ∀ (M : xM), fb_X7_next_c0 k0  M = some M' → WW p l e ({ frames := 2, cells := 0, slots := 0, locals := 42 } : Room) s m args below meth c 0 0 Q 2 D g tb 0 [(0, .ref (g.1 5 2500))] [] M := by
    intro k0 hk0   M hf
    unfold fb_X7_next_c0 at hf
    refine r_aload_n C0 (kk := 0) 0 rfl dX7_next_0 ?_
    refine r_get5 C0 h0.1 15 (by decide) (v := .int (M 2515)) rfl rfl w6_231 dX7_next_1 ?_
    refine r_aload_n C0 (kk := 0) 0 rfl dX7_next_4 ?_
    refine r_get5 C0 h0.1 1 (by decide) (v := .int (M 2501)) rfl rfl w6_217 dX7_next_5 ?_
    refine r_icmp_ge C0 (tgt := 52) (by decide) dX7_next_8 (fun q1 => ?_) (fun q1 => ?_)
    · have hf := ie_t hf q1
      exact B52     _ hf
    · have hf := ie_f hf q1
      refine r_aload_n C0 (kk := 0) 0 rfl dX7_next_11 ?_
      refine r_get5 C0 h0.1 0 (by decide) (v := .ref (g.1 6 4252)) rfl rfl w6_216 dX7_next_12 ?_
      refine r_aload_n C0 (kk := 0) 0 rfl dX7_next_15 ?_
      refine r_get5 C0 h0.1 15 (by decide) (v := .int (M 2515)) rfl rfl w6_231 dX7_next_16 ?_
      obtain ⟨q2, hf⟩ := gd_e hf
      refine r_ialdc C0 h0.2.2.2.2.2.2.2.2.2 q2 rfl dX7_next_19 ?_
      refine r_bipush C0 (v := 32) dX7_next_20 rfl ?_
      refine r_icmp_eq C0 (tgt := 39) (by decide) dX7_next_22 (fun q3 => ?_) (fun q3 => ?_)
      · have hf := ie_t hf q3
        exact B39 k0 hk0   _ hf
      · have hf := ie_f hf q3
        refine r_aload_n C0 (kk := 0) 0 rfl dX7_next_25 ?_
        refine r_get5 C0 h0.1 0 (by decide) (v := .ref (g.1 6 4252)) rfl rfl w6_216 dX7_next_26 ?_
        refine r_aload_n C0 (kk := 0) 0 rfl dX7_next_29 ?_
        refine r_get5 C0 h0.1 15 (by decide) (v := .int (M 2515)) rfl rfl w6_231 dX7_next_30 ?_
        obtain ⟨q4, hf⟩ := gd_e hf
        refine r_ialdc C0 h0.2.2.2.2.2.2.2.2.2 q4 rfl dX7_next_33 ?_
        refine r_bipush C0 (v := 10) dX7_next_34 rfl ?_
        refine r_icmp_ne C0 (tgt := 52) (by decide) dX7_next_36 (fun q5 => ?_) (fun q5 => ?_)
        · have hf := ie_f hf q5
          exact B52     _ hf
        · have hf := ie_t hf q5
          exact B39 k0 hk0   _ hf
  have L0 : ∀ (M : xM), f_X7_next_c0   M = some M' → WW p l e ({ frames := 2, cells := 0, slots := 0, locals := 42 } : Room) s m args below meth c 0 0 Q 2 D g tb 0 [(0, .ref (g.1 5 2500))] [] M := lp_ind (P := fun f => ∀ (M : xM), f M = some M' → WW p l e ({ frames := 2, cells := 0, slots := 0, locals := 42 } : Room) s m args below meth c 0 0 Q 2 D g tb 0 [(0, .ref (g.1 5 2500))] [] M) (fun  _ h => none_ne h) (fun f hf => B0 f hf) FU
  unfold f_X7_next at hf
  exact L0     _ hf
theorem dX7_into_0 : decode cX7_into 0 = .ok (.aload_n 0, 1) := by decide +kernel
theorem dX7_into_1 : decode cX7_into 1 = .ok (.iload_n 2, 1) := by decide +kernel
theorem dX7_into_2 : decode cX7_into 2 = .ok (.iload_n 3, 1) := by decide +kernel
theorem dX7_into_3 : decode cX7_into 3 = .ok (.invokevirtual 187, 3) := by decide +kernel
theorem dX7_into_6 : decode cX7_into 6 = .ok (.ifCond .ne 5, 3) := by decide +kernel
theorem dX7_into_9 : decode cX7_into 9 = .ok (.iconst 0, 1) := by decide +kernel
theorem dX7_into_10 : decode cX7_into 10 = .ok (.ireturn, 1) := by decide +kernel
theorem dX7_into_11 : decode cX7_into 11 = .ok (.aload_n 0, 1) := by decide +kernel
theorem dX7_into_12 : decode cX7_into 12 = .ok (.getfield 36, 3) := by decide +kernel
theorem dX7_into_15 : decode cX7_into 15 = .ok (.iload_n 1, 1) := by decide +kernel
theorem dX7_into_16 : decode cX7_into 16 = .ok (.aload_n 0, 1) := by decide +kernel
theorem dX7_into_17 : decode cX7_into 17 = .ok (.getfield 166, 3) := by decide +kernel
theorem dX7_into_20 : decode cX7_into 20 = .ok (.iastore, 1) := by decide +kernel
theorem dX7_into_21 : decode cX7_into 21 = .ok (.aload_n 0, 1) := by decide +kernel
theorem dX7_into_22 : decode cX7_into 22 = .ok (.invokevirtual 180, 3) := by decide +kernel
theorem dX7_into_25 : decode cX7_into 25 = .ok (.iconst 1, 1) := by decide +kernel
theorem dX7_into_26 : decode cX7_into 26 = .ok (.ireturn, 1) := by decide +kernel
theorem hd_X7_into : yX7_into.cls = RX7 ∧ yX7_into.cls ≠ "java/lang/invoke/MethodHandle" ∧ yX7_into.cls ≠ "java/lang/invoke/VarHandle" ∧ (parseMethodDescriptor yX7_into.desc).map (fun d => d.parameters.length) = some 3 := by decide +kernel
set_option maxRecDepth 100000 in
set_option maxHeartbeats 4000000 in
theorem c_X7_into (l : Launch) (D : va_G) (g : xG) (tb : List xQ) (hT : x_T g tb) {a1 : Int32} {a2 : Int32} {a3 : Int32} (h0 : x_md tb) {M : xM} {r : Int32} {M' : xM} (hf : f_X7_into a1 a2 a3 M = some (r, M')) :
    cI l D g tb yX7_into cX7_into 4 .boolean ({ frames := 3, cells := 0, slots := 0, locals := 63 } : Room) [.ref (g.1 5 2500), .int a1, .int a2, .int a3] M r M' := by
  refine x_startZ (own := RX7) (by decide +kernel) rfl rfl (Nat.le_of_ble_eq_true rfl) hT ?_
  intro p e s m args below meth c Q C0 hend
  unfold f_X7_into at hf
  refine r_aload_n C0 (kk := 0) 0 rfl dX7_into_0 ?_
  refine r_iload_n C0 (kk := 2) 2 rfl dX7_into_1 ?_
  refine r_iload_n C0 (kk := 3) 3 rfl dX7_into_2 ?_
  obtain ⟨r3, M2, hc1, hf⟩ := bd2_e hf
  refine r_callVi C0 (As := [.int a2, .int a3]) (rest := []) (c_X7_numberIn l D g tb hT h0 hc1) w6_43 w6_45 wp3_6 w1_14 w6_46 (x_rec5 C0 h0.1) hd_X7_numberIn rfl ⟨rfl, rfl⟩ ⟨Nat.le_of_ble_eq_true rfl, Nat.le_of_ble_eq_true rfl⟩ (by decide) (by decide) rfl (Nat.le_of_ble_eq_true rfl) dX7_into_3 ?_
  refine r_if_ne C0 (tgt := 11) (by decide) dX7_into_6 (fun q4 => ?_) (fun q4 => ?_)
  · have hf := ie_f hf q4
    refine r_aload_n C0 (kk := 0) 0 rfl dX7_into_11 ?_
    refine r_get5 C0 h0.1 13 (by decide) (v := .ref (g.1 6 4147)) rfl rfl w6_229 dX7_into_12 ?_
    refine r_iload_n C0 (kk := 1) 1 rfl dX7_into_15 ?_
    refine r_aload_n C0 (kk := 0) 0 rfl dX7_into_16 ?_
    refine r_get5 C0 h0.1 18 (by decide) (v := .int (M2 2518)) rfl rfl w6_234 dX7_into_17 ?_
    obtain ⟨q5, hf⟩ := gd_e hf
    refine r_iastc C0 h0.2.2.2.2.2.2.2.1 q5 rfl dX7_into_20 ?_
    refine r_aload_n C0 (kk := 0) 0 rfl dX7_into_21 ?_
    obtain ⟨M7, hc6, hf⟩ := bd_e hf
    refine r_callVv C0 (As := []) (rest := []) (c_X7_next l D g tb hT h0 hc6) w6_5 w6_7 wp3_0 w1_14 w6_8 (x_rec5 C0 h0.1) hd_X7_next rfl ⟨rfl, rfl⟩ ⟨Nat.le_of_ble_eq_true rfl, Nat.le_of_ble_eq_true rfl⟩ (by decide) (by decide) rfl (Nat.le_of_ble_eq_true rfl) dX7_into_22 ?_
    refine r_iconst C0 (v := 1) dX7_into_25 rfl ?_
    exact hend (by decide) hf dX7_into_26
  · have hf := ie_t hf q4
    refine r_iconst C0 (v := 0) dX7_into_9 rfl ?_
    exact hend (by decide) hf dX7_into_10
theorem dX7_semicolon_0 : decode cX7_semicolon 0 = .ok (.aload_n 0, 1) := by decide +kernel
theorem dX7_semicolon_1 : decode cX7_semicolon 1 = .ok (.invokevirtual 183, 3) := by decide +kernel
theorem dX7_semicolon_4 : decode cX7_semicolon 4 = .ok (.ifCond .ne 5, 3) := by decide +kernel
theorem dX7_semicolon_7 : decode cX7_semicolon 7 = .ok (.iconst 0, 1) := by decide +kernel
theorem dX7_semicolon_8 : decode cX7_semicolon 8 = .ok (.ireturn, 1) := by decide +kernel
theorem dX7_semicolon_9 : decode cX7_semicolon 9 = .ok (.aload_n 0, 1) := by decide +kernel
theorem dX7_semicolon_10 : decode cX7_semicolon 10 = .ok (.invokevirtual 180, 3) := by decide +kernel
theorem dX7_semicolon_13 : decode cX7_semicolon 13 = .ok (.iconst 1, 1) := by decide +kernel
theorem dX7_semicolon_14 : decode cX7_semicolon 14 = .ok (.ireturn, 1) := by decide +kernel
theorem hd_X7_semicolon : yX7_semicolon.cls = RX7 ∧ yX7_semicolon.cls ≠ "java/lang/invoke/MethodHandle" ∧ yX7_semicolon.cls ≠ "java/lang/invoke/VarHandle" ∧ (parseMethodDescriptor yX7_semicolon.desc).map (fun d => d.parameters.length) = some 0 := by decide +kernel
set_option maxRecDepth 100000 in
set_option maxHeartbeats 4000000 in
theorem c_X7_semicolon (l : Launch) (D : va_G) (g : xG) (tb : List xQ) (hT : x_T g tb)  (h0 : x_md tb) {M : xM} {r : Int32} {M' : xM} (hf : f_X7_semicolon  M = some (r, M')) :
    cI l D g tb yX7_semicolon cX7_semicolon 1 .boolean ({ frames := 3, cells := 0, slots := 0, locals := 63 } : Room) [.ref (g.1 5 2500)] M r M' := by
  refine x_startZ (own := RX7) (by decide +kernel) rfl rfl (Nat.le_of_ble_eq_true rfl) hT ?_
  intro p e s m args below meth c Q C0 hend
  unfold f_X7_semicolon at hf
  refine r_aload_n C0 (kk := 0) 0 rfl dX7_semicolon_0 ?_
  obtain ⟨r3, M2, hc1, hf⟩ := bd2_e hf
  refine r_callVi C0 (As := []) (rest := []) (c_X7_isEnd l D g tb hT h0 hc1) w6_51 w6_53 wp3_8 w1_14 w6_54 (x_rec5 C0 h0.1) hd_X7_isEnd rfl ⟨rfl, rfl⟩ ⟨Nat.le_of_ble_eq_true rfl, Nat.le_of_ble_eq_true rfl⟩ (by decide) (by decide) rfl (Nat.le_of_ble_eq_true rfl) dX7_semicolon_1 ?_
  refine r_if_ne C0 (tgt := 9) (by decide) dX7_semicolon_4 (fun q4 => ?_) (fun q4 => ?_)
  · have hf := ie_f hf q4
    refine r_aload_n C0 (kk := 0) 0 rfl dX7_semicolon_9 ?_
    obtain ⟨M6, hc5, hf⟩ := bd_e hf
    refine r_callVv C0 (As := []) (rest := []) (c_X7_next l D g tb hT h0 hc5) w6_5 w6_7 wp3_0 w1_14 w6_8 (x_rec5 C0 h0.1) hd_X7_next rfl ⟨rfl, rfl⟩ ⟨Nat.le_of_ble_eq_true rfl, Nat.le_of_ble_eq_true rfl⟩ (by decide) (by decide) rfl (Nat.le_of_ble_eq_true rfl) dX7_semicolon_10 ?_
    refine r_iconst C0 (v := 1) dX7_semicolon_13 rfl ?_
    exact hend (by decide) hf dX7_semicolon_14
  · have hf := ie_t hf q4
    refine r_iconst C0 (v := 0) dX7_semicolon_7 rfl ?_
    exact hend (by decide) hf dX7_semicolon_8
theorem dX7_wordRead_0 : decode cX7_wordRead 0 = .ok (.iload_n 1, 1) := by decide +kernel
theorem dX7_wordRead_1 : decode cX7_wordRead 1 = .ok (.iconst (-1), 1) := by decide +kernel
theorem dX7_wordRead_2 : decode cX7_wordRead 2 = .ok (.if_icmp .ne 9, 3) := by decide +kernel
theorem dX7_wordRead_5 : decode cX7_wordRead 5 = .ok (.aload_n 0, 1) := by decide +kernel
theorem dX7_wordRead_6 : decode cX7_wordRead 6 = .ok (.iconst 1, 1) := by decide +kernel
theorem dX7_wordRead_7 : decode cX7_wordRead 7 = .ok (.invokevirtual 177, 3) := by decide +kernel
theorem dX7_wordRead_10 : decode cX7_wordRead 10 = .ok (.ireturn, 1) := by decide +kernel
theorem dX7_wordRead_11 : decode cX7_wordRead 11 = .ok (.aload_n 0, 1) := by decide +kernel
theorem dX7_wordRead_12 : decode cX7_wordRead 12 = .ok (.invokevirtual 180, 3) := by decide +kernel
theorem dX7_wordRead_15 : decode cX7_wordRead 15 = .ok (.iconst 1, 1) := by decide +kernel
theorem dX7_wordRead_16 : decode cX7_wordRead 16 = .ok (.ireturn, 1) := by decide +kernel
theorem hd_X7_wordRead : yX7_wordRead.cls = RX7 ∧ yX7_wordRead.cls ≠ "java/lang/invoke/MethodHandle" ∧ yX7_wordRead.cls ≠ "java/lang/invoke/VarHandle" ∧ (parseMethodDescriptor yX7_wordRead.desc).map (fun d => d.parameters.length) = some 1 := by decide +kernel
set_option maxRecDepth 100000 in
set_option maxHeartbeats 4000000 in
theorem c_X7_wordRead (l : Launch) (D : va_G) (g : xG) (tb : List xQ) (hT : x_T g tb) {a1 : Int32} (h0 : x_md tb) {M : xM} {r : Int32} {M' : xM} (hf : f_X7_wordRead a1 M = some (r, M')) :
    cI l D g tb yX7_wordRead cX7_wordRead 2 .boolean ({ frames := 3, cells := 0, slots := 0, locals := 63 } : Room) [.ref (g.1 5 2500), .int a1] M r M' := by
  refine x_startZ (own := RX7) (by decide +kernel) rfl rfl (Nat.le_of_ble_eq_true rfl) hT ?_
  intro p e s m args below meth c Q C0 hend
  unfold f_X7_wordRead at hf
  refine r_iload_n C0 (kk := 1) 1 rfl dX7_wordRead_0 ?_
  refine r_iconst C0 (v := (-1)) dX7_wordRead_1 rfl ?_
  refine r_icmp_ne C0 (tgt := 11) (by decide) dX7_wordRead_2 (fun q1 => ?_) (fun q1 => ?_)
  · have hf := ie_f hf q1
    refine r_aload_n C0 (kk := 0) 0 rfl dX7_wordRead_11 ?_
    obtain ⟨M3, hc2, hf⟩ := bd_e hf
    refine r_callVv C0 (As := []) (rest := []) (c_X7_next l D g tb hT h0 hc2) w6_5 w6_7 wp3_0 w1_14 w6_8 (x_rec5 C0 h0.1) hd_X7_next rfl ⟨rfl, rfl⟩ ⟨Nat.le_of_ble_eq_true rfl, Nat.le_of_ble_eq_true rfl⟩ (by decide) (by decide) rfl (Nat.le_of_ble_eq_true rfl) dX7_wordRead_12 ?_
    refine r_iconst C0 (v := 1) dX7_wordRead_15 rfl ?_
    exact hend (by decide) hf dX7_wordRead_16
  · have hf := ie_t hf q1
    refine r_aload_n C0 (kk := 0) 0 rfl dX7_wordRead_5 ?_
    refine r_iconst C0 (v := 1) dX7_wordRead_6 rfl ?_
    obtain ⟨r6, M5, hc4, hf⟩ := bd2_e hf
    refine r_callVi C0 (As := [.int 1]) (rest := []) (c_X7_wrong l D g tb hT h0 hc4) w6_35 w6_37 wp3_4 w1_14 w6_38 (x_rec5 C0 h0.1) hd_X7_wrong rfl ⟨rfl, rfl⟩ ⟨Nat.le_of_ble_eq_true rfl, Nat.le_of_ble_eq_true rfl⟩ (by decide) (by decide) rfl (Nat.le_of_ble_eq_true rfl) dX7_wordRead_7 ?_
    obtain ⟨q7, hf⟩ := gd_e hf
    exact hend q7 hf dX7_wordRead_10
theorem dX7_holderInto_0 : decode cX7_holderInto 0 = .ok (.aload_n 0, 1) := by decide +kernel
theorem dX7_holderInto_1 : decode cX7_holderInto 1 = .ok (.iconst 0, 1) := by decide +kernel
theorem dX7_holderInto_2 : decode cX7_holderInto 2 = .ok (.aload_n 0, 1) := by decide +kernel
theorem dX7_holderInto_3 : decode cX7_holderInto 3 = .ok (.getfield 17, 3) := by decide +kernel
theorem dX7_holderInto_6 : decode cX7_holderInto 6 = .ok (.bipush 10, 2) := by decide +kernel
theorem dX7_holderInto_8 : decode cX7_holderInto 8 = .ok (.iaload, 1) := by decide +kernel
theorem dX7_holderInto_9 : decode cX7_holderInto 9 = .ok (.iconst 1, 1) := by decide +kernel
theorem dX7_holderInto_10 : decode cX7_holderInto 10 = .ok (.isub, 1) := by decide +kernel
theorem dX7_holderInto_11 : decode cX7_holderInto 11 = .ok (.invokevirtual 187, 3) := by decide +kernel
theorem dX7_holderInto_14 : decode cX7_holderInto 14 = .ok (.ifCond .ne 5, 3) := by decide +kernel
theorem dX7_holderInto_17 : decode cX7_holderInto 17 = .ok (.iconst 0, 1) := by decide +kernel
theorem dX7_holderInto_18 : decode cX7_holderInto 18 = .ok (.ireturn, 1) := by decide +kernel
theorem dX7_holderInto_19 : decode cX7_holderInto 19 = .ok (.aload_n 0, 1) := by decide +kernel
theorem dX7_holderInto_20 : decode cX7_holderInto 20 = .ok (.aload_n 0, 1) := by decide +kernel
theorem dX7_holderInto_21 : decode cX7_holderInto 21 = .ok (.getfield 166, 3) := by decide +kernel
theorem dX7_holderInto_24 : decode cX7_holderInto 24 = .ok (.iconst 4, 1) := by decide +kernel
theorem dX7_holderInto_25 : decode cX7_holderInto 25 = .ok (.invokevirtual 73, 3) := by decide +kernel
theorem dX7_holderInto_28 : decode cX7_holderInto 28 = .ok (.iconst (-1), 1) := by decide +kernel
theorem dX7_holderInto_29 : decode cX7_holderInto 29 = .ok (.if_icmp .ne 9, 3) := by decide +kernel
theorem dX7_holderInto_32 : decode cX7_holderInto 32 = .ok (.aload_n 0, 1) := by decide +kernel
theorem dX7_holderInto_33 : decode cX7_holderInto 33 = .ok (.iconst 3, 1) := by decide +kernel
theorem dX7_holderInto_34 : decode cX7_holderInto 34 = .ok (.invokevirtual 177, 3) := by decide +kernel
theorem dX7_holderInto_37 : decode cX7_holderInto 37 = .ok (.ireturn, 1) := by decide +kernel
theorem dX7_holderInto_38 : decode cX7_holderInto 38 = .ok (.aload_n 0, 1) := by decide +kernel
theorem dX7_holderInto_39 : decode cX7_holderInto 39 = .ok (.getfield 36, 3) := by decide +kernel
theorem dX7_holderInto_42 : decode cX7_holderInto 42 = .ok (.iconst 0, 1) := by decide +kernel
theorem dX7_holderInto_43 : decode cX7_holderInto 43 = .ok (.aload_n 0, 1) := by decide +kernel
theorem dX7_holderInto_44 : decode cX7_holderInto 44 = .ok (.getfield 166, 3) := by decide +kernel
theorem dX7_holderInto_47 : decode cX7_holderInto 47 = .ok (.iastore, 1) := by decide +kernel
theorem dX7_holderInto_48 : decode cX7_holderInto 48 = .ok (.aload_n 0, 1) := by decide +kernel
theorem dX7_holderInto_49 : decode cX7_holderInto 49 = .ok (.invokevirtual 180, 3) := by decide +kernel
theorem dX7_holderInto_52 : decode cX7_holderInto 52 = .ok (.iconst 1, 1) := by decide +kernel
theorem dX7_holderInto_53 : decode cX7_holderInto 53 = .ok (.ireturn, 1) := by decide +kernel
theorem hd_X7_holderInto : yX7_holderInto.cls = RX7 ∧ yX7_holderInto.cls ≠ "java/lang/invoke/MethodHandle" ∧ yX7_holderInto.cls ≠ "java/lang/invoke/VarHandle" ∧ (parseMethodDescriptor yX7_holderInto.desc).map (fun d => d.parameters.length) = some 0 := by decide +kernel
set_option maxRecDepth 100000 in
set_option maxHeartbeats 4000000 in
theorem c_X7_holderInto (l : Launch) (D : va_G) (g : xG) (tb : List xQ) (hT : x_T g tb)  (h0 : x_md tb) {M : xM} {r : Int32} {M' : xM} (hf : f_X7_holderInto  M = some (r, M')) :
    cI l D g tb yX7_holderInto cX7_holderInto 1 .boolean ({ frames := 3, cells := 0, slots := 0, locals := 63 } : Room) [.ref (g.1 5 2500)] M r M' := by
  refine x_startZ (own := RX7) (by decide +kernel) rfl rfl (Nat.le_of_ble_eq_true rfl) hT ?_
  intro p e s m args below meth c Q C0 hend
  unfold f_X7_holderInto at hf
  refine r_aload_n C0 (kk := 0) 0 rfl dX7_holderInto_0 ?_
  refine r_iconst C0 (v := 0) dX7_holderInto_1 rfl ?_
  refine r_aload_n C0 (kk := 0) 0 rfl dX7_holderInto_2 ?_
  refine r_get5 C0 h0.1 5 (by decide) (v := .ref (g.1 6 2520)) rfl rfl w6_221 dX7_holderInto_3 ?_
  refine r_bipush C0 (v := 10) dX7_holderInto_6 rfl ?_
  refine r_ialdc C0 h0.2.1 (z := 2530) (by decide) (by decide) dX7_holderInto_8 ?_
  refine r_iconst C0 (v := 1) dX7_holderInto_9 rfl ?_
  refine r_isub C0 dX7_holderInto_10 ?_
  obtain ⟨r3, M2, hc1, hf⟩ := bd2_e hf
  refine r_callVi C0 (As := [.int 0, .int ((M 2530) - 1)]) (rest := []) (c_X7_numberIn l D g tb hT h0 hc1) w6_43 w6_45 wp3_6 w1_14 w6_46 (x_rec5 C0 h0.1) hd_X7_numberIn rfl ⟨rfl, rfl⟩ ⟨Nat.le_of_ble_eq_true rfl, Nat.le_of_ble_eq_true rfl⟩ (by decide) (by decide) rfl (Nat.le_of_ble_eq_true rfl) dX7_holderInto_11 ?_
  refine r_if_ne C0 (tgt := 19) (by decide) dX7_holderInto_14 (fun q4 => ?_) (fun q4 => ?_)
  · have hf := ie_f hf q4
    refine r_aload_n C0 (kk := 0) 0 rfl dX7_holderInto_19 ?_
    refine r_aload_n C0 (kk := 0) 0 rfl dX7_holderInto_20 ?_
    refine r_get5 C0 h0.1 18 (by decide) (v := .int (M2 2518)) rfl rfl w6_234 dX7_holderInto_21 ?_
    refine r_iconst C0 (v := 4) dX7_holderInto_24 rfl ?_
    obtain ⟨r7, M6, hc5, hf⟩ := bd2_e hf
    refine r_callVi C0 (As := [.int (M2 2518), .int 4]) (rest := []) (c_X7_by l D g tb hT h0 hc5) w6_103 w6_105 wp4_1 w1_14 w6_106 (x_rec5 C0 h0.1) hd_X7_by rfl ⟨rfl, rfl⟩ ⟨Nat.le_of_ble_eq_true rfl, Nat.le_of_ble_eq_true rfl⟩ (by decide) (by decide) rfl (Nat.le_of_ble_eq_true rfl) dX7_holderInto_25 ?_
    refine r_iconst C0 (v := (-1)) dX7_holderInto_28 rfl ?_
    refine r_icmp_ne C0 (tgt := 38) (by decide) dX7_holderInto_29 (fun q8 => ?_) (fun q8 => ?_)
    · have hf := ie_f hf q8
      refine r_aload_n C0 (kk := 0) 0 rfl dX7_holderInto_38 ?_
      refine r_get5 C0 h0.1 13 (by decide) (v := .ref (g.1 6 4147)) rfl rfl w6_229 dX7_holderInto_39 ?_
      refine r_iconst C0 (v := 0) dX7_holderInto_42 rfl ?_
      refine r_aload_n C0 (kk := 0) 0 rfl dX7_holderInto_43 ?_
      refine r_get5 C0 h0.1 18 (by decide) (v := .int (M6 2518)) rfl rfl w6_234 dX7_holderInto_44 ?_
      refine r_iastc C0 h0.2.2.2.2.2.2.2.1 (z := 4147) (by decide) (by decide) dX7_holderInto_47 ?_
      refine r_aload_n C0 (kk := 0) 0 rfl dX7_holderInto_48 ?_
      obtain ⟨M10, hc9, hf⟩ := bd_e hf
      refine r_callVv C0 (As := []) (rest := []) (c_X7_next l D g tb hT h0 hc9) w6_5 w6_7 wp3_0 w1_14 w6_8 (x_rec5 C0 h0.1) hd_X7_next rfl ⟨rfl, rfl⟩ ⟨Nat.le_of_ble_eq_true rfl, Nat.le_of_ble_eq_true rfl⟩ (by decide) (by decide) rfl (Nat.le_of_ble_eq_true rfl) dX7_holderInto_49 ?_
      refine r_iconst C0 (v := 1) dX7_holderInto_52 rfl ?_
      exact hend (by decide) hf dX7_holderInto_53
    · have hf := ie_t hf q8
      refine r_aload_n C0 (kk := 0) 0 rfl dX7_holderInto_32 ?_
      refine r_iconst C0 (v := 3) dX7_holderInto_33 rfl ?_
      obtain ⟨r13, M12, hc11, hf⟩ := bd2_e hf
      refine r_callVi C0 (As := [.int 3]) (rest := []) (c_X7_wrong l D g tb hT h0 hc11) w6_35 w6_37 wp3_4 w1_14 w6_38 (x_rec5 C0 h0.1) hd_X7_wrong rfl ⟨rfl, rfl⟩ ⟨Nat.le_of_ble_eq_true rfl, Nat.le_of_ble_eq_true rfl⟩ (by decide) (by decide) rfl (Nat.le_of_ble_eq_true rfl) dX7_holderInto_34 ?_
      obtain ⟨q14, hf⟩ := gd_e hf
      exact hend q14 hf dX7_holderInto_37
  · have hf := ie_t hf q4
    refine r_iconst C0 (v := 0) dX7_holderInto_17 rfl ?_
    exact hend (by decide) hf dX7_holderInto_18
