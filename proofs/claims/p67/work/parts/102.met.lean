theorem dX6_soldOf_0 : decode cX6_soldOf 0 = .ok (.aload_n 0, 1) := by decide +kernel
theorem dX6_soldOf_1 : decode cX6_soldOf 1 = .ok (.iload_n 1, 1) := by decide +kernel
theorem dX6_soldOf_2 : decode cX6_soldOf 2 = .ok (.invokevirtual 152, 3) := by decide +kernel
theorem dX6_soldOf_5 : decode cX6_soldOf 5 = .ok (.getfield 179, 3) := by decide +kernel
theorem dX6_soldOf_8 : decode cX6_soldOf 8 = .ok (.ireturn, 1) := by decide +kernel
theorem hd_X6_soldOf : yX6_soldOf.cls = RX6 ∧ yX6_soldOf.cls ≠ "java/lang/invoke/MethodHandle" ∧ yX6_soldOf.cls ≠ "java/lang/invoke/VarHandle" ∧ (parseMethodDescriptor yX6_soldOf.desc).map (fun d => d.parameters.length) = some 1 := by decide +kernel
set_option maxRecDepth 100000 in
set_option maxHeartbeats 4000000 in
theorem c_X6_soldOf (l : Launch) (D : va_G) (g : xG) (tb : List xQ) (hT : x_T g tb) {a1 : Int32} (h0 : x_fb tb) {M : xM} {r : Int32} {M' : xM} (hf : f_X6_soldOf a1 M = some (r, M')) :
    cI l D g tb yX6_soldOf cX6_soldOf 2 .int ({ frames := 2, cells := 0, slots := 0, locals := 42 } : Room) [.ref (g.1 4 1664), .int a1] M r M' := by
  refine x_startI (own := RX6) (by decide +kernel) rfl rfl (Nat.le_of_ble_eq_true rfl) hT ?_
  intro p e s m args below meth c Q C0 hend
  unfold f_X6_soldOf at hf
  refine r_aload_n C0 (kk := 0) 0 rfl dX6_soldOf_0 ?_
  refine r_iload_n C0 (kk := 1) 1 rfl dX6_soldOf_1 ?_
  obtain ⟨r3, M2, hc1, hf⟩ := bd2_e hf
  refine r_callVr C0 (As := [.int a1]) (rest := []) (c_X6_stallAt l D g tb hT h0 hc1) w1_149 w1_151 wp1_1 w1_13 w1_153 (x_rec4 C0 h0.1) hd_X6_stallAt rfl ⟨rfl, rfl⟩ ⟨Nat.le_of_ble_eq_true rfl, Nat.le_of_ble_eq_true rfl⟩ (by decide) (by decide) rfl (Nat.le_of_ble_eq_true rfl) dX6_soldOf_2 (fun hm4 => ?_)
  refine r_get0 C0 hm4 5 (by decide) (v := .int (M2 (r3 + 5))) rfl rfl w3_166 dX6_soldOf_5 ?_
  exact hend hf dX6_soldOf_8
theorem dX6_lostOf_0 : decode cX6_lostOf 0 = .ok (.aload_n 0, 1) := by decide +kernel
theorem dX6_lostOf_1 : decode cX6_lostOf 1 = .ok (.iload_n 1, 1) := by decide +kernel
theorem dX6_lostOf_2 : decode cX6_lostOf 2 = .ok (.invokevirtual 152, 3) := by decide +kernel
theorem dX6_lostOf_5 : decode cX6_lostOf 5 = .ok (.getfield 182, 3) := by decide +kernel
theorem dX6_lostOf_8 : decode cX6_lostOf 8 = .ok (.ireturn, 1) := by decide +kernel
theorem hd_X6_lostOf : yX6_lostOf.cls = RX6 ∧ yX6_lostOf.cls ≠ "java/lang/invoke/MethodHandle" ∧ yX6_lostOf.cls ≠ "java/lang/invoke/VarHandle" ∧ (parseMethodDescriptor yX6_lostOf.desc).map (fun d => d.parameters.length) = some 1 := by decide +kernel
set_option maxRecDepth 100000 in
set_option maxHeartbeats 4000000 in
theorem c_X6_lostOf (l : Launch) (D : va_G) (g : xG) (tb : List xQ) (hT : x_T g tb) {a1 : Int32} (h0 : x_fb tb) {M : xM} {r : Int32} {M' : xM} (hf : f_X6_lostOf a1 M = some (r, M')) :
    cI l D g tb yX6_lostOf cX6_lostOf 2 .int ({ frames := 2, cells := 0, slots := 0, locals := 42 } : Room) [.ref (g.1 4 1664), .int a1] M r M' := by
  refine x_startI (own := RX6) (by decide +kernel) rfl rfl (Nat.le_of_ble_eq_true rfl) hT ?_
  intro p e s m args below meth c Q C0 hend
  unfold f_X6_lostOf at hf
  refine r_aload_n C0 (kk := 0) 0 rfl dX6_lostOf_0 ?_
  refine r_iload_n C0 (kk := 1) 1 rfl dX6_lostOf_1 ?_
  obtain ⟨r3, M2, hc1, hf⟩ := bd2_e hf
  refine r_callVr C0 (As := [.int a1]) (rest := []) (c_X6_stallAt l D g tb hT h0 hc1) w1_149 w1_151 wp1_1 w1_13 w1_153 (x_rec4 C0 h0.1) hd_X6_stallAt rfl ⟨rfl, rfl⟩ ⟨Nat.le_of_ble_eq_true rfl, Nat.le_of_ble_eq_true rfl⟩ (by decide) (by decide) rfl (Nat.le_of_ble_eq_true rfl) dX6_lostOf_2 (fun hm4 => ?_)
  refine r_get0 C0 hm4 6 (by decide) (v := .int (M2 (r3 + 6))) rfl rfl w3_168 dX6_lostOf_5 ?_
  exact hend hf dX6_lostOf_8
theorem dX6_earnings_0 : decode cX6_earnings 0 = .ok (.aload_n 0, 1) := by decide +kernel
theorem dX6_earnings_1 : decode cX6_earnings 1 = .ok (.iload_n 1, 1) := by decide +kernel
theorem dX6_earnings_2 : decode cX6_earnings 2 = .ok (.invokevirtual 152, 3) := by decide +kernel
theorem dX6_earnings_5 : decode cX6_earnings 5 = .ok (.getfield 185, 3) := by decide +kernel
theorem dX6_earnings_8 : decode cX6_earnings 8 = .ok (.ireturn, 1) := by decide +kernel
theorem hd_X6_earnings : yX6_earnings.cls = RX6 ∧ yX6_earnings.cls ≠ "java/lang/invoke/MethodHandle" ∧ yX6_earnings.cls ≠ "java/lang/invoke/VarHandle" ∧ (parseMethodDescriptor yX6_earnings.desc).map (fun d => d.parameters.length) = some 1 := by decide +kernel
set_option maxRecDepth 100000 in
set_option maxHeartbeats 4000000 in
theorem c_X6_earnings (l : Launch) (D : va_G) (g : xG) (tb : List xQ) (hT : x_T g tb) {a1 : Int32} (h0 : x_fb tb) {M : xM} {r : Int32} {M' : xM} (hf : f_X6_earnings a1 M = some (r, M')) :
    cI l D g tb yX6_earnings cX6_earnings 2 .int ({ frames := 2, cells := 0, slots := 0, locals := 42 } : Room) [.ref (g.1 4 1664), .int a1] M r M' := by
  refine x_startI (own := RX6) (by decide +kernel) rfl rfl (Nat.le_of_ble_eq_true rfl) hT ?_
  intro p e s m args below meth c Q C0 hend
  unfold f_X6_earnings at hf
  refine r_aload_n C0 (kk := 0) 0 rfl dX6_earnings_0 ?_
  refine r_iload_n C0 (kk := 1) 1 rfl dX6_earnings_1 ?_
  obtain ⟨r3, M2, hc1, hf⟩ := bd2_e hf
  refine r_callVr C0 (As := [.int a1]) (rest := []) (c_X6_stallAt l D g tb hT h0 hc1) w1_149 w1_151 wp1_1 w1_13 w1_153 (x_rec4 C0 h0.1) hd_X6_stallAt rfl ⟨rfl, rfl⟩ ⟨Nat.le_of_ble_eq_true rfl, Nat.le_of_ble_eq_true rfl⟩ (by decide) (by decide) rfl (Nat.le_of_ble_eq_true rfl) dX6_earnings_2 (fun hm4 => ?_)
  refine r_get0 C0 hm4 7 (by decide) (v := .int (M2 (r3 + 7))) rfl rfl w3_171 dX6_earnings_5 ?_
  exact hend hf dX6_earnings_8
theorem dX6_buyerAt_0 : decode cX6_buyerAt 0 = .ok (.aload_n 0, 1) := by decide +kernel
theorem dX6_buyerAt_1 : decode cX6_buyerAt 1 = .ok (.iload_n 1, 1) := by decide +kernel
theorem dX6_buyerAt_2 : decode cX6_buyerAt 2 = .ok (.invokevirtual 255, 3) := by decide +kernel
theorem dX6_buyerAt_5 : decode cX6_buyerAt 5 = .ok (.aload_n 0, 1) := by decide +kernel
theorem dX6_buyerAt_6 : decode cX6_buyerAt 6 = .ok (.getfield 10, 3) := by decide +kernel
theorem dX6_buyerAt_9 : decode cX6_buyerAt 9 = .ok (.getfield 258, 3) := by decide +kernel
theorem dX6_buyerAt_12 : decode cX6_buyerAt 12 = .ok (.iload_n 1, 1) := by decide +kernel
theorem dX6_buyerAt_13 : decode cX6_buyerAt 13 = .ok (.aaload, 1) := by decide +kernel
theorem dX6_buyerAt_14 : decode cX6_buyerAt 14 = .ok (.areturn, 1) := by decide +kernel
theorem hd_X6_buyerAt : yX6_buyerAt.cls = RX6 ∧ yX6_buyerAt.cls ≠ "java/lang/invoke/MethodHandle" ∧ yX6_buyerAt.cls ≠ "java/lang/invoke/VarHandle" ∧ (parseMethodDescriptor yX6_buyerAt.desc).map (fun d => d.parameters.length) = some 1 := by decide +kernel
set_option maxRecDepth 100000 in
set_option maxHeartbeats 4000000 in
theorem c_X6_buyerAt (l : Launch) (D : va_G) (g : xG) (tb : List xQ) (hT : x_T g tb) {a1 : Int32} (h0 : x_fb tb) {M : xM} {r : Nat} {M' : xM} (hf : f_X6_buyerAt a1 M = some (r, M')) :
    cR l D g tb yX6_buyerAt cX6_buyerAt 2 (.object "FogBellMarket$Buyer") 1 ({ frames := 1, cells := 0, slots := 0, locals := 21 } : Room) [.ref (g.1 4 1664), .int a1] M r M' := by
  refine x_startR (own := RX6) (by decide +kernel) rfl rfl (Nat.le_of_ble_eq_true rfl) hT ?_
  intro p e s m args below meth c Q C0 hend
  unfold f_X6_buyerAt at hf
  refine r_aload_n C0 (kk := 0) 0 rfl dX6_buyerAt_0 ?_
  refine r_iload_n C0 (kk := 1) 1 rfl dX6_buyerAt_1 ?_
  obtain ⟨M2, hc1, hf⟩ := bd_e hf
  refine r_callVv C0 (As := [.int a1]) (rest := []) (c_X6_checkBuyer l D g tb hT h0 hc1) w1_214 w1_216 wp1_4 w1_13 w1_217 (x_rec4 C0 h0.1) hd_X6_checkBuyer rfl ⟨rfl, rfl⟩ ⟨Nat.le_of_ble_eq_true rfl, Nat.le_of_ble_eq_true rfl⟩ (by decide) (by decide) rfl (Nat.le_of_ble_eq_true rfl) dX6_buyerAt_2 ?_
  refine r_aload_n C0 (kk := 0) 0 rfl dX6_buyerAt_5 ?_
  refine r_get4 C0 h0.1 0 (by decide) (v := .ref (g.1 2 0)) rfl rfl w5_87 dX6_buyerAt_6 ?_
  refine r_get2 C0 h0.2.1.1 2 (by decide) (v := .ref (g.1 11 77)) rfl rfl w4_3 dX6_buyerAt_9 ?_
  refine r_iload_n C0 (kk := 1) 1 rfl dX6_buyerAt_12 ?_
  obtain ⟨q3, hf⟩ := gd_e hf
  have hm4 : ((1, (77 + 8 * a1.toNatClampNeg), 0) : xQ) ∈ tb := h0.2.1.2.2.2.2.2 _ (inb_lt q3)
  refine r_aald11 C0 h0.2.1.2.2.1 (inb_in q3) dX6_buyerAt_13 ?_
  exact hend hm4 hf dX6_buyerAt_14
theorem dX6_coinsOf_0 : decode cX6_coinsOf 0 = .ok (.aload_n 0, 1) := by decide +kernel
theorem dX6_coinsOf_1 : decode cX6_coinsOf 1 = .ok (.iload_n 1, 1) := by decide +kernel
theorem dX6_coinsOf_2 : decode cX6_coinsOf 2 = .ok (.invokevirtual 214, 3) := by decide +kernel
theorem dX6_coinsOf_5 : decode cX6_coinsOf 5 = .ok (.getfield 221, 3) := by decide +kernel
theorem dX6_coinsOf_8 : decode cX6_coinsOf 8 = .ok (.ireturn, 1) := by decide +kernel
theorem hd_X6_coinsOf : yX6_coinsOf.cls = RX6 ∧ yX6_coinsOf.cls ≠ "java/lang/invoke/MethodHandle" ∧ yX6_coinsOf.cls ≠ "java/lang/invoke/VarHandle" ∧ (parseMethodDescriptor yX6_coinsOf.desc).map (fun d => d.parameters.length) = some 1 := by decide +kernel
set_option maxRecDepth 100000 in
set_option maxHeartbeats 4000000 in
theorem c_X6_coinsOf (l : Launch) (D : va_G) (g : xG) (tb : List xQ) (hT : x_T g tb) {a1 : Int32} (h0 : x_fb tb) {M : xM} {r : Int32} {M' : xM} (hf : f_X6_coinsOf a1 M = some (r, M')) :
    cI l D g tb yX6_coinsOf cX6_coinsOf 2 .int ({ frames := 2, cells := 0, slots := 0, locals := 42 } : Room) [.ref (g.1 4 1664), .int a1] M r M' := by
  refine x_startI (own := RX6) (by decide +kernel) rfl rfl (Nat.le_of_ble_eq_true rfl) hT ?_
  intro p e s m args below meth c Q C0 hend
  unfold f_X6_coinsOf at hf
  refine r_aload_n C0 (kk := 0) 0 rfl dX6_coinsOf_0 ?_
  refine r_iload_n C0 (kk := 1) 1 rfl dX6_coinsOf_1 ?_
  obtain ⟨r3, M2, hc1, hf⟩ := bd2_e hf
  refine r_callVr C0 (As := [.int a1]) (rest := []) (c_X6_buyerAt l D g tb hT h0 hc1) w1_210 w1_212 wp1_3 w1_13 w1_213 (x_rec4 C0 h0.1) hd_X6_buyerAt rfl ⟨rfl, rfl⟩ ⟨Nat.le_of_ble_eq_true rfl, Nat.le_of_ble_eq_true rfl⟩ (by decide) (by decide) rfl (Nat.le_of_ble_eq_true rfl) dX6_coinsOf_2 (fun hm4 => ?_)
  refine r_get1 C0 hm4 1 (by decide) (v := .int (M2 (r3 + 1))) rfl rfl w3_203 dX6_coinsOf_5 ?_
  exact hend hf dX6_coinsOf_8
theorem dX6_wantedTexture_0 : decode cX6_wantedTexture 0 = .ok (.aload_n 0, 1) := by decide +kernel
theorem dX6_wantedTexture_1 : decode cX6_wantedTexture 1 = .ok (.iload_n 1, 1) := by decide +kernel
theorem dX6_wantedTexture_2 : decode cX6_wantedTexture 2 = .ok (.invokevirtual 214, 3) := by decide +kernel
theorem dX6_wantedTexture_5 : decode cX6_wantedTexture 5 = .ok (.getfield 224, 3) := by decide +kernel
theorem dX6_wantedTexture_8 : decode cX6_wantedTexture 8 = .ok (.ireturn, 1) := by decide +kernel
theorem hd_X6_wantedTexture : yX6_wantedTexture.cls = RX6 ∧ yX6_wantedTexture.cls ≠ "java/lang/invoke/MethodHandle" ∧ yX6_wantedTexture.cls ≠ "java/lang/invoke/VarHandle" ∧ (parseMethodDescriptor yX6_wantedTexture.desc).map (fun d => d.parameters.length) = some 1 := by decide +kernel
set_option maxRecDepth 100000 in
set_option maxHeartbeats 4000000 in
theorem c_X6_wantedTexture (l : Launch) (D : va_G) (g : xG) (tb : List xQ) (hT : x_T g tb) {a1 : Int32} (h0 : x_fb tb) {M : xM} {r : Int32} {M' : xM} (hf : f_X6_wantedTexture a1 M = some (r, M')) :
    cI l D g tb yX6_wantedTexture cX6_wantedTexture 2 .int ({ frames := 2, cells := 0, slots := 0, locals := 42 } : Room) [.ref (g.1 4 1664), .int a1] M r M' := by
  refine x_startI (own := RX6) (by decide +kernel) rfl rfl (Nat.le_of_ble_eq_true rfl) hT ?_
  intro p e s m args below meth c Q C0 hend
  unfold f_X6_wantedTexture at hf
  refine r_aload_n C0 (kk := 0) 0 rfl dX6_wantedTexture_0 ?_
  refine r_iload_n C0 (kk := 1) 1 rfl dX6_wantedTexture_1 ?_
  obtain ⟨r3, M2, hc1, hf⟩ := bd2_e hf
  refine r_callVr C0 (As := [.int a1]) (rest := []) (c_X6_buyerAt l D g tb hT h0 hc1) w1_210 w1_212 wp1_3 w1_13 w1_213 (x_rec4 C0 h0.1) hd_X6_buyerAt rfl ⟨rfl, rfl⟩ ⟨Nat.le_of_ble_eq_true rfl, Nat.le_of_ble_eq_true rfl⟩ (by decide) (by decide) rfl (Nat.le_of_ble_eq_true rfl) dX6_wantedTexture_2 (fun hm4 => ?_)
  refine r_get1 C0 hm4 2 (by decide) (v := .int (M2 (r3 + 2))) rfl rfl w3_205 dX6_wantedTexture_5 ?_
  exact hend hf dX6_wantedTexture_8
theorem dX6_speedOf_0 : decode cX6_speedOf 0 = .ok (.aload_n 0, 1) := by decide +kernel
theorem dX6_speedOf_1 : decode cX6_speedOf 1 = .ok (.iload_n 1, 1) := by decide +kernel
theorem dX6_speedOf_2 : decode cX6_speedOf 2 = .ok (.invokevirtual 214, 3) := by decide +kernel
theorem dX6_speedOf_5 : decode cX6_speedOf 5 = .ok (.getfield 227, 3) := by decide +kernel
theorem dX6_speedOf_8 : decode cX6_speedOf 8 = .ok (.ireturn, 1) := by decide +kernel
theorem hd_X6_speedOf : yX6_speedOf.cls = RX6 ∧ yX6_speedOf.cls ≠ "java/lang/invoke/MethodHandle" ∧ yX6_speedOf.cls ≠ "java/lang/invoke/VarHandle" ∧ (parseMethodDescriptor yX6_speedOf.desc).map (fun d => d.parameters.length) = some 1 := by decide +kernel
set_option maxRecDepth 100000 in
set_option maxHeartbeats 4000000 in
theorem c_X6_speedOf (l : Launch) (D : va_G) (g : xG) (tb : List xQ) (hT : x_T g tb) {a1 : Int32} (h0 : x_fb tb) {M : xM} {r : Int32} {M' : xM} (hf : f_X6_speedOf a1 M = some (r, M')) :
    cI l D g tb yX6_speedOf cX6_speedOf 2 .int ({ frames := 2, cells := 0, slots := 0, locals := 42 } : Room) [.ref (g.1 4 1664), .int a1] M r M' := by
  refine x_startI (own := RX6) (by decide +kernel) rfl rfl (Nat.le_of_ble_eq_true rfl) hT ?_
  intro p e s m args below meth c Q C0 hend
  unfold f_X6_speedOf at hf
  refine r_aload_n C0 (kk := 0) 0 rfl dX6_speedOf_0 ?_
  refine r_iload_n C0 (kk := 1) 1 rfl dX6_speedOf_1 ?_
  obtain ⟨r3, M2, hc1, hf⟩ := bd2_e hf
  refine r_callVr C0 (As := [.int a1]) (rest := []) (c_X6_buyerAt l D g tb hT h0 hc1) w1_210 w1_212 wp1_3 w1_13 w1_213 (x_rec4 C0 h0.1) hd_X6_buyerAt rfl ⟨rfl, rfl⟩ ⟨Nat.le_of_ble_eq_true rfl, Nat.le_of_ble_eq_true rfl⟩ (by decide) (by decide) rfl (Nat.le_of_ble_eq_true rfl) dX6_speedOf_2 (fun hm4 => ?_)
  refine r_get1 C0 hm4 3 (by decide) (v := .int (M2 (r3 + 3))) rfl rfl w3_207 dX6_speedOf_5 ?_
  exact hend hf dX6_speedOf_8
theorem dX6_heldFrom_0 : decode cX6_heldFrom 0 = .ok (.aload_n 0, 1) := by decide +kernel
theorem dX6_heldFrom_1 : decode cX6_heldFrom 1 = .ok (.iload_n 1, 1) := by decide +kernel
theorem dX6_heldFrom_2 : decode cX6_heldFrom 2 = .ok (.invokevirtual 214, 3) := by decide +kernel
theorem dX6_heldFrom_5 : decode cX6_heldFrom 5 = .ok (.getfield 230, 3) := by decide +kernel
theorem dX6_heldFrom_8 : decode cX6_heldFrom 8 = .ok (.ireturn, 1) := by decide +kernel
theorem hd_X6_heldFrom : yX6_heldFrom.cls = RX6 ∧ yX6_heldFrom.cls ≠ "java/lang/invoke/MethodHandle" ∧ yX6_heldFrom.cls ≠ "java/lang/invoke/VarHandle" ∧ (parseMethodDescriptor yX6_heldFrom.desc).map (fun d => d.parameters.length) = some 1 := by decide +kernel
set_option maxRecDepth 100000 in
set_option maxHeartbeats 4000000 in
theorem c_X6_heldFrom (l : Launch) (D : va_G) (g : xG) (tb : List xQ) (hT : x_T g tb) {a1 : Int32} (h0 : x_fb tb) {M : xM} {r : Int32} {M' : xM} (hf : f_X6_heldFrom a1 M = some (r, M')) :
    cI l D g tb yX6_heldFrom cX6_heldFrom 2 .int ({ frames := 2, cells := 0, slots := 0, locals := 42 } : Room) [.ref (g.1 4 1664), .int a1] M r M' := by
  refine x_startI (own := RX6) (by decide +kernel) rfl rfl (Nat.le_of_ble_eq_true rfl) hT ?_
  intro p e s m args below meth c Q C0 hend
  unfold f_X6_heldFrom at hf
  refine r_aload_n C0 (kk := 0) 0 rfl dX6_heldFrom_0 ?_
  refine r_iload_n C0 (kk := 1) 1 rfl dX6_heldFrom_1 ?_
  obtain ⟨r3, M2, hc1, hf⟩ := bd2_e hf
  refine r_callVr C0 (As := [.int a1]) (rest := []) (c_X6_buyerAt l D g tb hT h0 hc1) w1_210 w1_212 wp1_3 w1_13 w1_213 (x_rec4 C0 h0.1) hd_X6_buyerAt rfl ⟨rfl, rfl⟩ ⟨Nat.le_of_ble_eq_true rfl, Nat.le_of_ble_eq_true rfl⟩ (by decide) (by decide) rfl (Nat.le_of_ble_eq_true rfl) dX6_heldFrom_2 (fun hm4 => ?_)
  refine r_get1 C0 hm4 4 (by decide) (v := .int (M2 (r3 + 4))) rfl rfl w3_210 dX6_heldFrom_5 ?_
  exact hend hf dX6_heldFrom_8
theorem dX6_debtOf_0 : decode cX6_debtOf 0 = .ok (.aload_n 0, 1) := by decide +kernel
theorem dX6_debtOf_1 : decode cX6_debtOf 1 = .ok (.iload_n 1, 1) := by decide +kernel
theorem dX6_debtOf_2 : decode cX6_debtOf 2 = .ok (.invokevirtual 214, 3) := by decide +kernel
theorem dX6_debtOf_5 : decode cX6_debtOf 5 = .ok (.getfield 233, 3) := by decide +kernel
theorem dX6_debtOf_8 : decode cX6_debtOf 8 = .ok (.ireturn, 1) := by decide +kernel
theorem hd_X6_debtOf : yX6_debtOf.cls = RX6 ∧ yX6_debtOf.cls ≠ "java/lang/invoke/MethodHandle" ∧ yX6_debtOf.cls ≠ "java/lang/invoke/VarHandle" ∧ (parseMethodDescriptor yX6_debtOf.desc).map (fun d => d.parameters.length) = some 1 := by decide +kernel
set_option maxRecDepth 100000 in
set_option maxHeartbeats 4000000 in
theorem c_X6_debtOf (l : Launch) (D : va_G) (g : xG) (tb : List xQ) (hT : x_T g tb) {a1 : Int32} (h0 : x_fb tb) {M : xM} {r : Int32} {M' : xM} (hf : f_X6_debtOf a1 M = some (r, M')) :
    cI l D g tb yX6_debtOf cX6_debtOf 2 .int ({ frames := 2, cells := 0, slots := 0, locals := 42 } : Room) [.ref (g.1 4 1664), .int a1] M r M' := by
  refine x_startI (own := RX6) (by decide +kernel) rfl rfl (Nat.le_of_ble_eq_true rfl) hT ?_
  intro p e s m args below meth c Q C0 hend
  unfold f_X6_debtOf at hf
  refine r_aload_n C0 (kk := 0) 0 rfl dX6_debtOf_0 ?_
  refine r_iload_n C0 (kk := 1) 1 rfl dX6_debtOf_1 ?_
  obtain ⟨r3, M2, hc1, hf⟩ := bd2_e hf
  refine r_callVr C0 (As := [.int a1]) (rest := []) (c_X6_buyerAt l D g tb hT h0 hc1) w1_210 w1_212 wp1_3 w1_13 w1_213 (x_rec4 C0 h0.1) hd_X6_buyerAt rfl ⟨rfl, rfl⟩ ⟨Nat.le_of_ble_eq_true rfl, Nat.le_of_ble_eq_true rfl⟩ (by decide) (by decide) rfl (Nat.le_of_ble_eq_true rfl) dX6_debtOf_2 (fun hm4 => ?_)
  refine r_get1 C0 hm4 5 (by decide) (v := .int (M2 (r3 + 5))) rfl rfl w3_212 dX6_debtOf_5 ?_
  exact hend hf dX6_debtOf_8
theorem dX6_avoidedBy_0 : decode cX6_avoidedBy 0 = .ok (.aload_n 0, 1) := by decide +kernel
theorem dX6_avoidedBy_1 : decode cX6_avoidedBy 1 = .ok (.iload_n 1, 1) := by decide +kernel
theorem dX6_avoidedBy_2 : decode cX6_avoidedBy 2 = .ok (.invokevirtual 214, 3) := by decide +kernel
theorem dX6_avoidedBy_5 : decode cX6_avoidedBy 5 = .ok (.getfield 236, 3) := by decide +kernel
theorem dX6_avoidedBy_8 : decode cX6_avoidedBy 8 = .ok (.ireturn, 1) := by decide +kernel
theorem hd_X6_avoidedBy : yX6_avoidedBy.cls = RX6 ∧ yX6_avoidedBy.cls ≠ "java/lang/invoke/MethodHandle" ∧ yX6_avoidedBy.cls ≠ "java/lang/invoke/VarHandle" ∧ (parseMethodDescriptor yX6_avoidedBy.desc).map (fun d => d.parameters.length) = some 1 := by decide +kernel
set_option maxRecDepth 100000 in
set_option maxHeartbeats 4000000 in
theorem c_X6_avoidedBy (l : Launch) (D : va_G) (g : xG) (tb : List xQ) (hT : x_T g tb) {a1 : Int32} (h0 : x_fb tb) {M : xM} {r : Int32} {M' : xM} (hf : f_X6_avoidedBy a1 M = some (r, M')) :
    cI l D g tb yX6_avoidedBy cX6_avoidedBy 2 .int ({ frames := 2, cells := 0, slots := 0, locals := 42 } : Room) [.ref (g.1 4 1664), .int a1] M r M' := by
  refine x_startI (own := RX6) (by decide +kernel) rfl rfl (Nat.le_of_ble_eq_true rfl) hT ?_
  intro p e s m args below meth c Q C0 hend
  unfold f_X6_avoidedBy at hf
  refine r_aload_n C0 (kk := 0) 0 rfl dX6_avoidedBy_0 ?_
  refine r_iload_n C0 (kk := 1) 1 rfl dX6_avoidedBy_1 ?_
  obtain ⟨r3, M2, hc1, hf⟩ := bd2_e hf
  refine r_callVr C0 (As := [.int a1]) (rest := []) (c_X6_buyerAt l D g tb hT h0 hc1) w1_210 w1_212 wp1_3 w1_13 w1_213 (x_rec4 C0 h0.1) hd_X6_buyerAt rfl ⟨rfl, rfl⟩ ⟨Nat.le_of_ble_eq_true rfl, Nat.le_of_ble_eq_true rfl⟩ (by decide) (by decide) rfl (Nat.le_of_ble_eq_true rfl) dX6_avoidedBy_2 (fun hm4 => ?_)
  refine r_get1 C0 hm4 6 (by decide) (v := .int (M2 (r3 + 6))) rfl rfl w3_215 dX6_avoidedBy_5 ?_
  exact hend hf dX6_avoidedBy_8
theorem dX6_boughtBy_0 : decode cX6_boughtBy 0 = .ok (.aload_n 0, 1) := by decide +kernel
theorem dX6_boughtBy_1 : decode cX6_boughtBy 1 = .ok (.iload_n 1, 1) := by decide +kernel
theorem dX6_boughtBy_2 : decode cX6_boughtBy 2 = .ok (.invokevirtual 214, 3) := by decide +kernel
theorem dX6_boughtBy_5 : decode cX6_boughtBy 5 = .ok (.getfield 239, 3) := by decide +kernel
theorem dX6_boughtBy_8 : decode cX6_boughtBy 8 = .ok (.ireturn, 1) := by decide +kernel
theorem hd_X6_boughtBy : yX6_boughtBy.cls = RX6 ∧ yX6_boughtBy.cls ≠ "java/lang/invoke/MethodHandle" ∧ yX6_boughtBy.cls ≠ "java/lang/invoke/VarHandle" ∧ (parseMethodDescriptor yX6_boughtBy.desc).map (fun d => d.parameters.length) = some 1 := by decide +kernel
set_option maxRecDepth 100000 in
set_option maxHeartbeats 4000000 in
theorem c_X6_boughtBy (l : Launch) (D : va_G) (g : xG) (tb : List xQ) (hT : x_T g tb) {a1 : Int32} (h0 : x_fb tb) {M : xM} {r : Int32} {M' : xM} (hf : f_X6_boughtBy a1 M = some (r, M')) :
    cI l D g tb yX6_boughtBy cX6_boughtBy 2 .int ({ frames := 2, cells := 0, slots := 0, locals := 42 } : Room) [.ref (g.1 4 1664), .int a1] M r M' := by
  refine x_startI (own := RX6) (by decide +kernel) rfl rfl (Nat.le_of_ble_eq_true rfl) hT ?_
  intro p e s m args below meth c Q C0 hend
  unfold f_X6_boughtBy at hf
  refine r_aload_n C0 (kk := 0) 0 rfl dX6_boughtBy_0 ?_
  refine r_iload_n C0 (kk := 1) 1 rfl dX6_boughtBy_1 ?_
  obtain ⟨r3, M2, hc1, hf⟩ := bd2_e hf
  refine r_callVr C0 (As := [.int a1]) (rest := []) (c_X6_buyerAt l D g tb hT h0 hc1) w1_210 w1_212 wp1_3 w1_13 w1_213 (x_rec4 C0 h0.1) hd_X6_buyerAt rfl ⟨rfl, rfl⟩ ⟨Nat.le_of_ble_eq_true rfl, Nat.le_of_ble_eq_true rfl⟩ (by decide) (by decide) rfl (Nat.le_of_ble_eq_true rfl) dX6_boughtBy_2 (fun hm4 => ?_)
  refine r_get1 C0 hm4 7 (by decide) (v := .int (M2 (r3 + 7))) rfl rfl w3_217 dX6_boughtBy_5 ?_
  exact hend hf dX6_boughtBy_8
theorem dX6_consistencyError_0 : decode cX6_consistencyError 0 = .ok (.iconst 0, 1) := by decide +kernel
theorem dX6_consistencyError_1 : decode cX6_consistencyError 1 = .ok (.istore_n 1, 1) := by decide +kernel
theorem dX6_consistencyError_2 : decode cX6_consistencyError 2 = .ok (.iconst 0, 1) := by decide +kernel
theorem dX6_consistencyError_3 : decode cX6_consistencyError 3 = .ok (.istore_n 2, 1) := by decide +kernel
theorem dX6_consistencyError_4 : decode cX6_consistencyError 4 = .ok (.iload_n 2, 1) := by decide +kernel
theorem dX6_consistencyError_5 : decode cX6_consistencyError 5 = .ok (.aload_n 0, 1) := by decide +kernel
theorem dX6_consistencyError_6 : decode cX6_consistencyError 6 = .ok (.getfield 10, 3) := by decide +kernel
theorem dX6_consistencyError_9 : decode cX6_consistencyError 9 = .ok (.getfield 66, 3) := by decide +kernel
theorem dX6_consistencyError_12 : decode cX6_consistencyError 12 = .ok (.if_icmp .ge 57, 3) := by decide +kernel
theorem dX6_consistencyError_15 : decode cX6_consistencyError 15 = .ok (.aload_n 0, 1) := by decide +kernel
theorem dX6_consistencyError_16 : decode cX6_consistencyError 16 = .ok (.getfield 10, 3) := by decide +kernel
theorem dX6_consistencyError_19 : decode cX6_consistencyError 19 = .ok (.getfield 192, 3) := by decide +kernel
theorem dX6_consistencyError_22 : decode cX6_consistencyError 22 = .ok (.iload_n 2, 1) := by decide +kernel
theorem dX6_consistencyError_23 : decode cX6_consistencyError 23 = .ok (.aaload, 1) := by decide +kernel
theorem dX6_consistencyError_24 : decode cX6_consistencyError 24 = .ok (.astore_n 3, 1) := by decide +kernel
theorem dX6_consistencyError_25 : decode cX6_consistencyError 25 = .ok (.aload_n 3, 1) := by decide +kernel
theorem dX6_consistencyError_26 : decode cX6_consistencyError 26 = .ok (.getfield 170, 3) := by decide +kernel
theorem dX6_consistencyError_29 : decode cX6_consistencyError 29 = .ok (.aload_n 0, 1) := by decide +kernel
theorem dX6_consistencyError_30 : decode cX6_consistencyError 30 = .ok (.getfield 10, 3) := by decide +kernel
theorem dX6_consistencyError_33 : decode cX6_consistencyError 33 = .ok (.iload_n 2, 1) := by decide +kernel
theorem dX6_consistencyError_34 : decode cX6_consistencyError 34 = .ok (.invokevirtual 176, 3) := by decide +kernel
theorem dX6_consistencyError_37 : decode cX6_consistencyError 37 = .ok (.iadd, 1) := by decide +kernel
theorem dX6_consistencyError_38 : decode cX6_consistencyError 38 = .ok (.aload_n 3, 1) := by decide +kernel
theorem dX6_consistencyError_39 : decode cX6_consistencyError 39 = .ok (.getfield 179, 3) := by decide +kernel
theorem dX6_consistencyError_42 : decode cX6_consistencyError 42 = .ok (.iadd, 1) := by decide +kernel
theorem dX6_consistencyError_43 : decode cX6_consistencyError 43 = .ok (.aload_n 3, 1) := by decide +kernel
theorem dX6_consistencyError_44 : decode cX6_consistencyError 44 = .ok (.getfield 182, 3) := by decide +kernel
theorem dX6_consistencyError_47 : decode cX6_consistencyError 47 = .ok (.iadd, 1) := by decide +kernel
theorem dX6_consistencyError_48 : decode cX6_consistencyError 48 = .ok (.istore 4, 2) := by decide +kernel
theorem dX6_consistencyError_50 : decode cX6_consistencyError 50 = .ok (.iload_n 1, 1) := by decide +kernel
theorem dX6_consistencyError_51 : decode cX6_consistencyError 51 = .ok (.aload_n 3, 1) := by decide +kernel
theorem dX6_consistencyError_52 : decode cX6_consistencyError 52 = .ok (.getfield 265, 3) := by decide +kernel
theorem dX6_consistencyError_55 : decode cX6_consistencyError 55 = .ok (.iload 4, 2) := by decide +kernel
theorem dX6_consistencyError_57 : decode cX6_consistencyError 57 = .ok (.isub, 1) := by decide +kernel
theorem dX6_consistencyError_58 : decode cX6_consistencyError 58 = .ok (.invokestatic 268, 3) := by decide +kernel
theorem dX6_consistencyError_61 : decode cX6_consistencyError 61 = .ok (.iadd, 1) := by decide +kernel
theorem dX6_consistencyError_62 : decode cX6_consistencyError 62 = .ok (.istore_n 1, 1) := by decide +kernel
theorem dX6_consistencyError_63 : decode cX6_consistencyError 63 = .ok (.iinc 2 1, 3) := by decide +kernel
theorem dX6_consistencyError_66 : decode cX6_consistencyError 66 = .ok (.goto (-62), 3) := by decide +kernel
theorem dX6_consistencyError_69 : decode cX6_consistencyError 69 = .ok (.iload_n 1, 1) := by decide +kernel
theorem dX6_consistencyError_70 : decode cX6_consistencyError 70 = .ok (.ireturn, 1) := by decide +kernel
theorem hd_X6_consistencyError : yX6_consistencyError.cls = RX6 ∧ yX6_consistencyError.cls ≠ "java/lang/invoke/MethodHandle" ∧ yX6_consistencyError.cls ≠ "java/lang/invoke/VarHandle" ∧ (parseMethodDescriptor yX6_consistencyError.desc).map (fun d => d.parameters.length) = some 0 := by decide +kernel
set_option maxRecDepth 100000 in
set_option maxHeartbeats 4000000 in
theorem c_X6_consistencyError (l : Launch) (D : va_G) (g : xG) (tb : List xQ) (hT : x_T g tb)  (h0 : x_fb tb) {M : xM} {r : Int32} {M' : xM} (hf : f_X6_consistencyError  M = some (r, M')) :
    cI l D g tb yX6_consistencyError cX6_consistencyError 5 .int ({ frames := 1, cells := 0, slots := 0, locals := 23 } : Room) [.ref (g.1 4 1664)] M r M' := by
  refine x_startI (own := RX6) (by decide +kernel) rfl rfl (Nat.le_of_ble_eq_true rfl) hT ?_
  intro p e s m args below meth c Q C0 hend
  have B4 : ∀ (k4 : Int32 → Int32 → xM → Option (Int32 × xM)) (hk4 : ∀ (v1 : Int32) (v2 : Int32)  (M : xM), k4 v1 v2 M = some (r, M') → WW p l e ({ frames := 1, cells := 0, slots := 0, locals := 23 } : Room) s m args below meth c 0 0 Q 5 D g tb 4 [(0, .ref (g.1 4 1664)), (1, .int v1), (2, .int v2)] [] M), ∀ (v1 : Int32) (v2 : Int32)  (M : xM), fb_X6_consistencyError_c4 k4  v1 v2 M = some (r, M') → WW p l e ({ frames := 1, cells := 0, slots := 0, locals := 23 } : Room) s m args below meth c 0 0 Q 5 D g tb 4 [(0, .ref (g.1 4 1664)), (1, .int v1), (2, .int v2)] [] M := by
    intro k4 hk4 v1 v2  M hf
    unfold fb_X6_consistencyError_c4 at hf
    refine r_iload_n C0 (kk := 2) 2 rfl dX6_consistencyError_4 ?_
    refine r_aload_n C0 (kk := 0) 0 rfl dX6_consistencyError_5 ?_
    refine r_get4 C0 h0.1 0 (by decide) (v := .ref (g.1 2 0)) rfl rfl w5_87 dX6_consistencyError_6 ?_
    refine r_get2 C0 h0.2.1.1 1 (by decide) (v := .int (M 9)) rfl rfl w3_239 dX6_consistencyError_9 ?_
    refine r_icmp_ge C0 (tgt := 69) (by decide) dX6_consistencyError_12 (fun q1 => ?_) (fun q1 => ?_)
    · have hf := ie_t hf q1
      refine r_iload_n C0 (kk := 1) 1 rfl dX6_consistencyError_69 ?_
      exact hend hf dX6_consistencyError_70
    · have hf := ie_f hf q1
      refine r_aload_n C0 (kk := 0) 0 rfl dX6_consistencyError_15 ?_
      refine r_get4 C0 h0.1 0 (by decide) (v := .ref (g.1 2 0)) rfl rfl w5_87 dX6_consistencyError_16 ?_
      refine r_get2 C0 h0.2.1.1 0 (by decide) (v := .ref (g.1 10 23)) rfl rfl w3_237 dX6_consistencyError_19 ?_
      refine r_iload_n C0 (kk := 2) 2 rfl dX6_consistencyError_22 ?_
      obtain ⟨q2, hf⟩ := gd_e hf
      have hm3 : ((0, (23 + 9 * v2.toNatClampNeg), 0) : xQ) ∈ tb := h0.2.1.2.2.2.2.1 _ (inb_lt q2)
      refine r_aald10 C0 h0.2.1.2.1 (inb_in q2) dX6_consistencyError_23 ?_
      refine r_astore_n C0 (kk := 3) (lv2 := [(3, .ref (g.1 0 (23 + 9 * v2.toNatClampNeg))), (0, .ref (g.1 4 1664)), (1, .int v1), (2, .int v2)]) (by decide) rfl dX6_consistencyError_24 ?_
      refine r_aload_n C0 (kk := 3) 0 rfl dX6_consistencyError_25 ?_
      refine r_get0 C0 hm3 4 (by decide) (v := .int (M ((23 + 9 * v2.toNatClampNeg) + 4))) rfl rfl w3_162 dX6_consistencyError_26 ?_
      refine r_aload_n C0 (kk := 0) 1 rfl dX6_consistencyError_29 ?_
      refine r_get4 C0 h0.1 0 (by decide) (v := .ref (g.1 2 0)) rfl rfl w5_87 dX6_consistencyError_30 ?_
      refine r_iload_n C0 (kk := 2) 3 rfl dX6_consistencyError_33 ?_
      obtain ⟨r6, M5, hc4, hf⟩ := bd2_e hf
      refine r_callVi C0 (As := [.int v2]) (rest := [.int (M ((23 + 9 * v2.toNatClampNeg) + 4))]) (c_X2_countHeld l D g tb hT h0.2.1 hc4) w2_11 w2_12 w2_13 w1_14 w2_14 (x_rec2 C0 h0.2.1.1) hd_X2_countHeld rfl ⟨rfl, rfl⟩ ⟨Nat.le_of_ble_eq_true rfl, Nat.le_of_ble_eq_true rfl⟩ (by decide) (by decide) rfl (Nat.le_of_ble_eq_true rfl) dX6_consistencyError_34 ?_
      refine r_iadd C0 dX6_consistencyError_37 ?_
      refine r_aload_n C0 (kk := 3) 0 rfl dX6_consistencyError_38 ?_
      refine r_get0 C0 hm3 5 (by decide) (v := .int (M5 ((23 + 9 * v2.toNatClampNeg) + 5))) rfl rfl w3_166 dX6_consistencyError_39 ?_
      refine r_iadd C0 dX6_consistencyError_42 ?_
      refine r_aload_n C0 (kk := 3) 0 rfl dX6_consistencyError_43 ?_
      refine r_get0 C0 hm3 6 (by decide) (v := .int (M5 ((23 + 9 * v2.toNatClampNeg) + 6))) rfl rfl w3_168 dX6_consistencyError_44 ?_
      refine r_iadd C0 dX6_consistencyError_47 ?_
      refine r_istore C0 (lv2 := [(4, .int ((((M ((23 + 9 * v2.toNatClampNeg) + 4)) + r6) + (M5 ((23 + 9 * v2.toNatClampNeg) + 5))) + (M5 ((23 + 9 * v2.toNatClampNeg) + 6)))), (3, .ref (g.1 0 (23 + 9 * v2.toNatClampNeg))), (0, .ref (g.1 4 1664)), (1, .int v1), (2, .int v2)]) (by decide) rfl dX6_consistencyError_48 ?_
      refine r_iload_n C0 (kk := 1) 3 rfl dX6_consistencyError_50 ?_
      refine r_aload_n C0 (kk := 3) 1 rfl dX6_consistencyError_51 ?_
      refine r_get0 C0 hm3 8 (by decide) (v := .int (M5 ((23 + 9 * v2.toNatClampNeg) + 8))) rfl rfl w3_173 dX6_consistencyError_52 ?_
      refine r_iload C0 0 rfl dX6_consistencyError_55 ?_
      refine r_isub C0 dX6_consistencyError_57 ?_
      refine r_abs C0 w2_15 w2_16 w1_6 w2_17 (by decide) (Nat.le_of_ble_eq_true rfl) (by decide) (by decide) dX6_consistencyError_58 ?_
      refine r_iadd C0 dX6_consistencyError_61 ?_
      refine r_istore_n C0 (kk := 1) (lv2 := [(1, .int (v1 + (iabs ((M5 ((23 + 9 * v2.toNatClampNeg) + 8)) - ((((M ((23 + 9 * v2.toNatClampNeg) + 4)) + r6) + (M5 ((23 + 9 * v2.toNatClampNeg) + 5))) + (M5 ((23 + 9 * v2.toNatClampNeg) + 6))))))), (4, .int ((((M ((23 + 9 * v2.toNatClampNeg) + 4)) + r6) + (M5 ((23 + 9 * v2.toNatClampNeg) + 5))) + (M5 ((23 + 9 * v2.toNatClampNeg) + 6)))), (3, .ref (g.1 0 (23 + 9 * v2.toNatClampNeg))), (0, .ref (g.1 4 1664)), (2, .int v2)]) (by decide) rfl dX6_consistencyError_62 ?_
      refine r_iincc C0 4 rfl (k0 := 1) (by decide) (by decide) (lv2 := [(2, .int (v2 + 1)), (1, .int (v1 + (iabs ((M5 ((23 + 9 * v2.toNatClampNeg) + 8)) - ((((M ((23 + 9 * v2.toNatClampNeg) + 4)) + r6) + (M5 ((23 + 9 * v2.toNatClampNeg) + 5))) + (M5 ((23 + 9 * v2.toNatClampNeg) + 6))))))), (4, .int ((((M ((23 + 9 * v2.toNatClampNeg) + 4)) + r6) + (M5 ((23 + 9 * v2.toNatClampNeg) + 5))) + (M5 ((23 + 9 * v2.toNatClampNeg) + 6)))), (3, .ref (g.1 0 (23 + 9 * v2.toNatClampNeg))), (0, .ref (g.1 4 1664))]) rfl dX6_consistencyError_63 ?_
      refine r_goto C0 (tgt := 4) (by decide) dX6_consistencyError_66 ?_
      refine WW.sub [4, 1, 0] rfl ?_
      exact hk4 _ _   _ hf
  have L4 : ∀ (v1 : Int32) (v2 : Int32)  (M : xM), f_X6_consistencyError_c4   v1 v2 M = some (r, M') → WW p l e ({ frames := 1, cells := 0, slots := 0, locals := 23 } : Room) s m args below meth c 0 0 Q 5 D g tb 4 [(0, .ref (g.1 4 1664)), (1, .int v1), (2, .int v2)] [] M := lp_ind (P := fun f => ∀ (v1 : Int32) (v2 : Int32)  (M : xM), f v1 v2 M = some (r, M') → WW p l e ({ frames := 1, cells := 0, slots := 0, locals := 23 } : Room) s m args below meth c 0 0 Q 5 D g tb 4 [(0, .ref (g.1 4 1664)), (1, .int v1), (2, .int v2)] [] M) (fun _ _ _ h => none_ne h) (fun f hf => B4 f hf) FU
  unfold f_X6_consistencyError at hf
  refine r_iconst C0 (v := 0) dX6_consistencyError_0 rfl ?_
  refine r_istore_n C0 (kk := 1) (lv2 := [(1, .int 0), (0, .ref (g.1 4 1664))]) (by decide) rfl dX6_consistencyError_1 ?_
  refine r_iconst C0 (v := 0) dX6_consistencyError_2 rfl ?_
  refine r_istore_n C0 (kk := 2) (lv2 := [(2, .int 0), (1, .int 0), (0, .ref (g.1 4 1664))]) (by decide) rfl dX6_consistencyError_3 ?_
  refine WW.sub [2, 1, 0] rfl ?_
  exact L4   _ _   _ hf
theorem dX2_copyFrom_0 : decode cX2_copyFrom 0 = .ok (.aload_n 0, 1) := by decide +kernel
theorem dX2_copyFrom_1 : decode cX2_copyFrom 1 = .ok (.aload_n 1, 1) := by decide +kernel
theorem dX2_copyFrom_2 : decode cX2_copyFrom 2 = .ok (.getfield 29, 3) := by decide +kernel
theorem dX2_copyFrom_5 : decode cX2_copyFrom 5 = .ok (.putfield 29, 3) := by decide +kernel
theorem dX2_copyFrom_8 : decode cX2_copyFrom 8 = .ok (.iconst 0, 1) := by decide +kernel
theorem dX2_copyFrom_9 : decode cX2_copyFrom 9 = .ok (.istore_n 2, 1) := by decide +kernel
theorem dX2_copyFrom_10 : decode cX2_copyFrom 10 = .ok (.iload_n 2, 1) := by decide +kernel
theorem dX2_copyFrom_11 : decode cX2_copyFrom 11 = .ok (.aload_n 0, 1) := by decide +kernel
theorem dX2_copyFrom_12 : decode cX2_copyFrom 12 = .ok (.getfield 29, 3) := by decide +kernel
theorem dX2_copyFrom_15 : decode cX2_copyFrom 15 = .ok (.if_icmp .ge 24, 3) := by decide +kernel
theorem dX2_copyFrom_18 : decode cX2_copyFrom 18 = .ok (.aload_n 0, 1) := by decide +kernel
theorem dX2_copyFrom_19 : decode cX2_copyFrom 19 = .ok (.getfield 11, 3) := by decide +kernel
theorem dX2_copyFrom_22 : decode cX2_copyFrom 22 = .ok (.iload_n 2, 1) := by decide +kernel
theorem dX2_copyFrom_23 : decode cX2_copyFrom 23 = .ok (.aaload, 1) := by decide +kernel
theorem dX2_copyFrom_24 : decode cX2_copyFrom 24 = .ok (.aload_n 1, 1) := by decide +kernel
theorem dX2_copyFrom_25 : decode cX2_copyFrom 25 = .ok (.getfield 11, 3) := by decide +kernel
theorem dX2_copyFrom_28 : decode cX2_copyFrom 28 = .ok (.iload_n 2, 1) := by decide +kernel
theorem dX2_copyFrom_29 : decode cX2_copyFrom 29 = .ok (.aaload, 1) := by decide +kernel
theorem dX2_copyFrom_30 : decode cX2_copyFrom 30 = .ok (.invokevirtual 64, 3) := by decide +kernel
theorem dX2_copyFrom_33 : decode cX2_copyFrom 33 = .ok (.iinc 2 1, 3) := by decide +kernel
theorem dX2_copyFrom_36 : decode cX2_copyFrom 36 = .ok (.goto (-26), 3) := by decide +kernel
theorem dX2_copyFrom_39 : decode cX2_copyFrom 39 = .ok (.aload_n 0, 1) := by decide +kernel
theorem dX2_copyFrom_40 : decode cX2_copyFrom 40 = .ok (.aload_n 1, 1) := by decide +kernel
theorem dX2_copyFrom_41 : decode cX2_copyFrom 41 = .ok (.getfield 33, 3) := by decide +kernel
theorem dX2_copyFrom_44 : decode cX2_copyFrom 44 = .ok (.putfield 33, 3) := by decide +kernel
theorem dX2_copyFrom_47 : decode cX2_copyFrom 47 = .ok (.iconst 0, 1) := by decide +kernel
theorem dX2_copyFrom_48 : decode cX2_copyFrom 48 = .ok (.istore_n 2, 1) := by decide +kernel
theorem dX2_copyFrom_49 : decode cX2_copyFrom 49 = .ok (.iload_n 2, 1) := by decide +kernel
theorem dX2_copyFrom_50 : decode cX2_copyFrom 50 = .ok (.aload_n 0, 1) := by decide +kernel
theorem dX2_copyFrom_51 : decode cX2_copyFrom 51 = .ok (.getfield 33, 3) := by decide +kernel
theorem dX2_copyFrom_54 : decode cX2_copyFrom 54 = .ok (.if_icmp .ge 24, 3) := by decide +kernel
theorem dX2_copyFrom_57 : decode cX2_copyFrom 57 = .ok (.aload_n 0, 1) := by decide +kernel
theorem dX2_copyFrom_58 : decode cX2_copyFrom 58 = .ok (.getfield 19, 3) := by decide +kernel
theorem dX2_copyFrom_61 : decode cX2_copyFrom 61 = .ok (.iload_n 2, 1) := by decide +kernel
theorem dX2_copyFrom_62 : decode cX2_copyFrom 62 = .ok (.aaload, 1) := by decide +kernel
theorem dX2_copyFrom_63 : decode cX2_copyFrom 63 = .ok (.aload_n 1, 1) := by decide +kernel
theorem dX2_copyFrom_64 : decode cX2_copyFrom 64 = .ok (.getfield 19, 3) := by decide +kernel
theorem dX2_copyFrom_67 : decode cX2_copyFrom 67 = .ok (.iload_n 2, 1) := by decide +kernel
theorem dX2_copyFrom_68 : decode cX2_copyFrom 68 = .ok (.aaload, 1) := by decide +kernel
theorem dX2_copyFrom_69 : decode cX2_copyFrom 69 = .ok (.invokevirtual 68, 3) := by decide +kernel
theorem dX2_copyFrom_72 : decode cX2_copyFrom 72 = .ok (.iinc 2 1, 3) := by decide +kernel
theorem dX2_copyFrom_75 : decode cX2_copyFrom 75 = .ok (.goto (-26), 3) := by decide +kernel
theorem dX2_copyFrom_78 : decode cX2_copyFrom 78 = .ok (.aload_n 0, 1) := by decide +kernel
theorem dX2_copyFrom_79 : decode cX2_copyFrom 79 = .ok (.aload_n 1, 1) := by decide +kernel
theorem dX2_copyFrom_80 : decode cX2_copyFrom 80 = .ok (.getfield 36, 3) := by decide +kernel
theorem dX2_copyFrom_83 : decode cX2_copyFrom 83 = .ok (.putfield 36, 3) := by decide +kernel
theorem dX2_copyFrom_86 : decode cX2_copyFrom 86 = .ok (.iconst 0, 1) := by decide +kernel
theorem dX2_copyFrom_87 : decode cX2_copyFrom 87 = .ok (.istore_n 2, 1) := by decide +kernel
theorem dX2_copyFrom_88 : decode cX2_copyFrom 88 = .ok (.iload_n 2, 1) := by decide +kernel
theorem dX2_copyFrom_89 : decode cX2_copyFrom 89 = .ok (.aload_n 0, 1) := by decide +kernel
theorem dX2_copyFrom_90 : decode cX2_copyFrom 90 = .ok (.getfield 36, 3) := by decide +kernel
theorem dX2_copyFrom_93 : decode cX2_copyFrom 93 = .ok (.if_icmp .ge 21, 3) := by decide +kernel
theorem dX2_copyFrom_96 : decode cX2_copyFrom 96 = .ok (.aload_n 0, 1) := by decide +kernel
theorem dX2_copyFrom_97 : decode cX2_copyFrom 97 = .ok (.getfield 23, 3) := by decide +kernel
theorem dX2_copyFrom_100 : decode cX2_copyFrom 100 = .ok (.iload_n 2, 1) := by decide +kernel
theorem dX2_copyFrom_101 : decode cX2_copyFrom 101 = .ok (.aload_n 1, 1) := by decide +kernel
theorem dX2_copyFrom_102 : decode cX2_copyFrom 102 = .ok (.getfield 23, 3) := by decide +kernel
theorem dX2_copyFrom_105 : decode cX2_copyFrom 105 = .ok (.iload_n 2, 1) := by decide +kernel
theorem dX2_copyFrom_106 : decode cX2_copyFrom 106 = .ok (.iaload, 1) := by decide +kernel
theorem dX2_copyFrom_107 : decode cX2_copyFrom 107 = .ok (.iastore, 1) := by decide +kernel
theorem dX2_copyFrom_108 : decode cX2_copyFrom 108 = .ok (.iinc 2 1, 3) := by decide +kernel
theorem dX2_copyFrom_111 : decode cX2_copyFrom 111 = .ok (.goto (-23), 3) := by decide +kernel
theorem dX2_copyFrom_114 : decode cX2_copyFrom 114 = .ok (.aload_n 0, 1) := by decide +kernel
theorem dX2_copyFrom_115 : decode cX2_copyFrom 115 = .ok (.aload_n 1, 1) := by decide +kernel
theorem dX2_copyFrom_116 : decode cX2_copyFrom 116 = .ok (.getfield 39, 3) := by decide +kernel
theorem dX2_copyFrom_119 : decode cX2_copyFrom 119 = .ok (.putfield 39, 3) := by decide +kernel
theorem dX2_copyFrom_122 : decode cX2_copyFrom 122 = .ok (.aload_n 0, 1) := by decide +kernel
theorem dX2_copyFrom_123 : decode cX2_copyFrom 123 = .ok (.aload_n 1, 1) := by decide +kernel
theorem dX2_copyFrom_124 : decode cX2_copyFrom 124 = .ok (.getfield 42, 3) := by decide +kernel
theorem dX2_copyFrom_127 : decode cX2_copyFrom 127 = .ok (.putfield 42, 3) := by decide +kernel
theorem dX2_copyFrom_130 : decode cX2_copyFrom 130 = .ok (.aload_n 0, 1) := by decide +kernel
theorem dX2_copyFrom_131 : decode cX2_copyFrom 131 = .ok (.aload_n 1, 1) := by decide +kernel
theorem dX2_copyFrom_132 : decode cX2_copyFrom 132 = .ok (.getfield 45, 3) := by decide +kernel
theorem dX2_copyFrom_135 : decode cX2_copyFrom 135 = .ok (.putfield 45, 3) := by decide +kernel
theorem dX2_copyFrom_138 : decode cX2_copyFrom 138 = .ok (.aload_n 0, 1) := by decide +kernel
theorem dX2_copyFrom_139 : decode cX2_copyFrom 139 = .ok (.aload_n 1, 1) := by decide +kernel
theorem dX2_copyFrom_140 : decode cX2_copyFrom 140 = .ok (.getfield 48, 3) := by decide +kernel
theorem dX2_copyFrom_143 : decode cX2_copyFrom 143 = .ok (.putfield 48, 3) := by decide +kernel
theorem dX2_copyFrom_146 : decode cX2_copyFrom 146 = .ok (.aload_n 0, 1) := by decide +kernel
theorem dX2_copyFrom_147 : decode cX2_copyFrom 147 = .ok (.aload_n 1, 1) := by decide +kernel
theorem dX2_copyFrom_148 : decode cX2_copyFrom 148 = .ok (.getfield 51, 3) := by decide +kernel
theorem dX2_copyFrom_151 : decode cX2_copyFrom 151 = .ok (.putfield 51, 3) := by decide +kernel
theorem dX2_copyFrom_154 : decode cX2_copyFrom 154 = .ok (.aload_n 0, 1) := by decide +kernel
theorem dX2_copyFrom_155 : decode cX2_copyFrom 155 = .ok (.aload_n 1, 1) := by decide +kernel
theorem dX2_copyFrom_156 : decode cX2_copyFrom 156 = .ok (.getfield 55, 3) := by decide +kernel
theorem dX2_copyFrom_159 : decode cX2_copyFrom 159 = .ok (.putfield 55, 3) := by decide +kernel
theorem dX2_copyFrom_162 : decode cX2_copyFrom 162 = .ok (.aload_n 0, 1) := by decide +kernel
theorem dX2_copyFrom_163 : decode cX2_copyFrom 163 = .ok (.aload_n 1, 1) := by decide +kernel
theorem dX2_copyFrom_164 : decode cX2_copyFrom 164 = .ok (.getfield 58, 3) := by decide +kernel
theorem dX2_copyFrom_167 : decode cX2_copyFrom 167 = .ok (.putfield 58, 3) := by decide +kernel
theorem dX2_copyFrom_170 : decode cX2_copyFrom 170 = .ok (.aload_n 0, 1) := by decide +kernel
theorem dX2_copyFrom_171 : decode cX2_copyFrom 171 = .ok (.aload_n 1, 1) := by decide +kernel
theorem dX2_copyFrom_172 : decode cX2_copyFrom 172 = .ok (.getfield 61, 3) := by decide +kernel
theorem dX2_copyFrom_175 : decode cX2_copyFrom 175 = .ok (.putfield 61, 3) := by decide +kernel
theorem dX2_copyFrom_178 : decode cX2_copyFrom 178 = .ok (.return_, 1) := by decide +kernel
theorem hd_X2_copyFrom : yX2_copyFrom.cls = RX2 ∧ yX2_copyFrom.cls ≠ "java/lang/invoke/MethodHandle" ∧ yX2_copyFrom.cls ≠ "java/lang/invoke/VarHandle" ∧ (parseMethodDescriptor yX2_copyFrom.desc).map (fun d => d.parameters.length) = some 1 := by decide +kernel
set_option maxRecDepth 100000 in
set_option maxHeartbeats 4000000 in
theorem c_X2_copyFrom (l : Launch) (D : va_G) (g : xG) (tb : List xQ) (hT : x_T g tb) {a0 : Nat} {a1 : Nat} (h0 : x_mk tb a0) (h1 : x_mk tb a1) {M M' : xM} (hf : f_X2_copyFrom a0 a1 M = some M') :
    cV l D g tb yX2_copyFrom cX2_copyFrom 3 ({ frames := 1, cells := 0, slots := 0, locals := 21 } : Room) [.ref (g.1 2 a0), .ref (g.1 2 a1)] M M' := by
  refine x_startV (own := RX2) (by decide +kernel) rfl rfl (Nat.le_of_ble_eq_true rfl) hT ?_
  intro p e s m args below meth c Q C0 hend
  have B88 : ∀ (k88 : Int32 → xM → Option xM) (hk88 : ∀ (v2 : Int32)  (M : xM), k88 v2 M = some M' → WW p l e ({ frames := 1, cells := 0, slots := 0, locals := 21 } : Room) s m args below meth c 0 0 Q 3 D g tb 88 [(0, .ref (g.1 2 a0)), (1, .ref (g.1 2 a1)), (2, .int v2)] [] M), ∀ (v2 : Int32)  (M : xM), fb_X2_copyFrom_c88 k88 a0 a1 v2 M = some M' → WW p l e ({ frames := 1, cells := 0, slots := 0, locals := 21 } : Room) s m args below meth c 0 0 Q 3 D g tb 88 [(0, .ref (g.1 2 a0)), (1, .ref (g.1 2 a1)), (2, .int v2)] [] M := by
    intro k88 hk88 v2  M hf
    unfold fb_X2_copyFrom_c88 at hf
    refine r_iload_n C0 (kk := 2) 2 rfl dX2_copyFrom_88 ?_
    refine r_aload_n C0 (kk := 0) 0 rfl dX2_copyFrom_89 ?_
    refine r_get2 C0 h0.1 5 (by decide) (v := .int (M (a0 + 8))) rfl rfl w4_9 dX2_copyFrom_90 ?_
    refine r_icmp_ge C0 (tgt := 114) (by decide) dX2_copyFrom_93 (fun q15 => ?_) (fun q15 => ?_)
    · have hf := ie_t hf q15
      refine r_aload_n C0 (kk := 0) 0 rfl dX2_copyFrom_114 ?_
      refine r_aload_n C0 (kk := 1) 1 rfl dX2_copyFrom_115 ?_
      refine r_get2 C0 h1.1 6 (by decide) (v := .int (M (a1 + 0))) rfl rfl w4_12 dX2_copyFrom_116 ?_
      refine r_put2 C0 h0.1 6 rfl rfl w4_12 rfl rfl rfl dX2_copyFrom_119 ?_
      refine r_aload_n C0 (kk := 0) 0 rfl dX2_copyFrom_122 ?_
      refine r_aload_n C0 (kk := 1) 1 rfl dX2_copyFrom_123 ?_
      refine r_get2 C0 h1.1 7 (by decide) (v := .int ((upd M (a0 + 0) (M (a1 + 0))) (a1 + 7))) rfl rfl w4_14 dX2_copyFrom_124 ?_
      refine r_put2 C0 h0.1 7 rfl rfl w4_14 rfl rfl rfl dX2_copyFrom_127 ?_
      refine r_aload_n C0 (kk := 0) 0 rfl dX2_copyFrom_130 ?_
      refine r_aload_n C0 (kk := 1) 1 rfl dX2_copyFrom_131 ?_
      refine r_get2 C0 h1.1 8 (by decide) (v := .int ((upd (upd M (a0 + 0) (M (a1 + 0))) (a0 + 7) ((upd M (a0 + 0) (M (a1 + 0))) (a1 + 7))) (a1 + 5))) rfl rfl w4_16 dX2_copyFrom_132 ?_
      refine r_put2 C0 h0.1 8 rfl rfl w4_16 rfl rfl rfl dX2_copyFrom_135 ?_
      refine r_aload_n C0 (kk := 0) 0 rfl dX2_copyFrom_138 ?_
      refine r_aload_n C0 (kk := 1) 1 rfl dX2_copyFrom_139 ?_
      refine r_get2 C0 h1.1 9 (by decide) (v := .int ((upd (upd (upd M (a0 + 0) (M (a1 + 0))) (a0 + 7) ((upd M (a0 + 0) (M (a1 + 0))) (a1 + 7))) (a0 + 5) ((upd (upd M (a0 + 0) (M (a1 + 0))) (a0 + 7) ((upd M (a0 + 0) (M (a1 + 0))) (a1 + 7))) (a1 + 5))) (a1 + 6))) rfl rfl w4_18 dX2_copyFrom_140 ?_
      refine r_put2 C0 h0.1 9 rfl rfl w4_18 rfl rfl rfl dX2_copyFrom_143 ?_
      refine r_aload_n C0 (kk := 0) 0 rfl dX2_copyFrom_146 ?_
      refine r_aload_n C0 (kk := 1) 1 rfl dX2_copyFrom_147 ?_
      refine r_get2 C0 h1.1 10 (by decide) (v := .int ((upd (upd (upd (upd M (a0 + 0) (M (a1 + 0))) (a0 + 7) ((upd M (a0 + 0) (M (a1 + 0))) (a1 + 7))) (a0 + 5) ((upd (upd M (a0 + 0) (M (a1 + 0))) (a0 + 7) ((upd M (a0 + 0) (M (a1 + 0))) (a1 + 7))) (a1 + 5))) (a0 + 6) ((upd (upd (upd M (a0 + 0) (M (a1 + 0))) (a0 + 7) ((upd M (a0 + 0) (M (a1 + 0))) (a1 + 7))) (a0 + 5) ((upd (upd M (a0 + 0) (M (a1 + 0))) (a0 + 7) ((upd M (a0 + 0) (M (a1 + 0))) (a1 + 7))) (a1 + 5))) (a1 + 6))) (a1 + 1))) rfl rfl w4_20 dX2_copyFrom_148 ?_
      obtain ⟨q16, hf⟩ := gd_e hf
      refine r_put2 C0 h0.1 10 rfl rfl w4_20 rfl (isb_nar q16) (isb_fit q16) dX2_copyFrom_151 ?_
      refine r_aload_n C0 (kk := 0) 0 rfl dX2_copyFrom_154 ?_
      refine r_aload_n C0 (kk := 1) 1 rfl dX2_copyFrom_155 ?_
      refine r_get2 C0 h1.1 11 (by decide) (v := .int ((upd (upd (upd (upd (upd M (a0 + 0) (M (a1 + 0))) (a0 + 7) ((upd M (a0 + 0) (M (a1 + 0))) (a1 + 7))) (a0 + 5) ((upd (upd M (a0 + 0) (M (a1 + 0))) (a0 + 7) ((upd M (a0 + 0) (M (a1 + 0))) (a1 + 7))) (a1 + 5))) (a0 + 6) ((upd (upd (upd M (a0 + 0) (M (a1 + 0))) (a0 + 7) ((upd M (a0 + 0) (M (a1 + 0))) (a1 + 7))) (a0 + 5) ((upd (upd M (a0 + 0) (M (a1 + 0))) (a0 + 7) ((upd M (a0 + 0) (M (a1 + 0))) (a1 + 7))) (a1 + 5))) (a1 + 6))) (a0 + 1) ((upd (upd (upd (upd M (a0 + 0) (M (a1 + 0))) (a0 + 7) ((upd M (a0 + 0) (M (a1 + 0))) (a1 + 7))) (a0 + 5) ((upd (upd M (a0 + 0) (M (a1 + 0))) (a0 + 7) ((upd M (a0 + 0) (M (a1 + 0))) (a1 + 7))) (a1 + 5))) (a0 + 6) ((upd (upd (upd M (a0 + 0) (M (a1 + 0))) (a0 + 7) ((upd M (a0 + 0) (M (a1 + 0))) (a1 + 7))) (a0 + 5) ((upd (upd M (a0 + 0) (M (a1 + 0))) (a0 + 7) ((upd M (a0 + 0) (M (a1 + 0))) (a1 + 7))) (a1 + 5))) (a1 + 6))) (a1 + 1))) (a1 + 2))) rfl rfl w4_22 dX2_copyFrom_156 ?_
      obtain ⟨q17, hf⟩ := gd_e hf
      refine r_put2 C0 h0.1 11 rfl rfl w4_22 rfl (isb_nar q17) (isb_fit q17) dX2_copyFrom_159 ?_
      refine r_aload_n C0 (kk := 0) 0 rfl dX2_copyFrom_162 ?_
      refine r_aload_n C0 (kk := 1) 1 rfl dX2_copyFrom_163 ?_
      refine r_get2 C0 h1.1 12 (by decide) (v := .int ((upd (upd (upd (upd (upd (upd M (a0 + 0) (M (a1 + 0))) (a0 + 7) ((upd M (a0 + 0) (M (a1 + 0))) (a1 + 7))) (a0 + 5) ((upd (upd M (a0 + 0) (M (a1 + 0))) (a0 + 7) ((upd M (a0 + 0) (M (a1 + 0))) (a1 + 7))) (a1 + 5))) (a0 + 6) ((upd (upd (upd M (a0 + 0) (M (a1 + 0))) (a0 + 7) ((upd M (a0 + 0) (M (a1 + 0))) (a1 + 7))) (a0 + 5) ((upd (upd M (a0 + 0) (M (a1 + 0))) (a0 + 7) ((upd M (a0 + 0) (M (a1 + 0))) (a1 + 7))) (a1 + 5))) (a1 + 6))) (a0 + 1) ((upd (upd (upd (upd M (a0 + 0) (M (a1 + 0))) (a0 + 7) ((upd M (a0 + 0) (M (a1 + 0))) (a1 + 7))) (a0 + 5) ((upd (upd M (a0 + 0) (M (a1 + 0))) (a0 + 7) ((upd M (a0 + 0) (M (a1 + 0))) (a1 + 7))) (a1 + 5))) (a0 + 6) ((upd (upd (upd M (a0 + 0) (M (a1 + 0))) (a0 + 7) ((upd M (a0 + 0) (M (a1 + 0))) (a1 + 7))) (a0 + 5) ((upd (upd M (a0 + 0) (M (a1 + 0))) (a0 + 7) ((upd M (a0 + 0) (M (a1 + 0))) (a1 + 7))) (a1 + 5))) (a1 + 6))) (a1 + 1))) (a0 + 2) ((upd (upd (upd (upd (upd M (a0 + 0) (M (a1 + 0))) (a0 + 7) ((upd M (a0 + 0) (M (a1 + 0))) (a1 + 7))) (a0 + 5) ((upd (upd M (a0 + 0) (M (a1 + 0))) (a0 + 7) ((upd M (a0 + 0) (M (a1 + 0))) (a1 + 7))) (a1 + 5))) (a0 + 6) ((upd (upd (upd M (a0 + 0) (M (a1 + 0))) (a0 + 7) ((upd M (a0 + 0) (M (a1 + 0))) (a1 + 7))) (a0 + 5) ((upd (upd M (a0 + 0) (M (a1 + 0))) (a0 + 7) ((upd M (a0 + 0) (M (a1 + 0))) (a1 + 7))) (a1 + 5))) (a1 + 6))) (a0 + 1) ((upd (upd (upd (upd M (a0 + 0) (M (a1 + 0))) (a0 + 7) ((upd M (a0 + 0) (M (a1 + 0))) (a1 + 7))) (a0 + 5) ((upd (upd M (a0 + 0) (M (a1 + 0))) (a0 + 7) ((upd M (a0 + 0) (M (a1 + 0))) (a1 + 7))) (a1 + 5))) (a0 + 6) ((upd (upd (upd M (a0 + 0) (M (a1 + 0))) (a0 + 7) ((upd M (a0 + 0) (M (a1 + 0))) (a1 + 7))) (a0 + 5) ((upd (upd M (a0 + 0) (M (a1 + 0))) (a0 + 7) ((upd M (a0 + 0) (M (a1 + 0))) (a1 + 7))) (a1 + 5))) (a1 + 6))) (a1 + 1))) (a1 + 2))) (a1 + 3))) rfl rfl w4_24 dX2_copyFrom_164 ?_
      refine r_put2 C0 h0.1 12 rfl rfl w4_24 rfl rfl rfl dX2_copyFrom_167 ?_
      refine r_aload_n C0 (kk := 0) 0 rfl dX2_copyFrom_170 ?_
      refine r_aload_n C0 (kk := 1) 1 rfl dX2_copyFrom_171 ?_
      refine r_get2 C0 h1.1 13 (by decide) (v := .int ((upd (upd (upd (upd (upd (upd (upd M (a0 + 0) (M (a1 + 0))) (a0 + 7) ((upd M (a0 + 0) (M (a1 + 0))) (a1 + 7))) (a0 + 5) ((upd (upd M (a0 + 0) (M (a1 + 0))) (a0 + 7) ((upd M (a0 + 0) (M (a1 + 0))) (a1 + 7))) (a1 + 5))) (a0 + 6) ((upd (upd (upd M (a0 + 0) (M (a1 + 0))) (a0 + 7) ((upd M (a0 + 0) (M (a1 + 0))) (a1 + 7))) (a0 + 5) ((upd (upd M (a0 + 0) (M (a1 + 0))) (a0 + 7) ((upd M (a0 + 0) (M (a1 + 0))) (a1 + 7))) (a1 + 5))) (a1 + 6))) (a0 + 1) ((upd (upd (upd (upd M (a0 + 0) (M (a1 + 0))) (a0 + 7) ((upd M (a0 + 0) (M (a1 + 0))) (a1 + 7))) (a0 + 5) ((upd (upd M (a0 + 0) (M (a1 + 0))) (a0 + 7) ((upd M (a0 + 0) (M (a1 + 0))) (a1 + 7))) (a1 + 5))) (a0 + 6) ((upd (upd (upd M (a0 + 0) (M (a1 + 0))) (a0 + 7) ((upd M (a0 + 0) (M (a1 + 0))) (a1 + 7))) (a0 + 5) ((upd (upd M (a0 + 0) (M (a1 + 0))) (a0 + 7) ((upd M (a0 + 0) (M (a1 + 0))) (a1 + 7))) (a1 + 5))) (a1 + 6))) (a1 + 1))) (a0 + 2) ((upd (upd (upd (upd (upd M (a0 + 0) (M (a1 + 0))) (a0 + 7) ((upd M (a0 + 0) (M (a1 + 0))) (a1 + 7))) (a0 + 5) ((upd (upd M (a0 + 0) (M (a1 + 0))) (a0 + 7) ((upd M (a0 + 0) (M (a1 + 0))) (a1 + 7))) (a1 + 5))) (a0 + 6) ((upd (upd (upd M (a0 + 0) (M (a1 + 0))) (a0 + 7) ((upd M (a0 + 0) (M (a1 + 0))) (a1 + 7))) (a0 + 5) ((upd (upd M (a0 + 0) (M (a1 + 0))) (a0 + 7) ((upd M (a0 + 0) (M (a1 + 0))) (a1 + 7))) (a1 + 5))) (a1 + 6))) (a0 + 1) ((upd (upd (upd (upd M (a0 + 0) (M (a1 + 0))) (a0 + 7) ((upd M (a0 + 0) (M (a1 + 0))) (a1 + 7))) (a0 + 5) ((upd (upd M (a0 + 0) (M (a1 + 0))) (a0 + 7) ((upd M (a0 + 0) (M (a1 + 0))) (a1 + 7))) (a1 + 5))) (a0 + 6) ((upd (upd (upd M (a0 + 0) (M (a1 + 0))) (a0 + 7) ((upd M (a0 + 0) (M (a1 + 0))) (a1 + 7))) (a0 + 5) ((upd (upd M (a0 + 0) (M (a1 + 0))) (a0 + 7) ((upd M (a0 + 0) (M (a1 + 0))) (a1 + 7))) (a1 + 5))) (a1 + 6))) (a1 + 1))) (a1 + 2))) (a0 + 3) ((upd (upd (upd (upd (upd (upd M (a0 + 0) (M (a1 + 0))) (a0 + 7) ((upd M (a0 + 0) (M (a1 + 0))) (a1 + 7))) (a0 + 5) ((upd (upd M (a0 + 0) (M (a1 + 0))) (a0 + 7) ((upd M (a0 + 0) (M (a1 + 0))) (a1 + 7))) (a1 + 5))) (a0 + 6) ((upd (upd (upd M (a0 + 0) (M (a1 + 0))) (a0 + 7) ((upd M (a0 + 0) (M (a1 + 0))) (a1 + 7))) (a0 + 5) ((upd (upd M (a0 + 0) (M (a1 + 0))) (a0 + 7) ((upd M (a0 + 0) (M (a1 + 0))) (a1 + 7))) (a1 + 5))) (a1 + 6))) (a0 + 1) ((upd (upd (upd (upd M (a0 + 0) (M (a1 + 0))) (a0 + 7) ((upd M (a0 + 0) (M (a1 + 0))) (a1 + 7))) (a0 + 5) ((upd (upd M (a0 + 0) (M (a1 + 0))) (a0 + 7) ((upd M (a0 + 0) (M (a1 + 0))) (a1 + 7))) (a1 + 5))) (a0 + 6) ((upd (upd (upd M (a0 + 0) (M (a1 + 0))) (a0 + 7) ((upd M (a0 + 0) (M (a1 + 0))) (a1 + 7))) (a0 + 5) ((upd (upd M (a0 + 0) (M (a1 + 0))) (a0 + 7) ((upd M (a0 + 0) (M (a1 + 0))) (a1 + 7))) (a1 + 5))) (a1 + 6))) (a1 + 1))) (a0 + 2) ((upd (upd (upd (upd (upd M (a0 + 0) (M (a1 + 0))) (a0 + 7) ((upd M (a0 + 0) (M (a1 + 0))) (a1 + 7))) (a0 + 5) ((upd (upd M (a0 + 0) (M (a1 + 0))) (a0 + 7) ((upd M (a0 + 0) (M (a1 + 0))) (a1 + 7))) (a1 + 5))) (a0 + 6) ((upd (upd (upd M (a0 + 0) (M (a1 + 0))) (a0 + 7) ((upd M (a0 + 0) (M (a1 + 0))) (a1 + 7))) (a0 + 5) ((upd (upd M (a0 + 0) (M (a1 + 0))) (a0 + 7) ((upd M (a0 + 0) (M (a1 + 0))) (a1 + 7))) (a1 + 5))) (a1 + 6))) (a0 + 1) ((upd (upd (upd (upd M (a0 + 0) (M (a1 + 0))) (a0 + 7) ((upd M (a0 + 0) (M (a1 + 0))) (a1 + 7))) (a0 + 5) ((upd (upd M (a0 + 0) (M (a1 + 0))) (a0 + 7) ((upd M (a0 + 0) (M (a1 + 0))) (a1 + 7))) (a1 + 5))) (a0 + 6) ((upd (upd (upd M (a0 + 0) (M (a1 + 0))) (a0 + 7) ((upd M (a0 + 0) (M (a1 + 0))) (a1 + 7))) (a0 + 5) ((upd (upd M (a0 + 0) (M (a1 + 0))) (a0 + 7) ((upd M (a0 + 0) (M (a1 + 0))) (a1 + 7))) (a1 + 5))) (a1 + 6))) (a1 + 1))) (a1 + 2))) (a1 + 3))) (a1 + 4))) rfl rfl w4_26 dX2_copyFrom_172 ?_
      refine r_put2 C0 h0.1 13 rfl rfl w4_26 rfl rfl rfl dX2_copyFrom_175 ?_
      exact hend hf dX2_copyFrom_178
    · have hf := ie_f hf q15
      refine r_aload_n C0 (kk := 0) 0 rfl dX2_copyFrom_96 ?_
      refine r_get2 C0 h0.1 4 (by decide) (v := .ref (g.1 6 (a0 + 11))) rfl rfl w4_7 dX2_copyFrom_97 ?_
      refine r_iload_n C0 (kk := 2) 2 rfl dX2_copyFrom_100 ?_
      refine r_aload_n C0 (kk := 1) 1 rfl dX2_copyFrom_101 ?_
      refine r_get2 C0 h1.1 4 (by decide) (v := .ref (g.1 6 (a1 + 11))) rfl rfl w4_7 dX2_copyFrom_102 ?_
      refine r_iload_n C0 (kk := 2) 2 rfl dX2_copyFrom_105 ?_
      obtain ⟨q18, hf⟩ := gd_e hf
      refine r_ialdc C0 h1.2.2.2.1 q18 rfl dX2_copyFrom_106 ?_
      obtain ⟨q19, hf⟩ := gd_e hf
      refine r_iastc C0 h0.2.2.2.1 q19 rfl dX2_copyFrom_107 ?_
      refine r_iincc C0 2 rfl (k0 := 1) (by decide) (by decide) (lv2 := [(2, .int (v2 + 1)), (0, .ref (g.1 2 a0)), (1, .ref (g.1 2 a1))]) rfl dX2_copyFrom_108 ?_
      refine r_goto C0 (tgt := 88) (by decide) dX2_copyFrom_111 ?_
      refine WW.sub [1, 2, 0] rfl ?_
      exact hk88 _   _ hf
  have L88 : ∀ (v2 : Int32)  (M : xM), f_X2_copyFrom_c88  a0 a1 v2 M = some M' → WW p l e ({ frames := 1, cells := 0, slots := 0, locals := 21 } : Room) s m args below meth c 0 0 Q 3 D g tb 88 [(0, .ref (g.1 2 a0)), (1, .ref (g.1 2 a1)), (2, .int v2)] [] M := lp_ind (P := fun f => ∀ (v2 : Int32)  (M : xM), f v2 M = some M' → WW p l e ({ frames := 1, cells := 0, slots := 0, locals := 21 } : Room) s m args below meth c 0 0 Q 3 D g tb 88 [(0, .ref (g.1 2 a0)), (1, .ref (g.1 2 a1)), (2, .int v2)] [] M) (fun _ _ h => none_ne h) (fun f hf => B88 f hf) FU
  have B49 : ∀ (k49 : Int32 → xM → Option xM) (hk49 : ∀ (v2 : Int32)  (M : xM), k49 v2 M = some M' → WW p l e ({ frames := 1, cells := 0, slots := 0, locals := 21 } : Room) s m args below meth c 0 0 Q 3 D g tb 49 [(0, .ref (g.1 2 a0)), (1, .ref (g.1 2 a1)), (2, .int v2)] [] M), ∀ (v2 : Int32)  (M : xM), fb_X2_copyFrom_c49 k49 a0 a1 v2 M = some M' → WW p l e ({ frames := 1, cells := 0, slots := 0, locals := 21 } : Room) s m args below meth c 0 0 Q 3 D g tb 49 [(0, .ref (g.1 2 a0)), (1, .ref (g.1 2 a1)), (2, .int v2)] [] M := by
    intro k49 hk49 v2  M hf
    unfold fb_X2_copyFrom_c49 at hf
    refine r_iload_n C0 (kk := 2) 2 rfl dX2_copyFrom_49 ?_
    refine r_aload_n C0 (kk := 0) 0 rfl dX2_copyFrom_50 ?_
    refine r_get2 C0 h0.1 3 (by decide) (v := .int (M (a0 + 10))) rfl rfl w4_4 dX2_copyFrom_51 ?_
    refine r_icmp_ge C0 (tgt := 78) (by decide) dX2_copyFrom_54 (fun q8 => ?_) (fun q8 => ?_)
    · have hf := ie_t hf q8
      refine r_aload_n C0 (kk := 0) 0 rfl dX2_copyFrom_78 ?_
      refine r_aload_n C0 (kk := 1) 1 rfl dX2_copyFrom_79 ?_
      refine r_get2 C0 h1.1 5 (by decide) (v := .int (M (a1 + 8))) rfl rfl w4_9 dX2_copyFrom_80 ?_
      refine r_put2 C0 h0.1 5 rfl rfl w4_9 rfl rfl rfl dX2_copyFrom_83 ?_
      refine r_iconst C0 (v := 0) dX2_copyFrom_86 rfl ?_
      refine r_istore_n C0 (kk := 2) (lv2 := [(2, .int 0), (0, .ref (g.1 2 a0)), (1, .ref (g.1 2 a1))]) (by decide) rfl dX2_copyFrom_87 ?_
      refine WW.sub [1, 2, 0] rfl ?_
      exact L88   _   _ hf
    · have hf := ie_f hf q8
      refine r_aload_n C0 (kk := 0) 0 rfl dX2_copyFrom_57 ?_
      refine r_get2 C0 h0.1 2 (by decide) (v := .ref (g.1 11 (a0 + 77))) rfl rfl w4_1 dX2_copyFrom_58 ?_
      refine r_iload_n C0 (kk := 2) 2 rfl dX2_copyFrom_61 ?_
      obtain ⟨q9, hf⟩ := gd_e hf
      have hm10 : ((1, ((a0 + 77) + 8 * v2.toNatClampNeg), 0) : xQ) ∈ tb := h0.2.2.2.2.2 _ (inb_lt q9)
      refine r_aald11 C0 h0.2.2.1 (inb_in q9) dX2_copyFrom_62 ?_
      refine r_aload_n C0 (kk := 1) 1 rfl dX2_copyFrom_63 ?_
      refine r_get2 C0 h1.1 2 (by decide) (v := .ref (g.1 11 (a1 + 77))) rfl rfl w4_1 dX2_copyFrom_64 ?_
      refine r_iload_n C0 (kk := 2) 2 rfl dX2_copyFrom_67 ?_
      obtain ⟨q11, hf⟩ := gd_e hf
      have hm12 : ((1, ((a1 + 77) + 8 * v2.toNatClampNeg), 0) : xQ) ∈ tb := h1.2.2.2.2.2 _ (inb_lt q11)
      refine r_aald11 C0 h1.2.2.1 (inb_in q11) dX2_copyFrom_68 ?_
      obtain ⟨M14, hc13, hf⟩ := bd_e hf
      refine r_callVv C0 (As := [.ref (g.1 1 ((a1 + 77) + 8 * v2.toNatClampNeg))]) (rest := []) (c_X1_copyFrom l D g tb hT hm10 hm12 hc13) w2_34 w2_35 w2_36 w1_16 w2_37 (x_rec1 C0 hm10) hd_X1_copyFrom rfl ⟨rfl, rfl⟩ ⟨Nat.le_of_ble_eq_true rfl, Nat.le_of_ble_eq_true rfl⟩ (by decide) (by decide) rfl (Nat.le_of_ble_eq_true rfl) dX2_copyFrom_69 ?_
      refine r_iincc C0 2 rfl (k0 := 1) (by decide) (by decide) (lv2 := [(2, .int (v2 + 1)), (0, .ref (g.1 2 a0)), (1, .ref (g.1 2 a1))]) rfl dX2_copyFrom_72 ?_
      refine r_goto C0 (tgt := 49) (by decide) dX2_copyFrom_75 ?_
      refine WW.sub [1, 2, 0] rfl ?_
      exact hk49 _   _ hf
  have L49 : ∀ (v2 : Int32)  (M : xM), f_X2_copyFrom_c49  a0 a1 v2 M = some M' → WW p l e ({ frames := 1, cells := 0, slots := 0, locals := 21 } : Room) s m args below meth c 0 0 Q 3 D g tb 49 [(0, .ref (g.1 2 a0)), (1, .ref (g.1 2 a1)), (2, .int v2)] [] M := lp_ind (P := fun f => ∀ (v2 : Int32)  (M : xM), f v2 M = some M' → WW p l e ({ frames := 1, cells := 0, slots := 0, locals := 21 } : Room) s m args below meth c 0 0 Q 3 D g tb 49 [(0, .ref (g.1 2 a0)), (1, .ref (g.1 2 a1)), (2, .int v2)] [] M) (fun _ _ h => none_ne h) (fun f hf => B49 f hf) FU
  have B10 : ∀ (k10 : Int32 → xM → Option xM) (hk10 : ∀ (v2 : Int32)  (M : xM), k10 v2 M = some M' → WW p l e ({ frames := 1, cells := 0, slots := 0, locals := 21 } : Room) s m args below meth c 0 0 Q 3 D g tb 10 [(0, .ref (g.1 2 a0)), (1, .ref (g.1 2 a1)), (2, .int v2)] [] M), ∀ (v2 : Int32)  (M : xM), fb_X2_copyFrom_c10 k10 a0 a1 v2 M = some M' → WW p l e ({ frames := 1, cells := 0, slots := 0, locals := 21 } : Room) s m args below meth c 0 0 Q 3 D g tb 10 [(0, .ref (g.1 2 a0)), (1, .ref (g.1 2 a1)), (2, .int v2)] [] M := by
    intro k10 hk10 v2  M hf
    unfold fb_X2_copyFrom_c10 at hf
    refine r_iload_n C0 (kk := 2) 2 rfl dX2_copyFrom_10 ?_
    refine r_aload_n C0 (kk := 0) 0 rfl dX2_copyFrom_11 ?_
    refine r_get2 C0 h0.1 1 (by decide) (v := .int (M (a0 + 9))) rfl rfl w3_238 dX2_copyFrom_12 ?_
    refine r_icmp_ge C0 (tgt := 39) (by decide) dX2_copyFrom_15 (fun q1 => ?_) (fun q1 => ?_)
    · have hf := ie_t hf q1
      refine r_aload_n C0 (kk := 0) 0 rfl dX2_copyFrom_39 ?_
      refine r_aload_n C0 (kk := 1) 1 rfl dX2_copyFrom_40 ?_
      refine r_get2 C0 h1.1 3 (by decide) (v := .int (M (a1 + 10))) rfl rfl w4_4 dX2_copyFrom_41 ?_
      refine r_put2 C0 h0.1 3 rfl rfl w4_4 rfl rfl rfl dX2_copyFrom_44 ?_
      refine r_iconst C0 (v := 0) dX2_copyFrom_47 rfl ?_
      refine r_istore_n C0 (kk := 2) (lv2 := [(2, .int 0), (0, .ref (g.1 2 a0)), (1, .ref (g.1 2 a1))]) (by decide) rfl dX2_copyFrom_48 ?_
      refine WW.sub [1, 2, 0] rfl ?_
      exact L49   _   _ hf
    · have hf := ie_f hf q1
      refine r_aload_n C0 (kk := 0) 0 rfl dX2_copyFrom_18 ?_
      refine r_get2 C0 h0.1 0 (by decide) (v := .ref (g.1 10 (a0 + 23))) rfl rfl w3_235 dX2_copyFrom_19 ?_
      refine r_iload_n C0 (kk := 2) 2 rfl dX2_copyFrom_22 ?_
      obtain ⟨q2, hf⟩ := gd_e hf
      have hm3 : ((0, ((a0 + 23) + 9 * v2.toNatClampNeg), 0) : xQ) ∈ tb := h0.2.2.2.2.1 _ (inb_lt q2)
      refine r_aald10 C0 h0.2.1 (inb_in q2) dX2_copyFrom_23 ?_
      refine r_aload_n C0 (kk := 1) 1 rfl dX2_copyFrom_24 ?_
      refine r_get2 C0 h1.1 0 (by decide) (v := .ref (g.1 10 (a1 + 23))) rfl rfl w3_235 dX2_copyFrom_25 ?_
      refine r_iload_n C0 (kk := 2) 2 rfl dX2_copyFrom_28 ?_
      obtain ⟨q4, hf⟩ := gd_e hf
      have hm5 : ((0, ((a1 + 23) + 9 * v2.toNatClampNeg), 0) : xQ) ∈ tb := h1.2.2.2.2.1 _ (inb_lt q4)
      refine r_aald10 C0 h1.2.1 (inb_in q4) dX2_copyFrom_29 ?_
      obtain ⟨M7, hc6, hf⟩ := bd_e hf
      refine r_callVv C0 (As := [.ref (g.1 0 ((a1 + 23) + 9 * v2.toNatClampNeg))]) (rest := []) (c_X4_copyFrom l D g tb hT hm3 hm5 hc6) w2_30 w2_31 w2_32 w1_15 w2_33 (x_rec0 C0 hm3) hd_X4_copyFrom rfl ⟨rfl, rfl⟩ ⟨Nat.le_of_ble_eq_true rfl, Nat.le_of_ble_eq_true rfl⟩ (by decide) (by decide) rfl (Nat.le_of_ble_eq_true rfl) dX2_copyFrom_30 ?_
      refine r_iincc C0 2 rfl (k0 := 1) (by decide) (by decide) (lv2 := [(2, .int (v2 + 1)), (0, .ref (g.1 2 a0)), (1, .ref (g.1 2 a1))]) rfl dX2_copyFrom_33 ?_
      refine r_goto C0 (tgt := 10) (by decide) dX2_copyFrom_36 ?_
      refine WW.sub [1, 2, 0] rfl ?_
      exact hk10 _   _ hf
  have L10 : ∀ (v2 : Int32)  (M : xM), f_X2_copyFrom_c10  a0 a1 v2 M = some M' → WW p l e ({ frames := 1, cells := 0, slots := 0, locals := 21 } : Room) s m args below meth c 0 0 Q 3 D g tb 10 [(0, .ref (g.1 2 a0)), (1, .ref (g.1 2 a1)), (2, .int v2)] [] M := lp_ind (P := fun f => ∀ (v2 : Int32)  (M : xM), f v2 M = some M' → WW p l e ({ frames := 1, cells := 0, slots := 0, locals := 21 } : Room) s m args below meth c 0 0 Q 3 D g tb 10 [(0, .ref (g.1 2 a0)), (1, .ref (g.1 2 a1)), (2, .int v2)] [] M) (fun _ _ h => none_ne h) (fun f hf => B10 f hf) FU
  unfold f_X2_copyFrom at hf
  refine r_aload_n C0 (kk := 0) 0 rfl dX2_copyFrom_0 ?_
  refine r_aload_n C0 (kk := 1) 1 rfl dX2_copyFrom_1 ?_
  refine r_get2 C0 h1.1 1 (by decide) (v := .int (M (a1 + 9))) rfl rfl w3_238 dX2_copyFrom_2 ?_
  refine r_put2 C0 h0.1 1 rfl rfl w3_238 rfl rfl rfl dX2_copyFrom_5 ?_
  refine r_iconst C0 (v := 0) dX2_copyFrom_8 rfl ?_
  refine r_istore_n C0 (kk := 2) (lv2 := [(2, .int 0), (0, .ref (g.1 2 a0)), (1, .ref (g.1 2 a1))]) (by decide) rfl dX2_copyFrom_9 ?_
  refine WW.sub [1, 2, 0] rfl ?_
  exact L10   _   _ hf
theorem dX2_returnGood_0 : decode cX2_returnGood 0 = .ok (.aload_n 0, 1) := by decide +kernel
theorem dX2_returnGood_1 : decode cX2_returnGood 1 = .ok (.aload_n 1, 1) := by decide +kernel
theorem dX2_returnGood_2 : decode cX2_returnGood 2 = .ok (.getfield 81, 3) := by decide +kernel
theorem dX2_returnGood_5 : decode cX2_returnGood 5 = .ok (.invokevirtual 113, 3) := by decide +kernel
theorem dX2_returnGood_8 : decode cX2_returnGood 8 = .ok (.ifCond .eq 21, 3) := by decide +kernel
theorem dX2_returnGood_11 : decode cX2_returnGood 11 = .ok (.aload_n 0, 1) := by decide +kernel
theorem dX2_returnGood_12 : decode cX2_returnGood 12 = .ok (.getfield 11, 3) := by decide +kernel
theorem dX2_returnGood_15 : decode cX2_returnGood 15 = .ok (.aload_n 1, 1) := by decide +kernel
theorem dX2_returnGood_16 : decode cX2_returnGood 16 = .ok (.getfield 81, 3) := by decide +kernel
theorem dX2_returnGood_19 : decode cX2_returnGood 19 = .ok (.aaload, 1) := by decide +kernel
theorem dX2_returnGood_20 : decode cX2_returnGood 20 = .ok (.dup, 1) := by decide +kernel
theorem dX2_returnGood_21 : decode cX2_returnGood 21 = .ok (.getfield 116, 3) := by decide +kernel
theorem dX2_returnGood_24 : decode cX2_returnGood 24 = .ok (.iconst 1, 1) := by decide +kernel
theorem dX2_returnGood_25 : decode cX2_returnGood 25 = .ok (.iadd, 1) := by decide +kernel
theorem dX2_returnGood_26 : decode cX2_returnGood 26 = .ok (.putfield 116, 3) := by decide +kernel
theorem dX2_returnGood_29 : decode cX2_returnGood 29 = .ok (.aload_n 1, 1) := by decide +kernel
theorem dX2_returnGood_30 : decode cX2_returnGood 30 = .ok (.invokevirtual 119, 3) := by decide +kernel
theorem dX2_returnGood_33 : decode cX2_returnGood 33 = .ok (.return_, 1) := by decide +kernel
theorem hd_X2_returnGood : yX2_returnGood.cls = RX2 ∧ yX2_returnGood.cls ≠ "java/lang/invoke/MethodHandle" ∧ yX2_returnGood.cls ≠ "java/lang/invoke/VarHandle" ∧ (parseMethodDescriptor yX2_returnGood.desc).map (fun d => d.parameters.length) = some 1 := by decide +kernel
set_option maxRecDepth 100000 in
set_option maxHeartbeats 4000000 in
theorem c_X2_returnGood (l : Launch) (D : va_G) (g : xG) (tb : List xQ) (hT : x_T g tb) {a0 : Nat} {a1 : Nat} (h0 : x_mk tb a0) (h1 : ((1, a1, 0) : xQ) ∈ tb) {M M' : xM} (hf : f_X2_returnGood a0 a1 M = some M') :
    cV l D g tb yX2_returnGood cX2_returnGood 2 ({ frames := 1, cells := 0, slots := 0, locals := 21 } : Room) [.ref (g.1 2 a0), .ref (g.1 1 a1)] M M' := by
  refine x_startV (own := RX2) (by decide +kernel) rfl rfl (Nat.le_of_ble_eq_true rfl) hT ?_
  intro p e s m args below meth c Q C0 hend
  unfold f_X2_returnGood at hf
  refine r_aload_n C0 (kk := 0) 0 rfl dX2_returnGood_0 ?_
  refine r_aload_n C0 (kk := 1) 1 rfl dX2_returnGood_1 ?_
  refine r_get1 C0 h1 4 (by decide) (v := .int (M (a1 + 4))) rfl rfl w3_209 dX2_returnGood_2 ?_
  obtain ⟨r3, M2, hc1, hf⟩ := bd2_e hf
  refine r_callVi C0 (As := [.int (M (a1 + 4))]) (rest := []) (c_X2_isStall l D g tb hT h0 hc1) w2_62 w2_63 w2_64 w1_14 w2_65 (x_rec2 C0 h0.1) hd_X2_isStall rfl ⟨rfl, rfl⟩ ⟨Nat.le_of_ble_eq_true rfl, Nat.le_of_ble_eq_true rfl⟩ (by decide) (by decide) rfl (Nat.le_of_ble_eq_true rfl) dX2_returnGood_5 ?_
  refine r_if_eq C0 (tgt := 29) (by decide) dX2_returnGood_8 (fun q4 => ?_) (fun q4 => ?_)
  · have hf := ie_t hf q4
    refine r_aload_n C0 (kk := 1) 1 rfl dX2_returnGood_29 ?_
    obtain ⟨M6, hc5, hf⟩ := bd_e hf
    refine r_callVv C0 (As := []) (rest := []) (c_X1_letGo l D g tb hT h1 hc5) w2_66 w2_67 w2_68 w1_16 w2_69 (x_rec1 C0 h1) hd_X1_letGo rfl ⟨rfl, rfl⟩ ⟨Nat.le_of_ble_eq_true rfl, Nat.le_of_ble_eq_true rfl⟩ (by decide) (by decide) rfl (Nat.le_of_ble_eq_true rfl) dX2_returnGood_30 ?_
    exact hend hf dX2_returnGood_33
  · have hf := ie_f hf q4
    refine r_aload_n C0 (kk := 0) 0 rfl dX2_returnGood_11 ?_
    refine r_get2 C0 h0.1 0 (by decide) (v := .ref (g.1 10 (a0 + 23))) rfl rfl w3_235 dX2_returnGood_12 ?_
    refine r_aload_n C0 (kk := 1) 1 rfl dX2_returnGood_15 ?_
    refine r_get1 C0 h1 4 (by decide) (v := .int (M2 (a1 + 4))) rfl rfl w3_209 dX2_returnGood_16 ?_
    obtain ⟨q7, hf⟩ := gd_e hf
    have hm8 : ((0, ((a0 + 23) + 9 * (M2 (a1 + 4)).toNatClampNeg), 0) : xQ) ∈ tb := h0.2.2.2.2.1 _ (inb_lt q7)
    refine r_aald10 C0 h0.2.1 (inb_in q7) dX2_returnGood_19 ?_
    refine r_dup C0 rfl dX2_returnGood_20 ?_
    refine r_get0 C0 hm8 4 (by decide) (v := .int (M2 (((a0 + 23) + 9 * (M2 (a1 + 4)).toNatClampNeg) + 4))) rfl rfl w3_161 dX2_returnGood_21 ?_
    refine r_iconst C0 (v := 1) dX2_returnGood_24 rfl ?_
    refine r_iadd C0 dX2_returnGood_25 ?_
    refine r_put0 C0 hm8 4 rfl rfl w3_161 rfl rfl rfl dX2_returnGood_26 ?_
    refine r_aload_n C0 (kk := 1) 1 rfl dX2_returnGood_29 ?_
    obtain ⟨M10, hc9, hf⟩ := bd_e hf
    refine r_callVv C0 (As := []) (rest := []) (c_X1_letGo l D g tb hT h1 hc9) w2_66 w2_67 w2_68 w1_16 w2_69 (x_rec1 C0 h1) hd_X1_letGo rfl ⟨rfl, rfl⟩ ⟨Nat.le_of_ble_eq_true rfl, Nat.le_of_ble_eq_true rfl⟩ (by decide) (by decide) rfl (Nat.le_of_ble_eq_true rfl) dX2_returnGood_30 ?_
    exact hend hf dX2_returnGood_33
theorem dX2_findTarget_0 : decode cX2_findTarget 0 = .ok (.iconst (-1), 1) := by decide +kernel
theorem dX2_findTarget_1 : decode cX2_findTarget 1 = .ok (.istore_n 3, 1) := by decide +kernel
theorem dX2_findTarget_2 : decode cX2_findTarget 2 = .ok (.bipush 100, 2) := by decide +kernel
theorem dX2_findTarget_4 : decode cX2_findTarget 4 = .ok (.istore 4, 2) := by decide +kernel
theorem dX2_findTarget_6 : decode cX2_findTarget 6 = .ok (.iconst 0, 1) := by decide +kernel
theorem dX2_findTarget_7 : decode cX2_findTarget 7 = .ok (.istore 5, 2) := by decide +kernel
theorem dX2_findTarget_9 : decode cX2_findTarget 9 = .ok (.iload 5, 2) := by decide +kernel
theorem dX2_findTarget_11 : decode cX2_findTarget 11 = .ok (.aload_n 0, 1) := by decide +kernel
theorem dX2_findTarget_12 : decode cX2_findTarget 12 = .ok (.getfield 29, 3) := by decide +kernel
theorem dX2_findTarget_15 : decode cX2_findTarget 15 = .ok (.if_icmp .ge 83, 3) := by decide +kernel
theorem dX2_findTarget_18 : decode cX2_findTarget 18 = .ok (.aload_n 0, 1) := by decide +kernel
theorem dX2_findTarget_19 : decode cX2_findTarget 19 = .ok (.getfield 11, 3) := by decide +kernel
theorem dX2_findTarget_22 : decode cX2_findTarget 22 = .ok (.iload 5, 2) := by decide +kernel
theorem dX2_findTarget_24 : decode cX2_findTarget 24 = .ok (.aaload, 1) := by decide +kernel
theorem dX2_findTarget_25 : decode cX2_findTarget 25 = .ok (.getfield 84, 3) := by decide +kernel
theorem dX2_findTarget_28 : decode cX2_findTarget 28 = .ok (.aload_n 1, 1) := by decide +kernel
theorem dX2_findTarget_29 : decode cX2_findTarget 29 = .ok (.getfield 87, 3) := by decide +kernel
theorem dX2_findTarget_32 : decode cX2_findTarget 32 = .ok (.isub, 1) := by decide +kernel
theorem dX2_findTarget_33 : decode cX2_findTarget 33 = .ok (.invokestatic 88, 3) := by decide +kernel
theorem dX2_findTarget_36 : decode cX2_findTarget 36 = .ok (.istore 6, 2) := by decide +kernel
theorem dX2_findTarget_38 : decode cX2_findTarget 38 = .ok (.iload 6, 2) := by decide +kernel
theorem dX2_findTarget_40 : decode cX2_findTarget 40 = .ok (.aload_n 0, 1) := by decide +kernel
theorem dX2_findTarget_41 : decode cX2_findTarget 41 = .ok (.getfield 11, 3) := by decide +kernel
theorem dX2_findTarget_44 : decode cX2_findTarget 44 = .ok (.iload 5, 2) := by decide +kernel
theorem dX2_findTarget_46 : decode cX2_findTarget 46 = .ok (.aaload, 1) := by decide +kernel
theorem dX2_findTarget_47 : decode cX2_findTarget 47 = .ok (.getfield 93, 3) := by decide +kernel
theorem dX2_findTarget_50 : decode cX2_findTarget 50 = .ok (.iload_n 2, 1) := by decide +kernel
theorem dX2_findTarget_51 : decode cX2_findTarget 51 = .ok (.invokestatic 96, 3) := by decide +kernel
theorem dX2_findTarget_54 : decode cX2_findTarget 54 = .ok (.if_icmp .gt 7, 3) := by decide +kernel
theorem dX2_findTarget_57 : decode cX2_findTarget 57 = .ok (.iconst 1, 1) := by decide +kernel
theorem dX2_findTarget_58 : decode cX2_findTarget 58 = .ok (.goto 4, 3) := by decide +kernel
theorem dX2_findTarget_61 : decode cX2_findTarget 61 = .ok (.iconst 0, 1) := by decide +kernel
theorem dX2_findTarget_62 : decode cX2_findTarget 62 = .ok (.istore 7, 2) := by decide +kernel
theorem dX2_findTarget_64 : decode cX2_findTarget 64 = .ok (.iload 7, 2) := by decide +kernel
theorem dX2_findTarget_66 : decode cX2_findTarget 66 = .ok (.ifCond .eq 26, 3) := by decide +kernel
theorem dX2_findTarget_69 : decode cX2_findTarget 69 = .ok (.iload 6, 2) := by decide +kernel
theorem dX2_findTarget_71 : decode cX2_findTarget 71 = .ok (.iload 4, 2) := by decide +kernel
theorem dX2_findTarget_73 : decode cX2_findTarget 73 = .ok (.if_icmp .ge 19, 3) := by decide +kernel
theorem dX2_findTarget_76 : decode cX2_findTarget 76 = .ok (.aload_n 1, 1) := by decide +kernel
theorem dX2_findTarget_77 : decode cX2_findTarget 77 = .ok (.iload 5, 2) := by decide +kernel
theorem dX2_findTarget_79 : decode cX2_findTarget 79 = .ok (.invokevirtual 100, 3) := by decide +kernel
theorem dX2_findTarget_82 : decode cX2_findTarget 82 = .ok (.ifCond .ne 10, 3) := by decide +kernel
theorem dX2_findTarget_85 : decode cX2_findTarget 85 = .ok (.iload 5, 2) := by decide +kernel
theorem dX2_findTarget_87 : decode cX2_findTarget 87 = .ok (.istore_n 3, 1) := by decide +kernel
theorem dX2_findTarget_88 : decode cX2_findTarget 88 = .ok (.iload 6, 2) := by decide +kernel
theorem dX2_findTarget_90 : decode cX2_findTarget 90 = .ok (.istore 4, 2) := by decide +kernel
theorem dX2_findTarget_92 : decode cX2_findTarget 92 = .ok (.iinc 5 1, 3) := by decide +kernel
theorem dX2_findTarget_95 : decode cX2_findTarget 95 = .ok (.goto (-86), 3) := by decide +kernel
theorem dX2_findTarget_98 : decode cX2_findTarget 98 = .ok (.iload_n 3, 1) := by decide +kernel
theorem dX2_findTarget_99 : decode cX2_findTarget 99 = .ok (.ireturn, 1) := by decide +kernel
theorem hd_X2_findTarget : yX2_findTarget.cls = RX2 ∧ yX2_findTarget.cls ≠ "java/lang/invoke/MethodHandle" ∧ yX2_findTarget.cls ≠ "java/lang/invoke/VarHandle" ∧ (parseMethodDescriptor yX2_findTarget.desc).map (fun d => d.parameters.length) = some 2 := by decide +kernel
set_option maxRecDepth 100000 in
set_option maxHeartbeats 4000000 in
theorem c_X2_findTarget (l : Launch) (D : va_G) (g : xG) (tb : List xQ) (hT : x_T g tb) {a0 : Nat} {a1 : Nat} {a2 : Int32} (h0 : x_mk tb a0) (h1 : ((1, a1, 0) : xQ) ∈ tb) {M : xM} {r : Int32} {M' : xM} (hf : f_X2_findTarget a0 a1 a2 M = some (r, M')) :
    cI l D g tb yX2_findTarget cX2_findTarget 8 .int ({ frames := 1, cells := 0, slots := 0, locals := 21 } : Room) [.ref (g.1 2 a0), .ref (g.1 1 a1), .int a2] M r M' := by
  refine x_startI (own := RX2) (by decide +kernel) rfl rfl (Nat.le_of_ble_eq_true rfl) hT ?_
  intro p e s m args below meth c Q C0 hend
  have B62 : ∀ (k9 : Int32 → Int32 → Int32 → xM → Option (Int32 × xM)) (hk9 : ∀ (v3 : Int32) (v4 : Int32) (v5 : Int32)  (M : xM), k9 v3 v4 v5 M = some (r, M') → WW p l e ({ frames := 1, cells := 0, slots := 0, locals := 21 } : Room) s m args below meth c 0 0 Q 8 D g tb 9 [(0, .ref (g.1 2 a0)), (1, .ref (g.1 1 a1)), (2, .int a2), (3, .int v3), (4, .int v4), (5, .int v5)] [] M), ∀ (v3 : Int32) (v4 : Int32) (v5 : Int32) (v6 : Int32) (s0 : Int32)  (M : xM), f_X2_findTarget_c62 k9 a0 a1 a2 v3 v4 v5 v6 s0 M = some (r, M') → WW p l e ({ frames := 1, cells := 0, slots := 0, locals := 21 } : Room) s m args below meth c 0 0 Q 8 D g tb 62 [(0, .ref (g.1 2 a0)), (1, .ref (g.1 1 a1)), (2, .int a2), (3, .int v3), (4, .int v4), (5, .int v5), (6, .int v6)] [.int s0] M := by
    intro k9 hk9 v3 v4 v5 v6 s0  M hf
    unfold f_X2_findTarget_c62 at hf
    refine r_istore C0 (lv2 := [(7, .int s0), (0, .ref (g.1 2 a0)), (1, .ref (g.1 1 a1)), (2, .int a2), (3, .int v3), (4, .int v4), (5, .int v5), (6, .int v6)]) (by decide) rfl dX2_findTarget_62 ?_
    refine r_iload C0 0 rfl dX2_findTarget_64 ?_
    refine r_if_eq C0 (tgt := 92) (by decide) dX2_findTarget_66 (fun q10 => ?_) (fun q10 => ?_)
    · have hf := ie_t hf q10
      refine r_iincc C0 6 rfl (k0 := 1) (by decide) (by decide) (lv2 := [(5, .int (v5 + 1)), (7, .int s0), (0, .ref (g.1 2 a0)), (1, .ref (g.1 1 a1)), (2, .int a2), (3, .int v3), (4, .int v4), (6, .int v6)]) rfl dX2_findTarget_92 ?_
      refine r_goto C0 (tgt := 9) (by decide) dX2_findTarget_95 ?_
      refine WW.sub [2, 3, 4, 5, 6, 0] rfl ?_
      exact hk9 _ _ _   _ hf
    · have hf := ie_f hf q10
      refine r_iload C0 7 rfl dX2_findTarget_69 ?_
      refine r_iload C0 5 rfl dX2_findTarget_71 ?_
      refine r_icmp_ge C0 (tgt := 92) (by decide) dX2_findTarget_73 (fun q11 => ?_) (fun q11 => ?_)
      · have hf := ie_t hf q11
        refine r_iincc C0 6 rfl (k0 := 1) (by decide) (by decide) (lv2 := [(5, .int (v5 + 1)), (7, .int s0), (0, .ref (g.1 2 a0)), (1, .ref (g.1 1 a1)), (2, .int a2), (3, .int v3), (4, .int v4), (6, .int v6)]) rfl dX2_findTarget_92 ?_
        refine r_goto C0 (tgt := 9) (by decide) dX2_findTarget_95 ?_
        refine WW.sub [2, 3, 4, 5, 6, 0] rfl ?_
        exact hk9 _ _ _   _ hf
      · have hf := ie_f hf q11
        refine r_aload_n C0 (kk := 1) 2 rfl dX2_findTarget_76 ?_
        refine r_iload C0 6 rfl dX2_findTarget_77 ?_
        obtain ⟨r14, M13, hc12, hf⟩ := bd2_e hf
        refine r_callVi C0 (As := [.int v5]) (rest := []) (c_X1_avoids l D g tb hT h1 hc12) w2_92 w2_93 w2_94 w1_16 w2_95 (x_rec1 C0 h1) hd_X1_avoids rfl ⟨rfl, rfl⟩ ⟨Nat.le_of_ble_eq_true rfl, Nat.le_of_ble_eq_true rfl⟩ (by decide) (by decide) rfl (Nat.le_of_ble_eq_true rfl) dX2_findTarget_79 ?_
        refine r_if_ne C0 (tgt := 92) (by decide) dX2_findTarget_82 (fun q15 => ?_) (fun q15 => ?_)
        · have hf := ie_f hf q15
          refine r_iincc C0 6 rfl (k0 := 1) (by decide) (by decide) (lv2 := [(5, .int (v5 + 1)), (7, .int s0), (0, .ref (g.1 2 a0)), (1, .ref (g.1 1 a1)), (2, .int a2), (3, .int v3), (4, .int v4), (6, .int v6)]) rfl dX2_findTarget_92 ?_
          refine r_goto C0 (tgt := 9) (by decide) dX2_findTarget_95 ?_
          refine WW.sub [2, 3, 4, 5, 6, 0] rfl ?_
          exact hk9 _ _ _   _ hf
        · have hf := ie_t hf q15
          refine r_iload C0 6 rfl dX2_findTarget_85 ?_
          refine r_istore_n C0 (kk := 3) (lv2 := [(3, .int v5), (7, .int s0), (0, .ref (g.1 2 a0)), (1, .ref (g.1 1 a1)), (2, .int a2), (4, .int v4), (5, .int v5), (6, .int v6)]) (by decide) rfl dX2_findTarget_87 ?_
          refine r_iload C0 7 rfl dX2_findTarget_88 ?_
          refine r_istore C0 (lv2 := [(4, .int v6), (3, .int v5), (7, .int s0), (0, .ref (g.1 2 a0)), (1, .ref (g.1 1 a1)), (2, .int a2), (5, .int v5), (6, .int v6)]) (by decide) rfl dX2_findTarget_90 ?_
          refine r_iincc C0 6 rfl (k0 := 1) (by decide) (by decide) (lv2 := [(5, .int (v5 + 1)), (4, .int v6), (3, .int v5), (7, .int s0), (0, .ref (g.1 2 a0)), (1, .ref (g.1 1 a1)), (2, .int a2), (6, .int v6)]) rfl dX2_findTarget_92 ?_
          refine r_goto C0 (tgt := 9) (by decide) dX2_findTarget_95 ?_
          refine WW.sub [4, 5, 6, 2, 1, 0] rfl ?_
          exact hk9 _ _ _   _ hf
  have B9 : ∀ (k9 : Int32 → Int32 → Int32 → xM → Option (Int32 × xM)) (hk9 : ∀ (v3 : Int32) (v4 : Int32) (v5 : Int32)  (M : xM), k9 v3 v4 v5 M = some (r, M') → WW p l e ({ frames := 1, cells := 0, slots := 0, locals := 21 } : Room) s m args below meth c 0 0 Q 8 D g tb 9 [(0, .ref (g.1 2 a0)), (1, .ref (g.1 1 a1)), (2, .int a2), (3, .int v3), (4, .int v4), (5, .int v5)] [] M), ∀ (v3 : Int32) (v4 : Int32) (v5 : Int32)  (M : xM), fb_X2_findTarget_c9 k9 a0 a1 a2 v3 v4 v5 M = some (r, M') → WW p l e ({ frames := 1, cells := 0, slots := 0, locals := 21 } : Room) s m args below meth c 0 0 Q 8 D g tb 9 [(0, .ref (g.1 2 a0)), (1, .ref (g.1 1 a1)), (2, .int a2), (3, .int v3), (4, .int v4), (5, .int v5)] [] M := by
    intro k9 hk9 v3 v4 v5  M hf
    unfold fb_X2_findTarget_c9 at hf
    refine r_iload C0 5 rfl dX2_findTarget_9 ?_
    refine r_aload_n C0 (kk := 0) 0 rfl dX2_findTarget_11 ?_
    refine r_get2 C0 h0.1 1 (by decide) (v := .int (M (a0 + 9))) rfl rfl w3_238 dX2_findTarget_12 ?_
    refine r_icmp_ge C0 (tgt := 98) (by decide) dX2_findTarget_15 (fun q1 => ?_) (fun q1 => ?_)
    · have hf := ie_t hf q1
      refine r_iload_n C0 (kk := 3) 3 rfl dX2_findTarget_98 ?_
      exact hend hf dX2_findTarget_99
    · have hf := ie_f hf q1
      refine r_aload_n C0 (kk := 0) 0 rfl dX2_findTarget_18 ?_
      refine r_get2 C0 h0.1 0 (by decide) (v := .ref (g.1 10 (a0 + 23))) rfl rfl w3_235 dX2_findTarget_19 ?_
      refine r_iload C0 5 rfl dX2_findTarget_22 ?_
      obtain ⟨q2, hf⟩ := gd_e hf
      have hm3 : ((0, ((a0 + 23) + 9 * v5.toNatClampNeg), 0) : xQ) ∈ tb := h0.2.2.2.2.1 _ (inb_lt q2)
      refine r_aald10 C0 h0.2.1 (inb_in q2) dX2_findTarget_24 ?_
      refine r_get0 C0 hm3 0 (by decide) (v := .int (M (((a0 + 23) + 9 * v5.toNatClampNeg) + 0))) rfl rfl w3_147 dX2_findTarget_25 ?_
      refine r_aload_n C0 (kk := 1) 1 rfl dX2_findTarget_28 ?_
      refine r_get1 C0 h1 0 (by decide) (v := .int (M (a1 + 0))) rfl rfl w3_200 dX2_findTarget_29 ?_
      refine r_isub C0 dX2_findTarget_32 ?_
      refine r_abs C0 w2_88 w2_16 w1_6 w2_17 (by decide) (Nat.le_of_ble_eq_true rfl) (by decide) (by decide) dX2_findTarget_33 ?_
      refine r_istore C0 (lv2 := [(6, .int (iabs ((M (((a0 + 23) + 9 * v5.toNatClampNeg) + 0)) - (M (a1 + 0))))), (0, .ref (g.1 2 a0)), (1, .ref (g.1 1 a1)), (2, .int a2), (3, .int v3), (4, .int v4), (5, .int v5)]) (by decide) rfl dX2_findTarget_36 ?_
      refine r_iload C0 0 rfl dX2_findTarget_38 ?_
      refine r_aload_n C0 (kk := 0) 1 rfl dX2_findTarget_40 ?_
      refine r_get2 C0 h0.1 0 (by decide) (v := .ref (g.1 10 (a0 + 23))) rfl rfl w3_235 dX2_findTarget_41 ?_
      refine r_iload C0 6 rfl dX2_findTarget_44 ?_
      obtain ⟨q4, hf⟩ := gd_e hf
      have hm5 : ((0, ((a0 + 23) + 9 * v5.toNatClampNeg), 0) : xQ) ∈ tb := h0.2.2.2.2.1 _ (inb_lt q4)
      refine r_aald10 C0 h0.2.1 (inb_in q4) dX2_findTarget_46 ?_
      refine r_get0 C0 hm5 1 (by decide) (v := .int (M (((a0 + 23) + 9 * v5.toNatClampNeg) + 1))) rfl rfl w3_150 dX2_findTarget_47 ?_
      refine r_iload_n C0 (kk := 2) 3 rfl dX2_findTarget_50 ?_
      obtain ⟨r8, M7, hc6, hf⟩ := bd2_e hf
      refine r_callSi C0 (As := [.int (M (((a0 + 23) + 9 * v5.toNatClampNeg) + 1)), .int a2]) (rest := [.int (iabs ((M (((a0 + 23) + 9 * v5.toNatClampNeg) + 0)) - (M (a1 + 0))))]) (c_X4_paces l D g tb hT  hc6) w2_89 w2_90 w1_15 w2_91 hd_X4_paces rfl ⟨rfl, rfl⟩ ⟨Nat.le_of_ble_eq_true rfl, Nat.le_of_ble_eq_true rfl⟩ (by decide) (by decide) rfl (Nat.le_of_ble_eq_true rfl) dX2_findTarget_51 ?_
      refine r_icmp_gt C0 (tgt := 61) (by decide) dX2_findTarget_54 (fun q9 => ?_) (fun q9 => ?_)
      · have hf := ie_t hf q9
        refine r_iconst C0 (v := 0) dX2_findTarget_61 rfl ?_
        refine WW.sub [1, 2, 3, 4, 5, 6, 0] rfl ?_
        exact B62 k9 hk9 _ _ _ _ _   _ hf
      · have hf := ie_f hf q9
        refine r_iconst C0 (v := 1) dX2_findTarget_57 rfl ?_
        refine r_goto C0 (tgt := 62) (by decide) dX2_findTarget_58 ?_
        refine WW.sub [1, 2, 3, 4, 5, 6, 0] rfl ?_
        exact B62 k9 hk9 _ _ _ _ _   _ hf
  have L9 : ∀ (v3 : Int32) (v4 : Int32) (v5 : Int32)  (M : xM), f_X2_findTarget_c9  a0 a1 a2 v3 v4 v5 M = some (r, M') → WW p l e ({ frames := 1, cells := 0, slots := 0, locals := 21 } : Room) s m args below meth c 0 0 Q 8 D g tb 9 [(0, .ref (g.1 2 a0)), (1, .ref (g.1 1 a1)), (2, .int a2), (3, .int v3), (4, .int v4), (5, .int v5)] [] M := lp_ind (P := fun f => ∀ (v3 : Int32) (v4 : Int32) (v5 : Int32)  (M : xM), f v3 v4 v5 M = some (r, M') → WW p l e ({ frames := 1, cells := 0, slots := 0, locals := 21 } : Room) s m args below meth c 0 0 Q 8 D g tb 9 [(0, .ref (g.1 2 a0)), (1, .ref (g.1 1 a1)), (2, .int a2), (3, .int v3), (4, .int v4), (5, .int v5)] [] M) (fun _ _ _ _ h => none_ne h) (fun f hf => B9 f hf) FU
  unfold f_X2_findTarget at hf
  refine r_iconst C0 (v := (-1)) dX2_findTarget_0 rfl ?_
  refine r_istore_n C0 (kk := 3) (lv2 := [(3, .int (-1)), (0, .ref (g.1 2 a0)), (1, .ref (g.1 1 a1)), (2, .int a2)]) (by decide) rfl dX2_findTarget_1 ?_
  refine r_bipush C0 (v := 100) dX2_findTarget_2 rfl ?_
  refine r_istore C0 (lv2 := [(4, .int 100), (3, .int (-1)), (0, .ref (g.1 2 a0)), (1, .ref (g.1 1 a1)), (2, .int a2)]) (by decide) rfl dX2_findTarget_4 ?_
  refine r_iconst C0 (v := 0) dX2_findTarget_6 rfl ?_
  refine r_istore C0 (lv2 := [(5, .int 0), (4, .int 100), (3, .int (-1)), (0, .ref (g.1 2 a0)), (1, .ref (g.1 1 a1)), (2, .int a2)]) (by decide) rfl dX2_findTarget_7 ?_
  refine WW.sub [3, 4, 5, 2, 1, 0] rfl ?_
  exact L9   _ _ _   _ hf
theorem dX4_letMistIn_0 : decode cX4_letMistIn 0 = .ok (.aload_n 0, 1) := by decide +kernel
theorem dX4_letMistIn_1 : decode cX4_letMistIn 1 = .ok (.getfield 24, 3) := by decide +kernel
theorem dX4_letMistIn_4 : decode cX4_letMistIn 4 = .ok (.ifCond .le 31, 3) := by decide +kernel
theorem dX4_letMistIn_7 : decode cX4_letMistIn 7 = .ok (.iload_n 1, 1) := by decide +kernel
theorem dX4_letMistIn_8 : decode cX4_letMistIn 8 = .ok (.aload_n 0, 1) := by decide +kernel
theorem dX4_letMistIn_9 : decode cX4_letMistIn 9 = .ok (.invokevirtual 49, 3) := by decide +kernel
theorem dX4_letMistIn_12 : decode cX4_letMistIn 12 = .ok (.if_icmp .le 23, 3) := by decide +kernel
theorem dX4_letMistIn_15 : decode cX4_letMistIn 15 = .ok (.aload_n 0, 1) := by decide +kernel
theorem dX4_letMistIn_16 : decode cX4_letMistIn 16 = .ok (.dup, 1) := by decide +kernel
theorem dX4_letMistIn_17 : decode cX4_letMistIn 17 = .ok (.getfield 24, 3) := by decide +kernel
theorem dX4_letMistIn_20 : decode cX4_letMistIn 20 = .ok (.iconst 1, 1) := by decide +kernel
theorem dX4_letMistIn_21 : decode cX4_letMistIn 21 = .ok (.isub, 1) := by decide +kernel
theorem dX4_letMistIn_22 : decode cX4_letMistIn 22 = .ok (.putfield 24, 3) := by decide +kernel
theorem dX4_letMistIn_25 : decode cX4_letMistIn 25 = .ok (.aload_n 0, 1) := by decide +kernel
theorem dX4_letMistIn_26 : decode cX4_letMistIn 26 = .ok (.dup, 1) := by decide +kernel
theorem dX4_letMistIn_27 : decode cX4_letMistIn 27 = .ok (.getfield 30, 3) := by decide +kernel
theorem dX4_letMistIn_30 : decode cX4_letMistIn 30 = .ok (.iconst 1, 1) := by decide +kernel
theorem dX4_letMistIn_31 : decode cX4_letMistIn 31 = .ok (.iadd, 1) := by decide +kernel
theorem dX4_letMistIn_32 : decode cX4_letMistIn 32 = .ok (.putfield 30, 3) := by decide +kernel
theorem dX4_letMistIn_35 : decode cX4_letMistIn 35 = .ok (.return_, 1) := by decide +kernel
theorem hd_X4_letMistIn : yX4_letMistIn.cls = RX4 ∧ yX4_letMistIn.cls ≠ "java/lang/invoke/MethodHandle" ∧ yX4_letMistIn.cls ≠ "java/lang/invoke/VarHandle" ∧ (parseMethodDescriptor yX4_letMistIn.desc).map (fun d => d.parameters.length) = some 1 := by decide +kernel
set_option maxRecDepth 100000 in
set_option maxHeartbeats 4000000 in
theorem c_X4_letMistIn (l : Launch) (D : va_G) (g : xG) (tb : List xQ) (hT : x_T g tb) {a0 : Nat} {a1 : Int32} (h0 : ((0, a0, 0) : xQ) ∈ tb) {M M' : xM} (hf : f_X4_letMistIn a0 a1 M = some M') :
    cV l D g tb yX4_letMistIn cX4_letMistIn 2 ({ frames := 1, cells := 0, slots := 0, locals := 20 } : Room) [.ref (g.1 0 a0), .int a1] M M' := by
  refine x_startV (own := RX4) (by decide +kernel) rfl rfl (Nat.le_of_ble_eq_true rfl) hT ?_
  intro p e s m args below meth c Q C0 hend
  unfold f_X4_letMistIn at hf
  refine r_aload_n C0 (kk := 0) 0 rfl dX4_letMistIn_0 ?_
  refine r_get0 C0 h0 4 (by decide) (v := .int (M (a0 + 4))) rfl rfl w3_159 dX4_letMistIn_1 ?_
  refine r_if_le C0 (tgt := 35) (by decide) dX4_letMistIn_4 (fun q1 => ?_) (fun q1 => ?_)
  · have hf := ie_t hf q1
    exact hend hf dX4_letMistIn_35
  · have hf := ie_f hf q1
    refine r_iload_n C0 (kk := 1) 1 rfl dX4_letMistIn_7 ?_
    refine r_aload_n C0 (kk := 0) 0 rfl dX4_letMistIn_8 ?_
    obtain ⟨r4, M3, hc2, hf⟩ := bd2_e hf
    refine r_callVi C0 (As := []) (rest := [.int a1]) (c_X4_guardedDensity l D g tb hT h0 hc2) w2_112 w2_114 wp1_7 w1_15 w2_116 (x_rec0 C0 h0) hd_X4_guardedDensity rfl ⟨rfl, rfl⟩ ⟨Nat.le_of_ble_eq_true rfl, Nat.le_of_ble_eq_true rfl⟩ (by decide) (by decide) rfl (Nat.le_of_ble_eq_true rfl) dX4_letMistIn_9 ?_
    refine r_icmp_le C0 (tgt := 35) (by decide) dX4_letMistIn_12 (fun q5 => ?_) (fun q5 => ?_)
    · have hf := ie_t hf q5
      exact hend hf dX4_letMistIn_35
    · have hf := ie_f hf q5
      refine r_aload_n C0 (kk := 0) 0 rfl dX4_letMistIn_15 ?_
      refine r_dup C0 rfl dX4_letMistIn_16 ?_
      refine r_get0 C0 h0 4 (by decide) (v := .int (M3 (a0 + 4))) rfl rfl w3_159 dX4_letMistIn_17 ?_
      refine r_iconst C0 (v := 1) dX4_letMistIn_20 rfl ?_
      refine r_isub C0 dX4_letMistIn_21 ?_
      refine r_put0 C0 h0 4 rfl rfl w3_159 rfl rfl rfl dX4_letMistIn_22 ?_
      refine r_aload_n C0 (kk := 0) 0 rfl dX4_letMistIn_25 ?_
      refine r_dup C0 rfl dX4_letMistIn_26 ?_
      refine r_get0 C0 h0 6 (by decide) (v := .int ((upd M3 (a0 + 4) ((M3 (a0 + 4)) - 1)) (a0 + 6))) rfl rfl w3_167 dX4_letMistIn_27 ?_
      refine r_iconst C0 (v := 1) dX4_letMistIn_30 rfl ?_
      refine r_iadd C0 dX4_letMistIn_31 ?_
      refine r_put0 C0 h0 6 rfl rfl w3_167 rfl rfl rfl dX4_letMistIn_32 ?_
      exact hend hf dX4_letMistIn_35
theorem dJ0_checkBoundsBeginEnd_23922_0 : decode cJ0_checkBoundsBeginEnd_23922 0 = .ok (.iload_n 0, 1) := by decide +kernel
theorem dJ0_checkBoundsBeginEnd_23922_1 : decode cJ0_checkBoundsBeginEnd_23922 1 = .ok (.iload_n 1, 1) := by decide +kernel
theorem dJ0_checkBoundsBeginEnd_23922_2 : decode cJ0_checkBoundsBeginEnd_23922 2 = .ok (.iload_n 2, 1) := by decide +kernel
theorem dJ0_checkBoundsBeginEnd_23922_3 : decode cJ0_checkBoundsBeginEnd_23922 3 = .ok (.getstatic 1053, 3) := by decide +kernel
theorem dJ0_checkBoundsBeginEnd_23922_6 : decode cJ0_checkBoundsBeginEnd_23922 6 = .ok (.invokestatic 1062, 3) := by decide +kernel
theorem dJ0_checkBoundsBeginEnd_23922_9 : decode cJ0_checkBoundsBeginEnd_23922 9 = .ok (.pop, 1) := by decide +kernel
theorem dJ0_checkBoundsBeginEnd_23922_10 : decode cJ0_checkBoundsBeginEnd_23922 10 = .ok (.return_, 1) := by decide +kernel
theorem hd_J0_checkBoundsBeginEnd_23922 : yJ0_checkBoundsBeginEnd_23922.cls ≠ "java/lang/invoke/MethodHandle" ∧ yJ0_checkBoundsBeginEnd_23922.cls ≠ "java/lang/invoke/VarHandle" ∧ (parseMethodDescriptor yJ0_checkBoundsBeginEnd_23922.desc).map (fun d => d.parameters.length) = some 3 := by decide +kernel
set_option maxRecDepth 100000 in
set_option maxHeartbeats 4000000 in
theorem c_J0_checkBoundsBeginEnd_23922 (l : Launch) (D : va_G) (g : xG) (tb : List xQ) (hT : x_T g tb) {a0 : Int32} {a1 : Int32} {a2 : Int32}  {M M' : xM} (hf : f_J0_checkBoundsBeginEnd_23922 a0 a1 a2 M = some M') :
    cV l D g tb yJ0_checkBoundsBeginEnd_23922 cJ0_checkBoundsBeginEnd_23922 3 ({ frames := 1, cells := 0, slots := 0, locals := 23 } : Room) [.int a0, .int a1, .int a2] M M' := by
  refine x_startV (own := RJ0) (by decide +kernel) rfl rfl (Nat.le_of_ble_eq_true rfl) hT ?_
  intro p e s m args below meth c Q C0 hend
  unfold f_J0_checkBoundsBeginEnd_23922 at hf
  refine r_iload_n C0 (kk := 0) 0 rfl dJ0_checkBoundsBeginEnd_23922_0 ?_
  refine r_iload_n C0 (kk := 1) 1 rfl dJ0_checkBoundsBeginEnd_23922_1 ?_
  refine r_iload_n C0 (kk := 2) 2 rfl dJ0_checkBoundsBeginEnd_23922_2 ?_
  refine r_sioobe C0 w2_224 dJ0_checkBoundsBeginEnd_23922_3 (fun z1 => ?_)
  obtain ⟨r4, M3, hc2, hf⟩ := bd2_e hf
  refine r_callSi C0 (As := [.int a0, .int a1, .int a2, va_rf z1]) (rest := []) (c_J3_checkFromToIndex_8c36e l D g tb hT  hc2) w2_226 w2_227 w1_9 w2_228 hd_J3_checkFromToIndex_8c36e rfl ⟨rfl, rfl⟩ ⟨Nat.le_of_ble_eq_true rfl, Nat.le_of_ble_eq_true rfl⟩ (by decide) (by decide) rfl (Nat.le_of_ble_eq_true rfl) dJ0_checkBoundsBeginEnd_23922_6 ?_
  refine r_pop C0 rfl dJ0_checkBoundsBeginEnd_23922_9 ?_
  exact hend hf dJ0_checkBoundsBeginEnd_23922_10
theorem dJ0_length_8abf5_0 : decode cJ0_length_8abf5 0 = .ok (.aload_n 0, 1) := by decide +kernel
theorem dJ0_length_8abf5_1 : decode cJ0_length_8abf5 1 = .ok (.getfield 9, 3) := by decide +kernel
theorem dJ0_length_8abf5_4 : decode cJ0_length_8abf5 4 = .ok (.arraylength, 1) := by decide +kernel
theorem dJ0_length_8abf5_5 : decode cJ0_length_8abf5 5 = .ok (.aload_n 0, 1) := by decide +kernel
theorem dJ0_length_8abf5_6 : decode cJ0_length_8abf5 6 = .ok (.invokevirtual 335, 3) := by decide +kernel
theorem dJ0_length_8abf5_9 : decode cJ0_length_8abf5 9 = .ok (.ishr, 1) := by decide +kernel
theorem dJ0_length_8abf5_10 : decode cJ0_length_8abf5 10 = .ok (.ireturn, 1) := by decide +kernel
theorem hd_J0_length_8abf5 : yJ0_length_8abf5.cls = RJ0 ∧ yJ0_length_8abf5.cls ≠ "java/lang/invoke/MethodHandle" ∧ yJ0_length_8abf5.cls ≠ "java/lang/invoke/VarHandle" ∧ (parseMethodDescriptor yJ0_length_8abf5.desc).map (fun d => d.parameters.length) = some 0 := by decide +kernel
set_option maxRecDepth 100000 in
set_option maxHeartbeats 4000000 in
theorem c_J0_length_8abf5 (l : Launch) (D : va_G) (g : xG) (tb : List xQ) (hT : x_T g tb) {a0 : Nat} (h0 : a0 < 40) {M : xM} {r : Int32} {M' : xM} (hf : f_J0_length_8abf5 a0 M = some (r, M')) :
    cI l D g tb yJ0_length_8abf5 cJ0_length_8abf5 1 .int ({ frames := 1, cells := 0, slots := 0, locals := 20 } : Room) [.ref (g.1 20 a0)] M r M' := by
  refine x_startI (own := RJ0) (by decide +kernel) rfl rfl (Nat.le_of_ble_eq_true rfl) hT ?_
  intro p e s m args below meth c Q C0 hend
  unfold f_J0_length_8abf5 at hf
  refine r_aload_n C0 (kk := 0) 0 rfl dJ0_length_8abf5_0 ?_
  refine r_sval C0 h0 w3_117 dJ0_length_8abf5_1 ?_
  refine r_slen C0 h0 dJ0_length_8abf5_4 ?_
  refine r_aload_n C0 (kk := 0) 0 rfl dJ0_length_8abf5_5 ?_
  obtain ⟨r3, M2, hc1, hf⟩ := bd2_e hf
  refine r_callVi C0 (As := []) (rest := [.int (nI (x_slen a0))]) (c_J0_coder_7d493 l D g tb hT h0 hc1) w3_2 w3_3 w3_4 w1_3 w3_5 (x_rec20 C0 h0) hd_J0_coder_7d493 rfl ⟨rfl, rfl⟩ ⟨Nat.le_of_ble_eq_true rfl, Nat.le_of_ble_eq_true rfl⟩ (by decide) (by decide) rfl (Nat.le_of_ble_eq_true rfl) dJ0_length_8abf5_6 ?_
  refine r_ishr C0 dJ0_length_8abf5_9 ?_
  exact hend hf dJ0_length_8abf5_10
theorem dJ0_checkBoundsOffCount_cabcc_0 : decode cJ0_checkBoundsOffCount_cabcc 0 = .ok (.iload_n 0, 1) := by decide +kernel
theorem dJ0_checkBoundsOffCount_cabcc_1 : decode cJ0_checkBoundsOffCount_cabcc 1 = .ok (.iload_n 1, 1) := by decide +kernel
theorem dJ0_checkBoundsOffCount_cabcc_2 : decode cJ0_checkBoundsOffCount_cabcc 2 = .ok (.iload_n 2, 1) := by decide +kernel
theorem dJ0_checkBoundsOffCount_cabcc_3 : decode cJ0_checkBoundsOffCount_cabcc 3 = .ok (.getstatic 1053, 3) := by decide +kernel
theorem dJ0_checkBoundsOffCount_cabcc_6 : decode cJ0_checkBoundsOffCount_cabcc 6 = .ok (.invokestatic 1065, 3) := by decide +kernel
theorem dJ0_checkBoundsOffCount_cabcc_9 : decode cJ0_checkBoundsOffCount_cabcc 9 = .ok (.ireturn, 1) := by decide +kernel
theorem hd_J0_checkBoundsOffCount_cabcc : yJ0_checkBoundsOffCount_cabcc.cls ≠ "java/lang/invoke/MethodHandle" ∧ yJ0_checkBoundsOffCount_cabcc.cls ≠ "java/lang/invoke/VarHandle" ∧ (parseMethodDescriptor yJ0_checkBoundsOffCount_cabcc.desc).map (fun d => d.parameters.length) = some 3 := by decide +kernel
set_option maxRecDepth 100000 in
set_option maxHeartbeats 4000000 in
theorem c_J0_checkBoundsOffCount_cabcc (l : Launch) (D : va_G) (g : xG) (tb : List xQ) (hT : x_T g tb) {a0 : Int32} {a1 : Int32} {a2 : Int32}  {M : xM} {r : Int32} {M' : xM} (hf : f_J0_checkBoundsOffCount_cabcc a0 a1 a2 M = some (r, M')) :
    cI l D g tb yJ0_checkBoundsOffCount_cabcc cJ0_checkBoundsOffCount_cabcc 3 .int ({ frames := 1, cells := 0, slots := 0, locals := 23 } : Room) [.int a0, .int a1, .int a2] M r M' := by
  refine x_startI (own := RJ0) (by decide +kernel) rfl rfl (Nat.le_of_ble_eq_true rfl) hT ?_
  intro p e s m args below meth c Q C0 hend
  unfold f_J0_checkBoundsOffCount_cabcc at hf
  refine r_iload_n C0 (kk := 0) 0 rfl dJ0_checkBoundsOffCount_cabcc_0 ?_
  refine r_iload_n C0 (kk := 1) 1 rfl dJ0_checkBoundsOffCount_cabcc_1 ?_
  refine r_iload_n C0 (kk := 2) 2 rfl dJ0_checkBoundsOffCount_cabcc_2 ?_
  refine r_sioobe C0 w2_224 dJ0_checkBoundsOffCount_cabcc_3 (fun z1 => ?_)
  obtain ⟨r4, M3, hc2, hf⟩ := bd2_e hf
  refine r_callSi C0 (As := [.int a0, .int a1, .int a2, va_rf z1]) (rest := []) (c_J3_checkFromIndexSize_8c36e l D g tb hT  hc2) w3_32 w3_33 w1_9 w3_34 hd_J3_checkFromIndexSize_8c36e rfl ⟨rfl, rfl⟩ ⟨Nat.le_of_ble_eq_true rfl, Nat.le_of_ble_eq_true rfl⟩ (by decide) (by decide) rfl (Nat.le_of_ble_eq_true rfl) dJ0_checkBoundsOffCount_cabcc_6 ?_
  exact hend hf dJ0_checkBoundsOffCount_cabcc_9
theorem dJ0_checkIndex_df160_0 : decode cJ0_checkIndex_df160 0 = .ok (.iload_n 0, 1) := by decide +kernel
theorem dJ0_checkIndex_df160_1 : decode cJ0_checkIndex_df160 1 = .ok (.iload_n 1, 1) := by decide +kernel
theorem dJ0_checkIndex_df160_2 : decode cJ0_checkIndex_df160 2 = .ok (.getstatic 1053, 3) := by decide +kernel
theorem dJ0_checkIndex_df160_5 : decode cJ0_checkIndex_df160 5 = .ok (.invokestatic 1059, 3) := by decide +kernel
theorem dJ0_checkIndex_df160_8 : decode cJ0_checkIndex_df160 8 = .ok (.pop, 1) := by decide +kernel
theorem dJ0_checkIndex_df160_9 : decode cJ0_checkIndex_df160 9 = .ok (.return_, 1) := by decide +kernel
theorem hd_J0_checkIndex_df160 : yJ0_checkIndex_df160.cls ≠ "java/lang/invoke/MethodHandle" ∧ yJ0_checkIndex_df160.cls ≠ "java/lang/invoke/VarHandle" ∧ (parseMethodDescriptor yJ0_checkIndex_df160.desc).map (fun d => d.parameters.length) = some 2 := by decide +kernel
set_option maxRecDepth 100000 in
set_option maxHeartbeats 4000000 in
theorem c_J0_checkIndex_df160 (l : Launch) (D : va_G) (g : xG) (tb : List xQ) (hT : x_T g tb) {a0 : Int32} {a1 : Int32}  {M M' : xM} (hf : f_J0_checkIndex_df160 a0 a1 M = some M') :
    cV l D g tb yJ0_checkIndex_df160 cJ0_checkIndex_df160 2 ({ frames := 1, cells := 0, slots := 0, locals := 22 } : Room) [.int a0, .int a1] M M' := by
  refine x_startV (own := RJ0) (by decide +kernel) rfl rfl (Nat.le_of_ble_eq_true rfl) hT ?_
  intro p e s m args below meth c Q C0 hend
  unfold f_J0_checkIndex_df160 at hf
  refine r_iload_n C0 (kk := 0) 0 rfl dJ0_checkIndex_df160_0 ?_
  refine r_iload_n C0 (kk := 1) 1 rfl dJ0_checkIndex_df160_1 ?_
  refine r_sioobe C0 w2_224 dJ0_checkIndex_df160_2 (fun z1 => ?_)
  obtain ⟨r4, M3, hc2, hf⟩ := bd2_e hf
  refine r_callSi C0 (As := [.int a0, .int a1, va_rf z1]) (rest := []) (c_J3_checkIndex_8e157 l D g tb hT  hc2) w4_118 w4_119 w1_9 w4_120 hd_J3_checkIndex_8e157 rfl ⟨rfl, rfl⟩ ⟨Nat.le_of_ble_eq_true rfl, Nat.le_of_ble_eq_true rfl⟩ (by decide) (by decide) rfl (Nat.le_of_ble_eq_true rfl) dJ0_checkIndex_df160_5 ?_
  refine r_pop C0 rfl dJ0_checkIndex_df160_8 ?_
  exact hend hf dJ0_checkIndex_df160_9
theorem dX3_readToken_0 : decode cX3_readToken 0 = .ok (.aload_n 0, 1) := by decide +kernel
theorem dX3_readToken_1 : decode cX3_readToken 1 = .ok (.getfield 39, 3) := by decide +kernel
theorem dX3_readToken_4 : decode cX3_readToken 4 = .ok (.aload_n 0, 1) := by decide +kernel
theorem dX3_readToken_5 : decode cX3_readToken 5 = .ok (.getfield 37, 3) := by decide +kernel
theorem dX3_readToken_8 : decode cX3_readToken 8 = .ok (.if_icmp .ge 42, 3) := by decide +kernel
theorem dX3_readToken_11 : decode cX3_readToken 11 = .ok (.aload_n 0, 1) := by decide +kernel
theorem dX3_readToken_12 : decode cX3_readToken 12 = .ok (.aload_n 0, 1) := by decide +kernel
theorem dX3_readToken_13 : decode cX3_readToken 13 = .ok (.getfield 39, 3) := by decide +kernel
theorem dX3_readToken_16 : decode cX3_readToken 16 = .ok (.invokevirtual 209, 3) := by decide +kernel
theorem dX3_readToken_19 : decode cX3_readToken 19 = .ok (.bipush 32, 2) := by decide +kernel
theorem dX3_readToken_21 : decode cX3_readToken 21 = .ok (.if_icmp .eq 16, 3) := by decide +kernel
theorem dX3_readToken_24 : decode cX3_readToken 24 = .ok (.aload_n 0, 1) := by decide +kernel
theorem dX3_readToken_25 : decode cX3_readToken 25 = .ok (.aload_n 0, 1) := by decide +kernel
theorem dX3_readToken_26 : decode cX3_readToken 26 = .ok (.getfield 39, 3) := by decide +kernel
theorem dX3_readToken_29 : decode cX3_readToken 29 = .ok (.invokevirtual 209, 3) := by decide +kernel
theorem dX3_readToken_32 : decode cX3_readToken 32 = .ok (.bipush 10, 2) := by decide +kernel
theorem dX3_readToken_34 : decode cX3_readToken 34 = .ok (.if_icmp .ne 16, 3) := by decide +kernel
theorem dX3_readToken_37 : decode cX3_readToken 37 = .ok (.aload_n 0, 1) := by decide +kernel
theorem dX3_readToken_38 : decode cX3_readToken 38 = .ok (.dup, 1) := by decide +kernel
theorem dX3_readToken_39 : decode cX3_readToken 39 = .ok (.getfield 39, 3) := by decide +kernel
theorem dX3_readToken_42 : decode cX3_readToken 42 = .ok (.iconst 1, 1) := by decide +kernel
theorem dX3_readToken_43 : decode cX3_readToken 43 = .ok (.iadd, 1) := by decide +kernel
theorem dX3_readToken_44 : decode cX3_readToken 44 = .ok (.putfield 39, 3) := by decide +kernel
theorem dX3_readToken_47 : decode cX3_readToken 47 = .ok (.goto (-47), 3) := by decide +kernel
theorem dX3_readToken_50 : decode cX3_readToken 50 = .ok (.aload_n 0, 1) := by decide +kernel
theorem dX3_readToken_51 : decode cX3_readToken 51 = .ok (.aload_n 0, 1) := by decide +kernel
theorem dX3_readToken_52 : decode cX3_readToken 52 = .ok (.getfield 39, 3) := by decide +kernel
theorem dX3_readToken_55 : decode cX3_readToken 55 = .ok (.putfield 206, 3) := by decide +kernel
theorem dX3_readToken_58 : decode cX3_readToken 58 = .ok (.aload_n 0, 1) := by decide +kernel
theorem dX3_readToken_59 : decode cX3_readToken 59 = .ok (.getfield 39, 3) := by decide +kernel
theorem dX3_readToken_62 : decode cX3_readToken 62 = .ok (.aload_n 0, 1) := by decide +kernel
theorem dX3_readToken_63 : decode cX3_readToken 63 = .ok (.getfield 37, 3) := by decide +kernel
theorem dX3_readToken_66 : decode cX3_readToken 66 = .ok (.if_icmp .lt 11, 3) := by decide +kernel
theorem dX3_readToken_69 : decode cX3_readToken 69 = .ok (.aload_n 0, 1) := by decide +kernel
theorem dX3_readToken_70 : decode cX3_readToken 70 = .ok (.iconst 0, 1) := by decide +kernel
theorem dX3_readToken_71 : decode cX3_readToken 71 = .ok (.putfield 77, 3) := by decide +kernel
theorem dX3_readToken_74 : decode cX3_readToken 74 = .ok (.goto 118, 3) := by decide +kernel
theorem dX3_readToken_77 : decode cX3_readToken 77 = .ok (.aload_n 0, 1) := by decide +kernel
theorem dX3_readToken_78 : decode cX3_readToken 78 = .ok (.aload_n 0, 1) := by decide +kernel
theorem dX3_readToken_79 : decode cX3_readToken 79 = .ok (.getfield 39, 3) := by decide +kernel
theorem dX3_readToken_82 : decode cX3_readToken 82 = .ok (.invokevirtual 209, 3) := by decide +kernel
theorem dX3_readToken_85 : decode cX3_readToken 85 = .ok (.invokestatic 212, 3) := by decide +kernel
theorem dX3_readToken_88 : decode cX3_readToken 88 = .ok (.ifCond .eq 46, 3) := by decide +kernel
theorem dX3_readToken_91 : decode cX3_readToken 91 = .ok (.aload_n 0, 1) := by decide +kernel
theorem dX3_readToken_92 : decode cX3_readToken 92 = .ok (.iconst 1, 1) := by decide +kernel
theorem dX3_readToken_93 : decode cX3_readToken 93 = .ok (.putfield 77, 3) := by decide +kernel
theorem dX3_readToken_96 : decode cX3_readToken 96 = .ok (.aload_n 0, 1) := by decide +kernel
theorem dX3_readToken_97 : decode cX3_readToken 97 = .ok (.getfield 39, 3) := by decide +kernel
theorem dX3_readToken_100 : decode cX3_readToken 100 = .ok (.aload_n 0, 1) := by decide +kernel
theorem dX3_readToken_101 : decode cX3_readToken 101 = .ok (.getfield 37, 3) := by decide +kernel
theorem dX3_readToken_104 : decode cX3_readToken 104 = .ok (.if_icmp .ge 88, 3) := by decide +kernel
theorem dX3_readToken_107 : decode cX3_readToken 107 = .ok (.aload_n 0, 1) := by decide +kernel
theorem dX3_readToken_108 : decode cX3_readToken 108 = .ok (.aload_n 0, 1) := by decide +kernel
theorem dX3_readToken_109 : decode cX3_readToken 109 = .ok (.getfield 39, 3) := by decide +kernel
theorem dX3_readToken_112 : decode cX3_readToken 112 = .ok (.invokevirtual 209, 3) := by decide +kernel
theorem dX3_readToken_115 : decode cX3_readToken 115 = .ok (.invokestatic 212, 3) := by decide +kernel
theorem dX3_readToken_118 : decode cX3_readToken 118 = .ok (.ifCond .eq 74, 3) := by decide +kernel
theorem dX3_readToken_121 : decode cX3_readToken 121 = .ok (.aload_n 0, 1) := by decide +kernel
theorem dX3_readToken_122 : decode cX3_readToken 122 = .ok (.dup, 1) := by decide +kernel
theorem dX3_readToken_123 : decode cX3_readToken 123 = .ok (.getfield 39, 3) := by decide +kernel
theorem dX3_readToken_126 : decode cX3_readToken 126 = .ok (.iconst 1, 1) := by decide +kernel
theorem dX3_readToken_127 : decode cX3_readToken 127 = .ok (.iadd, 1) := by decide +kernel
theorem dX3_readToken_128 : decode cX3_readToken 128 = .ok (.putfield 39, 3) := by decide +kernel
theorem dX3_readToken_131 : decode cX3_readToken 131 = .ok (.goto (-35), 3) := by decide +kernel
theorem dX3_readToken_134 : decode cX3_readToken 134 = .ok (.aload_n 0, 1) := by decide +kernel
theorem dX3_readToken_135 : decode cX3_readToken 135 = .ok (.aload_n 0, 1) := by decide +kernel
theorem dX3_readToken_136 : decode cX3_readToken 136 = .ok (.getfield 39, 3) := by decide +kernel
theorem dX3_readToken_139 : decode cX3_readToken 139 = .ok (.invokevirtual 209, 3) := by decide +kernel
theorem dX3_readToken_142 : decode cX3_readToken 142 = .ok (.invokestatic 215, 3) := by decide +kernel
theorem dX3_readToken_145 : decode cX3_readToken 145 = .ok (.ifCond .eq 15, 3) := by decide +kernel
theorem dX3_readToken_148 : decode cX3_readToken 148 = .ok (.aload_n 0, 1) := by decide +kernel
theorem dX3_readToken_149 : decode cX3_readToken 149 = .ok (.iconst 2, 1) := by decide +kernel
theorem dX3_readToken_150 : decode cX3_readToken 150 = .ok (.putfield 77, 3) := by decide +kernel
theorem dX3_readToken_153 : decode cX3_readToken 153 = .ok (.aload_n 0, 1) := by decide +kernel
theorem dX3_readToken_154 : decode cX3_readToken 154 = .ok (.invokevirtual 218, 3) := by decide +kernel
theorem dX3_readToken_157 : decode cX3_readToken 157 = .ok (.goto 35, 3) := by decide +kernel
theorem dX3_readToken_160 : decode cX3_readToken 160 = .ok (.aload_n 0, 1) := by decide +kernel
theorem dX3_readToken_161 : decode cX3_readToken 161 = .ok (.aload_n 0, 1) := by decide +kernel
theorem dX3_readToken_162 : decode cX3_readToken 162 = .ok (.aload_n 0, 1) := by decide +kernel
theorem dX3_readToken_163 : decode cX3_readToken 163 = .ok (.getfield 39, 3) := by decide +kernel
theorem dX3_readToken_166 : decode cX3_readToken 166 = .ok (.invokevirtual 209, 3) := by decide +kernel
theorem dX3_readToken_169 : decode cX3_readToken 169 = .ok (.bipush 59, 2) := by decide +kernel
theorem dX3_readToken_171 : decode cX3_readToken 171 = .ok (.if_icmp .ne 7, 3) := by decide +kernel
theorem dX3_readToken_174 : decode cX3_readToken 174 = .ok (.iconst 3, 1) := by decide +kernel
theorem dX3_readToken_175 : decode cX3_readToken 175 = .ok (.goto 4, 3) := by decide +kernel
theorem dX3_readToken_178 : decode cX3_readToken 178 = .ok (.iconst 4, 1) := by decide +kernel
theorem dX3_readToken_179 : decode cX3_readToken 179 = .ok (.putfield 77, 3) := by decide +kernel
theorem dX3_readToken_182 : decode cX3_readToken 182 = .ok (.aload_n 0, 1) := by decide +kernel
theorem dX3_readToken_183 : decode cX3_readToken 183 = .ok (.dup, 1) := by decide +kernel
theorem dX3_readToken_184 : decode cX3_readToken 184 = .ok (.getfield 39, 3) := by decide +kernel
theorem dX3_readToken_187 : decode cX3_readToken 187 = .ok (.iconst 1, 1) := by decide +kernel
theorem dX3_readToken_188 : decode cX3_readToken 188 = .ok (.iadd, 1) := by decide +kernel
theorem dX3_readToken_189 : decode cX3_readToken 189 = .ok (.putfield 39, 3) := by decide +kernel
theorem dX3_readToken_192 : decode cX3_readToken 192 = .ok (.return_, 1) := by decide +kernel
theorem hd_X3_readToken : yX3_readToken.cls = RX3 ∧ yX3_readToken.cls ≠ "java/lang/invoke/MethodHandle" ∧ yX3_readToken.cls ≠ "java/lang/invoke/VarHandle" ∧ (parseMethodDescriptor yX3_readToken.desc).map (fun d => d.parameters.length) = some 0 := by decide +kernel
set_option maxRecDepth 100000 in
set_option maxHeartbeats 4000000 in
theorem c_X3_readToken (l : Launch) (D : va_G) (g : xG) (tb : List xQ) (hT : x_T g tb)  (h0 : x_rd tb) {M M' : xM} (hf : f_X3_readToken  M = some M') :
    cV l D g tb yX3_readToken cX3_readToken 1 ({ frames := 2, cells := 0, slots := 0, locals := 41 } : Room) [.ref (g.1 3 1777)] M M' := by
  refine x_startV (own := RX3) (by decide +kernel) rfl rfl (Nat.le_of_ble_eq_true rfl) hT ?_
  intro p e s m args below meth c Q C0 hend
  have B37 : ∀ (k0 : xM → Option xM) (hk0 : ∀ (M : xM), k0 M = some M' → WW p l e ({ frames := 2, cells := 0, slots := 0, locals := 41 } : Room) s m args below meth c 0 0 Q 1 D g tb 0 [(0, .ref (g.1 3 1777))] [] M), ∀ (M : xM), f_X3_readToken_c37 k0  M = some M' → WW p l e ({ frames := 2, cells := 0, slots := 0, locals := 41 } : Room) s m args below meth c 0 0 Q 1 D g tb 37 [(0, .ref (g.1 3 1777))] [] M := by
    intro k0 hk0   M hf
    unfold f_X3_readToken_c37 at hf
    refine r_aload_n C0 (kk := 0) 0 rfl dX3_readToken_37 ?_
    refine r_dup C0 rfl dX3_readToken_38 ?_
    refine r_get3 C0 h0.1 6 (by decide) (v := .int (M 1783)) rfl rfl w4_72 dX3_readToken_39 ?_
    refine r_iconst C0 (v := 1) dX3_readToken_42 rfl ?_
    refine r_iadd C0 dX3_readToken_43 ?_
    refine r_put3 C0 h0.1 6 rfl rfl w4_72 rfl rfl rfl dX3_readToken_44 ?_
    refine r_goto C0 (tgt := 0) (by decide) dX3_readToken_47 ?_
    exact hk0   _ hf
  have B96 : ∀ (k96 : xM → Option xM) (hk96 : ∀ (M : xM), k96 M = some M' → WW p l e ({ frames := 2, cells := 0, slots := 0, locals := 41 } : Room) s m args below meth c 0 0 Q 1 D g tb 96 [(0, .ref (g.1 3 1777))] [] M), ∀ (M : xM), fb_X3_readToken_c96 k96  M = some M' → WW p l e ({ frames := 2, cells := 0, slots := 0, locals := 41 } : Room) s m args below meth c 0 0 Q 1 D g tb 96 [(0, .ref (g.1 3 1777))] [] M := by
    intro k96 hk96   M hf
    unfold fb_X3_readToken_c96 at hf
    refine r_aload_n C0 (kk := 0) 0 rfl dX3_readToken_96 ?_
    refine r_get3 C0 h0.1 6 (by decide) (v := .int (M 1783)) rfl rfl w4_72 dX3_readToken_97 ?_
    refine r_aload_n C0 (kk := 0) 0 rfl dX3_readToken_100 ?_
    refine r_get3 C0 h0.1 1 (by decide) (v := .int (M 1778)) rfl rfl w4_65 dX3_readToken_101 ?_
    refine r_icmp_ge C0 (tgt := 192) (by decide) dX3_readToken_104 (fun q31 => ?_) (fun q31 => ?_)
    · have hf := ie_t hf q31
      exact hend hf dX3_readToken_192
    · have hf := ie_f hf q31
      refine r_aload_n C0 (kk := 0) 0 rfl dX3_readToken_107 ?_
      refine r_aload_n C0 (kk := 0) 0 rfl dX3_readToken_108 ?_
      refine r_get3 C0 h0.1 6 (by decide) (v := .int (M 1783)) rfl rfl w4_72 dX3_readToken_109 ?_
      obtain ⟨r34, M33, hc32, hf⟩ := bd2_e hf
      refine r_callVi C0 (As := [.int (M 1783)]) (rest := []) (c_X3_byteAt l D g tb hT h0 hc32) w4_153 w4_155 wp1_12 w1_17 w4_156 (x_rec3 C0 h0.1) hd_X3_byteAt rfl ⟨rfl, rfl⟩ ⟨Nat.le_of_ble_eq_true rfl, Nat.le_of_ble_eq_true rfl⟩ (by decide) (by decide) rfl (Nat.le_of_ble_eq_true rfl) dX3_readToken_112 ?_
      obtain ⟨r37, M36, hc35, hf⟩ := bd2_e hf
      refine r_callSi C0 (As := [.int r34]) (rest := []) (c_X3_isLetter l D g tb hT  hc35) w4_157 w4_158 w1_17 w4_159 hd_X3_isLetter rfl ⟨rfl, rfl⟩ ⟨Nat.le_of_ble_eq_true rfl, Nat.le_of_ble_eq_true rfl⟩ (by decide) (by decide) rfl (Nat.le_of_ble_eq_true rfl) dX3_readToken_115 ?_
      refine r_if_eq C0 (tgt := 192) (by decide) dX3_readToken_118 (fun q38 => ?_) (fun q38 => ?_)
      · have hf := ie_t hf q38
        exact hend hf dX3_readToken_192
      · have hf := ie_f hf q38
        refine r_aload_n C0 (kk := 0) 0 rfl dX3_readToken_121 ?_
        refine r_dup C0 rfl dX3_readToken_122 ?_
        refine r_get3 C0 h0.1 6 (by decide) (v := .int (M36 1783)) rfl rfl w4_72 dX3_readToken_123 ?_
        refine r_iconst C0 (v := 1) dX3_readToken_126 rfl ?_
        refine r_iadd C0 dX3_readToken_127 ?_
        refine r_put3 C0 h0.1 6 rfl rfl w4_72 rfl rfl rfl dX3_readToken_128 ?_
        refine r_goto C0 (tgt := 96) (by decide) dX3_readToken_131 ?_
        exact hk96   _ hf
  have L96 : ∀ (M : xM), f_X3_readToken_c96   M = some M' → WW p l e ({ frames := 2, cells := 0, slots := 0, locals := 41 } : Room) s m args below meth c 0 0 Q 1 D g tb 96 [(0, .ref (g.1 3 1777))] [] M := lp_ind (P := fun f => ∀ (M : xM), f M = some M' → WW p l e ({ frames := 2, cells := 0, slots := 0, locals := 41 } : Room) s m args below meth c 0 0 Q 1 D g tb 96 [(0, .ref (g.1 3 1777))] [] M) (fun  _ h => none_ne h) (fun f hf => B96 f hf) FU
  have B179 : ∀ (s0 : Int32)  (M : xM), f_X3_readToken_c179   s0 M = some M' → WW p l e ({ frames := 2, cells := 0, slots := 0, locals := 41 } : Room) s m args below meth c 0 0 Q 1 D g tb 179 [(0, .ref (g.1 3 1777))] [.int s0, .ref (g.1 3 1777)] M := by
    intro   s0  M hf
    unfold f_X3_readToken_c179 at hf
    refine r_put3 C0 h0.1 7 rfl rfl w4_73 rfl rfl rfl dX3_readToken_179 ?_
    refine r_aload_n C0 (kk := 0) 0 rfl dX3_readToken_182 ?_
    refine r_dup C0 rfl dX3_readToken_183 ?_
    refine r_get3 C0 h0.1 6 (by decide) (v := .int ((upd M 1784 s0) 1783)) rfl rfl w4_72 dX3_readToken_184 ?_
    refine r_iconst C0 (v := 1) dX3_readToken_187 rfl ?_
    refine r_iadd C0 dX3_readToken_188 ?_
    refine r_put3 C0 h0.1 6 rfl rfl w4_72 rfl rfl rfl dX3_readToken_189 ?_
    exact hend hf dX3_readToken_192
  have B50 : ∀ (M : xM), f_X3_readToken_c50   M = some M' → WW p l e ({ frames := 2, cells := 0, slots := 0, locals := 41 } : Room) s m args below meth c 0 0 Q 1 D g tb 50 [(0, .ref (g.1 3 1777))] [] M := by
    intro     M hf
    unfold f_X3_readToken_c50 at hf
    refine r_aload_n C0 (kk := 0) 0 rfl dX3_readToken_50 ?_
    refine r_aload_n C0 (kk := 0) 0 rfl dX3_readToken_51 ?_
    refine r_get3 C0 h0.1 6 (by decide) (v := .int (M 1783)) rfl rfl w4_72 dX3_readToken_52 ?_
    refine r_put3 C0 h0.1 8 rfl rfl w4_74 rfl rfl rfl dX3_readToken_55 ?_
    refine r_aload_n C0 (kk := 0) 0 rfl dX3_readToken_58 ?_
    refine r_get3 C0 h0.1 6 (by decide) (v := .int ((upd M 1785 (M 1783)) 1783)) rfl rfl w4_72 dX3_readToken_59 ?_
    refine r_aload_n C0 (kk := 0) 0 rfl dX3_readToken_62 ?_
    refine r_get3 C0 h0.1 1 (by decide) (v := .int ((upd M 1785 (M 1783)) 1778)) rfl rfl w4_65 dX3_readToken_63 ?_
    refine r_icmp_lt C0 (tgt := 77) (by decide) dX3_readToken_66 (fun q10 => ?_) (fun q10 => ?_)
    · have hf := ie_t hf q10
      refine r_aload_n C0 (kk := 0) 0 rfl dX3_readToken_77 ?_
      refine r_aload_n C0 (kk := 0) 0 rfl dX3_readToken_78 ?_
      refine r_get3 C0 h0.1 6 (by decide) (v := .int ((upd M 1785 (M 1783)) 1783)) rfl rfl w4_72 dX3_readToken_79 ?_
      obtain ⟨r13, M12, hc11, hf⟩ := bd2_e hf
      refine r_callVi C0 (As := [.int ((upd M 1785 (M 1783)) 1783)]) (rest := []) (c_X3_byteAt l D g tb hT h0 hc11) w4_153 w4_155 wp1_12 w1_17 w4_156 (x_rec3 C0 h0.1) hd_X3_byteAt rfl ⟨rfl, rfl⟩ ⟨Nat.le_of_ble_eq_true rfl, Nat.le_of_ble_eq_true rfl⟩ (by decide) (by decide) rfl (Nat.le_of_ble_eq_true rfl) dX3_readToken_82 ?_
      obtain ⟨r16, M15, hc14, hf⟩ := bd2_e hf
      refine r_callSi C0 (As := [.int r13]) (rest := []) (c_X3_isLetter l D g tb hT  hc14) w4_157 w4_158 w1_17 w4_159 hd_X3_isLetter rfl ⟨rfl, rfl⟩ ⟨Nat.le_of_ble_eq_true rfl, Nat.le_of_ble_eq_true rfl⟩ (by decide) (by decide) rfl (Nat.le_of_ble_eq_true rfl) dX3_readToken_85 ?_
      refine r_if_eq C0 (tgt := 134) (by decide) dX3_readToken_88 (fun q17 => ?_) (fun q17 => ?_)
      · have hf := ie_t hf q17
        refine r_aload_n C0 (kk := 0) 0 rfl dX3_readToken_134 ?_
        refine r_aload_n C0 (kk := 0) 0 rfl dX3_readToken_135 ?_
        refine r_get3 C0 h0.1 6 (by decide) (v := .int (M15 1783)) rfl rfl w4_72 dX3_readToken_136 ?_
        obtain ⟨r20, M19, hc18, hf⟩ := bd2_e hf
        refine r_callVi C0 (As := [.int (M15 1783)]) (rest := []) (c_X3_byteAt l D g tb hT h0 hc18) w4_153 w4_155 wp1_12 w1_17 w4_156 (x_rec3 C0 h0.1) hd_X3_byteAt rfl ⟨rfl, rfl⟩ ⟨Nat.le_of_ble_eq_true rfl, Nat.le_of_ble_eq_true rfl⟩ (by decide) (by decide) rfl (Nat.le_of_ble_eq_true rfl) dX3_readToken_139 ?_
        obtain ⟨r23, M22, hc21, hf⟩ := bd2_e hf
        refine r_callSi C0 (As := [.int r20]) (rest := []) (c_X3_isDigit l D g tb hT  hc21) w4_160 w4_161 w1_17 w4_162 hd_X3_isDigit rfl ⟨rfl, rfl⟩ ⟨Nat.le_of_ble_eq_true rfl, Nat.le_of_ble_eq_true rfl⟩ (by decide) (by decide) rfl (Nat.le_of_ble_eq_true rfl) dX3_readToken_142 ?_
        refine r_if_eq C0 (tgt := 160) (by decide) dX3_readToken_145 (fun q24 => ?_) (fun q24 => ?_)
        · have hf := ie_t hf q24
          refine r_aload_n C0 (kk := 0) 0 rfl dX3_readToken_160 ?_
          refine r_aload_n C0 (kk := 0) 0 rfl dX3_readToken_161 ?_
          refine r_aload_n C0 (kk := 0) 0 rfl dX3_readToken_162 ?_
          refine r_get3 C0 h0.1 6 (by decide) (v := .int (M22 1783)) rfl rfl w4_72 dX3_readToken_163 ?_
          obtain ⟨r27, M26, hc25, hf⟩ := bd2_e hf
          refine r_callVi C0 (As := [.int (M22 1783)]) (rest := [.ref (g.1 3 1777)]) (c_X3_byteAt l D g tb hT h0 hc25) w4_153 w4_155 wp1_12 w1_17 w4_156 (x_rec3 C0 h0.1) hd_X3_byteAt rfl ⟨rfl, rfl⟩ ⟨Nat.le_of_ble_eq_true rfl, Nat.le_of_ble_eq_true rfl⟩ (by decide) (by decide) rfl (Nat.le_of_ble_eq_true rfl) dX3_readToken_166 ?_
          refine r_bipush C0 (v := 59) dX3_readToken_169 rfl ?_
          refine r_icmp_ne C0 (tgt := 178) (by decide) dX3_readToken_171 (fun q28 => ?_) (fun q28 => ?_)
          · have hf := ie_f hf q28
            refine r_iconst C0 (v := 4) dX3_readToken_178 rfl ?_
            exact B179   _   _ hf
          · have hf := ie_t hf q28
            refine r_iconst C0 (v := 3) dX3_readToken_174 rfl ?_
            refine r_goto C0 (tgt := 179) (by decide) dX3_readToken_175 ?_
            exact B179   _   _ hf
        · have hf := ie_f hf q24
          refine r_aload_n C0 (kk := 0) 0 rfl dX3_readToken_148 ?_
          refine r_iconst C0 (v := 2) dX3_readToken_149 rfl ?_
          refine r_put3 C0 h0.1 7 rfl rfl w4_73 rfl rfl rfl dX3_readToken_150 ?_
          refine r_aload_n C0 (kk := 0) 0 rfl dX3_readToken_153 ?_
          obtain ⟨M30, hc29, hf⟩ := bd_e hf
          refine r_callVv C0 (As := []) (rest := []) (c_X3_readDigits l D g tb hT h0 hc29) w4_163 w4_165 wp1_13 w1_17 w4_166 (x_rec3 C0 h0.1) hd_X3_readDigits rfl ⟨rfl, rfl⟩ ⟨Nat.le_of_ble_eq_true rfl, Nat.le_of_ble_eq_true rfl⟩ (by decide) (by decide) rfl (Nat.le_of_ble_eq_true rfl) dX3_readToken_154 ?_
          refine r_goto C0 (tgt := 192) (by decide) dX3_readToken_157 ?_
          exact hend hf dX3_readToken_192
      · have hf := ie_f hf q17
        refine r_aload_n C0 (kk := 0) 0 rfl dX3_readToken_91 ?_
        refine r_iconst C0 (v := 1) dX3_readToken_92 rfl ?_
        refine r_put3 C0 h0.1 7 rfl rfl w4_73 rfl rfl rfl dX3_readToken_93 ?_
        exact L96     _ hf
    · have hf := ie_f hf q10
      refine r_aload_n C0 (kk := 0) 0 rfl dX3_readToken_69 ?_
      refine r_iconst C0 (v := 0) dX3_readToken_70 rfl ?_
      refine r_put3 C0 h0.1 7 rfl rfl w4_73 rfl rfl rfl dX3_readToken_71 ?_
      refine r_goto C0 (tgt := 192) (by decide) dX3_readToken_74 ?_
      exact hend hf dX3_readToken_192
  have B0 : ∀ (k0 : xM → Option xM) (hk0 : ∀ (M : xM), k0 M = some M' → WW p l e ({ frames := 2, cells := 0, slots := 0, locals := 41 } : Room) s m args below meth c 0 0 Q 1 D g tb 0 [(0, .ref (g.1 3 1777))] [] M), ∀ (M : xM), fb_X3_readToken_c0 k0  M = some M' → WW p l e ({ frames := 2, cells := 0, slots := 0, locals := 41 } : Room) s m args below meth c 0 0 Q 1 D g tb 0 [(0, .ref (g.1 3 1777))] [] M := by
    intro k0 hk0   M hf
    unfold fb_X3_readToken_c0 at hf
    refine r_aload_n C0 (kk := 0) 0 rfl dX3_readToken_0 ?_
    refine r_get3 C0 h0.1 6 (by decide) (v := .int (M 1783)) rfl rfl w4_72 dX3_readToken_1 ?_
    refine r_aload_n C0 (kk := 0) 0 rfl dX3_readToken_4 ?_
    refine r_get3 C0 h0.1 1 (by decide) (v := .int (M 1778)) rfl rfl w4_65 dX3_readToken_5 ?_
    refine r_icmp_ge C0 (tgt := 50) (by decide) dX3_readToken_8 (fun q1 => ?_) (fun q1 => ?_)
    · have hf := ie_t hf q1
      exact B50     _ hf
    · have hf := ie_f hf q1
      refine r_aload_n C0 (kk := 0) 0 rfl dX3_readToken_11 ?_
      refine r_aload_n C0 (kk := 0) 0 rfl dX3_readToken_12 ?_
      refine r_get3 C0 h0.1 6 (by decide) (v := .int (M 1783)) rfl rfl w4_72 dX3_readToken_13 ?_
      obtain ⟨r4, M3, hc2, hf⟩ := bd2_e hf
      refine r_callVi C0 (As := [.int (M 1783)]) (rest := []) (c_X3_byteAt l D g tb hT h0 hc2) w4_153 w4_155 wp1_12 w1_17 w4_156 (x_rec3 C0 h0.1) hd_X3_byteAt rfl ⟨rfl, rfl⟩ ⟨Nat.le_of_ble_eq_true rfl, Nat.le_of_ble_eq_true rfl⟩ (by decide) (by decide) rfl (Nat.le_of_ble_eq_true rfl) dX3_readToken_16 ?_
      refine r_bipush C0 (v := 32) dX3_readToken_19 rfl ?_
      refine r_icmp_eq C0 (tgt := 37) (by decide) dX3_readToken_21 (fun q5 => ?_) (fun q5 => ?_)
      · have hf := ie_t hf q5
        exact B37 k0 hk0   _ hf
      · have hf := ie_f hf q5
        refine r_aload_n C0 (kk := 0) 0 rfl dX3_readToken_24 ?_
        refine r_aload_n C0 (kk := 0) 0 rfl dX3_readToken_25 ?_
        refine r_get3 C0 h0.1 6 (by decide) (v := .int (M3 1783)) rfl rfl w4_72 dX3_readToken_26 ?_
        obtain ⟨r8, M7, hc6, hf⟩ := bd2_e hf
        refine r_callVi C0 (As := [.int (M3 1783)]) (rest := []) (c_X3_byteAt l D g tb hT h0 hc6) w4_153 w4_155 wp1_12 w1_17 w4_156 (x_rec3 C0 h0.1) hd_X3_byteAt rfl ⟨rfl, rfl⟩ ⟨Nat.le_of_ble_eq_true rfl, Nat.le_of_ble_eq_true rfl⟩ (by decide) (by decide) rfl (Nat.le_of_ble_eq_true rfl) dX3_readToken_29 ?_
        refine r_bipush C0 (v := 10) dX3_readToken_32 rfl ?_
        refine r_icmp_ne C0 (tgt := 50) (by decide) dX3_readToken_34 (fun q9 => ?_) (fun q9 => ?_)
        · have hf := ie_f hf q9
          exact B50     _ hf
        · have hf := ie_t hf q9
          exact B37 k0 hk0   _ hf
  have L0 : ∀ (M : xM), f_X3_readToken_c0   M = some M' → WW p l e ({ frames := 2, cells := 0, slots := 0, locals := 41 } : Room) s m args below meth c 0 0 Q 1 D g tb 0 [(0, .ref (g.1 3 1777))] [] M := lp_ind (P := fun f => ∀ (M : xM), f M = some M' → WW p l e ({ frames := 2, cells := 0, slots := 0, locals := 41 } : Room) s m args below meth c 0 0 Q 1 D g tb 0 [(0, .ref (g.1 3 1777))] [] M) (fun  _ h => none_ne h) (fun f hf => B0 f hf) FU
  unfold f_X3_readToken at hf
  exact L0     _ hf
theorem dX3_readNumber_0 : decode cX3_readNumber 0 = .ok (.aload_n 0, 1) := by decide +kernel
theorem dX3_readNumber_1 : decode cX3_readNumber 1 = .ok (.invokevirtual 74, 3) := by decide +kernel
theorem dX3_readNumber_4 : decode cX3_readNumber 4 = .ok (.aload_n 0, 1) := by decide +kernel
theorem dX3_readNumber_5 : decode cX3_readNumber 5 = .ok (.iload_n 1, 1) := by decide +kernel
theorem dX3_readNumber_6 : decode cX3_readNumber 6 = .ok (.iload_n 2, 1) := by decide +kernel
theorem dX3_readNumber_7 : decode cX3_readNumber 7 = .ok (.invokevirtual 148, 3) := by decide +kernel
theorem dX3_readNumber_10 : decode cX3_readNumber 10 = .ok (.ireturn, 1) := by decide +kernel
theorem hd_X3_readNumber : yX3_readNumber.cls = RX3 ∧ yX3_readNumber.cls ≠ "java/lang/invoke/MethodHandle" ∧ yX3_readNumber.cls ≠ "java/lang/invoke/VarHandle" ∧ (parseMethodDescriptor yX3_readNumber.desc).map (fun d => d.parameters.length) = some 2 := by decide +kernel
set_option maxRecDepth 100000 in
set_option maxHeartbeats 4000000 in
theorem c_X3_readNumber (l : Launch) (D : va_G) (g : xG) (tb : List xQ) (hT : x_T g tb) {a1 : Int32} {a2 : Int32} (h0 : x_rd tb) {M : xM} {r : Int32} {M' : xM} (hf : f_X3_readNumber a1 a2 M = some (r, M')) :
    cI l D g tb yX3_readNumber cX3_readNumber 3 .boolean ({ frames := 3, cells := 0, slots := 0, locals := 61 } : Room) [.ref (g.1 3 1777), .int a1, .int a2] M r M' := by
  refine x_startZ (own := RX3) (by decide +kernel) rfl rfl (Nat.le_of_ble_eq_true rfl) hT ?_
  intro p e s m args below meth c Q C0 hend
  unfold f_X3_readNumber at hf
  refine r_aload_n C0 (kk := 0) 0 rfl dX3_readNumber_0 ?_
  obtain ⟨M2, hc1, hf⟩ := bd_e hf
  refine r_callVv C0 (As := []) (rest := []) (c_X3_readToken l D g tb hT h0 hc1) w4_149 w4_151 wp1_11 w1_17 w4_152 (x_rec3 C0 h0.1) hd_X3_readToken rfl ⟨rfl, rfl⟩ ⟨Nat.le_of_ble_eq_true rfl, Nat.le_of_ble_eq_true rfl⟩ (by decide) (by decide) rfl (Nat.le_of_ble_eq_true rfl) dX3_readNumber_1 ?_
  refine r_aload_n C0 (kk := 0) 0 rfl dX3_readNumber_4 ?_
  refine r_iload_n C0 (kk := 1) 1 rfl dX3_readNumber_5 ?_
  refine r_iload_n C0 (kk := 2) 2 rfl dX3_readNumber_6 ?_
  obtain ⟨r5, M4, hc3, hf⟩ := bd2_e hf
  refine r_callVi C0 (As := [.int a1, .int a2]) (rest := []) (c_X3_isNumberFrom l D g tb hT h0 hc3) w4_180 w4_182 wp2_1 w1_17 w4_183 (x_rec3 C0 h0.1) hd_X3_isNumberFrom rfl ⟨rfl, rfl⟩ ⟨Nat.le_of_ble_eq_true rfl, Nat.le_of_ble_eq_true rfl⟩ (by decide) (by decide) rfl (Nat.le_of_ble_eq_true rfl) dX3_readNumber_7 ?_
  obtain ⟨q6, hf⟩ := gd_e hf
  exact hend q6 hf dX3_readNumber_10
theorem dX3_readSemicolon_0 : decode cX3_readSemicolon 0 = .ok (.aload_n 0, 1) := by decide +kernel
theorem dX3_readSemicolon_1 : decode cX3_readSemicolon 1 = .ok (.invokevirtual 74, 3) := by decide +kernel
theorem dX3_readSemicolon_4 : decode cX3_readSemicolon 4 = .ok (.aload_n 0, 1) := by decide +kernel
theorem dX3_readSemicolon_5 : decode cX3_readSemicolon 5 = .ok (.getfield 77, 3) := by decide +kernel
theorem dX3_readSemicolon_8 : decode cX3_readSemicolon 8 = .ok (.iconst 3, 1) := by decide +kernel
theorem dX3_readSemicolon_9 : decode cX3_readSemicolon 9 = .ok (.if_icmp .eq 11, 3) := by decide +kernel
theorem dX3_readSemicolon_12 : decode cX3_readSemicolon 12 = .ok (.aload_n 0, 1) := by decide +kernel
theorem dX3_readSemicolon_13 : decode cX3_readSemicolon 13 = .ok (.iconst 1, 1) := by decide +kernel
theorem dX3_readSemicolon_14 : decode cX3_readSemicolon 14 = .ok (.invokevirtual 80, 3) := by decide +kernel
theorem dX3_readSemicolon_17 : decode cX3_readSemicolon 17 = .ok (.ifCond .eq 7, 3) := by decide +kernel
theorem dX3_readSemicolon_20 : decode cX3_readSemicolon 20 = .ok (.iconst 1, 1) := by decide +kernel
theorem dX3_readSemicolon_21 : decode cX3_readSemicolon 21 = .ok (.goto 4, 3) := by decide +kernel
theorem dX3_readSemicolon_24 : decode cX3_readSemicolon 24 = .ok (.iconst 0, 1) := by decide +kernel
theorem dX3_readSemicolon_25 : decode cX3_readSemicolon 25 = .ok (.ireturn, 1) := by decide +kernel
theorem hd_X3_readSemicolon : yX3_readSemicolon.cls = RX3 ∧ yX3_readSemicolon.cls ≠ "java/lang/invoke/MethodHandle" ∧ yX3_readSemicolon.cls ≠ "java/lang/invoke/VarHandle" ∧ (parseMethodDescriptor yX3_readSemicolon.desc).map (fun d => d.parameters.length) = some 0 := by decide +kernel
set_option maxRecDepth 100000 in
set_option maxHeartbeats 4000000 in
theorem c_X3_readSemicolon (l : Launch) (D : va_G) (g : xG) (tb : List xQ) (hT : x_T g tb)  (h0 : x_rd tb) {M : xM} {r : Int32} {M' : xM} (hf : f_X3_readSemicolon  M = some (r, M')) :
    cI l D g tb yX3_readSemicolon cX3_readSemicolon 1 .boolean ({ frames := 3, cells := 0, slots := 0, locals := 61 } : Room) [.ref (g.1 3 1777)] M r M' := by
  refine x_startZ (own := RX3) (by decide +kernel) rfl rfl (Nat.le_of_ble_eq_true rfl) hT ?_
  intro p e s m args below meth c Q C0 hend
  unfold f_X3_readSemicolon at hf
  refine r_aload_n C0 (kk := 0) 0 rfl dX3_readSemicolon_0 ?_
  obtain ⟨M2, hc1, hf⟩ := bd_e hf
  refine r_callVv C0 (As := []) (rest := []) (c_X3_readToken l D g tb hT h0 hc1) w4_149 w4_151 wp1_11 w1_17 w4_152 (x_rec3 C0 h0.1) hd_X3_readToken rfl ⟨rfl, rfl⟩ ⟨Nat.le_of_ble_eq_true rfl, Nat.le_of_ble_eq_true rfl⟩ (by decide) (by decide) rfl (Nat.le_of_ble_eq_true rfl) dX3_readSemicolon_1 ?_
  refine r_aload_n C0 (kk := 0) 0 rfl dX3_readSemicolon_4 ?_
  refine r_get3 C0 h0.1 7 (by decide) (v := .int (M2 1784)) rfl rfl w4_73 dX3_readSemicolon_5 ?_
  refine r_iconst C0 (v := 3) dX3_readSemicolon_8 rfl ?_
  refine r_icmp_eq C0 (tgt := 20) (by decide) dX3_readSemicolon_9 (fun q3 => ?_) (fun q3 => ?_)
  · have hf := ie_t hf q3
    refine r_iconst C0 (v := 1) dX3_readSemicolon_20 rfl ?_
    refine r_goto C0 (tgt := 25) (by decide) dX3_readSemicolon_21 ?_
    exact hend (by decide) hf dX3_readSemicolon_25
  · have hf := ie_f hf q3
    refine r_aload_n C0 (kk := 0) 0 rfl dX3_readSemicolon_12 ?_
    refine r_iconst C0 (v := 1) dX3_readSemicolon_13 rfl ?_
    obtain ⟨r6, M5, hc4, hf⟩ := bd2_e hf
    refine r_callVi C0 (As := [.int 1]) (rest := []) (c_X3_fail l D g tb hT h0 hc4) w4_172 w4_174 wp1_15 w1_17 w4_175 (x_rec3 C0 h0.1) hd_X3_fail rfl ⟨rfl, rfl⟩ ⟨Nat.le_of_ble_eq_true rfl, Nat.le_of_ble_eq_true rfl⟩ (by decide) (by decide) rfl (Nat.le_of_ble_eq_true rfl) dX3_readSemicolon_14 ?_
    refine r_if_eq C0 (tgt := 24) (by decide) dX3_readSemicolon_17 (fun q7 => ?_) (fun q7 => ?_)
    · have hf := ie_t hf q7
      refine r_iconst C0 (v := 0) dX3_readSemicolon_24 rfl ?_
      exact hend (by decide) hf dX3_readSemicolon_25
    · have hf := ie_f hf q7
      refine r_iconst C0 (v := 1) dX3_readSemicolon_20 rfl ?_
      refine r_goto C0 (tgt := 25) (by decide) dX3_readSemicolon_21 ?_
      exact hend (by decide) hf dX3_readSemicolon_25
theorem dX3_readFog_0 : decode cX3_readFog 0 = .ok (.iconst 0, 1) := by decide +kernel
theorem dX3_readFog_1 : decode cX3_readFog 1 = .ok (.istore_n 2, 1) := by decide +kernel
theorem dX3_readFog_2 : decode cX3_readFog 2 = .ok (.iload_n 2, 1) := by decide +kernel
theorem dX3_readFog_3 : decode cX3_readFog 3 = .ok (.bipush 12, 2) := by decide +kernel
theorem dX3_readFog_5 : decode cX3_readFog 5 = .ok (.if_icmp .gt 76, 3) := by decide +kernel
theorem dX3_readFog_8 : decode cX3_readFog 8 = .ok (.aload_n 0, 1) := by decide +kernel
theorem dX3_readFog_9 : decode cX3_readFog 9 = .ok (.invokevirtual 74, 3) := by decide +kernel
theorem dX3_readFog_12 : decode cX3_readFog 12 = .ok (.aload_n 0, 1) := by decide +kernel
theorem dX3_readFog_13 : decode cX3_readFog 13 = .ok (.getfield 77, 3) := by decide +kernel
theorem dX3_readFog_16 : decode cX3_readFog 16 = .ok (.iconst 3, 1) := by decide +kernel
theorem dX3_readFog_17 : decode cX3_readFog 17 = .ok (.if_icmp .ne 9, 3) := by decide +kernel
theorem dX3_readFog_20 : decode cX3_readFog 20 = .ok (.iload_n 2, 1) := by decide +kernel
theorem dX3_readFog_21 : decode cX3_readFog 21 = .ok (.ifCond .le 5, 3) := by decide +kernel
theorem dX3_readFog_24 : decode cX3_readFog 24 = .ok (.iconst 1, 1) := by decide +kernel
theorem dX3_readFog_25 : decode cX3_readFog 25 = .ok (.ireturn, 1) := by decide +kernel
theorem dX3_readFog_26 : decode cX3_readFog 26 = .ok (.aload_n 0, 1) := by decide +kernel
theorem dX3_readFog_27 : decode cX3_readFog 27 = .ok (.getfield 77, 3) := by decide +kernel
theorem dX3_readFog_30 : decode cX3_readFog 30 = .ok (.iconst 2, 1) := by decide +kernel
theorem dX3_readFog_31 : decode cX3_readFog 31 = .ok (.if_icmp .eq 9, 3) := by decide +kernel
theorem dX3_readFog_34 : decode cX3_readFog 34 = .ok (.aload_n 0, 1) := by decide +kernel
theorem dX3_readFog_35 : decode cX3_readFog 35 = .ok (.iconst 1, 1) := by decide +kernel
theorem dX3_readFog_36 : decode cX3_readFog 36 = .ok (.invokevirtual 80, 3) := by decide +kernel
theorem dX3_readFog_39 : decode cX3_readFog 39 = .ok (.ireturn, 1) := by decide +kernel
theorem dX3_readFog_40 : decode cX3_readFog 40 = .ok (.aload_n 0, 1) := by decide +kernel
theorem dX3_readFog_41 : decode cX3_readFog 41 = .ok (.getfield 55, 3) := by decide +kernel
theorem dX3_readFog_44 : decode cX3_readFog 44 = .ok (.bipush 9, 2) := by decide +kernel
theorem dX3_readFog_46 : decode cX3_readFog 46 = .ok (.if_icmp .le 9, 3) := by decide +kernel
theorem dX3_readFog_49 : decode cX3_readFog 49 = .ok (.aload_n 0, 1) := by decide +kernel
theorem dX3_readFog_50 : decode cX3_readFog 50 = .ok (.iconst 2, 1) := by decide +kernel
theorem dX3_readFog_51 : decode cX3_readFog 51 = .ok (.invokevirtual 80, 3) := by decide +kernel
theorem dX3_readFog_54 : decode cX3_readFog 54 = .ok (.ireturn, 1) := by decide +kernel
theorem dX3_readFog_55 : decode cX3_readFog 55 = .ok (.iload_n 2, 1) := by decide +kernel
theorem dX3_readFog_56 : decode cX3_readFog 56 = .ok (.bipush 12, 2) := by decide +kernel
theorem dX3_readFog_58 : decode cX3_readFog 58 = .ok (.if_icmp .ne 9, 3) := by decide +kernel
theorem dX3_readFog_61 : decode cX3_readFog 61 = .ok (.aload_n 0, 1) := by decide +kernel
theorem dX3_readFog_62 : decode cX3_readFog 62 = .ok (.iconst 4, 1) := by decide +kernel
theorem dX3_readFog_63 : decode cX3_readFog 63 = .ok (.invokevirtual 80, 3) := by decide +kernel
theorem dX3_readFog_66 : decode cX3_readFog 66 = .ok (.ireturn, 1) := by decide +kernel
theorem dX3_readFog_67 : decode cX3_readFog 67 = .ok (.aload_n 1, 1) := by decide +kernel
theorem dX3_readFog_68 : decode cX3_readFog 68 = .ok (.aload_n 0, 1) := by decide +kernel
theorem dX3_readFog_69 : decode cX3_readFog 69 = .ok (.getfield 55, 3) := by decide +kernel
theorem dX3_readFog_72 : decode cX3_readFog 72 = .ok (.invokevirtual 84, 3) := by decide +kernel
theorem dX3_readFog_75 : decode cX3_readFog 75 = .ok (.iinc 2 1, 3) := by decide +kernel
theorem dX3_readFog_78 : decode cX3_readFog 78 = .ok (.goto (-76), 3) := by decide +kernel
theorem dX3_readFog_81 : decode cX3_readFog 81 = .ok (.iconst 0, 1) := by decide +kernel
theorem dX3_readFog_82 : decode cX3_readFog 82 = .ok (.ireturn, 1) := by decide +kernel
theorem hd_X3_readFog : yX3_readFog.cls = RX3 ∧ yX3_readFog.cls ≠ "java/lang/invoke/MethodHandle" ∧ yX3_readFog.cls ≠ "java/lang/invoke/VarHandle" ∧ (parseMethodDescriptor yX3_readFog.desc).map (fun d => d.parameters.length) = some 1 := by decide +kernel
set_option maxRecDepth 100000 in
set_option maxHeartbeats 4000000 in
theorem c_X3_readFog (l : Launch) (D : va_G) (g : xG) (tb : List xQ) (hT : x_T g tb) {a1 : Nat} (h0 : x_rd tb) (h1 : x_mk tb a1) {M : xM} {r : Int32} {M' : xM} (hf : f_X3_readFog a1 M = some (r, M')) :
    cI l D g tb yX3_readFog cX3_readFog 3 .boolean ({ frames := 3, cells := 0, slots := 0, locals := 61 } : Room) [.ref (g.1 3 1777), .ref (g.1 2 a1)] M r M' := by
  refine x_startZ (own := RX3) (by decide +kernel) rfl rfl (Nat.le_of_ble_eq_true rfl) hT ?_
  intro p e s m args below meth c Q C0 hend
  have B26 : ∀ (k2 : Int32 → xM → Option (Int32 × xM)) (hk2 : ∀ (v2 : Int32)  (M : xM), k2 v2 M = some (r, M') → WW p l e ({ frames := 3, cells := 0, slots := 0, locals := 61 } : Room) s m args below meth c 0 0 Q 3 D g tb 2 [(0, .ref (g.1 3 1777)), (1, .ref (g.1 2 a1)), (2, .int v2)] [] M), ∀ (v2 : Int32)  (M : xM), f_X3_readFog_c26 k2 a1 v2 M = some (r, M') → WW p l e ({ frames := 3, cells := 0, slots := 0, locals := 61 } : Room) s m args below meth c 0 0 Q 3 D g tb 26 [(0, .ref (g.1 3 1777)), (1, .ref (g.1 2 a1)), (2, .int v2)] [] M := by
    intro k2 hk2 v2  M hf
    unfold f_X3_readFog_c26 at hf
    refine r_aload_n C0 (kk := 0) 0 rfl dX3_readFog_26 ?_
    refine r_get3 C0 h0.1 7 (by decide) (v := .int (M 1784)) rfl rfl w4_73 dX3_readFog_27 ?_
    refine r_iconst C0 (v := 2) dX3_readFog_30 rfl ?_
    refine r_icmp_eq C0 (tgt := 40) (by decide) dX3_readFog_31 (fun q6 => ?_) (fun q6 => ?_)
    · have hf := ie_t hf q6
      refine r_aload_n C0 (kk := 0) 0 rfl dX3_readFog_40 ?_
      refine r_get3 C0 h0.1 9 (by decide) (v := .int (M 1786)) rfl rfl w4_75 dX3_readFog_41 ?_
      refine r_bipush C0 (v := 9) dX3_readFog_44 rfl ?_
      refine r_icmp_le C0 (tgt := 55) (by decide) dX3_readFog_46 (fun q7 => ?_) (fun q7 => ?_)
      · have hf := ie_t hf q7
        refine r_iload_n C0 (kk := 2) 2 rfl dX3_readFog_55 ?_
        refine r_bipush C0 (v := 12) dX3_readFog_56 rfl ?_
        refine r_icmp_ne C0 (tgt := 67) (by decide) dX3_readFog_58 (fun q8 => ?_) (fun q8 => ?_)
        · have hf := ie_f hf q8
          refine r_aload_n C0 (kk := 1) 1 rfl dX3_readFog_67 ?_
          refine r_aload_n C0 (kk := 0) 0 rfl dX3_readFog_68 ?_
          refine r_get3 C0 h0.1 9 (by decide) (v := .int (M 1786)) rfl rfl w4_75 dX3_readFog_69 ?_
          obtain ⟨M10, hc9, hf⟩ := bd_e hf
          refine r_callVv C0 (As := [.int (M 1786)]) (rest := []) (c_X2_addDensity l D g tb hT h1 hc9) w4_197 w4_198 w4_199 w1_14 w4_200 (x_rec2 C0 h1.1) hd_X2_addDensity rfl ⟨rfl, rfl⟩ ⟨Nat.le_of_ble_eq_true rfl, Nat.le_of_ble_eq_true rfl⟩ (by decide) (by decide) rfl (Nat.le_of_ble_eq_true rfl) dX3_readFog_72 ?_
          refine r_iincc C0 2 rfl (k0 := 1) (by decide) (by decide) (lv2 := [(2, .int (v2 + 1)), (0, .ref (g.1 3 1777)), (1, .ref (g.1 2 a1))]) rfl dX3_readFog_75 ?_
          refine r_goto C0 (tgt := 2) (by decide) dX3_readFog_78 ?_
          refine WW.sub [1, 2, 0] rfl ?_
          exact hk2 _   _ hf
        · have hf := ie_t hf q8
          refine r_aload_n C0 (kk := 0) 0 rfl dX3_readFog_61 ?_
          refine r_iconst C0 (v := 4) dX3_readFog_62 rfl ?_
          obtain ⟨r13, M12, hc11, hf⟩ := bd2_e hf
          refine r_callVi C0 (As := [.int 4]) (rest := []) (c_X3_fail l D g tb hT h0 hc11) w4_172 w4_174 wp1_15 w1_17 w4_175 (x_rec3 C0 h0.1) hd_X3_fail rfl ⟨rfl, rfl⟩ ⟨Nat.le_of_ble_eq_true rfl, Nat.le_of_ble_eq_true rfl⟩ (by decide) (by decide) rfl (Nat.le_of_ble_eq_true rfl) dX3_readFog_63 ?_
          obtain ⟨q14, hf⟩ := gd_e hf
          exact hend q14 hf dX3_readFog_66
      · have hf := ie_f hf q7
        refine r_aload_n C0 (kk := 0) 0 rfl dX3_readFog_49 ?_
        refine r_iconst C0 (v := 2) dX3_readFog_50 rfl ?_
        obtain ⟨r17, M16, hc15, hf⟩ := bd2_e hf
        refine r_callVi C0 (As := [.int 2]) (rest := []) (c_X3_fail l D g tb hT h0 hc15) w4_172 w4_174 wp1_15 w1_17 w4_175 (x_rec3 C0 h0.1) hd_X3_fail rfl ⟨rfl, rfl⟩ ⟨Nat.le_of_ble_eq_true rfl, Nat.le_of_ble_eq_true rfl⟩ (by decide) (by decide) rfl (Nat.le_of_ble_eq_true rfl) dX3_readFog_51 ?_
        obtain ⟨q18, hf⟩ := gd_e hf
        exact hend q18 hf dX3_readFog_54
    · have hf := ie_f hf q6
      refine r_aload_n C0 (kk := 0) 0 rfl dX3_readFog_34 ?_
      refine r_iconst C0 (v := 1) dX3_readFog_35 rfl ?_
      obtain ⟨r21, M20, hc19, hf⟩ := bd2_e hf
      refine r_callVi C0 (As := [.int 1]) (rest := []) (c_X3_fail l D g tb hT h0 hc19) w4_172 w4_174 wp1_15 w1_17 w4_175 (x_rec3 C0 h0.1) hd_X3_fail rfl ⟨rfl, rfl⟩ ⟨Nat.le_of_ble_eq_true rfl, Nat.le_of_ble_eq_true rfl⟩ (by decide) (by decide) rfl (Nat.le_of_ble_eq_true rfl) dX3_readFog_36 ?_
      obtain ⟨q22, hf⟩ := gd_e hf
      exact hend q22 hf dX3_readFog_39
  have B2 : ∀ (k2 : Int32 → xM → Option (Int32 × xM)) (hk2 : ∀ (v2 : Int32)  (M : xM), k2 v2 M = some (r, M') → WW p l e ({ frames := 3, cells := 0, slots := 0, locals := 61 } : Room) s m args below meth c 0 0 Q 3 D g tb 2 [(0, .ref (g.1 3 1777)), (1, .ref (g.1 2 a1)), (2, .int v2)] [] M), ∀ (v2 : Int32)  (M : xM), fb_X3_readFog_c2 k2 a1 v2 M = some (r, M') → WW p l e ({ frames := 3, cells := 0, slots := 0, locals := 61 } : Room) s m args below meth c 0 0 Q 3 D g tb 2 [(0, .ref (g.1 3 1777)), (1, .ref (g.1 2 a1)), (2, .int v2)] [] M := by
    intro k2 hk2 v2  M hf
    unfold fb_X3_readFog_c2 at hf
    refine r_iload_n C0 (kk := 2) 2 rfl dX3_readFog_2 ?_
    refine r_bipush C0 (v := 12) dX3_readFog_3 rfl ?_
    refine r_icmp_gt C0 (tgt := 81) (by decide) dX3_readFog_5 (fun q1 => ?_) (fun q1 => ?_)
    · have hf := ie_t hf q1
      refine r_iconst C0 (v := 0) dX3_readFog_81 rfl ?_
      exact hend (by decide) hf dX3_readFog_82
    · have hf := ie_f hf q1
      refine r_aload_n C0 (kk := 0) 0 rfl dX3_readFog_8 ?_
      obtain ⟨M3, hc2, hf⟩ := bd_e hf
      refine r_callVv C0 (As := []) (rest := []) (c_X3_readToken l D g tb hT h0 hc2) w4_149 w4_151 wp1_11 w1_17 w4_152 (x_rec3 C0 h0.1) hd_X3_readToken rfl ⟨rfl, rfl⟩ ⟨Nat.le_of_ble_eq_true rfl, Nat.le_of_ble_eq_true rfl⟩ (by decide) (by decide) rfl (Nat.le_of_ble_eq_true rfl) dX3_readFog_9 ?_
      refine r_aload_n C0 (kk := 0) 0 rfl dX3_readFog_12 ?_
      refine r_get3 C0 h0.1 7 (by decide) (v := .int (M3 1784)) rfl rfl w4_73 dX3_readFog_13 ?_
      refine r_iconst C0 (v := 3) dX3_readFog_16 rfl ?_
      refine r_icmp_ne C0 (tgt := 26) (by decide) dX3_readFog_17 (fun q4 => ?_) (fun q4 => ?_)
      · have hf := ie_f hf q4
        exact B26 k2 hk2 _   _ hf
      · have hf := ie_t hf q4
        refine r_iload_n C0 (kk := 2) 2 rfl dX3_readFog_20 ?_
        refine r_if_le C0 (tgt := 26) (by decide) dX3_readFog_21 (fun q5 => ?_) (fun q5 => ?_)
        · have hf := ie_t hf q5
          exact B26 k2 hk2 _   _ hf
        · have hf := ie_f hf q5
          refine r_iconst C0 (v := 1) dX3_readFog_24 rfl ?_
          exact hend (by decide) hf dX3_readFog_25
  have L2 : ∀ (v2 : Int32)  (M : xM), f_X3_readFog_c2  a1 v2 M = some (r, M') → WW p l e ({ frames := 3, cells := 0, slots := 0, locals := 61 } : Room) s m args below meth c 0 0 Q 3 D g tb 2 [(0, .ref (g.1 3 1777)), (1, .ref (g.1 2 a1)), (2, .int v2)] [] M := lp_ind (P := fun f => ∀ (v2 : Int32)  (M : xM), f v2 M = some (r, M') → WW p l e ({ frames := 3, cells := 0, slots := 0, locals := 61 } : Room) s m args below meth c 0 0 Q 3 D g tb 2 [(0, .ref (g.1 3 1777)), (1, .ref (g.1 2 a1)), (2, .int v2)] [] M) (fun _ _ h => none_ne h) (fun f hf => B2 f hf) FU
  unfold f_X3_readFog at hf
  refine r_iconst C0 (v := 0) dX3_readFog_0 rfl ?_
  refine r_istore_n C0 (kk := 2) (lv2 := [(2, .int 0), (0, .ref (g.1 3 1777)), (1, .ref (g.1 2 a1))]) (by decide) rfl dX3_readFog_1 ?_
  refine WW.sub [1, 2, 0] rfl ?_
  exact L2   _   _ hf
theorem dX3_isRefusedBy_0 : decode cX3_isRefusedBy 0 = .ok (.aload_n 0, 1) := by decide +kernel
theorem dX3_isRefusedBy_1 : decode cX3_isRefusedBy 1 = .ok (.getfield 91, 3) := by decide +kernel
theorem dX3_isRefusedBy_4 : decode cX3_isRefusedBy 4 = .ok (.getstatic 158, 3) := by decide +kernel
theorem dX3_isRefusedBy_7 : decode cX3_isRefusedBy 7 = .ok (.if_acmp .ne 44, 3) := by decide +kernel
theorem dX3_isRefusedBy_10 : decode cX3_isRefusedBy 10 = .ok (.iload_n 2, 1) := by decide +kernel
theorem dX3_isRefusedBy_11 : decode cX3_isRefusedBy 11 = .ok (.iconst 1, 1) := by decide +kernel
theorem dX3_isRefusedBy_12 : decode cX3_isRefusedBy 12 = .ok (.if_icmp .ne 39, 3) := by decide +kernel
theorem dX3_isRefusedBy_15 : decode cX3_isRefusedBy 15 = .ok (.aload_n 0, 1) := by decide +kernel
theorem dX3_isRefusedBy_16 : decode cX3_isRefusedBy 16 = .ok (.iconst 0, 1) := by decide +kernel
theorem dX3_isRefusedBy_17 : decode cX3_isRefusedBy 17 = .ok (.invokevirtual 161, 3) := by decide +kernel
theorem dX3_isRefusedBy_20 : decode cX3_isRefusedBy 20 = .ok (.istore_n 3, 1) := by decide +kernel
theorem dX3_isRefusedBy_21 : decode cX3_isRefusedBy 21 = .ok (.aload_n 1, 1) := by decide +kernel
theorem dX3_isRefusedBy_22 : decode cX3_isRefusedBy 22 = .ok (.iload_n 3, 1) := by decide +kernel
theorem dX3_isRefusedBy_23 : decode cX3_isRefusedBy 23 = .ok (.invokevirtual 165, 3) := by decide +kernel
theorem dX3_isRefusedBy_26 : decode cX3_isRefusedBy 26 = .ok (.ifCond .eq 23, 3) := by decide +kernel
theorem dX3_isRefusedBy_29 : decode cX3_isRefusedBy 29 = .ok (.aload_n 1, 1) := by decide +kernel
theorem dX3_isRefusedBy_30 : decode cX3_isRefusedBy 30 = .ok (.getfield 168, 3) := by decide +kernel
theorem dX3_isRefusedBy_33 : decode cX3_isRefusedBy 33 = .ok (.iload_n 3, 1) := by decide +kernel
theorem dX3_isRefusedBy_34 : decode cX3_isRefusedBy 34 = .ok (.aaload, 1) := by decide +kernel
theorem dX3_isRefusedBy_35 : decode cX3_isRefusedBy 35 = .ok (.aload_n 0, 1) := by decide +kernel
theorem dX3_isRefusedBy_36 : decode cX3_isRefusedBy 36 = .ok (.getfield 55, 3) := by decide +kernel
theorem dX3_isRefusedBy_39 : decode cX3_isRefusedBy 39 = .ok (.invokevirtual 172, 3) := by decide +kernel
theorem dX3_isRefusedBy_42 : decode cX3_isRefusedBy 42 = .ok (.ifCond .ne 7, 3) := by decide +kernel
theorem dX3_isRefusedBy_45 : decode cX3_isRefusedBy 45 = .ok (.iconst 1, 1) := by decide +kernel
theorem dX3_isRefusedBy_46 : decode cX3_isRefusedBy 46 = .ok (.goto 4, 3) := by decide +kernel
theorem dX3_isRefusedBy_49 : decode cX3_isRefusedBy 49 = .ok (.iconst 0, 1) := by decide +kernel
theorem dX3_isRefusedBy_50 : decode cX3_isRefusedBy 50 = .ok (.ireturn, 1) := by decide +kernel
theorem dX3_isRefusedBy_51 : decode cX3_isRefusedBy 51 = .ok (.aload_n 0, 1) := by decide +kernel
theorem dX3_isRefusedBy_52 : decode cX3_isRefusedBy 52 = .ok (.getfield 91, 3) := by decide +kernel
theorem dX3_isRefusedBy_55 : decode cX3_isRefusedBy 55 = .ok (.getstatic 177, 3) := by decide +kernel
theorem dX3_isRefusedBy_58 : decode cX3_isRefusedBy 58 = .ok (.if_acmp .ne 35, 3) := by decide +kernel
theorem dX3_isRefusedBy_61 : decode cX3_isRefusedBy 61 = .ok (.aload_n 1, 1) := by decide +kernel
theorem dX3_isRefusedBy_62 : decode cX3_isRefusedBy 62 = .ok (.aload_n 0, 1) := by decide +kernel
theorem dX3_isRefusedBy_63 : decode cX3_isRefusedBy 63 = .ok (.getfield 55, 3) := by decide +kernel
theorem dX3_isRefusedBy_66 : decode cX3_isRefusedBy 66 = .ok (.invokevirtual 180, 3) := by decide +kernel
theorem dX3_isRefusedBy_69 : decode cX3_isRefusedBy 69 = .ok (.ifCond .eq 22, 3) := by decide +kernel
theorem dX3_isRefusedBy_72 : decode cX3_isRefusedBy 72 = .ok (.aload_n 1, 1) := by decide +kernel
theorem dX3_isRefusedBy_73 : decode cX3_isRefusedBy 73 = .ok (.getfield 183, 3) := by decide +kernel
theorem dX3_isRefusedBy_76 : decode cX3_isRefusedBy 76 = .ok (.aload_n 0, 1) := by decide +kernel
theorem dX3_isRefusedBy_77 : decode cX3_isRefusedBy 77 = .ok (.getfield 55, 3) := by decide +kernel
theorem dX3_isRefusedBy_80 : decode cX3_isRefusedBy 80 = .ok (.aaload, 1) := by decide +kernel
theorem dX3_isRefusedBy_81 : decode cX3_isRefusedBy 81 = .ok (.invokevirtual 187, 3) := by decide +kernel
theorem dX3_isRefusedBy_84 : decode cX3_isRefusedBy 84 = .ok (.ifCond .ne 7, 3) := by decide +kernel
theorem dX3_isRefusedBy_87 : decode cX3_isRefusedBy 87 = .ok (.iconst 1, 1) := by decide +kernel
theorem dX3_isRefusedBy_88 : decode cX3_isRefusedBy 88 = .ok (.goto 4, 3) := by decide +kernel
theorem dX3_isRefusedBy_91 : decode cX3_isRefusedBy 91 = .ok (.iconst 0, 1) := by decide +kernel
theorem dX3_isRefusedBy_92 : decode cX3_isRefusedBy 92 = .ok (.ireturn, 1) := by decide +kernel
theorem dX3_isRefusedBy_93 : decode cX3_isRefusedBy 93 = .ok (.iconst 0, 1) := by decide +kernel
theorem dX3_isRefusedBy_94 : decode cX3_isRefusedBy 94 = .ok (.ireturn, 1) := by decide +kernel
theorem hd_X3_isRefusedBy : yX3_isRefusedBy.cls = RX3 ∧ yX3_isRefusedBy.cls ≠ "java/lang/invoke/MethodHandle" ∧ yX3_isRefusedBy.cls ≠ "java/lang/invoke/VarHandle" ∧ (parseMethodDescriptor yX3_isRefusedBy.desc).map (fun d => d.parameters.length) = some 2 := by decide +kernel
set_option maxRecDepth 100000 in
set_option maxHeartbeats 4000000 in
theorem c_X3_isRefusedBy (l : Launch) (D : va_G) (g : xG) (tb : List xQ) (hT : x_T g tb) {a1 : Nat} {a2 : Int32} (h0 : x_rd tb) (h1 : x_mk tb a1) {M : xM} {r : Int32} {M' : xM} (hf : f_X3_isRefusedBy a1 a2 M = some (r, M')) :
    cI l D g tb yX3_isRefusedBy cX3_isRefusedBy 4 .boolean ({ frames := 1, cells := 0, slots := 0, locals := 21 } : Room) [.ref (g.1 3 1777), .ref (g.1 2 a1), .int a2] M r M' := by
  refine x_startZ (own := RX3) (by decide +kernel) rfl rfl (Nat.le_of_ble_eq_true rfl) hT ?_
  intro p e s m args below meth c Q C0 hend
  have B51 : ∀ (M : xM), f_X3_isRefusedBy_c51  a1 a2 M = some (r, M') → WW p l e ({ frames := 1, cells := 0, slots := 0, locals := 21 } : Room) s m args below meth c 0 0 Q 4 D g tb 51 [(0, .ref (g.1 3 1777)), (1, .ref (g.1 2 a1))] [] M := by
    intro     M hf
    unfold f_X3_isRefusedBy_c51 at hf
    refine r_aload_n C0 (kk := 0) 0 rfl dX3_isRefusedBy_51 ?_
    refine r_get3 C0 h0.1 4 (by decide) (v := va_re g.2.2 (x_en (M 1781))) rfl rfl w4_69 dX3_isRefusedBy_52 ?_
    refine r_gverb C0 (i := 7) (x := 8) (by decide) (by decide) w5_27 dX3_isRefusedBy_55 ?_
    obtain ⟨q18, hf⟩ := gd_e hf
    refine r_acmpne C0 q18 (by decide) (tgt := 93) (by decide) dX3_isRefusedBy_58 (fun q17 => ?_) (fun q17 => ?_)
    · have hf := ie_f hf q17
      refine r_iconst C0 (v := 0) dX3_isRefusedBy_93 rfl ?_
      exact hend (by decide) hf dX3_isRefusedBy_94
    · have hf := ie_t hf q17
      refine r_aload_n C0 (kk := 1) 1 rfl dX3_isRefusedBy_61 ?_
      refine r_aload_n C0 (kk := 0) 0 rfl dX3_isRefusedBy_62 ?_
      refine r_get3 C0 h0.1 9 (by decide) (v := .int (M 1786)) rfl rfl w4_75 dX3_isRefusedBy_63 ?_
      obtain ⟨r21, M20, hc19, hf⟩ := bd2_e hf
      refine r_callVi C0 (As := [.int (M 1786)]) (rest := []) (c_X2_isBuyer l D g tb hT h1 hc19) w5_29 w5_30 w5_31 w1_14 w5_32 (x_rec2 C0 h1.1) hd_X2_isBuyer rfl ⟨rfl, rfl⟩ ⟨Nat.le_of_ble_eq_true rfl, Nat.le_of_ble_eq_true rfl⟩ (by decide) (by decide) rfl (Nat.le_of_ble_eq_true rfl) dX3_isRefusedBy_66 ?_
      refine r_if_eq C0 (tgt := 91) (by decide) dX3_isRefusedBy_69 (fun q22 => ?_) (fun q22 => ?_)
      · have hf := ie_t hf q22
        refine r_iconst C0 (v := 0) dX3_isRefusedBy_91 rfl ?_
        exact hend (by decide) hf dX3_isRefusedBy_92
      · have hf := ie_f hf q22
        refine r_aload_n C0 (kk := 1) 1 rfl dX3_isRefusedBy_72 ?_
        refine r_get2 C0 h1.1 2 (by decide) (v := .ref (g.1 11 (a1 + 77))) rfl rfl w4_2 dX3_isRefusedBy_73 ?_
        refine r_aload_n C0 (kk := 0) 0 rfl dX3_isRefusedBy_76 ?_
        refine r_get3 C0 h0.1 9 (by decide) (v := .int (M20 1786)) rfl rfl w4_75 dX3_isRefusedBy_77 ?_
        obtain ⟨q23, hf⟩ := gd_e hf
        have hm24 : ((1, ((a1 + 77) + 8 * (M20 1786).toNatClampNeg), 0) : xQ) ∈ tb := h1.2.2.2.2.2 _ (inb_lt q23)
        refine r_aald11 C0 h1.2.2.1 (inb_in q23) dX3_isRefusedBy_80 ?_
        obtain ⟨r27, M26, hc25, hf⟩ := bd2_e hf
        refine r_callVi C0 (As := []) (rest := []) (c_X1_holds l D g tb hT hm24 hc25) w5_33 w5_34 w5_35 w1_16 w5_36 (x_rec1 C0 hm24) hd_X1_holds rfl ⟨rfl, rfl⟩ ⟨Nat.le_of_ble_eq_true rfl, Nat.le_of_ble_eq_true rfl⟩ (by decide) (by decide) rfl (Nat.le_of_ble_eq_true rfl) dX3_isRefusedBy_81 ?_
        refine r_if_ne C0 (tgt := 91) (by decide) dX3_isRefusedBy_84 (fun q28 => ?_) (fun q28 => ?_)
        · have hf := ie_f hf q28
          refine r_iconst C0 (v := 0) dX3_isRefusedBy_91 rfl ?_
          exact hend (by decide) hf dX3_isRefusedBy_92
        · have hf := ie_t hf q28
          refine r_iconst C0 (v := 1) dX3_isRefusedBy_87 rfl ?_
          refine r_goto C0 (tgt := 92) (by decide) dX3_isRefusedBy_88 ?_
          exact hend (by decide) hf dX3_isRefusedBy_92
  unfold f_X3_isRefusedBy at hf
  refine r_aload_n C0 (kk := 0) 0 rfl dX3_isRefusedBy_0 ?_
  refine r_get3 C0 h0.1 4 (by decide) (v := va_re g.2.2 (x_en (M 1781))) rfl rfl w4_69 dX3_isRefusedBy_1 ?_
  refine r_gverb C0 (i := 3) (x := 4) (by decide) (by decide) w5_16 dX3_isRefusedBy_4 ?_
  obtain ⟨q2, hf⟩ := gd_e hf
  refine r_acmpne C0 q2 (by decide) (tgt := 51) (by decide) dX3_isRefusedBy_7 (fun q1 => ?_) (fun q1 => ?_)
  · have hf := ie_f hf q1
    refine WW.sub [0, 1] rfl ?_
    exact B51     _ hf
  · have hf := ie_t hf q1
    refine r_iload_n C0 (kk := 2) 2 rfl dX3_isRefusedBy_10 ?_
    refine r_iconst C0 (v := 1) dX3_isRefusedBy_11 rfl ?_
    refine r_icmp_ne C0 (tgt := 51) (by decide) dX3_isRefusedBy_12 (fun q3 => ?_) (fun q3 => ?_)
    · have hf := ie_f hf q3
      refine WW.sub [0, 1] rfl ?_
      exact B51     _ hf
    · have hf := ie_t hf q3
      refine r_aload_n C0 (kk := 0) 0 rfl dX3_isRefusedBy_15 ?_
      refine r_iconst C0 (v := 0) dX3_isRefusedBy_16 rfl ?_
      obtain ⟨r6, M5, hc4, hf⟩ := bd2_e hf
      refine r_callVi C0 (As := [.int 0]) (rest := []) (c_X3_argument l D g tb hT h0 hc4) w5_18 w5_19 w5_20 w1_17 w5_21 (x_rec3 C0 h0.1) hd_X3_argument rfl ⟨rfl, rfl⟩ ⟨Nat.le_of_ble_eq_true rfl, Nat.le_of_ble_eq_true rfl⟩ (by decide) (by decide) rfl (Nat.le_of_ble_eq_true rfl) dX3_isRefusedBy_17 ?_
      refine r_istore_n C0 (kk := 3) (lv2 := [(3, .int r6), (0, .ref (g.1 3 1777)), (1, .ref (g.1 2 a1)), (2, .int a2)]) (by decide) rfl dX3_isRefusedBy_20 ?_
      refine r_aload_n C0 (kk := 1) 2 rfl dX3_isRefusedBy_21 ?_
      refine r_iload_n C0 (kk := 3) 0 rfl dX3_isRefusedBy_22 ?_
      obtain ⟨r9, M8, hc7, hf⟩ := bd2_e hf
      refine r_callVi C0 (As := [.int r6]) (rest := []) (c_X2_isStall l D g tb hT h1 hc7) w5_22 w2_63 w2_64 w1_14 w2_65 (x_rec2 C0 h1.1) hd_X2_isStall rfl ⟨rfl, rfl⟩ ⟨Nat.le_of_ble_eq_true rfl, Nat.le_of_ble_eq_true rfl⟩ (by decide) (by decide) rfl (Nat.le_of_ble_eq_true rfl) dX3_isRefusedBy_23 ?_
      refine r_if_eq C0 (tgt := 49) (by decide) dX3_isRefusedBy_26 (fun q10 => ?_) (fun q10 => ?_)
      · have hf := ie_t hf q10
        refine r_iconst C0 (v := 0) dX3_isRefusedBy_49 rfl ?_
        exact hend (by decide) hf dX3_isRefusedBy_50
      · have hf := ie_f hf q10
        refine r_aload_n C0 (kk := 1) 2 rfl dX3_isRefusedBy_29 ?_
        refine r_get2 C0 h1.1 0 (by decide) (v := .ref (g.1 10 (a1 + 23))) rfl rfl w3_236 dX3_isRefusedBy_30 ?_
        refine r_iload_n C0 (kk := 3) 0 rfl dX3_isRefusedBy_33 ?_
        obtain ⟨q11, hf⟩ := gd_e hf
        have hm12 : ((0, ((a1 + 23) + 9 * r6.toNatClampNeg), 0) : xQ) ∈ tb := h1.2.2.2.2.1 _ (inb_lt q11)
        refine r_aald10 C0 h1.2.1 (inb_in q11) dX3_isRefusedBy_34 ?_
        refine r_aload_n C0 (kk := 0) 1 rfl dX3_isRefusedBy_35 ?_
        refine r_get3 C0 h0.1 9 (by decide) (v := .int (M8 1786)) rfl rfl w4_75 dX3_isRefusedBy_36 ?_
        obtain ⟨r15, M14, hc13, hf⟩ := bd2_e hf
        refine r_callVi C0 (As := [.int (M8 1786)]) (rest := []) (c_X4_hasRoomFor l D g tb hT hm12 hc13) w5_23 w5_24 w5_25 w1_15 w5_26 (x_rec0 C0 hm12) hd_X4_hasRoomFor rfl ⟨rfl, rfl⟩ ⟨Nat.le_of_ble_eq_true rfl, Nat.le_of_ble_eq_true rfl⟩ (by decide) (by decide) rfl (Nat.le_of_ble_eq_true rfl) dX3_isRefusedBy_39 ?_
        refine r_if_ne C0 (tgt := 49) (by decide) dX3_isRefusedBy_42 (fun q16 => ?_) (fun q16 => ?_)
        · have hf := ie_f hf q16
          refine r_iconst C0 (v := 0) dX3_isRefusedBy_49 rfl ?_
          exact hend (by decide) hf dX3_isRefusedBy_50
        · have hf := ie_t hf q16
          refine r_iconst C0 (v := 1) dX3_isRefusedBy_45 rfl ?_
          refine r_goto C0 (tgt := 50) (by decide) dX3_isRefusedBy_46 ?_
          exact hend (by decide) hf dX3_isRefusedBy_50
theorem dX2_placeStall_0 : decode cX2_placeStall 0 = .ok (.aload_n 0, 1) := by decide +kernel
theorem dX2_placeStall_1 : decode cX2_placeStall 1 = .ok (.getfield 29, 3) := by decide +kernel
theorem dX2_placeStall_4 : decode cX2_placeStall 4 = .ok (.aload_n 0, 1) := by decide +kernel
theorem dX2_placeStall_5 : decode cX2_placeStall 5 = .ok (.getfield 11, 3) := by decide +kernel
theorem dX2_placeStall_8 : decode cX2_placeStall 8 = .ok (.arraylength, 1) := by decide +kernel
theorem dX2_placeStall_9 : decode cX2_placeStall 9 = .ok (.if_icmp .lt 5, 3) := by decide +kernel
theorem dX2_placeStall_12 : decode cX2_placeStall 12 = .ok (.iconst (-1), 1) := by decide +kernel
theorem dX2_placeStall_13 : decode cX2_placeStall 13 = .ok (.ireturn, 1) := by decide +kernel
theorem dX2_placeStall_14 : decode cX2_placeStall 14 = .ok (.aload_n 0, 1) := by decide +kernel
theorem dX2_placeStall_15 : decode cX2_placeStall 15 = .ok (.getfield 29, 3) := by decide +kernel
theorem dX2_placeStall_18 : decode cX2_placeStall 18 = .ok (.istore 6, 2) := by decide +kernel
theorem dX2_placeStall_20 : decode cX2_placeStall 20 = .ok (.aload_n 0, 1) := by decide +kernel
theorem dX2_placeStall_21 : decode cX2_placeStall 21 = .ok (.getfield 11, 3) := by decide +kernel
theorem dX2_placeStall_24 : decode cX2_placeStall 24 = .ok (.iload 6, 2) := by decide +kernel
theorem dX2_placeStall_26 : decode cX2_placeStall 26 = .ok (.aaload, 1) := by decide +kernel
theorem dX2_placeStall_27 : decode cX2_placeStall 27 = .ok (.iload_n 1, 1) := by decide +kernel
theorem dX2_placeStall_28 : decode cX2_placeStall 28 = .ok (.iload_n 2, 1) := by decide +kernel
theorem dX2_placeStall_29 : decode cX2_placeStall 29 = .ok (.iload_n 3, 1) := by decide +kernel
theorem dX2_placeStall_30 : decode cX2_placeStall 30 = .ok (.iload 4, 2) := by decide +kernel
theorem dX2_placeStall_32 : decode cX2_placeStall 32 = .ok (.invokevirtual 104, 3) := by decide +kernel
theorem dX2_placeStall_35 : decode cX2_placeStall 35 = .ok (.aload_n 0, 1) := by decide +kernel
theorem dX2_placeStall_36 : decode cX2_placeStall 36 = .ok (.getfield 11, 3) := by decide +kernel
theorem dX2_placeStall_39 : decode cX2_placeStall 39 = .ok (.iload 6, 2) := by decide +kernel
theorem dX2_placeStall_41 : decode cX2_placeStall 41 = .ok (.aaload, 1) := by decide +kernel
theorem dX2_placeStall_42 : decode cX2_placeStall 42 = .ok (.iload 5, 2) := by decide +kernel
theorem dX2_placeStall_44 : decode cX2_placeStall 44 = .ok (.invokevirtual 108, 3) := by decide +kernel
theorem dX2_placeStall_47 : decode cX2_placeStall 47 = .ok (.aload_n 0, 1) := by decide +kernel
theorem dX2_placeStall_48 : decode cX2_placeStall 48 = .ok (.dup, 1) := by decide +kernel
theorem dX2_placeStall_49 : decode cX2_placeStall 49 = .ok (.getfield 29, 3) := by decide +kernel
theorem dX2_placeStall_52 : decode cX2_placeStall 52 = .ok (.iconst 1, 1) := by decide +kernel
theorem dX2_placeStall_53 : decode cX2_placeStall 53 = .ok (.iadd, 1) := by decide +kernel
theorem dX2_placeStall_54 : decode cX2_placeStall 54 = .ok (.putfield 29, 3) := by decide +kernel
theorem dX2_placeStall_57 : decode cX2_placeStall 57 = .ok (.iload 6, 2) := by decide +kernel
theorem dX2_placeStall_59 : decode cX2_placeStall 59 = .ok (.ireturn, 1) := by decide +kernel
theorem hd_X2_placeStall : yX2_placeStall.cls = RX2 ∧ yX2_placeStall.cls ≠ "java/lang/invoke/MethodHandle" ∧ yX2_placeStall.cls ≠ "java/lang/invoke/VarHandle" ∧ (parseMethodDescriptor yX2_placeStall.desc).map (fun d => d.parameters.length) = some 5 := by decide +kernel
set_option maxRecDepth 100000 in
set_option maxHeartbeats 4000000 in
theorem c_X2_placeStall (l : Launch) (D : va_G) (g : xG) (tb : List xQ) (hT : x_T g tb) {a0 : Nat} {a1 : Int32} {a2 : Int32} {a3 : Int32} {a4 : Int32} {a5 : Int32} (h0 : x_mk tb a0) {M : xM} {r : Int32} {M' : xM} (hf : f_X2_placeStall a0 a1 a2 a3 a4 a5 M = some (r, M')) :
    cI l D g tb yX2_placeStall cX2_placeStall 7 .int ({ frames := 1, cells := 0, slots := 0, locals := 24 } : Room) [.ref (g.1 2 a0), .int a1, .int a2, .int a3, .int a4, .int a5] M r M' := by
  refine x_startI (own := RX2) (by decide +kernel) rfl rfl (Nat.le_of_ble_eq_true rfl) hT ?_
  intro p e s m args below meth c Q C0 hend
  unfold f_X2_placeStall at hf
  refine r_aload_n C0 (kk := 0) 0 rfl dX2_placeStall_0 ?_
  refine r_get2 C0 h0.1 1 (by decide) (v := .int (M (a0 + 9))) rfl rfl w3_238 dX2_placeStall_1 ?_
  refine r_aload_n C0 (kk := 0) 0 rfl dX2_placeStall_4 ?_
  refine r_get2 C0 h0.1 0 (by decide) (v := .ref (g.1 10 (a0 + 23))) rfl rfl w3_235 dX2_placeStall_5 ?_
  refine r_alen10 C0 h0.2.1 (v := 6) rfl dX2_placeStall_8 ?_
  refine r_icmp_lt C0 (tgt := 14) (by decide) dX2_placeStall_9 (fun q1 => ?_) (fun q1 => ?_)
  · have hf := ie_t hf q1
    refine r_aload_n C0 (kk := 0) 0 rfl dX2_placeStall_14 ?_
    refine r_get2 C0 h0.1 1 (by decide) (v := .int (M (a0 + 9))) rfl rfl w3_238 dX2_placeStall_15 ?_
    refine r_istore C0 (lv2 := [(6, .int (M (a0 + 9))), (0, .ref (g.1 2 a0)), (1, .int a1), (2, .int a2), (3, .int a3), (4, .int a4), (5, .int a5)]) (by decide) rfl dX2_placeStall_18 ?_
    refine r_aload_n C0 (kk := 0) 1 rfl dX2_placeStall_20 ?_
    refine r_get2 C0 h0.1 0 (by decide) (v := .ref (g.1 10 (a0 + 23))) rfl rfl w3_235 dX2_placeStall_21 ?_
    refine r_iload C0 0 rfl dX2_placeStall_24 ?_
    obtain ⟨q2, hf⟩ := gd_e hf
    have hm3 : ((0, ((a0 + 23) + 9 * (M (a0 + 9)).toNatClampNeg), 0) : xQ) ∈ tb := h0.2.2.2.2.1 _ (inb_lt q2)
    refine r_aald10 C0 h0.2.1 (inb_in q2) dX2_placeStall_26 ?_
    refine r_iload_n C0 (kk := 1) 2 rfl dX2_placeStall_27 ?_
    refine r_iload_n C0 (kk := 2) 3 rfl dX2_placeStall_28 ?_
    refine r_iload_n C0 (kk := 3) 4 rfl dX2_placeStall_29 ?_
    refine r_iload C0 5 rfl dX2_placeStall_30 ?_
    obtain ⟨M5, hc4, hf⟩ := bd_e hf
    refine r_callVv C0 (As := [.int a1, .int a2, .int a3, .int a4]) (rest := []) (c_X4_reset l D g tb hT hm3 hc4) w5_54 w5_55 w5_56 w1_15 w5_57 (x_rec0 C0 hm3) hd_X4_reset rfl ⟨rfl, rfl⟩ ⟨Nat.le_of_ble_eq_true rfl, Nat.le_of_ble_eq_true rfl⟩ (by decide) (by decide) rfl (Nat.le_of_ble_eq_true rfl) dX2_placeStall_32 ?_
    refine r_aload_n C0 (kk := 0) 1 rfl dX2_placeStall_35 ?_
    refine r_get2 C0 h0.1 0 (by decide) (v := .ref (g.1 10 (a0 + 23))) rfl rfl w3_235 dX2_placeStall_36 ?_
    refine r_iload C0 0 rfl dX2_placeStall_39 ?_
    obtain ⟨q6, hf⟩ := gd_e hf
    have hm7 : ((0, ((a0 + 23) + 9 * (M (a0 + 9)).toNatClampNeg), 0) : xQ) ∈ tb := h0.2.2.2.2.1 _ (inb_lt q6)
    refine r_aald10 C0 h0.2.1 (inb_in q6) dX2_placeStall_41 ?_
    refine r_iload C0 6 rfl dX2_placeStall_42 ?_
    obtain ⟨M9, hc8, hf⟩ := bd_e hf
    refine r_callVv C0 (As := [.int a5]) (rest := []) (c_X4_receive l D g tb hT hm7 hc8) w5_58 w5_59 w5_60 w1_15 w5_61 (x_rec0 C0 hm7) hd_X4_receive rfl ⟨rfl, rfl⟩ ⟨Nat.le_of_ble_eq_true rfl, Nat.le_of_ble_eq_true rfl⟩ (by decide) (by decide) rfl (Nat.le_of_ble_eq_true rfl) dX2_placeStall_44 ?_
    refine r_aload_n C0 (kk := 0) 1 rfl dX2_placeStall_47 ?_
    refine r_dup C0 rfl dX2_placeStall_48 ?_
    refine r_get2 C0 h0.1 1 (by decide) (v := .int (M9 (a0 + 9))) rfl rfl w3_238 dX2_placeStall_49 ?_
    refine r_iconst C0 (v := 1) dX2_placeStall_52 rfl ?_
    refine r_iadd C0 dX2_placeStall_53 ?_
    refine r_put2 C0 h0.1 1 rfl rfl w3_238 rfl rfl rfl dX2_placeStall_54 ?_
    refine r_iload C0 0 rfl dX2_placeStall_57 ?_
    exact hend hf dX2_placeStall_59
  · have hf := ie_f hf q1
    refine r_iconst C0 (v := (-1)) dX2_placeStall_12 rfl ?_
    exact hend hf dX2_placeStall_13
