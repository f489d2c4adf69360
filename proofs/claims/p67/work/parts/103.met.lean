theorem dX2_placeBuyer_0 : decode cX2_placeBuyer 0 = .ok (.aload_n 0, 1) := by decide +kernel
theorem dX2_placeBuyer_1 : decode cX2_placeBuyer 1 = .ok (.getfield 33, 3) := by decide +kernel
theorem dX2_placeBuyer_4 : decode cX2_placeBuyer 4 = .ok (.aload_n 0, 1) := by decide +kernel
theorem dX2_placeBuyer_5 : decode cX2_placeBuyer 5 = .ok (.getfield 19, 3) := by decide +kernel
theorem dX2_placeBuyer_8 : decode cX2_placeBuyer 8 = .ok (.arraylength, 1) := by decide +kernel
theorem dX2_placeBuyer_9 : decode cX2_placeBuyer 9 = .ok (.if_icmp .lt 5, 3) := by decide +kernel
theorem dX2_placeBuyer_12 : decode cX2_placeBuyer 12 = .ok (.iconst (-1), 1) := by decide +kernel
theorem dX2_placeBuyer_13 : decode cX2_placeBuyer 13 = .ok (.ireturn, 1) := by decide +kernel
theorem dX2_placeBuyer_14 : decode cX2_placeBuyer 14 = .ok (.aload_n 0, 1) := by decide +kernel
theorem dX2_placeBuyer_15 : decode cX2_placeBuyer 15 = .ok (.getfield 33, 3) := by decide +kernel
theorem dX2_placeBuyer_18 : decode cX2_placeBuyer 18 = .ok (.istore 5, 2) := by decide +kernel
theorem dX2_placeBuyer_20 : decode cX2_placeBuyer 20 = .ok (.aload_n 0, 1) := by decide +kernel
theorem dX2_placeBuyer_21 : decode cX2_placeBuyer 21 = .ok (.getfield 19, 3) := by decide +kernel
theorem dX2_placeBuyer_24 : decode cX2_placeBuyer 24 = .ok (.iload 5, 2) := by decide +kernel
theorem dX2_placeBuyer_26 : decode cX2_placeBuyer 26 = .ok (.aaload, 1) := by decide +kernel
theorem dX2_placeBuyer_27 : decode cX2_placeBuyer 27 = .ok (.iload_n 1, 1) := by decide +kernel
theorem dX2_placeBuyer_28 : decode cX2_placeBuyer 28 = .ok (.iload_n 2, 1) := by decide +kernel
theorem dX2_placeBuyer_29 : decode cX2_placeBuyer 29 = .ok (.iload_n 3, 1) := by decide +kernel
theorem dX2_placeBuyer_30 : decode cX2_placeBuyer 30 = .ok (.iload 4, 2) := by decide +kernel
theorem dX2_placeBuyer_32 : decode cX2_placeBuyer 32 = .ok (.invokevirtual 112, 3) := by decide +kernel
theorem dX2_placeBuyer_35 : decode cX2_placeBuyer 35 = .ok (.aload_n 0, 1) := by decide +kernel
theorem dX2_placeBuyer_36 : decode cX2_placeBuyer 36 = .ok (.dup, 1) := by decide +kernel
theorem dX2_placeBuyer_37 : decode cX2_placeBuyer 37 = .ok (.getfield 33, 3) := by decide +kernel
theorem dX2_placeBuyer_40 : decode cX2_placeBuyer 40 = .ok (.iconst 1, 1) := by decide +kernel
theorem dX2_placeBuyer_41 : decode cX2_placeBuyer 41 = .ok (.iadd, 1) := by decide +kernel
theorem dX2_placeBuyer_42 : decode cX2_placeBuyer 42 = .ok (.putfield 33, 3) := by decide +kernel
theorem dX2_placeBuyer_45 : decode cX2_placeBuyer 45 = .ok (.iload 5, 2) := by decide +kernel
theorem dX2_placeBuyer_47 : decode cX2_placeBuyer 47 = .ok (.ireturn, 1) := by decide +kernel
theorem hd_X2_placeBuyer : yX2_placeBuyer.cls = RX2 ∧ yX2_placeBuyer.cls ≠ "java/lang/invoke/MethodHandle" ∧ yX2_placeBuyer.cls ≠ "java/lang/invoke/VarHandle" ∧ (parseMethodDescriptor yX2_placeBuyer.desc).map (fun d => d.parameters.length) = some 4 := by decide +kernel
set_option maxRecDepth 100000 in
set_option maxHeartbeats 4000000 in
theorem c_X2_placeBuyer (l : Launch) (D : va_G) (g : xG) (tb : List xQ) (hT : x_T g tb) {a0 : Nat} {a1 : Int32} {a2 : Int32} {a3 : Int32} {a4 : Int32} (h0 : x_mk tb a0) {M : xM} {r : Int32} {M' : xM} (hf : f_X2_placeBuyer a0 a1 a2 a3 a4 M = some (r, M')) :
    cI l D g tb yX2_placeBuyer cX2_placeBuyer 6 .int ({ frames := 1, cells := 0, slots := 0, locals := 24 } : Room) [.ref (g.1 2 a0), .int a1, .int a2, .int a3, .int a4] M r M' := by
  refine x_startI (own := RX2) (by decide +kernel) rfl rfl (Nat.le_of_ble_eq_true rfl) hT ?_
  intro p e s m args below meth c Q C0 hend
  unfold f_X2_placeBuyer at hf
  refine r_aload_n C0 (kk := 0) 0 rfl dX2_placeBuyer_0 ?_
  refine r_get2 C0 h0.1 3 (by decide) (v := .int (M (a0 + 10))) rfl rfl w4_4 dX2_placeBuyer_1 ?_
  refine r_aload_n C0 (kk := 0) 0 rfl dX2_placeBuyer_4 ?_
  refine r_get2 C0 h0.1 2 (by decide) (v := .ref (g.1 11 (a0 + 77))) rfl rfl w4_1 dX2_placeBuyer_5 ?_
  refine r_alen11 C0 h0.2.2.1 (v := 6) rfl dX2_placeBuyer_8 ?_
  refine r_icmp_lt C0 (tgt := 14) (by decide) dX2_placeBuyer_9 (fun q1 => ?_) (fun q1 => ?_)
  · have hf := ie_t hf q1
    refine r_aload_n C0 (kk := 0) 0 rfl dX2_placeBuyer_14 ?_
    refine r_get2 C0 h0.1 3 (by decide) (v := .int (M (a0 + 10))) rfl rfl w4_4 dX2_placeBuyer_15 ?_
    refine r_istore C0 (lv2 := [(5, .int (M (a0 + 10))), (0, .ref (g.1 2 a0)), (1, .int a1), (2, .int a2), (3, .int a3), (4, .int a4)]) (by decide) rfl dX2_placeBuyer_18 ?_
    refine r_aload_n C0 (kk := 0) 1 rfl dX2_placeBuyer_20 ?_
    refine r_get2 C0 h0.1 2 (by decide) (v := .ref (g.1 11 (a0 + 77))) rfl rfl w4_1 dX2_placeBuyer_21 ?_
    refine r_iload C0 0 rfl dX2_placeBuyer_24 ?_
    obtain ⟨q2, hf⟩ := gd_e hf
    have hm3 : ((1, ((a0 + 77) + 8 * (M (a0 + 10)).toNatClampNeg), 0) : xQ) ∈ tb := h0.2.2.2.2.2 _ (inb_lt q2)
    refine r_aald11 C0 h0.2.2.1 (inb_in q2) dX2_placeBuyer_26 ?_
    refine r_iload_n C0 (kk := 1) 2 rfl dX2_placeBuyer_27 ?_
    refine r_iload_n C0 (kk := 2) 3 rfl dX2_placeBuyer_28 ?_
    refine r_iload_n C0 (kk := 3) 4 rfl dX2_placeBuyer_29 ?_
    refine r_iload C0 5 rfl dX2_placeBuyer_30 ?_
    obtain ⟨M5, hc4, hf⟩ := bd_e hf
    refine r_callVv C0 (As := [.int a1, .int a2, .int a3, .int a4]) (rest := []) (c_X1_reset l D g tb hT hm3 hc4) w5_66 w5_67 w5_68 w1_16 w5_69 (x_rec1 C0 hm3) hd_X1_reset rfl ⟨rfl, rfl⟩ ⟨Nat.le_of_ble_eq_true rfl, Nat.le_of_ble_eq_true rfl⟩ (by decide) (by decide) rfl (Nat.le_of_ble_eq_true rfl) dX2_placeBuyer_32 ?_
    refine r_aload_n C0 (kk := 0) 1 rfl dX2_placeBuyer_35 ?_
    refine r_dup C0 rfl dX2_placeBuyer_36 ?_
    refine r_get2 C0 h0.1 3 (by decide) (v := .int (M5 (a0 + 10))) rfl rfl w4_4 dX2_placeBuyer_37 ?_
    refine r_iconst C0 (v := 1) dX2_placeBuyer_40 rfl ?_
    refine r_iadd C0 dX2_placeBuyer_41 ?_
    refine r_put2 C0 h0.1 3 rfl rfl w4_4 rfl rfl rfl dX2_placeBuyer_42 ?_
    refine r_iload C0 0 rfl dX2_placeBuyer_45 ?_
    exact hend hf dX2_placeBuyer_47
  · have hf := ie_f hf q1
    refine r_iconst C0 (v := (-1)) dX2_placeBuyer_12 rfl ?_
    exact hend hf dX2_placeBuyer_13
theorem dX2_returnAndAvoid_0 : decode cX2_returnAndAvoid 0 = .ok (.aload_n 1, 1) := by decide +kernel
theorem dX2_returnAndAvoid_1 : decode cX2_returnAndAvoid 1 = .ok (.getfield 81, 3) := by decide +kernel
theorem dX2_returnAndAvoid_4 : decode cX2_returnAndAvoid 4 = .ok (.istore_n 2, 1) := by decide +kernel
theorem dX2_returnAndAvoid_5 : decode cX2_returnAndAvoid 5 = .ok (.aload_n 0, 1) := by decide +kernel
theorem dX2_returnAndAvoid_6 : decode cX2_returnAndAvoid 6 = .ok (.aload_n 1, 1) := by decide +kernel
theorem dX2_returnAndAvoid_7 : decode cX2_returnAndAvoid 7 = .ok (.invokevirtual 122, 3) := by decide +kernel
theorem dX2_returnAndAvoid_10 : decode cX2_returnAndAvoid 10 = .ok (.aload_n 1, 1) := by decide +kernel
theorem dX2_returnAndAvoid_11 : decode cX2_returnAndAvoid 11 = .ok (.iload_n 2, 1) := by decide +kernel
theorem dX2_returnAndAvoid_12 : decode cX2_returnAndAvoid 12 = .ok (.invokevirtual 125, 3) := by decide +kernel
theorem dX2_returnAndAvoid_15 : decode cX2_returnAndAvoid 15 = .ok (.return_, 1) := by decide +kernel
theorem hd_X2_returnAndAvoid : yX2_returnAndAvoid.cls = RX2 ∧ yX2_returnAndAvoid.cls ≠ "java/lang/invoke/MethodHandle" ∧ yX2_returnAndAvoid.cls ≠ "java/lang/invoke/VarHandle" ∧ (parseMethodDescriptor yX2_returnAndAvoid.desc).map (fun d => d.parameters.length) = some 1 := by decide +kernel
set_option maxRecDepth 100000 in
set_option maxHeartbeats 4000000 in
theorem c_X2_returnAndAvoid (l : Launch) (D : va_G) (g : xG) (tb : List xQ) (hT : x_T g tb) {a0 : Nat} {a1 : Nat} (h0 : x_mk tb a0) (h1 : ((1, a1, 0) : xQ) ∈ tb) {M M' : xM} (hf : f_X2_returnAndAvoid a0 a1 M = some M') :
    cV l D g tb yX2_returnAndAvoid cX2_returnAndAvoid 3 ({ frames := 2, cells := 0, slots := 0, locals := 42 } : Room) [.ref (g.1 2 a0), .ref (g.1 1 a1)] M M' := by
  refine x_startV (own := RX2) (by decide +kernel) rfl rfl (Nat.le_of_ble_eq_true rfl) hT ?_
  intro p e s m args below meth c Q C0 hend
  unfold f_X2_returnAndAvoid at hf
  refine r_aload_n C0 (kk := 1) 1 rfl dX2_returnAndAvoid_0 ?_
  refine r_get1 C0 h1 4 (by decide) (v := .int (M (a1 + 4))) rfl rfl w3_209 dX2_returnAndAvoid_1 ?_
  refine r_istore_n C0 (kk := 2) (lv2 := [(2, .int (M (a1 + 4))), (0, .ref (g.1 2 a0)), (1, .ref (g.1 1 a1))]) (by decide) rfl dX2_returnAndAvoid_4 ?_
  refine r_aload_n C0 (kk := 0) 1 rfl dX2_returnAndAvoid_5 ?_
  refine r_aload_n C0 (kk := 1) 2 rfl dX2_returnAndAvoid_6 ?_
  obtain ⟨M2, hc1, hf⟩ := bd_e hf
  refine r_callVv C0 (As := [.ref (g.1 1 a1)]) (rest := []) (c_X2_returnGood l D g tb hT h0 h1 hc1) w2_58 w2_59 w2_60 w1_14 w2_61 (x_rec2 C0 h0.1) hd_X2_returnGood rfl ⟨rfl, rfl⟩ ⟨Nat.le_of_ble_eq_true rfl, Nat.le_of_ble_eq_true rfl⟩ (by decide) (by decide) rfl (Nat.le_of_ble_eq_true rfl) dX2_returnAndAvoid_7 ?_
  refine r_aload_n C0 (kk := 1) 2 rfl dX2_returnAndAvoid_10 ?_
  refine r_iload_n C0 (kk := 2) 0 rfl dX2_returnAndAvoid_11 ?_
  obtain ⟨M4, hc3, hf⟩ := bd_e hf
  refine r_callVv C0 (As := [.int (M (a1 + 4))]) (rest := []) (c_X1_avoid l D g tb hT h1 hc3) w2_104 w2_105 w2_106 w1_16 w2_107 (x_rec1 C0 h1) hd_X1_avoid rfl ⟨rfl, rfl⟩ ⟨Nat.le_of_ble_eq_true rfl, Nat.le_of_ble_eq_true rfl⟩ (by decide) (by decide) rfl (Nat.le_of_ble_eq_true rfl) dX2_returnAndAvoid_12 ?_
  exact hend hf dX2_returnAndAvoid_15
theorem dX6_feed_0 : decode cX6_feed 0 = .ok (.iload_n 1, 1) := by decide +kernel
theorem dX6_feed_1 : decode cX6_feed 1 = .ok (.invokestatic 54, 3) := by decide +kernel
theorem dX6_feed_4 : decode cX6_feed 4 = .ok (.iload_n 2, 1) := by decide +kernel
theorem dX6_feed_5 : decode cX6_feed 5 = .ok (.invokestatic 54, 3) := by decide +kernel
theorem dX6_feed_8 : decode cX6_feed 8 = .ok (.iadd, 1) := by decide +kernel
theorem dX6_feed_9 : decode cX6_feed 9 = .ok (.iload_n 3, 1) := by decide +kernel
theorem dX6_feed_10 : decode cX6_feed 10 = .ok (.invokestatic 54, 3) := by decide +kernel
theorem dX6_feed_13 : decode cX6_feed 13 = .ok (.iadd, 1) := by decide +kernel
theorem dX6_feed_14 : decode cX6_feed 14 = .ok (.iload 4, 2) := by decide +kernel
theorem dX6_feed_16 : decode cX6_feed 16 = .ok (.invokestatic 54, 3) := by decide +kernel
theorem dX6_feed_19 : decode cX6_feed 19 = .ok (.iadd, 1) := by decide +kernel
theorem dX6_feed_20 : decode cX6_feed 20 = .ok (.iload 5, 2) := by decide +kernel
theorem dX6_feed_22 : decode cX6_feed 22 = .ok (.invokestatic 54, 3) := by decide +kernel
theorem dX6_feed_25 : decode cX6_feed 25 = .ok (.iadd, 1) := by decide +kernel
theorem dX6_feed_26 : decode cX6_feed 26 = .ok (.istore 6, 2) := by decide +kernel
theorem dX6_feed_28 : decode cX6_feed 28 = .ok (.aload_n 0, 1) := by decide +kernel
theorem dX6_feed_29 : decode cX6_feed 29 = .ok (.getfield 25, 3) := by decide +kernel
theorem dX6_feed_32 : decode cX6_feed 32 = .ok (.getfield 58, 3) := by decide +kernel
theorem dX6_feed_35 : decode cX6_feed 35 = .ok (.iload 6, 2) := by decide +kernel
theorem dX6_feed_37 : decode cX6_feed 37 = .ok (.iadd, 1) := by decide +kernel
theorem dX6_feed_38 : decode cX6_feed 38 = .ok (.sipush 700, 3) := by decide +kernel
theorem dX6_feed_41 : decode cX6_feed 41 = .ok (.if_icmp .le 5, 3) := by decide +kernel
theorem dX6_feed_44 : decode cX6_feed 44 = .ok (.iconst (-1), 1) := by decide +kernel
theorem dX6_feed_45 : decode cX6_feed 45 = .ok (.ireturn, 1) := by decide +kernel
theorem dX6_feed_46 : decode cX6_feed 46 = .ok (.aload_n 0, 1) := by decide +kernel
theorem dX6_feed_47 : decode cX6_feed 47 = .ok (.getfield 25, 3) := by decide +kernel
theorem dX6_feed_50 : decode cX6_feed 50 = .ok (.iload_n 1, 1) := by decide +kernel
theorem dX6_feed_51 : decode cX6_feed 51 = .ok (.invokevirtual 62, 3) := by decide +kernel
theorem dX6_feed_54 : decode cX6_feed 54 = .ok (.aload_n 0, 1) := by decide +kernel
theorem dX6_feed_55 : decode cX6_feed 55 = .ok (.getfield 25, 3) := by decide +kernel
theorem dX6_feed_58 : decode cX6_feed 58 = .ok (.iload_n 2, 1) := by decide +kernel
theorem dX6_feed_59 : decode cX6_feed 59 = .ok (.invokevirtual 62, 3) := by decide +kernel
theorem dX6_feed_62 : decode cX6_feed 62 = .ok (.aload_n 0, 1) := by decide +kernel
theorem dX6_feed_63 : decode cX6_feed 63 = .ok (.getfield 25, 3) := by decide +kernel
theorem dX6_feed_66 : decode cX6_feed 66 = .ok (.iload_n 3, 1) := by decide +kernel
theorem dX6_feed_67 : decode cX6_feed 67 = .ok (.invokevirtual 62, 3) := by decide +kernel
theorem dX6_feed_70 : decode cX6_feed 70 = .ok (.aload_n 0, 1) := by decide +kernel
theorem dX6_feed_71 : decode cX6_feed 71 = .ok (.getfield 25, 3) := by decide +kernel
theorem dX6_feed_74 : decode cX6_feed 74 = .ok (.iload 4, 2) := by decide +kernel
theorem dX6_feed_76 : decode cX6_feed 76 = .ok (.invokevirtual 62, 3) := by decide +kernel
theorem dX6_feed_79 : decode cX6_feed 79 = .ok (.aload_n 0, 1) := by decide +kernel
theorem dX6_feed_80 : decode cX6_feed 80 = .ok (.getfield 25, 3) := by decide +kernel
theorem dX6_feed_83 : decode cX6_feed 83 = .ok (.iload 5, 2) := by decide +kernel
theorem dX6_feed_85 : decode cX6_feed 85 = .ok (.invokevirtual 62, 3) := by decide +kernel
theorem dX6_feed_88 : decode cX6_feed 88 = .ok (.aload_n 0, 1) := by decide +kernel
theorem dX6_feed_89 : decode cX6_feed 89 = .ok (.getfield 25, 3) := by decide +kernel
theorem dX6_feed_92 : decode cX6_feed 92 = .ok (.getfield 58, 3) := by decide +kernel
theorem dX6_feed_95 : decode cX6_feed 95 = .ok (.ireturn, 1) := by decide +kernel
theorem hd_X6_feed : yX6_feed.cls = RX6 ∧ yX6_feed.cls ≠ "java/lang/invoke/MethodHandle" ∧ yX6_feed.cls ≠ "java/lang/invoke/VarHandle" ∧ (parseMethodDescriptor yX6_feed.desc).map (fun d => d.parameters.length) = some 5 := by decide +kernel
set_option maxRecDepth 100000 in
set_option maxHeartbeats 4000000 in
theorem c_X6_feed (l : Launch) (D : va_G) (g : xG) (tb : List xQ) (hT : x_T g tb) {a1 : Int32} {a2 : Int32} {a3 : Int32} {a4 : Int32} {a5 : Int32} (h0 : x_fb tb) {M : xM} {r : Int32} {M' : xM} (hf : f_X6_feed a1 a2 a3 a4 a5 M = some (r, M')) :
    cI l D g tb yX6_feed cX6_feed 7 .int ({ frames := 2, cells := 0, slots := 0, locals := 44 } : Room) [.ref (g.1 4 1664), .int a1, .int a2, .int a3, .int a4, .int a5] M r M' := by
  refine x_startI (own := RX6) (by decide +kernel) rfl rfl (Nat.le_of_ble_eq_true rfl) hT ?_
  intro p e s m args below meth c Q C0 hend
  unfold f_X6_feed at hf
  refine r_iload_n C0 (kk := 1) 1 rfl dX6_feed_0 ?_
  obtain ⟨r3, M2, hc1, hf⟩ := bd2_e hf
  refine r_callSi C0 (As := [.int a1]) (rest := []) (c_X6_bytesIn l D g tb hT  hc1) w5_131 w5_132 w1_13 w5_133 hd_X6_bytesIn rfl ⟨rfl, rfl⟩ ⟨Nat.le_of_ble_eq_true rfl, Nat.le_of_ble_eq_true rfl⟩ (by decide) (by decide) rfl (Nat.le_of_ble_eq_true rfl) dX6_feed_1 ?_
  refine r_iload_n C0 (kk := 2) 2 rfl dX6_feed_4 ?_
  obtain ⟨r6, M5, hc4, hf⟩ := bd2_e hf
  refine r_callSi C0 (As := [.int a2]) (rest := [.int r3]) (c_X6_bytesIn l D g tb hT  hc4) w5_131 w5_132 w1_13 w5_133 hd_X6_bytesIn rfl ⟨rfl, rfl⟩ ⟨Nat.le_of_ble_eq_true rfl, Nat.le_of_ble_eq_true rfl⟩ (by decide) (by decide) rfl (Nat.le_of_ble_eq_true rfl) dX6_feed_5 ?_
  refine r_iadd C0 dX6_feed_8 ?_
  refine r_iload_n C0 (kk := 3) 3 rfl dX6_feed_9 ?_
  obtain ⟨r9, M8, hc7, hf⟩ := bd2_e hf
  refine r_callSi C0 (As := [.int a3]) (rest := [.int (r3 + r6)]) (c_X6_bytesIn l D g tb hT  hc7) w5_131 w5_132 w1_13 w5_133 hd_X6_bytesIn rfl ⟨rfl, rfl⟩ ⟨Nat.le_of_ble_eq_true rfl, Nat.le_of_ble_eq_true rfl⟩ (by decide) (by decide) rfl (Nat.le_of_ble_eq_true rfl) dX6_feed_10 ?_
  refine r_iadd C0 dX6_feed_13 ?_
  refine r_iload C0 4 rfl dX6_feed_14 ?_
  obtain ⟨r12, M11, hc10, hf⟩ := bd2_e hf
  refine r_callSi C0 (As := [.int a4]) (rest := [.int ((r3 + r6) + r9)]) (c_X6_bytesIn l D g tb hT  hc10) w5_131 w5_132 w1_13 w5_133 hd_X6_bytesIn rfl ⟨rfl, rfl⟩ ⟨Nat.le_of_ble_eq_true rfl, Nat.le_of_ble_eq_true rfl⟩ (by decide) (by decide) rfl (Nat.le_of_ble_eq_true rfl) dX6_feed_16 ?_
  refine r_iadd C0 dX6_feed_19 ?_
  refine r_iload C0 5 rfl dX6_feed_20 ?_
  obtain ⟨r15, M14, hc13, hf⟩ := bd2_e hf
  refine r_callSi C0 (As := [.int a5]) (rest := [.int (((r3 + r6) + r9) + r12)]) (c_X6_bytesIn l D g tb hT  hc13) w5_131 w5_132 w1_13 w5_133 hd_X6_bytesIn rfl ⟨rfl, rfl⟩ ⟨Nat.le_of_ble_eq_true rfl, Nat.le_of_ble_eq_true rfl⟩ (by decide) (by decide) rfl (Nat.le_of_ble_eq_true rfl) dX6_feed_22 ?_
  refine r_iadd C0 dX6_feed_25 ?_
  refine r_istore C0 (lv2 := [(6, .int ((((r3 + r6) + r9) + r12) + r15)), (0, .ref (g.1 4 1664)), (1, .int a1), (2, .int a2), (3, .int a3), (4, .int a4), (5, .int a5)]) (by decide) rfl dX6_feed_26 ?_
  refine r_aload_n C0 (kk := 0) 1 rfl dX6_feed_28 ?_
  refine r_get4 C0 h0.1 3 (by decide) (v := .ref (g.1 3 1777)) rfl rfl w5_90 dX6_feed_29 ?_
  refine r_get3 C0 h0.2.2.2.2.1.1 1 (by decide) (v := .int (M14 1778)) rfl rfl w4_64 dX6_feed_32 ?_
  refine r_iload C0 0 rfl dX6_feed_35 ?_
  refine r_iadd C0 dX6_feed_37 ?_
  refine r_sipush C0 (v := 700) dX6_feed_38 rfl ?_
  refine r_icmp_le C0 (tgt := 46) (by decide) dX6_feed_41 (fun q16 => ?_) (fun q16 => ?_)
  · have hf := ie_t hf q16
    refine r_aload_n C0 (kk := 0) 1 rfl dX6_feed_46 ?_
    refine r_get4 C0 h0.1 3 (by decide) (v := .ref (g.1 3 1777)) rfl rfl w5_90 dX6_feed_47 ?_
    refine r_iload_n C0 (kk := 1) 2 rfl dX6_feed_50 ?_
    obtain ⟨M18, hc17, hf⟩ := bd_e hf
    refine r_callVv C0 (As := [.int a1]) (rest := []) (c_X3_appendWord l D g tb hT h0.2.2.2.2.1 hc17) w5_134 w5_135 w5_136 w1_17 w5_137 (x_rec3 C0 h0.2.2.2.2.1.1) hd_X3_appendWord rfl ⟨rfl, rfl⟩ ⟨Nat.le_of_ble_eq_true rfl, Nat.le_of_ble_eq_true rfl⟩ (by decide) (by decide) rfl (Nat.le_of_ble_eq_true rfl) dX6_feed_51 ?_
    refine r_aload_n C0 (kk := 0) 1 rfl dX6_feed_54 ?_
    refine r_get4 C0 h0.1 3 (by decide) (v := .ref (g.1 3 1777)) rfl rfl w5_90 dX6_feed_55 ?_
    refine r_iload_n C0 (kk := 2) 3 rfl dX6_feed_58 ?_
    obtain ⟨M20, hc19, hf⟩ := bd_e hf
    refine r_callVv C0 (As := [.int a2]) (rest := []) (c_X3_appendWord l D g tb hT h0.2.2.2.2.1 hc19) w5_134 w5_135 w5_136 w1_17 w5_137 (x_rec3 C0 h0.2.2.2.2.1.1) hd_X3_appendWord rfl ⟨rfl, rfl⟩ ⟨Nat.le_of_ble_eq_true rfl, Nat.le_of_ble_eq_true rfl⟩ (by decide) (by decide) rfl (Nat.le_of_ble_eq_true rfl) dX6_feed_59 ?_
    refine r_aload_n C0 (kk := 0) 1 rfl dX6_feed_62 ?_
    refine r_get4 C0 h0.1 3 (by decide) (v := .ref (g.1 3 1777)) rfl rfl w5_90 dX6_feed_63 ?_
    refine r_iload_n C0 (kk := 3) 4 rfl dX6_feed_66 ?_
    obtain ⟨M22, hc21, hf⟩ := bd_e hf
    refine r_callVv C0 (As := [.int a3]) (rest := []) (c_X3_appendWord l D g tb hT h0.2.2.2.2.1 hc21) w5_134 w5_135 w5_136 w1_17 w5_137 (x_rec3 C0 h0.2.2.2.2.1.1) hd_X3_appendWord rfl ⟨rfl, rfl⟩ ⟨Nat.le_of_ble_eq_true rfl, Nat.le_of_ble_eq_true rfl⟩ (by decide) (by decide) rfl (Nat.le_of_ble_eq_true rfl) dX6_feed_67 ?_
    refine r_aload_n C0 (kk := 0) 1 rfl dX6_feed_70 ?_
    refine r_get4 C0 h0.1 3 (by decide) (v := .ref (g.1 3 1777)) rfl rfl w5_90 dX6_feed_71 ?_
    refine r_iload C0 5 rfl dX6_feed_74 ?_
    obtain ⟨M24, hc23, hf⟩ := bd_e hf
    refine r_callVv C0 (As := [.int a4]) (rest := []) (c_X3_appendWord l D g tb hT h0.2.2.2.2.1 hc23) w5_134 w5_135 w5_136 w1_17 w5_137 (x_rec3 C0 h0.2.2.2.2.1.1) hd_X3_appendWord rfl ⟨rfl, rfl⟩ ⟨Nat.le_of_ble_eq_true rfl, Nat.le_of_ble_eq_true rfl⟩ (by decide) (by decide) rfl (Nat.le_of_ble_eq_true rfl) dX6_feed_76 ?_
    refine r_aload_n C0 (kk := 0) 1 rfl dX6_feed_79 ?_
    refine r_get4 C0 h0.1 3 (by decide) (v := .ref (g.1 3 1777)) rfl rfl w5_90 dX6_feed_80 ?_
    refine r_iload C0 6 rfl dX6_feed_83 ?_
    obtain ⟨M26, hc25, hf⟩ := bd_e hf
    refine r_callVv C0 (As := [.int a5]) (rest := []) (c_X3_appendWord l D g tb hT h0.2.2.2.2.1 hc25) w5_134 w5_135 w5_136 w1_17 w5_137 (x_rec3 C0 h0.2.2.2.2.1.1) hd_X3_appendWord rfl ⟨rfl, rfl⟩ ⟨Nat.le_of_ble_eq_true rfl, Nat.le_of_ble_eq_true rfl⟩ (by decide) (by decide) rfl (Nat.le_of_ble_eq_true rfl) dX6_feed_85 ?_
    refine r_aload_n C0 (kk := 0) 1 rfl dX6_feed_88 ?_
    refine r_get4 C0 h0.1 3 (by decide) (v := .ref (g.1 3 1777)) rfl rfl w5_90 dX6_feed_89 ?_
    refine r_get3 C0 h0.2.2.2.2.1.1 1 (by decide) (v := .int (M26 1778)) rfl rfl w4_64 dX6_feed_92 ?_
    exact hend hf dX6_feed_95
  · have hf := ie_f hf q16
    refine r_iconst C0 (v := (-1)) dX6_feed_44 rfl ?_
    exact hend hf dX6_feed_45
theorem dX6_positionOf_0 : decode cX6_positionOf 0 = .ok (.aload_n 0, 1) := by decide +kernel
theorem dX6_positionOf_1 : decode cX6_positionOf 1 = .ok (.iload_n 1, 1) := by decide +kernel
theorem dX6_positionOf_2 : decode cX6_positionOf 2 = .ok (.invokevirtual 152, 3) := by decide +kernel
theorem dX6_positionOf_5 : decode cX6_positionOf 5 = .ok (.getfield 156, 3) := by decide +kernel
theorem dX6_positionOf_8 : decode cX6_positionOf 8 = .ok (.ireturn, 1) := by decide +kernel
theorem hd_X6_positionOf : yX6_positionOf.cls = RX6 ∧ yX6_positionOf.cls ≠ "java/lang/invoke/MethodHandle" ∧ yX6_positionOf.cls ≠ "java/lang/invoke/VarHandle" ∧ (parseMethodDescriptor yX6_positionOf.desc).map (fun d => d.parameters.length) = some 1 := by decide +kernel
set_option maxRecDepth 100000 in
set_option maxHeartbeats 4000000 in
theorem c_X6_positionOf (l : Launch) (D : va_G) (g : xG) (tb : List xQ) (hT : x_T g tb) {a1 : Int32} (h0 : x_fb tb) {M : xM} {r : Int32} {M' : xM} (hf : f_X6_positionOf a1 M = some (r, M')) :
    cI l D g tb yX6_positionOf cX6_positionOf 2 .int ({ frames := 2, cells := 0, slots := 0, locals := 42 } : Room) [.ref (g.1 4 1664), .int a1] M r M' := by
  refine x_startI (own := RX6) (by decide +kernel) rfl rfl (Nat.le_of_ble_eq_true rfl) hT ?_
  intro p e s m args below meth c Q C0 hend
  unfold f_X6_positionOf at hf
  refine r_aload_n C0 (kk := 0) 0 rfl dX6_positionOf_0 ?_
  refine r_iload_n C0 (kk := 1) 1 rfl dX6_positionOf_1 ?_
  obtain ⟨r3, M2, hc1, hf⟩ := bd2_e hf
  refine r_callVr C0 (As := [.int a1]) (rest := []) (c_X6_stallAt l D g tb hT h0 hc1) w1_149 w1_151 wp1_1 w1_13 w1_153 (x_rec4 C0 h0.1) hd_X6_stallAt rfl ⟨rfl, rfl⟩ ⟨Nat.le_of_ble_eq_true rfl, Nat.le_of_ble_eq_true rfl⟩ (by decide) (by decide) rfl (Nat.le_of_ble_eq_true rfl) dX6_positionOf_2 (fun hm4 => ?_)
  refine r_get0 C0 hm4 0 (by decide) (v := .int (M2 (r3 + 0))) rfl rfl w3_148 dX6_positionOf_5 ?_
  exact hend hf dX6_positionOf_8
theorem dX6_placeOf_0 : decode cX6_placeOf 0 = .ok (.aload_n 0, 1) := by decide +kernel
theorem dX6_placeOf_1 : decode cX6_placeOf 1 = .ok (.iload_n 1, 1) := by decide +kernel
theorem dX6_placeOf_2 : decode cX6_placeOf 2 = .ok (.invokevirtual 214, 3) := by decide +kernel
theorem dX6_placeOf_5 : decode cX6_placeOf 5 = .ok (.getfield 218, 3) := by decide +kernel
theorem dX6_placeOf_8 : decode cX6_placeOf 8 = .ok (.ireturn, 1) := by decide +kernel
theorem hd_X6_placeOf : yX6_placeOf.cls = RX6 ∧ yX6_placeOf.cls ≠ "java/lang/invoke/MethodHandle" ∧ yX6_placeOf.cls ≠ "java/lang/invoke/VarHandle" ∧ (parseMethodDescriptor yX6_placeOf.desc).map (fun d => d.parameters.length) = some 1 := by decide +kernel
set_option maxRecDepth 100000 in
set_option maxHeartbeats 4000000 in
theorem c_X6_placeOf (l : Launch) (D : va_G) (g : xG) (tb : List xQ) (hT : x_T g tb) {a1 : Int32} (h0 : x_fb tb) {M : xM} {r : Int32} {M' : xM} (hf : f_X6_placeOf a1 M = some (r, M')) :
    cI l D g tb yX6_placeOf cX6_placeOf 2 .int ({ frames := 2, cells := 0, slots := 0, locals := 42 } : Room) [.ref (g.1 4 1664), .int a1] M r M' := by
  refine x_startI (own := RX6) (by decide +kernel) rfl rfl (Nat.le_of_ble_eq_true rfl) hT ?_
  intro p e s m args below meth c Q C0 hend
  unfold f_X6_placeOf at hf
  refine r_aload_n C0 (kk := 0) 0 rfl dX6_placeOf_0 ?_
  refine r_iload_n C0 (kk := 1) 1 rfl dX6_placeOf_1 ?_
  obtain ⟨r3, M2, hc1, hf⟩ := bd2_e hf
  refine r_callVr C0 (As := [.int a1]) (rest := []) (c_X6_buyerAt l D g tb hT h0 hc1) w1_210 w1_212 wp1_3 w1_13 w1_213 (x_rec4 C0 h0.1) hd_X6_buyerAt rfl ⟨rfl, rfl⟩ ⟨Nat.le_of_ble_eq_true rfl, Nat.le_of_ble_eq_true rfl⟩ (by decide) (by decide) rfl (Nat.le_of_ble_eq_true rfl) dX6_placeOf_2 (fun hm4 => ?_)
  refine r_get1 C0 hm4 0 (by decide) (v := .int (M2 (r3 + 0))) rfl rfl w3_201 dX6_placeOf_5 ?_
  exact hend hf dX6_placeOf_8
theorem dX6_remember_0 : decode cX6_remember 0 = .ok (.aload_n 0, 1) := by decide +kernel
theorem dX6_remember_1 : decode cX6_remember 1 = .ok (.getfield 29, 3) := by decide +kernel
theorem dX6_remember_4 : decode cX6_remember 4 = .ok (.aload_n 0, 1) := by decide +kernel
theorem dX6_remember_5 : decode cX6_remember 5 = .ok (.getfield 318, 3) := by decide +kernel
theorem dX6_remember_8 : decode cX6_remember 8 = .ok (.aaload, 1) := by decide +kernel
theorem dX6_remember_9 : decode cX6_remember 9 = .ok (.aload_n 0, 1) := by decide +kernel
theorem dX6_remember_10 : decode cX6_remember 10 = .ok (.getfield 10, 3) := by decide +kernel
theorem dX6_remember_13 : decode cX6_remember 13 = .ok (.invokevirtual 69, 3) := by decide +kernel
theorem dX6_remember_16 : decode cX6_remember 16 = .ok (.aload_n 0, 1) := by decide +kernel
theorem dX6_remember_17 : decode cX6_remember 17 = .ok (.aload_n 0, 1) := by decide +kernel
theorem dX6_remember_18 : decode cX6_remember 18 = .ok (.getfield 318, 3) := by decide +kernel
theorem dX6_remember_21 : decode cX6_remember 21 = .ok (.iconst 1, 1) := by decide +kernel
theorem dX6_remember_22 : decode cX6_remember 22 = .ok (.iadd, 1) := by decide +kernel
theorem dX6_remember_23 : decode cX6_remember 23 = .ok (.aload_n 0, 1) := by decide +kernel
theorem dX6_remember_24 : decode cX6_remember 24 = .ok (.getfield 29, 3) := by decide +kernel
theorem dX6_remember_27 : decode cX6_remember 27 = .ok (.arraylength, 1) := by decide +kernel
theorem dX6_remember_28 : decode cX6_remember 28 = .ok (.if_icmp .ge 12, 3) := by decide +kernel
theorem dX6_remember_31 : decode cX6_remember 31 = .ok (.aload_n 0, 1) := by decide +kernel
theorem dX6_remember_32 : decode cX6_remember 32 = .ok (.getfield 318, 3) := by decide +kernel
theorem dX6_remember_35 : decode cX6_remember 35 = .ok (.iconst 1, 1) := by decide +kernel
theorem dX6_remember_36 : decode cX6_remember 36 = .ok (.iadd, 1) := by decide +kernel
theorem dX6_remember_37 : decode cX6_remember 37 = .ok (.goto 4, 3) := by decide +kernel
theorem dX6_remember_40 : decode cX6_remember 40 = .ok (.iconst 0, 1) := by decide +kernel
theorem dX6_remember_41 : decode cX6_remember 41 = .ok (.putfield 318, 3) := by decide +kernel
theorem dX6_remember_44 : decode cX6_remember 44 = .ok (.aload_n 0, 1) := by decide +kernel
theorem dX6_remember_45 : decode cX6_remember 45 = .ok (.aload_n 0, 1) := by decide +kernel
theorem dX6_remember_46 : decode cX6_remember 46 = .ok (.getfield 119, 3) := by decide +kernel
theorem dX6_remember_49 : decode cX6_remember 49 = .ok (.iconst 1, 1) := by decide +kernel
theorem dX6_remember_50 : decode cX6_remember 50 = .ok (.iadd, 1) := by decide +kernel
theorem dX6_remember_51 : decode cX6_remember 51 = .ok (.bipush 8, 2) := by decide +kernel
theorem dX6_remember_53 : decode cX6_remember 53 = .ok (.invokestatic 321, 3) := by decide +kernel
theorem dX6_remember_56 : decode cX6_remember 56 = .ok (.putfield 119, 3) := by decide +kernel
theorem dX6_remember_59 : decode cX6_remember 59 = .ok (.return_, 1) := by decide +kernel
theorem hd_X6_remember : yX6_remember.cls = RX6 ∧ yX6_remember.cls ≠ "java/lang/invoke/MethodHandle" ∧ yX6_remember.cls ≠ "java/lang/invoke/VarHandle" ∧ (parseMethodDescriptor yX6_remember.desc).map (fun d => d.parameters.length) = some 0 := by decide +kernel
set_option maxRecDepth 100000 in
set_option maxHeartbeats 4000000 in
theorem c_X6_remember (l : Launch) (D : va_G) (g : xG) (tb : List xQ) (hT : x_T g tb)  (h0 : x_fb tb) {M M' : xM} (hf : f_X6_remember  M = some M') :
    cV l D g tb yX6_remember cX6_remember 1 ({ frames := 2, cells := 0, slots := 0, locals := 43 } : Room) [.ref (g.1 4 1664)] M M' := by
  refine x_startV (own := RX6) (by decide +kernel) rfl rfl (Nat.le_of_ble_eq_true rfl) hT ?_
  intro p e s m args below meth c Q C0 hend
  have B41 : ∀ (s0 : Int32)  (M : xM), f_X6_remember_c41   s0 M = some M' → WW p l e ({ frames := 2, cells := 0, slots := 0, locals := 43 } : Room) s m args below meth c 0 0 Q 1 D g tb 41 [(0, .ref (g.1 4 1664))] [.int s0, .ref (g.1 4 1664)] M := by
    intro   s0  M hf
    unfold f_X6_remember_c41 at hf
    refine r_put4 C0 h0.1 5 rfl rfl w5_92 rfl rfl rfl dX6_remember_41 ?_
    refine r_aload_n C0 (kk := 0) 0 rfl dX6_remember_44 ?_
    refine r_aload_n C0 (kk := 0) 0 rfl dX6_remember_45 ?_
    refine r_get4 C0 h0.1 6 (by decide) (v := .int ((upd M 1669 s0) 1670)) rfl rfl w5_93 dX6_remember_46 ?_
    refine r_iconst C0 (v := 1) dX6_remember_49 rfl ?_
    refine r_iadd C0 dX6_remember_50 ?_
    refine r_bipush C0 (v := 8) dX6_remember_51 rfl ?_
    refine r_min C0 w2_38 w2_39 w1_6 w2_40 (by decide) (Nat.le_of_ble_eq_true rfl) (by decide) (by decide) dX6_remember_53 ?_
    refine r_put4 C0 h0.1 6 rfl rfl w5_93 rfl rfl rfl dX6_remember_56 ?_
    exact hend hf dX6_remember_59
  unfold f_X6_remember at hf
  refine r_aload_n C0 (kk := 0) 0 rfl dX6_remember_0 ?_
  refine r_get4 C0 h0.1 4 (by decide) (v := .ref (g.1 12 384)) rfl rfl w5_91 dX6_remember_1 ?_
  refine r_aload_n C0 (kk := 0) 0 rfl dX6_remember_4 ?_
  refine r_get4 C0 h0.1 5 (by decide) (v := .int (M 1669)) rfl rfl w5_92 dX6_remember_5 ?_
  obtain ⟨q1, hf⟩ := gd_e hf
  have hm2 : x_mk tb (384 + 128 * (M 1669).toNatClampNeg) := h0.2.2.2.2.2.2.2.2.2.1 _ (inb_lt q1)
  refine r_aald12 C0 h0.2.2.2.2.2.1 (inb_in q1) dX6_remember_8 ?_
  refine r_aload_n C0 (kk := 0) 0 rfl dX6_remember_9 ?_
  refine r_get4 C0 h0.1 0 (by decide) (v := .ref (g.1 2 0)) rfl rfl w5_87 dX6_remember_10 ?_
  obtain ⟨M4, hc3, hf⟩ := bd_e hf
  refine r_callVv C0 (As := [.ref (g.1 2 0)]) (rest := []) (c_X2_copyFrom l D g tb hT hm2 h0.2.1 hc3) w2_26 w2_27 w2_28 w1_14 w2_29 (x_rec2 C0 hm2.1) hd_X2_copyFrom rfl ⟨rfl, rfl⟩ ⟨Nat.le_of_ble_eq_true rfl, Nat.le_of_ble_eq_true rfl⟩ (by decide) (by decide) rfl (Nat.le_of_ble_eq_true rfl) dX6_remember_13 ?_
  refine r_aload_n C0 (kk := 0) 0 rfl dX6_remember_16 ?_
  refine r_aload_n C0 (kk := 0) 0 rfl dX6_remember_17 ?_
  refine r_get4 C0 h0.1 5 (by decide) (v := .int (M4 1669)) rfl rfl w5_92 dX6_remember_18 ?_
  refine r_iconst C0 (v := 1) dX6_remember_21 rfl ?_
  refine r_iadd C0 dX6_remember_22 ?_
  refine r_aload_n C0 (kk := 0) 0 rfl dX6_remember_23 ?_
  refine r_get4 C0 h0.1 4 (by decide) (v := .ref (g.1 12 384)) rfl rfl w5_91 dX6_remember_24 ?_
  refine r_alen12 C0 h0.2.2.2.2.2.1 (v := 8) rfl dX6_remember_27 ?_
  refine r_icmp_ge C0 (tgt := 40) (by decide) dX6_remember_28 (fun q5 => ?_) (fun q5 => ?_)
  · have hf := ie_t hf q5
    refine r_iconst C0 (v := 0) dX6_remember_40 rfl ?_
    exact B41   _   _ hf
  · have hf := ie_f hf q5
    refine r_aload_n C0 (kk := 0) 0 rfl dX6_remember_31 ?_
    refine r_get4 C0 h0.1 5 (by decide) (v := .int (M4 1669)) rfl rfl w5_92 dX6_remember_32 ?_
    refine r_iconst C0 (v := 1) dX6_remember_35 rfl ?_
    refine r_iadd C0 dX6_remember_36 ?_
    refine r_goto C0 (tgt := 41) (by decide) dX6_remember_37 ?_
    exact B41   _   _ hf
theorem dX2_moveBell_0 : decode cX2_moveBell 0 = .ok (.iload_n 1, 1) := by decide +kernel
theorem dX2_moveBell_1 : decode cX2_moveBell 1 = .ok (.aload_n 0, 1) := by decide +kernel
theorem dX2_moveBell_2 : decode cX2_moveBell 2 = .ok (.getfield 45, 3) := by decide +kernel
theorem dX2_moveBell_5 : decode cX2_moveBell 5 = .ok (.if_icmp .ge 7, 3) := by decide +kernel
theorem dX2_moveBell_8 : decode cX2_moveBell 8 = .ok (.iconst 1, 1) := by decide +kernel
theorem dX2_moveBell_9 : decode cX2_moveBell 9 = .ok (.goto 4, 3) := by decide +kernel
theorem dX2_moveBell_12 : decode cX2_moveBell 12 = .ok (.iconst 0, 1) := by decide +kernel
theorem dX2_moveBell_13 : decode cX2_moveBell 13 = .ok (.istore_n 2, 1) := by decide +kernel
theorem dX2_moveBell_14 : decode cX2_moveBell 14 = .ok (.iload_n 2, 1) := by decide +kernel
theorem dX2_moveBell_15 : decode cX2_moveBell 15 = .ok (.ifCond .eq 8, 3) := by decide +kernel
theorem dX2_moveBell_18 : decode cX2_moveBell 18 = .ok (.aload_n 0, 1) := by decide +kernel
theorem dX2_moveBell_19 : decode cX2_moveBell 19 = .ok (.iconst 1, 1) := by decide +kernel
theorem dX2_moveBell_20 : decode cX2_moveBell 20 = .ok (.putfield 55, 3) := by decide +kernel
theorem dX2_moveBell_23 : decode cX2_moveBell 23 = .ok (.aload_n 0, 1) := by decide +kernel
theorem dX2_moveBell_24 : decode cX2_moveBell 24 = .ok (.getfield 51, 3) := by decide +kernel
theorem dX2_moveBell_27 : decode cX2_moveBell 27 = .ok (.ifCond .eq 67, 3) := by decide +kernel
theorem dX2_moveBell_30 : decode cX2_moveBell 30 = .ok (.iload_n 2, 1) := by decide +kernel
theorem dX2_moveBell_31 : decode cX2_moveBell 31 = .ok (.ifCond .ne 14, 3) := by decide +kernel
theorem dX2_moveBell_34 : decode cX2_moveBell 34 = .ok (.aload_n 0, 1) := by decide +kernel
theorem dX2_moveBell_35 : decode cX2_moveBell 35 = .ok (.getfield 58, 3) := by decide +kernel
theorem dX2_moveBell_38 : decode cX2_moveBell 38 = .ok (.aload_n 0, 1) := by decide +kernel
theorem dX2_moveBell_39 : decode cX2_moveBell 39 = .ok (.getfield 48, 3) := by decide +kernel
theorem dX2_moveBell_42 : decode cX2_moveBell 42 = .ok (.if_icmp .lt 52, 3) := by decide +kernel
theorem dX2_moveBell_45 : decode cX2_moveBell 45 = .ok (.aload_n 0, 1) := by decide +kernel
theorem dX2_moveBell_46 : decode cX2_moveBell 46 = .ok (.iconst 0, 1) := by decide +kernel
theorem dX2_moveBell_47 : decode cX2_moveBell 47 = .ok (.putfield 51, 3) := by decide +kernel
theorem dX2_moveBell_50 : decode cX2_moveBell 50 = .ok (.aload_n 0, 1) := by decide +kernel
theorem dX2_moveBell_51 : decode cX2_moveBell 51 = .ok (.iconst 0, 1) := by decide +kernel
theorem dX2_moveBell_52 : decode cX2_moveBell 52 = .ok (.putfield 58, 3) := by decide +kernel
theorem dX2_moveBell_55 : decode cX2_moveBell 55 = .ok (.iconst 0, 1) := by decide +kernel
theorem dX2_moveBell_56 : decode cX2_moveBell 56 = .ok (.istore_n 3, 1) := by decide +kernel
theorem dX2_moveBell_57 : decode cX2_moveBell 57 = .ok (.iload_n 3, 1) := by decide +kernel
theorem dX2_moveBell_58 : decode cX2_moveBell 58 = .ok (.aload_n 0, 1) := by decide +kernel
theorem dX2_moveBell_59 : decode cX2_moveBell 59 = .ok (.getfield 33, 3) := by decide +kernel
theorem dX2_moveBell_62 : decode cX2_moveBell 62 = .ok (.if_icmp .ge 29, 3) := by decide +kernel
theorem dX2_moveBell_65 : decode cX2_moveBell 65 = .ok (.aload_n 0, 1) := by decide +kernel
theorem dX2_moveBell_66 : decode cX2_moveBell 66 = .ok (.aload_n 0, 1) := by decide +kernel
theorem dX2_moveBell_67 : decode cX2_moveBell 67 = .ok (.getfield 19, 3) := by decide +kernel
theorem dX2_moveBell_70 : decode cX2_moveBell 70 = .ok (.iload_n 3, 1) := by decide +kernel
theorem dX2_moveBell_71 : decode cX2_moveBell 71 = .ok (.aaload, 1) := by decide +kernel
theorem dX2_moveBell_72 : decode cX2_moveBell 72 = .ok (.invokevirtual 122, 3) := by decide +kernel
theorem dX2_moveBell_75 : decode cX2_moveBell 75 = .ok (.aload_n 0, 1) := by decide +kernel
theorem dX2_moveBell_76 : decode cX2_moveBell 76 = .ok (.getfield 19, 3) := by decide +kernel
theorem dX2_moveBell_79 : decode cX2_moveBell 79 = .ok (.iload_n 3, 1) := by decide +kernel
theorem dX2_moveBell_80 : decode cX2_moveBell 80 = .ok (.aaload, 1) := by decide +kernel
theorem dX2_moveBell_81 : decode cX2_moveBell 81 = .ok (.iconst 0, 1) := by decide +kernel
theorem dX2_moveBell_82 : decode cX2_moveBell 82 = .ok (.putfield 145, 3) := by decide +kernel
theorem dX2_moveBell_85 : decode cX2_moveBell 85 = .ok (.iinc 3 1, 3) := by decide +kernel
theorem dX2_moveBell_88 : decode cX2_moveBell 88 = .ok (.goto (-31), 3) := by decide +kernel
theorem dX2_moveBell_91 : decode cX2_moveBell 91 = .ok (.goto 46, 3) := by decide +kernel
theorem dX2_moveBell_94 : decode cX2_moveBell 94 = .ok (.aload_n 0, 1) := by decide +kernel
theorem dX2_moveBell_95 : decode cX2_moveBell 95 = .ok (.getfield 51, 3) := by decide +kernel
theorem dX2_moveBell_98 : decode cX2_moveBell 98 = .ok (.ifCond .ne 39, 3) := by decide +kernel
theorem dX2_moveBell_101 : decode cX2_moveBell 101 = .ok (.aload_n 0, 1) := by decide +kernel
theorem dX2_moveBell_102 : decode cX2_moveBell 102 = .ok (.getfield 55, 3) := by decide +kernel
theorem dX2_moveBell_105 : decode cX2_moveBell 105 = .ok (.ifCond .eq 32, 3) := by decide +kernel
theorem dX2_moveBell_108 : decode cX2_moveBell 108 = .ok (.iload_n 2, 1) := by decide +kernel
theorem dX2_moveBell_109 : decode cX2_moveBell 109 = .ok (.ifCond .ne 28, 3) := by decide +kernel
theorem dX2_moveBell_112 : decode cX2_moveBell 112 = .ok (.aload_n 0, 1) := by decide +kernel
theorem dX2_moveBell_113 : decode cX2_moveBell 113 = .ok (.iconst 1, 1) := by decide +kernel
theorem dX2_moveBell_114 : decode cX2_moveBell 114 = .ok (.putfield 51, 3) := by decide +kernel
theorem dX2_moveBell_117 : decode cX2_moveBell 117 = .ok (.aload_n 0, 1) := by decide +kernel
theorem dX2_moveBell_118 : decode cX2_moveBell 118 = .ok (.iconst 0, 1) := by decide +kernel
theorem dX2_moveBell_119 : decode cX2_moveBell 119 = .ok (.putfield 58, 3) := by decide +kernel
theorem dX2_moveBell_122 : decode cX2_moveBell 122 = .ok (.aload_n 0, 1) := by decide +kernel
theorem dX2_moveBell_123 : decode cX2_moveBell 123 = .ok (.iconst 0, 1) := by decide +kernel
theorem dX2_moveBell_124 : decode cX2_moveBell 124 = .ok (.putfield 55, 3) := by decide +kernel
theorem dX2_moveBell_127 : decode cX2_moveBell 127 = .ok (.aload_n 0, 1) := by decide +kernel
theorem dX2_moveBell_128 : decode cX2_moveBell 128 = .ok (.dup, 1) := by decide +kernel
theorem dX2_moveBell_129 : decode cX2_moveBell 129 = .ok (.getfield 61, 3) := by decide +kernel
theorem dX2_moveBell_132 : decode cX2_moveBell 132 = .ok (.iconst 1, 1) := by decide +kernel
theorem dX2_moveBell_133 : decode cX2_moveBell 133 = .ok (.iadd, 1) := by decide +kernel
theorem dX2_moveBell_134 : decode cX2_moveBell 134 = .ok (.putfield 61, 3) := by decide +kernel
theorem dX2_moveBell_137 : decode cX2_moveBell 137 = .ok (.return_, 1) := by decide +kernel
theorem hd_X2_moveBell : yX2_moveBell.cls = RX2 ∧ yX2_moveBell.cls ≠ "java/lang/invoke/MethodHandle" ∧ yX2_moveBell.cls ≠ "java/lang/invoke/VarHandle" ∧ (parseMethodDescriptor yX2_moveBell.desc).map (fun d => d.parameters.length) = some 1 := by decide +kernel
set_option maxRecDepth 100000 in
set_option maxHeartbeats 4000000 in
theorem c_X2_moveBell (l : Launch) (D : va_G) (g : xG) (tb : List xQ) (hT : x_T g tb) {a0 : Nat} {a1 : Int32} (h0 : x_mk tb a0) {M M' : xM} (hf : f_X2_moveBell a0 a1 M = some M') :
    cV l D g tb yX2_moveBell cX2_moveBell 4 ({ frames := 2, cells := 0, slots := 0, locals := 42 } : Room) [.ref (g.1 2 a0), .int a1] M M' := by
  refine x_startV (own := RX2) (by decide +kernel) rfl rfl (Nat.le_of_ble_eq_true rfl) hT ?_
  intro p e s m args below meth c Q C0 hend
  have B57 : ∀ (k57 : Int32 → xM → Option xM) (hk57 : ∀ (v3 : Int32)  (M : xM), k57 v3 M = some M' → WW p l e ({ frames := 2, cells := 0, slots := 0, locals := 42 } : Room) s m args below meth c 0 0 Q 4 D g tb 57 [(0, .ref (g.1 2 a0)), (3, .int v3)] [] M), ∀ (v3 : Int32)  (M : xM), fb_X2_moveBell_c57 k57 a0 a1 v3 M = some M' → WW p l e ({ frames := 2, cells := 0, slots := 0, locals := 42 } : Room) s m args below meth c 0 0 Q 4 D g tb 57 [(0, .ref (g.1 2 a0)), (3, .int v3)] [] M := by
    intro k57 hk57 v3  M hf
    unfold fb_X2_moveBell_c57 at hf
    refine r_iload_n C0 (kk := 3) 1 rfl dX2_moveBell_57 ?_
    refine r_aload_n C0 (kk := 0) 0 rfl dX2_moveBell_58 ?_
    refine r_get2 C0 h0.1 3 (by decide) (v := .int (M (a0 + 10))) rfl rfl w4_4 dX2_moveBell_59 ?_
    refine r_icmp_ge C0 (tgt := 91) (by decide) dX2_moveBell_62 (fun q9 => ?_) (fun q9 => ?_)
    · have hf := ie_t hf q9
      refine r_goto C0 (tgt := 137) (by decide) dX2_moveBell_91 ?_
      exact hend hf dX2_moveBell_137
    · have hf := ie_f hf q9
      refine r_aload_n C0 (kk := 0) 0 rfl dX2_moveBell_65 ?_
      refine r_aload_n C0 (kk := 0) 0 rfl dX2_moveBell_66 ?_
      refine r_get2 C0 h0.1 2 (by decide) (v := .ref (g.1 11 (a0 + 77))) rfl rfl w4_1 dX2_moveBell_67 ?_
      refine r_iload_n C0 (kk := 3) 1 rfl dX2_moveBell_70 ?_
      obtain ⟨q10, hf⟩ := gd_e hf
      have hm11 : ((1, ((a0 + 77) + 8 * v3.toNatClampNeg), 0) : xQ) ∈ tb := h0.2.2.2.2.2 _ (inb_lt q10)
      refine r_aald11 C0 h0.2.2.1 (inb_in q10) dX2_moveBell_71 ?_
      obtain ⟨M13, hc12, hf⟩ := bd_e hf
      refine r_callVv C0 (As := [.ref (g.1 1 ((a0 + 77) + 8 * v3.toNatClampNeg))]) (rest := []) (c_X2_returnGood l D g tb hT h0 hm11 hc12) w2_58 w2_59 w2_60 w1_14 w2_61 (x_rec2 C0 h0.1) hd_X2_returnGood rfl ⟨rfl, rfl⟩ ⟨Nat.le_of_ble_eq_true rfl, Nat.le_of_ble_eq_true rfl⟩ (by decide) (by decide) rfl (Nat.le_of_ble_eq_true rfl) dX2_moveBell_72 ?_
      refine r_aload_n C0 (kk := 0) 0 rfl dX2_moveBell_75 ?_
      refine r_get2 C0 h0.1 2 (by decide) (v := .ref (g.1 11 (a0 + 77))) rfl rfl w4_1 dX2_moveBell_76 ?_
      refine r_iload_n C0 (kk := 3) 1 rfl dX2_moveBell_79 ?_
      obtain ⟨q14, hf⟩ := gd_e hf
      have hm15 : ((1, ((a0 + 77) + 8 * v3.toNatClampNeg), 0) : xQ) ∈ tb := h0.2.2.2.2.2 _ (inb_lt q14)
      refine r_aald11 C0 h0.2.2.1 (inb_in q14) dX2_moveBell_80 ?_
      refine r_iconst C0 (v := 0) dX2_moveBell_81 rfl ?_
      refine r_put1 C0 hm15 6 rfl rfl w3_214 rfl rfl rfl dX2_moveBell_82 ?_
      refine r_iincc C0 1 rfl (k0 := 1) (by decide) (by decide) (lv2 := [(3, .int (v3 + 1)), (0, .ref (g.1 2 a0))]) rfl dX2_moveBell_85 ?_
      refine r_goto C0 (tgt := 57) (by decide) dX2_moveBell_88 ?_
      refine WW.sub [1, 0] rfl ?_
      exact hk57 _   _ hf
  have L57 : ∀ (v3 : Int32)  (M : xM), f_X2_moveBell_c57  a0 a1 v3 M = some M' → WW p l e ({ frames := 2, cells := 0, slots := 0, locals := 42 } : Room) s m args below meth c 0 0 Q 4 D g tb 57 [(0, .ref (g.1 2 a0)), (3, .int v3)] [] M := lp_ind (P := fun f => ∀ (v3 : Int32)  (M : xM), f v3 M = some M' → WW p l e ({ frames := 2, cells := 0, slots := 0, locals := 42 } : Room) s m args below meth c 0 0 Q 4 D g tb 57 [(0, .ref (g.1 2 a0)), (3, .int v3)] [] M) (fun _ _ h => none_ne h) (fun f hf => B57 f hf) FU
  have B45 : ∀ (M : xM), f_X2_moveBell_c45  a0 a1 M = some M' → WW p l e ({ frames := 2, cells := 0, slots := 0, locals := 42 } : Room) s m args below meth c 0 0 Q 4 D g tb 45 [(0, .ref (g.1 2 a0))] [] M := by
    intro     M hf
    unfold f_X2_moveBell_c45 at hf
    refine r_aload_n C0 (kk := 0) 0 rfl dX2_moveBell_45 ?_
    refine r_iconst C0 (v := 0) dX2_moveBell_46 rfl ?_
    refine r_put2 C0 h0.1 10 rfl rfl w4_20 rfl rfl rfl dX2_moveBell_47 ?_
    refine r_aload_n C0 (kk := 0) 0 rfl dX2_moveBell_50 ?_
    refine r_iconst C0 (v := 0) dX2_moveBell_51 rfl ?_
    refine r_put2 C0 h0.1 12 rfl rfl w4_24 rfl rfl rfl dX2_moveBell_52 ?_
    refine r_iconst C0 (v := 0) dX2_moveBell_55 rfl ?_
    refine r_istore_n C0 (kk := 3) (lv2 := [(3, .int 0), (0, .ref (g.1 2 a0))]) (by decide) rfl dX2_moveBell_56 ?_
    refine WW.sub [1, 0] rfl ?_
    exact L57   _   _ hf
  have B94 : ∀ (v2 : Int32)  (M : xM), f_X2_moveBell_c94  a0 a1 v2 M = some M' → WW p l e ({ frames := 2, cells := 0, slots := 0, locals := 42 } : Room) s m args below meth c 0 0 Q 4 D g tb 94 [(0, .ref (g.1 2 a0)), (2, .int v2)] [] M := by
    intro   v2  M hf
    unfold f_X2_moveBell_c94 at hf
    refine r_aload_n C0 (kk := 0) 0 rfl dX2_moveBell_94 ?_
    refine r_get2 C0 h0.1 10 (by decide) (v := .int (M (a0 + 1))) rfl rfl w4_20 dX2_moveBell_95 ?_
    refine r_if_ne C0 (tgt := 137) (by decide) dX2_moveBell_98 (fun q6 => ?_) (fun q6 => ?_)
    · have hf := ie_f hf q6
      exact hend hf dX2_moveBell_137
    · have hf := ie_t hf q6
      refine r_aload_n C0 (kk := 0) 0 rfl dX2_moveBell_101 ?_
      refine r_get2 C0 h0.1 11 (by decide) (v := .int (M (a0 + 2))) rfl rfl w4_22 dX2_moveBell_102 ?_
      refine r_if_eq C0 (tgt := 137) (by decide) dX2_moveBell_105 (fun q7 => ?_) (fun q7 => ?_)
      · have hf := ie_t hf q7
        exact hend hf dX2_moveBell_137
      · have hf := ie_f hf q7
        refine r_iload_n C0 (kk := 2) 1 rfl dX2_moveBell_108 ?_
        refine r_if_ne C0 (tgt := 137) (by decide) dX2_moveBell_109 (fun q8 => ?_) (fun q8 => ?_)
        · have hf := ie_f hf q8
          exact hend hf dX2_moveBell_137
        · have hf := ie_t hf q8
          refine r_aload_n C0 (kk := 0) 0 rfl dX2_moveBell_112 ?_
          refine r_iconst C0 (v := 1) dX2_moveBell_113 rfl ?_
          refine r_put2 C0 h0.1 10 rfl rfl w4_20 rfl rfl rfl dX2_moveBell_114 ?_
          refine r_aload_n C0 (kk := 0) 0 rfl dX2_moveBell_117 ?_
          refine r_iconst C0 (v := 0) dX2_moveBell_118 rfl ?_
          refine r_put2 C0 h0.1 12 rfl rfl w4_24 rfl rfl rfl dX2_moveBell_119 ?_
          refine r_aload_n C0 (kk := 0) 0 rfl dX2_moveBell_122 ?_
          refine r_iconst C0 (v := 0) dX2_moveBell_123 rfl ?_
          refine r_put2 C0 h0.1 11 rfl rfl w4_22 rfl rfl rfl dX2_moveBell_124 ?_
          refine r_aload_n C0 (kk := 0) 0 rfl dX2_moveBell_127 ?_
          refine r_dup C0 rfl dX2_moveBell_128 ?_
          refine r_get2 C0 h0.1 13 (by decide) (v := .int ((upd (upd (upd M (a0 + 1) 1) (a0 + 3) 0) (a0 + 2) 0) (a0 + 4))) rfl rfl w4_26 dX2_moveBell_129 ?_
          refine r_iconst C0 (v := 1) dX2_moveBell_132 rfl ?_
          refine r_iadd C0 dX2_moveBell_133 ?_
          refine r_put2 C0 h0.1 13 rfl rfl w4_26 rfl rfl rfl dX2_moveBell_134 ?_
          exact hend hf dX2_moveBell_137
  have B23 : ∀ (v2 : Int32)  (M : xM), f_X2_moveBell_c23  a0 a1 v2 M = some M' → WW p l e ({ frames := 2, cells := 0, slots := 0, locals := 42 } : Room) s m args below meth c 0 0 Q 4 D g tb 23 [(0, .ref (g.1 2 a0)), (2, .int v2)] [] M := by
    intro   v2  M hf
    unfold f_X2_moveBell_c23 at hf
    refine r_aload_n C0 (kk := 0) 0 rfl dX2_moveBell_23 ?_
    refine r_get2 C0 h0.1 10 (by decide) (v := .int (M (a0 + 1))) rfl rfl w4_20 dX2_moveBell_24 ?_
    refine r_if_eq C0 (tgt := 94) (by decide) dX2_moveBell_27 (fun q3 => ?_) (fun q3 => ?_)
    · have hf := ie_t hf q3
      exact B94   _   _ hf
    · have hf := ie_f hf q3
      refine r_iload_n C0 (kk := 2) 1 rfl dX2_moveBell_30 ?_
      refine r_if_ne C0 (tgt := 45) (by decide) dX2_moveBell_31 (fun q4 => ?_) (fun q4 => ?_)
      · have hf := ie_f hf q4
        refine WW.sub [0] rfl ?_
        exact B45     _ hf
      · have hf := ie_t hf q4
        refine r_aload_n C0 (kk := 0) 0 rfl dX2_moveBell_34 ?_
        refine r_get2 C0 h0.1 12 (by decide) (v := .int (M (a0 + 3))) rfl rfl w4_24 dX2_moveBell_35 ?_
        refine r_aload_n C0 (kk := 0) 0 rfl dX2_moveBell_38 ?_
        refine r_get2 C0 h0.1 9 (by decide) (v := .int (M (a0 + 6))) rfl rfl w4_18 dX2_moveBell_39 ?_
        refine r_icmp_lt C0 (tgt := 94) (by decide) dX2_moveBell_42 (fun q5 => ?_) (fun q5 => ?_)
        · have hf := ie_t hf q5
          exact B94   _   _ hf
        · have hf := ie_f hf q5
          refine WW.sub [0] rfl ?_
          exact B45     _ hf
  have B13 : ∀ (s0 : Int32)  (M : xM), f_X2_moveBell_c13  a0 a1 s0 M = some M' → WW p l e ({ frames := 2, cells := 0, slots := 0, locals := 42 } : Room) s m args below meth c 0 0 Q 4 D g tb 13 [(0, .ref (g.1 2 a0))] [.int s0] M := by
    intro   s0  M hf
    unfold f_X2_moveBell_c13 at hf
    refine r_istore_n C0 (kk := 2) (lv2 := [(2, .int s0), (0, .ref (g.1 2 a0))]) (by decide) rfl dX2_moveBell_13 ?_
    refine r_iload_n C0 (kk := 2) 0 rfl dX2_moveBell_14 ?_
    refine r_if_eq C0 (tgt := 23) (by decide) dX2_moveBell_15 (fun q2 => ?_) (fun q2 => ?_)
    · have hf := ie_t hf q2
      refine WW.sub [1, 0] rfl ?_
      exact B23   _   _ hf
    · have hf := ie_f hf q2
      refine r_aload_n C0 (kk := 0) 1 rfl dX2_moveBell_18 ?_
      refine r_iconst C0 (v := 1) dX2_moveBell_19 rfl ?_
      refine r_put2 C0 h0.1 11 rfl rfl w4_22 rfl rfl rfl dX2_moveBell_20 ?_
      refine WW.sub [1, 0] rfl ?_
      exact B23   _   _ hf
  unfold f_X2_moveBell at hf
  refine r_iload_n C0 (kk := 1) 1 rfl dX2_moveBell_0 ?_
  refine r_aload_n C0 (kk := 0) 0 rfl dX2_moveBell_1 ?_
  refine r_get2 C0 h0.1 8 (by decide) (v := .int (M (a0 + 5))) rfl rfl w4_16 dX2_moveBell_2 ?_
  refine r_icmp_ge C0 (tgt := 12) (by decide) dX2_moveBell_5 (fun q1 => ?_) (fun q1 => ?_)
  · have hf := ie_t hf q1
    refine r_iconst C0 (v := 0) dX2_moveBell_12 rfl ?_
    refine WW.sub [0] rfl ?_
    exact B13   _   _ hf
  · have hf := ie_f hf q1
    refine r_iconst C0 (v := 1) dX2_moveBell_8 rfl ?_
    refine r_goto C0 (tgt := 13) (by decide) dX2_moveBell_9 ?_
    refine WW.sub [0] rfl ?_
    exact B13   _   _ hf
theorem dX2_letAct_0 : decode cX2_letAct 0 = .ok (.aload_n 0, 1) := by decide +kernel
theorem dX2_letAct_1 : decode cX2_letAct 1 = .ok (.aload_n 1, 1) := by decide +kernel
theorem dX2_letAct_2 : decode cX2_letAct 2 = .ok (.getfield 81, 3) := by decide +kernel
theorem dX2_letAct_5 : decode cX2_letAct 5 = .ok (.invokevirtual 113, 3) := by decide +kernel
theorem dX2_letAct_8 : decode cX2_letAct 8 = .ok (.ifCond .eq 36, 3) := by decide +kernel
theorem dX2_letAct_11 : decode cX2_letAct 11 = .ok (.aload_n 1, 1) := by decide +kernel
theorem dX2_letAct_12 : decode cX2_letAct 12 = .ok (.aload_n 0, 1) := by decide +kernel
theorem dX2_letAct_13 : decode cX2_letAct 13 = .ok (.getfield 42, 3) := by decide +kernel
theorem dX2_letAct_16 : decode cX2_letAct 16 = .ok (.invokevirtual 148, 3) := by decide +kernel
theorem dX2_letAct_19 : decode cX2_letAct 19 = .ok (.aload_n 1, 1) := by decide +kernel
theorem dX2_letAct_20 : decode cX2_letAct 20 = .ok (.getfield 87, 3) := by decide +kernel
theorem dX2_letAct_23 : decode cX2_letAct 23 = .ok (.aload_n 0, 1) := by decide +kernel
theorem dX2_letAct_24 : decode cX2_letAct 24 = .ok (.getfield 42, 3) := by decide +kernel
theorem dX2_letAct_27 : decode cX2_letAct 27 = .ok (.if_icmp .ne 16, 3) := by decide +kernel
theorem dX2_letAct_30 : decode cX2_letAct 30 = .ok (.aload_n 1, 1) := by decide +kernel
theorem dX2_letAct_31 : decode cX2_letAct 31 = .ok (.aload_n 0, 1) := by decide +kernel
theorem dX2_letAct_32 : decode cX2_letAct 32 = .ok (.getfield 11, 3) := by decide +kernel
theorem dX2_letAct_35 : decode cX2_letAct 35 = .ok (.aload_n 1, 1) := by decide +kernel
theorem dX2_letAct_36 : decode cX2_letAct 36 = .ok (.getfield 81, 3) := by decide +kernel
theorem dX2_letAct_39 : decode cX2_letAct 39 = .ok (.aaload, 1) := by decide +kernel
theorem dX2_letAct_40 : decode cX2_letAct 40 = .ok (.invokevirtual 151, 3) := by decide +kernel
theorem dX2_letAct_43 : decode cX2_letAct 43 = .ok (.return_, 1) := by decide +kernel
theorem dX2_letAct_44 : decode cX2_letAct 44 = .ok (.aload_n 0, 1) := by decide +kernel
theorem dX2_letAct_45 : decode cX2_letAct 45 = .ok (.aload_n 1, 1) := by decide +kernel
theorem dX2_letAct_46 : decode cX2_letAct 46 = .ok (.iload_n 2, 1) := by decide +kernel
theorem dX2_letAct_47 : decode cX2_letAct 47 = .ok (.invokevirtual 154, 3) := by decide +kernel
theorem dX2_letAct_50 : decode cX2_letAct 50 = .ok (.istore_n 3, 1) := by decide +kernel
theorem dX2_letAct_51 : decode cX2_letAct 51 = .ok (.aload_n 0, 1) := by decide +kernel
theorem dX2_letAct_52 : decode cX2_letAct 52 = .ok (.iload_n 3, 1) := by decide +kernel
theorem dX2_letAct_53 : decode cX2_letAct 53 = .ok (.invokevirtual 113, 3) := by decide +kernel
theorem dX2_letAct_56 : decode cX2_letAct 56 = .ok (.ifCond .ne 4, 3) := by decide +kernel
theorem dX2_letAct_59 : decode cX2_letAct 59 = .ok (.return_, 1) := by decide +kernel
theorem dX2_letAct_60 : decode cX2_letAct 60 = .ok (.aload_n 0, 1) := by decide +kernel
theorem dX2_letAct_61 : decode cX2_letAct 61 = .ok (.getfield 11, 3) := by decide +kernel
theorem dX2_letAct_64 : decode cX2_letAct 64 = .ok (.iload_n 3, 1) := by decide +kernel
theorem dX2_letAct_65 : decode cX2_letAct 65 = .ok (.aaload, 1) := by decide +kernel
theorem dX2_letAct_66 : decode cX2_letAct 66 = .ok (.astore 4, 2) := by decide +kernel
theorem dX2_letAct_68 : decode cX2_letAct 68 = .ok (.aload_n 1, 1) := by decide +kernel
theorem dX2_letAct_69 : decode cX2_letAct 69 = .ok (.aload 4, 2) := by decide +kernel
theorem dX2_letAct_71 : decode cX2_letAct 71 = .ok (.getfield 84, 3) := by decide +kernel
theorem dX2_letAct_74 : decode cX2_letAct 74 = .ok (.invokevirtual 148, 3) := by decide +kernel
theorem dX2_letAct_77 : decode cX2_letAct 77 = .ok (.aload_n 1, 1) := by decide +kernel
theorem dX2_letAct_78 : decode cX2_letAct 78 = .ok (.getfield 87, 3) := by decide +kernel
theorem dX2_letAct_81 : decode cX2_letAct 81 = .ok (.aload 4, 2) := by decide +kernel
theorem dX2_letAct_83 : decode cX2_letAct 83 = .ok (.getfield 84, 3) := by decide +kernel
theorem dX2_letAct_86 : decode cX2_letAct 86 = .ok (.if_icmp .eq 4, 3) := by decide +kernel
theorem dX2_letAct_89 : decode cX2_letAct 89 = .ok (.return_, 1) := by decide +kernel
theorem dX2_letAct_90 : decode cX2_letAct 90 = .ok (.aload_n 1, 1) := by decide +kernel
theorem dX2_letAct_91 : decode cX2_letAct 91 = .ok (.aload 4, 2) := by decide +kernel
theorem dX2_letAct_93 : decode cX2_letAct 93 = .ok (.invokevirtual 158, 3) := by decide +kernel
theorem dX2_letAct_96 : decode cX2_letAct 96 = .ok (.ifCond .ne 13, 3) := by decide +kernel
theorem dX2_letAct_99 : decode cX2_letAct 99 = .ok (.aload_n 1, 1) := by decide +kernel
theorem dX2_letAct_100 : decode cX2_letAct 100 = .ok (.aload 4, 2) := by decide +kernel
theorem dX2_letAct_102 : decode cX2_letAct 102 = .ok (.iload_n 3, 1) := by decide +kernel
theorem dX2_letAct_103 : decode cX2_letAct 103 = .ok (.invokevirtual 162, 3) := by decide +kernel
theorem dX2_letAct_106 : decode cX2_letAct 106 = .ok (.goto 8, 3) := by decide +kernel
theorem dX2_letAct_109 : decode cX2_letAct 109 = .ok (.aload_n 1, 1) := by decide +kernel
theorem dX2_letAct_110 : decode cX2_letAct 110 = .ok (.iload_n 3, 1) := by decide +kernel
theorem dX2_letAct_111 : decode cX2_letAct 111 = .ok (.invokevirtual 125, 3) := by decide +kernel
theorem dX2_letAct_114 : decode cX2_letAct 114 = .ok (.return_, 1) := by decide +kernel
theorem hd_X2_letAct : yX2_letAct.cls = RX2 ∧ yX2_letAct.cls ≠ "java/lang/invoke/MethodHandle" ∧ yX2_letAct.cls ≠ "java/lang/invoke/VarHandle" ∧ (parseMethodDescriptor yX2_letAct.desc).map (fun d => d.parameters.length) = some 2 := by decide +kernel
set_option maxRecDepth 100000 in
set_option maxHeartbeats 4000000 in
theorem c_X2_letAct (l : Launch) (D : va_G) (g : xG) (tb : List xQ) (hT : x_T g tb) {a0 : Nat} {a1 : Nat} {a2 : Int32} (h0 : x_mk tb a0) (h1 : ((1, a1, 0) : xQ) ∈ tb) {M M' : xM} (hf : f_X2_letAct a0 a1 a2 M = some M') :
    cV l D g tb yX2_letAct cX2_letAct 5 ({ frames := 2, cells := 0, slots := 0, locals := 48 } : Room) [.ref (g.1 2 a0), .ref (g.1 1 a1), .int a2] M M' := by
  refine x_startV (own := RX2) (by decide +kernel) rfl rfl (Nat.le_of_ble_eq_true rfl) hT ?_
  intro p e s m args below meth c Q C0 hend
  unfold f_X2_letAct at hf
  refine r_aload_n C0 (kk := 0) 0 rfl dX2_letAct_0 ?_
  refine r_aload_n C0 (kk := 1) 1 rfl dX2_letAct_1 ?_
  refine r_get1 C0 h1 4 (by decide) (v := .int (M (a1 + 4))) rfl rfl w3_209 dX2_letAct_2 ?_
  obtain ⟨r3, M2, hc1, hf⟩ := bd2_e hf
  refine r_callVi C0 (As := [.int (M (a1 + 4))]) (rest := []) (c_X2_isStall l D g tb hT h0 hc1) w2_62 w2_63 w2_64 w1_14 w2_65 (x_rec2 C0 h0.1) hd_X2_isStall rfl ⟨rfl, rfl⟩ ⟨Nat.le_of_ble_eq_true rfl, Nat.le_of_ble_eq_true rfl⟩ (by decide) (by decide) rfl (Nat.le_of_ble_eq_true rfl) dX2_letAct_5 ?_
  refine r_if_eq C0 (tgt := 44) (by decide) dX2_letAct_8 (fun q4 => ?_) (fun q4 => ?_)
  · have hf := ie_t hf q4
    refine r_aload_n C0 (kk := 0) 0 rfl dX2_letAct_44 ?_
    refine r_aload_n C0 (kk := 1) 1 rfl dX2_letAct_45 ?_
    refine r_iload_n C0 (kk := 2) 2 rfl dX2_letAct_46 ?_
    obtain ⟨r7, M6, hc5, hf⟩ := bd2_e hf
    refine r_callVi C0 (As := [.ref (g.1 1 a1), .int a2]) (rest := []) (c_X2_findTarget l D g tb hT h0 h1 hc5) w2_84 w2_85 w2_86 w1_14 w2_87 (x_rec2 C0 h0.1) hd_X2_findTarget rfl ⟨rfl, rfl⟩ ⟨Nat.le_of_ble_eq_true rfl, Nat.le_of_ble_eq_true rfl⟩ (by decide) (by decide) rfl (Nat.le_of_ble_eq_true rfl) dX2_letAct_47 ?_
    refine r_istore_n C0 (kk := 3) (lv2 := [(3, .int r7), (0, .ref (g.1 2 a0)), (1, .ref (g.1 1 a1)), (2, .int a2)]) (by decide) rfl dX2_letAct_50 ?_
    refine r_aload_n C0 (kk := 0) 1 rfl dX2_letAct_51 ?_
    refine r_iload_n C0 (kk := 3) 0 rfl dX2_letAct_52 ?_
    obtain ⟨r10, M9, hc8, hf⟩ := bd2_e hf
    refine r_callVi C0 (As := [.int r7]) (rest := []) (c_X2_isStall l D g tb hT h0 hc8) w2_62 w2_63 w2_64 w1_14 w2_65 (x_rec2 C0 h0.1) hd_X2_isStall rfl ⟨rfl, rfl⟩ ⟨Nat.le_of_ble_eq_true rfl, Nat.le_of_ble_eq_true rfl⟩ (by decide) (by decide) rfl (Nat.le_of_ble_eq_true rfl) dX2_letAct_53 ?_
    refine r_if_ne C0 (tgt := 60) (by decide) dX2_letAct_56 (fun q11 => ?_) (fun q11 => ?_)
    · have hf := ie_f hf q11
      refine r_aload_n C0 (kk := 0) 1 rfl dX2_letAct_60 ?_
      refine r_get2 C0 h0.1 0 (by decide) (v := .ref (g.1 10 (a0 + 23))) rfl rfl w3_235 dX2_letAct_61 ?_
      refine r_iload_n C0 (kk := 3) 0 rfl dX2_letAct_64 ?_
      obtain ⟨q12, hf⟩ := gd_e hf
      have hm13 : ((0, ((a0 + 23) + 9 * r7.toNatClampNeg), 0) : xQ) ∈ tb := h0.2.2.2.2.1 _ (inb_lt q12)
      refine r_aald10 C0 h0.2.1 (inb_in q12) dX2_letAct_65 ?_
      refine r_astore C0 (lv2 := [(4, .ref (g.1 0 ((a0 + 23) + 9 * r7.toNatClampNeg))), (3, .int r7), (0, .ref (g.1 2 a0)), (1, .ref (g.1 1 a1)), (2, .int a2)]) (by decide) rfl dX2_letAct_66 ?_
      refine r_aload_n C0 (kk := 1) 3 rfl dX2_letAct_68 ?_
      refine r_aload C0 0 rfl dX2_letAct_69 ?_
      refine r_get0 C0 hm13 0 (by decide) (v := .int (M9 (((a0 + 23) + 9 * r7.toNatClampNeg) + 0))) rfl rfl w3_147 dX2_letAct_71 ?_
      obtain ⟨M15, hc14, hf⟩ := bd_e hf
      refine r_callVv C0 (As := [.int (M9 (((a0 + 23) + 9 * r7.toNatClampNeg) + 0))]) (rest := []) (c_X1_walkTo l D g tb hT h1 hc14) w2_75 w2_76 w2_77 w1_16 w2_78 (x_rec1 C0 h1) hd_X1_walkTo rfl ⟨rfl, rfl⟩ ⟨Nat.le_of_ble_eq_true rfl, Nat.le_of_ble_eq_true rfl⟩ (by decide) (by decide) rfl (Nat.le_of_ble_eq_true rfl) dX2_letAct_74 ?_
      refine r_aload_n C0 (kk := 1) 3 rfl dX2_letAct_77 ?_
      refine r_get1 C0 h1 0 (by decide) (v := .int (M15 (a1 + 0))) rfl rfl w3_200 dX2_letAct_78 ?_
      refine r_aload C0 0 rfl dX2_letAct_81 ?_
      refine r_get0 C0 hm13 0 (by decide) (v := .int (M15 (((a0 + 23) + 9 * r7.toNatClampNeg) + 0))) rfl rfl w3_147 dX2_letAct_83 ?_
      refine r_icmp_eq C0 (tgt := 90) (by decide) dX2_letAct_86 (fun q16 => ?_) (fun q16 => ?_)
      · have hf := ie_t hf q16
        refine r_aload_n C0 (kk := 1) 3 rfl dX2_letAct_90 ?_
        refine r_aload C0 0 rfl dX2_letAct_91 ?_
        obtain ⟨r19, M18, hc17, hf⟩ := bd2_e hf
        refine r_callVi C0 (As := [.ref (g.1 0 ((a0 + 23) + 9 * r7.toNatClampNeg))]) (rest := []) (c_X1_feel l D g tb hT h1 hm13 hc17) w2_96 w2_97 w2_98 w1_16 w2_99 (x_rec1 C0 h1) hd_X1_feel rfl ⟨rfl, rfl⟩ ⟨Nat.le_of_ble_eq_true rfl, Nat.le_of_ble_eq_true rfl⟩ (by decide) (by decide) rfl (Nat.le_of_ble_eq_true rfl) dX2_letAct_93 ?_
        refine r_if_ne C0 (tgt := 109) (by decide) dX2_letAct_96 (fun q20 => ?_) (fun q20 => ?_)
        · have hf := ie_f hf q20
          refine r_aload_n C0 (kk := 1) 3 rfl dX2_letAct_109 ?_
          refine r_iload_n C0 (kk := 3) 1 rfl dX2_letAct_110 ?_
          obtain ⟨M22, hc21, hf⟩ := bd_e hf
          refine r_callVv C0 (As := [.int r7]) (rest := []) (c_X1_avoid l D g tb hT h1 hc21) w2_104 w2_105 w2_106 w1_16 w2_107 (x_rec1 C0 h1) hd_X1_avoid rfl ⟨rfl, rfl⟩ ⟨Nat.le_of_ble_eq_true rfl, Nat.le_of_ble_eq_true rfl⟩ (by decide) (by decide) rfl (Nat.le_of_ble_eq_true rfl) dX2_letAct_111 ?_
          exact hend hf dX2_letAct_114
        · have hf := ie_t hf q20
          refine r_aload_n C0 (kk := 1) 3 rfl dX2_letAct_99 ?_
          refine r_aload C0 0 rfl dX2_letAct_100 ?_
          refine r_iload_n C0 (kk := 3) 1 rfl dX2_letAct_102 ?_
          obtain ⟨M24, hc23, hf⟩ := bd_e hf
          refine r_callVv C0 (As := [.ref (g.1 0 ((a0 + 23) + 9 * r7.toNatClampNeg)), .int r7]) (rest := []) (c_X1_take l D g tb hT h1 hm13 hc23) w2_100 w2_101 w2_102 w1_16 w2_103 (x_rec1 C0 h1) hd_X1_take rfl ⟨rfl, rfl⟩ ⟨Nat.le_of_ble_eq_true rfl, Nat.le_of_ble_eq_true rfl⟩ (by decide) (by decide) rfl (Nat.le_of_ble_eq_true rfl) dX2_letAct_103 ?_
          refine r_goto C0 (tgt := 114) (by decide) dX2_letAct_106 ?_
          exact hend hf dX2_letAct_114
      · have hf := ie_f hf q16
        exact hend hf dX2_letAct_89
    · have hf := ie_t hf q11
      exact hend hf dX2_letAct_59
  · have hf := ie_f hf q4
    refine r_aload_n C0 (kk := 1) 1 rfl dX2_letAct_11 ?_
    refine r_aload_n C0 (kk := 0) 0 rfl dX2_letAct_12 ?_
    refine r_get2 C0 h0.1 7 (by decide) (v := .int (M2 (a0 + 7))) rfl rfl w4_14 dX2_letAct_13 ?_
    obtain ⟨M26, hc25, hf⟩ := bd_e hf
    refine r_callVv C0 (As := [.int (M2 (a0 + 7))]) (rest := []) (c_X1_walkTo l D g tb hT h1 hc25) w2_75 w2_76 w2_77 w1_16 w2_78 (x_rec1 C0 h1) hd_X1_walkTo rfl ⟨rfl, rfl⟩ ⟨Nat.le_of_ble_eq_true rfl, Nat.le_of_ble_eq_true rfl⟩ (by decide) (by decide) rfl (Nat.le_of_ble_eq_true rfl) dX2_letAct_16 ?_
    refine r_aload_n C0 (kk := 1) 1 rfl dX2_letAct_19 ?_
    refine r_get1 C0 h1 0 (by decide) (v := .int (M26 (a1 + 0))) rfl rfl w3_200 dX2_letAct_20 ?_
    refine r_aload_n C0 (kk := 0) 0 rfl dX2_letAct_23 ?_
    refine r_get2 C0 h0.1 7 (by decide) (v := .int (M26 (a0 + 7))) rfl rfl w4_14 dX2_letAct_24 ?_
    refine r_icmp_ne C0 (tgt := 43) (by decide) dX2_letAct_27 (fun q27 => ?_) (fun q27 => ?_)
    · have hf := ie_f hf q27
      exact hend hf dX2_letAct_43
    · have hf := ie_t hf q27
      refine r_aload_n C0 (kk := 1) 1 rfl dX2_letAct_30 ?_
      refine r_aload_n C0 (kk := 0) 0 rfl dX2_letAct_31 ?_
      refine r_get2 C0 h0.1 0 (by decide) (v := .ref (g.1 10 (a0 + 23))) rfl rfl w3_235 dX2_letAct_32 ?_
      refine r_aload_n C0 (kk := 1) 1 rfl dX2_letAct_35 ?_
      refine r_get1 C0 h1 4 (by decide) (v := .int (M26 (a1 + 4))) rfl rfl w3_209 dX2_letAct_36 ?_
      obtain ⟨q28, hf⟩ := gd_e hf
      have hm29 : ((0, ((a0 + 23) + 9 * (M26 (a1 + 4)).toNatClampNeg), 0) : xQ) ∈ tb := h0.2.2.2.2.1 _ (inb_lt q28)
      refine r_aald10 C0 h0.2.1 (inb_in q28) dX2_letAct_39 ?_
      obtain ⟨M31, hc30, hf⟩ := bd_e hf
      refine r_callVv C0 (As := [.ref (g.1 0 ((a0 + 23) + 9 * (M26 (a1 + 4)).toNatClampNeg))]) (rest := []) (c_X1_payTo l D g tb hT h1 hm29 hc30) w2_79 w2_80 w2_81 w1_16 w2_82 (x_rec1 C0 h1) hd_X1_payTo rfl ⟨rfl, rfl⟩ ⟨Nat.le_of_ble_eq_true rfl, Nat.le_of_ble_eq_true rfl⟩ (by decide) (by decide) rfl (Nat.le_of_ble_eq_true rfl) dX2_letAct_40 ?_
      exact hend hf dX2_letAct_43
theorem dJ1_charAt_3b067_0 : decode cJ1_charAt_3b067 0 = .ok (.iload_n 1, 1) := by decide +kernel
theorem dJ1_charAt_3b067_1 : decode cJ1_charAt_3b067 1 = .ok (.aload_n 0, 1) := by decide +kernel
theorem dJ1_charAt_3b067_2 : decode cJ1_charAt_3b067 2 = .ok (.arraylength, 1) := by decide +kernel
theorem dJ1_charAt_3b067_3 : decode cJ1_charAt_3b067 3 = .ok (.invokestatic 9, 3) := by decide +kernel
theorem dJ1_charAt_3b067_6 : decode cJ1_charAt_3b067 6 = .ok (.aload_n 0, 1) := by decide +kernel
theorem dJ1_charAt_3b067_7 : decode cJ1_charAt_3b067 7 = .ok (.iload_n 1, 1) := by decide +kernel
theorem dJ1_charAt_3b067_8 : decode cJ1_charAt_3b067 8 = .ok (.baload, 1) := by decide +kernel
theorem dJ1_charAt_3b067_9 : decode cJ1_charAt_3b067 9 = .ok (.sipush 255, 3) := by decide +kernel
theorem dJ1_charAt_3b067_12 : decode cJ1_charAt_3b067 12 = .ok (.iand, 1) := by decide +kernel
theorem dJ1_charAt_3b067_13 : decode cJ1_charAt_3b067 13 = .ok (.i2c, 1) := by decide +kernel
theorem dJ1_charAt_3b067_14 : decode cJ1_charAt_3b067 14 = .ok (.ireturn, 1) := by decide +kernel
theorem hd_J1_charAt_3b067 : yJ1_charAt_3b067.cls ≠ "java/lang/invoke/MethodHandle" ∧ yJ1_charAt_3b067.cls ≠ "java/lang/invoke/VarHandle" ∧ (parseMethodDescriptor yJ1_charAt_3b067.desc).map (fun d => d.parameters.length) = some 2 := by decide +kernel
set_option maxRecDepth 100000 in
set_option maxHeartbeats 4000000 in
theorem c_J1_charAt_3b067 (l : Launch) (D : va_G) (g : xG) (tb : List xQ) (hT : x_T g tb) {a0 : Nat} {a1 : Int32} (h0 : a0 < 40) {M : xM} {r : Int32} {M' : xM} (hf : f_J1_charAt_3b067 a0 a1 M = some (r, M')) :
    cI l D g tb yJ1_charAt_3b067 cJ1_charAt_3b067 2 .char ({ frames := 2, cells := 0, slots := 0, locals := 43 } : Room) [.ref (g.1 21 a0), .int a1] M r M' := by
  refine x_startN (own := RJ1) (by decide +kernel) rfl rfl (Nat.le_of_ble_eq_true rfl) hT ?_
  intro p e s m args below meth c Q C0 hend
  unfold f_J1_charAt_3b067 at hf
  refine r_iload_n C0 (kk := 1) 1 rfl dJ1_charAt_3b067_0 ?_
  refine r_aload_n C0 (kk := 0) 0 rfl dJ1_charAt_3b067_1 ?_
  refine r_slen C0 h0 dJ1_charAt_3b067_2 ?_
  obtain ⟨M2, hc1, hf⟩ := bd_e hf
  refine r_callSv C0 (As := [.int a1, .int (nI (x_slen a0))]) (rest := []) (c_J0_checkIndex_df160 l D g tb hT  hc1) w4_115 w4_116 w1_3 w4_117 hd_J0_checkIndex_df160 rfl ⟨rfl, rfl⟩ ⟨Nat.le_of_ble_eq_true rfl, Nat.le_of_ble_eq_true rfl⟩ (by decide) (by decide) rfl (Nat.le_of_ble_eq_true rfl) dJ1_charAt_3b067_3 ?_
  refine r_aload_n C0 (kk := 0) 0 rfl dJ1_charAt_3b067_6 ?_
  refine r_iload_n C0 (kk := 1) 1 rfl dJ1_charAt_3b067_7 ?_
  obtain ⟨q3, hf⟩ := gd_e hf
  refine r_sbyte C0 h0 q3 dJ1_charAt_3b067_8 ?_
  refine r_sipush C0 (v := 255) dJ1_charAt_3b067_9 rfl ?_
  refine r_iand C0 dJ1_charAt_3b067_12 ?_
  refine r_i2c C0 dJ1_charAt_3b067_13 ?_
  obtain ⟨q4, hf⟩ := gd_e hf
  exact hend (isn_e q4) hf dJ1_charAt_3b067_14
theorem dX6_addStall_0 : decode cX6_addStall 0 = .ok (.iload_n 1, 1) := by decide +kernel
theorem dX6_addStall_1 : decode cX6_addStall 1 = .ok (.iconst 0, 1) := by decide +kernel
theorem dX6_addStall_2 : decode cX6_addStall 2 = .ok (.bipush 99, 2) := by decide +kernel
theorem dX6_addStall_4 : decode cX6_addStall 4 = .ok (.invokestatic 123, 3) := by decide +kernel
theorem dX6_addStall_7 : decode cX6_addStall 7 = .ok (.iload_n 2, 1) := by decide +kernel
theorem dX6_addStall_8 : decode cX6_addStall 8 = .ok (.iconst 0, 1) := by decide +kernel
theorem dX6_addStall_9 : decode cX6_addStall 9 = .ok (.iconst 3, 1) := by decide +kernel
theorem dX6_addStall_10 : decode cX6_addStall 10 = .ok (.invokestatic 123, 3) := by decide +kernel
theorem dX6_addStall_13 : decode cX6_addStall 13 = .ok (.iload_n 3, 1) := by decide +kernel
theorem dX6_addStall_14 : decode cX6_addStall 14 = .ok (.iconst 0, 1) := by decide +kernel
theorem dX6_addStall_15 : decode cX6_addStall 15 = .ok (.iconst 2, 1) := by decide +kernel
theorem dX6_addStall_16 : decode cX6_addStall 16 = .ok (.invokestatic 123, 3) := by decide +kernel
theorem dX6_addStall_19 : decode cX6_addStall 19 = .ok (.iload 4, 2) := by decide +kernel
theorem dX6_addStall_21 : decode cX6_addStall 21 = .ok (.iconst 1, 1) := by decide +kernel
theorem dX6_addStall_22 : decode cX6_addStall 22 = .ok (.sipush 999, 3) := by decide +kernel
theorem dX6_addStall_25 : decode cX6_addStall 25 = .ok (.invokestatic 123, 3) := by decide +kernel
theorem dX6_addStall_28 : decode cX6_addStall 28 = .ok (.iload 5, 2) := by decide +kernel
theorem dX6_addStall_30 : decode cX6_addStall 30 = .ok (.iconst 0, 1) := by decide +kernel
theorem dX6_addStall_31 : decode cX6_addStall 31 = .ok (.bipush 99, 2) := by decide +kernel
theorem dX6_addStall_33 : decode cX6_addStall 33 = .ok (.invokestatic 123, 3) := by decide +kernel
theorem dX6_addStall_36 : decode cX6_addStall 36 = .ok (.aload_n 0, 1) := by decide +kernel
theorem dX6_addStall_37 : decode cX6_addStall 37 = .ok (.getfield 10, 3) := by decide +kernel
theorem dX6_addStall_40 : decode cX6_addStall 40 = .ok (.getfield 66, 3) := by decide +kernel
theorem dX6_addStall_43 : decode cX6_addStall 43 = .ok (.bipush 6, 2) := by decide +kernel
theorem dX6_addStall_45 : decode cX6_addStall 45 = .ok (.if_icmp .lt 14, 3) := by decide +kernel
theorem dX6_addStall_48 : decode cX6_addStall 48 = .ok (.new 279, 3) := by decide +kernel
theorem dX6_addStall_51 : decode cX6_addStall 51 = .ok (.dup, 1) := by decide +kernel
theorem dX6_addStall_52 : decode cX6_addStall 52 = .ok (.ldc_w 281, 3) := by decide +kernel
theorem dX6_addStall_55 : decode cX6_addStall 55 = .ok (.invokespecial 283, 3) := by decide +kernel
theorem dX6_addStall_58 : decode cX6_addStall 58 = .ok (.athrow, 1) := by decide +kernel
theorem dX6_addStall_59 : decode cX6_addStall 59 = .ok (.aload_n 0, 1) := by decide +kernel
theorem dX6_addStall_60 : decode cX6_addStall 60 = .ok (.invokevirtual 83, 3) := by decide +kernel
theorem dX6_addStall_63 : decode cX6_addStall 63 = .ok (.aload_n 0, 1) := by decide +kernel
theorem dX6_addStall_64 : decode cX6_addStall 64 = .ok (.getfield 10, 3) := by decide +kernel
theorem dX6_addStall_67 : decode cX6_addStall 67 = .ok (.iload_n 1, 1) := by decide +kernel
theorem dX6_addStall_68 : decode cX6_addStall 68 = .ok (.iload_n 2, 1) := by decide +kernel
theorem dX6_addStall_69 : decode cX6_addStall 69 = .ok (.iload_n 3, 1) := by decide +kernel
theorem dX6_addStall_70 : decode cX6_addStall 70 = .ok (.iload 4, 2) := by decide +kernel
theorem dX6_addStall_72 : decode cX6_addStall 72 = .ok (.iload 5, 2) := by decide +kernel
theorem dX6_addStall_74 : decode cX6_addStall 74 = .ok (.invokevirtual 284, 3) := by decide +kernel
theorem dX6_addStall_77 : decode cX6_addStall 77 = .ok (.ireturn, 1) := by decide +kernel
theorem hd_X6_addStall : yX6_addStall.cls = RX6 ∧ yX6_addStall.cls ≠ "java/lang/invoke/MethodHandle" ∧ yX6_addStall.cls ≠ "java/lang/invoke/VarHandle" ∧ (parseMethodDescriptor yX6_addStall.desc).map (fun d => d.parameters.length) = some 5 := by decide +kernel
set_option maxRecDepth 100000 in
set_option maxHeartbeats 4000000 in
theorem c_X6_addStall (l : Launch) (D : va_G) (g : xG) (tb : List xQ) (hT : x_T g tb) {a1 : Int32} {a2 : Int32} {a3 : Int32} {a4 : Int32} {a5 : Int32} (h0 : x_fb tb) {M : xM} {r : Int32} {M' : xM} (hf : f_X6_addStall a1 a2 a3 a4 a5 M = some (r, M')) :
    cI l D g tb yX6_addStall cX6_addStall 6 .int ({ frames := 3, cells := 0, slots := 0, locals := 63 } : Room) [.ref (g.1 4 1664), .int a1, .int a2, .int a3, .int a4, .int a5] M r M' := by
  refine x_startI (own := RX6) (by decide +kernel) rfl rfl (Nat.le_of_ble_eq_true rfl) hT ?_
  intro p e s m args below meth c Q C0 hend
  unfold f_X6_addStall at hf
  refine r_iload_n C0 (kk := 1) 1 rfl dX6_addStall_0 ?_
  refine r_iconst C0 (v := 0) dX6_addStall_1 rfl ?_
  refine r_bipush C0 (v := 99) dX6_addStall_2 rfl ?_
  obtain ⟨M2, hc1, hf⟩ := bd_e hf
  refine r_callSv C0 (As := [.int a1, .int 0, .int 99]) (rest := []) (c_X6_checkRange l D g tb hT  hc1) w1_48 w1_49 w1_13 w1_50 hd_X6_checkRange rfl ⟨rfl, rfl⟩ ⟨Nat.le_of_ble_eq_true rfl, Nat.le_of_ble_eq_true rfl⟩ (by decide) (by decide) rfl (Nat.le_of_ble_eq_true rfl) dX6_addStall_4 ?_
  refine r_iload_n C0 (kk := 2) 2 rfl dX6_addStall_7 ?_
  refine r_iconst C0 (v := 0) dX6_addStall_8 rfl ?_
  refine r_iconst C0 (v := 3) dX6_addStall_9 rfl ?_
  obtain ⟨M4, hc3, hf⟩ := bd_e hf
  refine r_callSv C0 (As := [.int a2, .int 0, .int 3]) (rest := []) (c_X6_checkRange l D g tb hT  hc3) w1_48 w1_49 w1_13 w1_50 hd_X6_checkRange rfl ⟨rfl, rfl⟩ ⟨Nat.le_of_ble_eq_true rfl, Nat.le_of_ble_eq_true rfl⟩ (by decide) (by decide) rfl (Nat.le_of_ble_eq_true rfl) dX6_addStall_10 ?_
  refine r_iload_n C0 (kk := 3) 3 rfl dX6_addStall_13 ?_
  refine r_iconst C0 (v := 0) dX6_addStall_14 rfl ?_
  refine r_iconst C0 (v := 2) dX6_addStall_15 rfl ?_
  obtain ⟨M6, hc5, hf⟩ := bd_e hf
  refine r_callSv C0 (As := [.int a3, .int 0, .int 2]) (rest := []) (c_X6_checkRange l D g tb hT  hc5) w1_48 w1_49 w1_13 w1_50 hd_X6_checkRange rfl ⟨rfl, rfl⟩ ⟨Nat.le_of_ble_eq_true rfl, Nat.le_of_ble_eq_true rfl⟩ (by decide) (by decide) rfl (Nat.le_of_ble_eq_true rfl) dX6_addStall_16 ?_
  refine r_iload C0 4 rfl dX6_addStall_19 ?_
  refine r_iconst C0 (v := 1) dX6_addStall_21 rfl ?_
  refine r_sipush C0 (v := 999) dX6_addStall_22 rfl ?_
  obtain ⟨M8, hc7, hf⟩ := bd_e hf
  refine r_callSv C0 (As := [.int a4, .int 1, .int 999]) (rest := []) (c_X6_checkRange l D g tb hT  hc7) w1_48 w1_49 w1_13 w1_50 hd_X6_checkRange rfl ⟨rfl, rfl⟩ ⟨Nat.le_of_ble_eq_true rfl, Nat.le_of_ble_eq_true rfl⟩ (by decide) (by decide) rfl (Nat.le_of_ble_eq_true rfl) dX6_addStall_25 ?_
  refine r_iload C0 5 rfl dX6_addStall_28 ?_
  refine r_iconst C0 (v := 0) dX6_addStall_30 rfl ?_
  refine r_bipush C0 (v := 99) dX6_addStall_31 rfl ?_
  obtain ⟨M10, hc9, hf⟩ := bd_e hf
  refine r_callSv C0 (As := [.int a5, .int 0, .int 99]) (rest := []) (c_X6_checkRange l D g tb hT  hc9) w1_48 w1_49 w1_13 w1_50 hd_X6_checkRange rfl ⟨rfl, rfl⟩ ⟨Nat.le_of_ble_eq_true rfl, Nat.le_of_ble_eq_true rfl⟩ (by decide) (by decide) rfl (Nat.le_of_ble_eq_true rfl) dX6_addStall_33 ?_
  refine r_aload_n C0 (kk := 0) 0 rfl dX6_addStall_36 ?_
  refine r_get4 C0 h0.1 0 (by decide) (v := .ref (g.1 2 0)) rfl rfl w5_87 dX6_addStall_37 ?_
  refine r_get2 C0 h0.2.1.1 1 (by decide) (v := .int (M10 9)) rfl rfl w3_239 dX6_addStall_40 ?_
  refine r_bipush C0 (v := 6) dX6_addStall_43 rfl ?_
  refine r_icmp_lt C0 (tgt := 59) (by decide) dX6_addStall_45 (fun q11 => ?_) (fun q11 => ?_)
  · have hf := ie_t hf q11
    refine r_aload_n C0 (kk := 0) 0 rfl dX6_addStall_59 ?_
    obtain ⟨M13, hc12, hf⟩ := bd_e hf
    refine r_callVv C0 (As := []) (rest := []) (c_X6_remember l D g tb hT h0 hc12) w2_22 w2_24 wp1_5 w1_13 w2_25 (x_rec4 C0 h0.1) hd_X6_remember rfl ⟨rfl, rfl⟩ ⟨Nat.le_of_ble_eq_true rfl, Nat.le_of_ble_eq_true rfl⟩ (by decide) (by decide) rfl (Nat.le_of_ble_eq_true rfl) dX6_addStall_60 ?_
    refine r_aload_n C0 (kk := 0) 0 rfl dX6_addStall_63 ?_
    refine r_get4 C0 h0.1 0 (by decide) (v := .ref (g.1 2 0)) rfl rfl w5_87 dX6_addStall_64 ?_
    refine r_iload_n C0 (kk := 1) 1 rfl dX6_addStall_67 ?_
    refine r_iload_n C0 (kk := 2) 2 rfl dX6_addStall_68 ?_
    refine r_iload_n C0 (kk := 3) 3 rfl dX6_addStall_69 ?_
    refine r_iload C0 4 rfl dX6_addStall_70 ?_
    refine r_iload C0 5 rfl dX6_addStall_72 ?_
    obtain ⟨r16, M15, hc14, hf⟩ := bd2_e hf
    refine r_callVi C0 (As := [.int a1, .int a2, .int a3, .int a4, .int a5]) (rest := []) (c_X2_placeStall l D g tb hT h0.2.1 hc14) w5_162 w5_51 w5_52 w1_14 w5_53 (x_rec2 C0 h0.2.1.1) hd_X2_placeStall rfl ⟨rfl, rfl⟩ ⟨Nat.le_of_ble_eq_true rfl, Nat.le_of_ble_eq_true rfl⟩ (by decide) (by decide) rfl (Nat.le_of_ble_eq_true rfl) dX6_addStall_74 ?_
    exact hend hf dX6_addStall_77
  · have hf := ie_f hf q11
    exact none_ne hf
theorem dX6_addBuyer_0 : decode cX6_addBuyer 0 = .ok (.iload_n 1, 1) := by decide +kernel
theorem dX6_addBuyer_1 : decode cX6_addBuyer 1 = .ok (.iconst 0, 1) := by decide +kernel
theorem dX6_addBuyer_2 : decode cX6_addBuyer 2 = .ok (.bipush 99, 2) := by decide +kernel
theorem dX6_addBuyer_4 : decode cX6_addBuyer 4 = .ok (.invokestatic 123, 3) := by decide +kernel
theorem dX6_addBuyer_7 : decode cX6_addBuyer 7 = .ok (.iload_n 2, 1) := by decide +kernel
theorem dX6_addBuyer_8 : decode cX6_addBuyer 8 = .ok (.iconst 0, 1) := by decide +kernel
theorem dX6_addBuyer_9 : decode cX6_addBuyer 9 = .ok (.sipush 9999, 3) := by decide +kernel
theorem dX6_addBuyer_12 : decode cX6_addBuyer 12 = .ok (.invokestatic 123, 3) := by decide +kernel
theorem dX6_addBuyer_15 : decode cX6_addBuyer 15 = .ok (.iload_n 3, 1) := by decide +kernel
theorem dX6_addBuyer_16 : decode cX6_addBuyer 16 = .ok (.iconst 0, 1) := by decide +kernel
theorem dX6_addBuyer_17 : decode cX6_addBuyer 17 = .ok (.iconst 2, 1) := by decide +kernel
theorem dX6_addBuyer_18 : decode cX6_addBuyer 18 = .ok (.invokestatic 123, 3) := by decide +kernel
theorem dX6_addBuyer_21 : decode cX6_addBuyer 21 = .ok (.iload 4, 2) := by decide +kernel
theorem dX6_addBuyer_23 : decode cX6_addBuyer 23 = .ok (.iconst 1, 1) := by decide +kernel
theorem dX6_addBuyer_24 : decode cX6_addBuyer 24 = .ok (.bipush 20, 2) := by decide +kernel
theorem dX6_addBuyer_26 : decode cX6_addBuyer 26 = .ok (.invokestatic 123, 3) := by decide +kernel
theorem dX6_addBuyer_29 : decode cX6_addBuyer 29 = .ok (.aload_n 0, 1) := by decide +kernel
theorem dX6_addBuyer_30 : decode cX6_addBuyer 30 = .ok (.getfield 10, 3) := by decide +kernel
theorem dX6_addBuyer_33 : decode cX6_addBuyer 33 = .ok (.getfield 211, 3) := by decide +kernel
theorem dX6_addBuyer_36 : decode cX6_addBuyer 36 = .ok (.bipush 6, 2) := by decide +kernel
theorem dX6_addBuyer_38 : decode cX6_addBuyer 38 = .ok (.if_icmp .lt 14, 3) := by decide +kernel
theorem dX6_addBuyer_41 : decode cX6_addBuyer 41 = .ok (.new 279, 3) := by decide +kernel
theorem dX6_addBuyer_44 : decode cX6_addBuyer 44 = .ok (.dup, 1) := by decide +kernel
theorem dX6_addBuyer_45 : decode cX6_addBuyer 45 = .ok (.ldc_w 288, 3) := by decide +kernel
theorem dX6_addBuyer_48 : decode cX6_addBuyer 48 = .ok (.invokespecial 283, 3) := by decide +kernel
theorem dX6_addBuyer_51 : decode cX6_addBuyer 51 = .ok (.athrow, 1) := by decide +kernel
theorem dX6_addBuyer_52 : decode cX6_addBuyer 52 = .ok (.aload_n 0, 1) := by decide +kernel
theorem dX6_addBuyer_53 : decode cX6_addBuyer 53 = .ok (.invokevirtual 83, 3) := by decide +kernel
theorem dX6_addBuyer_56 : decode cX6_addBuyer 56 = .ok (.aload_n 0, 1) := by decide +kernel
theorem dX6_addBuyer_57 : decode cX6_addBuyer 57 = .ok (.getfield 10, 3) := by decide +kernel
theorem dX6_addBuyer_60 : decode cX6_addBuyer 60 = .ok (.iload_n 1, 1) := by decide +kernel
theorem dX6_addBuyer_61 : decode cX6_addBuyer 61 = .ok (.iload_n 2, 1) := by decide +kernel
theorem dX6_addBuyer_62 : decode cX6_addBuyer 62 = .ok (.iload_n 3, 1) := by decide +kernel
theorem dX6_addBuyer_63 : decode cX6_addBuyer 63 = .ok (.iload 4, 2) := by decide +kernel
theorem dX6_addBuyer_65 : decode cX6_addBuyer 65 = .ok (.invokevirtual 290, 3) := by decide +kernel
theorem dX6_addBuyer_68 : decode cX6_addBuyer 68 = .ok (.ireturn, 1) := by decide +kernel
theorem hd_X6_addBuyer : yX6_addBuyer.cls = RX6 ∧ yX6_addBuyer.cls ≠ "java/lang/invoke/MethodHandle" ∧ yX6_addBuyer.cls ≠ "java/lang/invoke/VarHandle" ∧ (parseMethodDescriptor yX6_addBuyer.desc).map (fun d => d.parameters.length) = some 4 := by decide +kernel
set_option maxRecDepth 100000 in
set_option maxHeartbeats 4000000 in
theorem c_X6_addBuyer (l : Launch) (D : va_G) (g : xG) (tb : List xQ) (hT : x_T g tb) {a1 : Int32} {a2 : Int32} {a3 : Int32} {a4 : Int32} (h0 : x_fb tb) {M : xM} {r : Int32} {M' : xM} (hf : f_X6_addBuyer a1 a2 a3 a4 M = some (r, M')) :
    cI l D g tb yX6_addBuyer cX6_addBuyer 5 .int ({ frames := 3, cells := 0, slots := 0, locals := 63 } : Room) [.ref (g.1 4 1664), .int a1, .int a2, .int a3, .int a4] M r M' := by
  refine x_startI (own := RX6) (by decide +kernel) rfl rfl (Nat.le_of_ble_eq_true rfl) hT ?_
  intro p e s m args below meth c Q C0 hend
  unfold f_X6_addBuyer at hf
  refine r_iload_n C0 (kk := 1) 1 rfl dX6_addBuyer_0 ?_
  refine r_iconst C0 (v := 0) dX6_addBuyer_1 rfl ?_
  refine r_bipush C0 (v := 99) dX6_addBuyer_2 rfl ?_
  obtain ⟨M2, hc1, hf⟩ := bd_e hf
  refine r_callSv C0 (As := [.int a1, .int 0, .int 99]) (rest := []) (c_X6_checkRange l D g tb hT  hc1) w1_48 w1_49 w1_13 w1_50 hd_X6_checkRange rfl ⟨rfl, rfl⟩ ⟨Nat.le_of_ble_eq_true rfl, Nat.le_of_ble_eq_true rfl⟩ (by decide) (by decide) rfl (Nat.le_of_ble_eq_true rfl) dX6_addBuyer_4 ?_
  refine r_iload_n C0 (kk := 2) 2 rfl dX6_addBuyer_7 ?_
  refine r_iconst C0 (v := 0) dX6_addBuyer_8 rfl ?_
  refine r_sipush C0 (v := 9999) dX6_addBuyer_9 rfl ?_
  obtain ⟨M4, hc3, hf⟩ := bd_e hf
  refine r_callSv C0 (As := [.int a2, .int 0, .int 9999]) (rest := []) (c_X6_checkRange l D g tb hT  hc3) w1_48 w1_49 w1_13 w1_50 hd_X6_checkRange rfl ⟨rfl, rfl⟩ ⟨Nat.le_of_ble_eq_true rfl, Nat.le_of_ble_eq_true rfl⟩ (by decide) (by decide) rfl (Nat.le_of_ble_eq_true rfl) dX6_addBuyer_12 ?_
  refine r_iload_n C0 (kk := 3) 3 rfl dX6_addBuyer_15 ?_
  refine r_iconst C0 (v := 0) dX6_addBuyer_16 rfl ?_
  refine r_iconst C0 (v := 2) dX6_addBuyer_17 rfl ?_
  obtain ⟨M6, hc5, hf⟩ := bd_e hf
  refine r_callSv C0 (As := [.int a3, .int 0, .int 2]) (rest := []) (c_X6_checkRange l D g tb hT  hc5) w1_48 w1_49 w1_13 w1_50 hd_X6_checkRange rfl ⟨rfl, rfl⟩ ⟨Nat.le_of_ble_eq_true rfl, Nat.le_of_ble_eq_true rfl⟩ (by decide) (by decide) rfl (Nat.le_of_ble_eq_true rfl) dX6_addBuyer_18 ?_
  refine r_iload C0 4 rfl dX6_addBuyer_21 ?_
  refine r_iconst C0 (v := 1) dX6_addBuyer_23 rfl ?_
  refine r_bipush C0 (v := 20) dX6_addBuyer_24 rfl ?_
  obtain ⟨M8, hc7, hf⟩ := bd_e hf
  refine r_callSv C0 (As := [.int a4, .int 1, .int 20]) (rest := []) (c_X6_checkRange l D g tb hT  hc7) w1_48 w1_49 w1_13 w1_50 hd_X6_checkRange rfl ⟨rfl, rfl⟩ ⟨Nat.le_of_ble_eq_true rfl, Nat.le_of_ble_eq_true rfl⟩ (by decide) (by decide) rfl (Nat.le_of_ble_eq_true rfl) dX6_addBuyer_26 ?_
  refine r_aload_n C0 (kk := 0) 0 rfl dX6_addBuyer_29 ?_
  refine r_get4 C0 h0.1 0 (by decide) (v := .ref (g.1 2 0)) rfl rfl w5_87 dX6_addBuyer_30 ?_
  refine r_get2 C0 h0.2.1.1 3 (by decide) (v := .int (M8 10)) rfl rfl w4_6 dX6_addBuyer_33 ?_
  refine r_bipush C0 (v := 6) dX6_addBuyer_36 rfl ?_
  refine r_icmp_lt C0 (tgt := 52) (by decide) dX6_addBuyer_38 (fun q9 => ?_) (fun q9 => ?_)
  · have hf := ie_t hf q9
    refine r_aload_n C0 (kk := 0) 0 rfl dX6_addBuyer_52 ?_
    obtain ⟨M11, hc10, hf⟩ := bd_e hf
    refine r_callVv C0 (As := []) (rest := []) (c_X6_remember l D g tb hT h0 hc10) w2_22 w2_24 wp1_5 w1_13 w2_25 (x_rec4 C0 h0.1) hd_X6_remember rfl ⟨rfl, rfl⟩ ⟨Nat.le_of_ble_eq_true rfl, Nat.le_of_ble_eq_true rfl⟩ (by decide) (by decide) rfl (Nat.le_of_ble_eq_true rfl) dX6_addBuyer_53 ?_
    refine r_aload_n C0 (kk := 0) 0 rfl dX6_addBuyer_56 ?_
    refine r_get4 C0 h0.1 0 (by decide) (v := .ref (g.1 2 0)) rfl rfl w5_87 dX6_addBuyer_57 ?_
    refine r_iload_n C0 (kk := 1) 1 rfl dX6_addBuyer_60 ?_
    refine r_iload_n C0 (kk := 2) 2 rfl dX6_addBuyer_61 ?_
    refine r_iload_n C0 (kk := 3) 3 rfl dX6_addBuyer_62 ?_
    refine r_iload C0 4 rfl dX6_addBuyer_63 ?_
    obtain ⟨r14, M13, hc12, hf⟩ := bd2_e hf
    refine r_callVi C0 (As := [.int a1, .int a2, .int a3, .int a4]) (rest := []) (c_X2_placeBuyer l D g tb hT h0.2.1 hc12) w5_168 w5_63 w5_64 w1_14 w5_65 (x_rec2 C0 h0.2.1.1) hd_X2_placeBuyer rfl ⟨rfl, rfl⟩ ⟨Nat.le_of_ble_eq_true rfl, Nat.le_of_ble_eq_true rfl⟩ (by decide) (by decide) rfl (Nat.le_of_ble_eq_true rfl) dX6_addBuyer_65 ?_
    exact hend hf dX6_addBuyer_68
  · have hf := ie_f hf q9
    exact none_ne hf
theorem dX6_moveStall_0 : decode cX6_moveStall 0 = .ok (.aload_n 0, 1) := by decide +kernel
theorem dX6_moveStall_1 : decode cX6_moveStall 1 = .ok (.iload_n 1, 1) := by decide +kernel
theorem dX6_moveStall_2 : decode cX6_moveStall 2 = .ok (.invokevirtual 152, 3) := by decide +kernel
theorem dX6_moveStall_5 : decode cX6_moveStall 5 = .ok (.astore_n 3, 1) := by decide +kernel
theorem dX6_moveStall_6 : decode cX6_moveStall 6 = .ok (.iload_n 2, 1) := by decide +kernel
theorem dX6_moveStall_7 : decode cX6_moveStall 7 = .ok (.iconst 0, 1) := by decide +kernel
theorem dX6_moveStall_8 : decode cX6_moveStall 8 = .ok (.bipush 99, 2) := by decide +kernel
theorem dX6_moveStall_10 : decode cX6_moveStall 10 = .ok (.invokestatic 123, 3) := by decide +kernel
theorem dX6_moveStall_13 : decode cX6_moveStall 13 = .ok (.aload_n 0, 1) := by decide +kernel
theorem dX6_moveStall_14 : decode cX6_moveStall 14 = .ok (.invokevirtual 83, 3) := by decide +kernel
theorem dX6_moveStall_17 : decode cX6_moveStall 17 = .ok (.aload_n 3, 1) := by decide +kernel
theorem dX6_moveStall_18 : decode cX6_moveStall 18 = .ok (.getfield 156, 3) := by decide +kernel
theorem dX6_moveStall_21 : decode cX6_moveStall 21 = .ok (.istore 4, 2) := by decide +kernel
theorem dX6_moveStall_23 : decode cX6_moveStall 23 = .ok (.aload_n 3, 1) := by decide +kernel
theorem dX6_moveStall_24 : decode cX6_moveStall 24 = .ok (.iload_n 2, 1) := by decide +kernel
theorem dX6_moveStall_25 : decode cX6_moveStall 25 = .ok (.putfield 156, 3) := by decide +kernel
theorem dX6_moveStall_28 : decode cX6_moveStall 28 = .ok (.iload 4, 2) := by decide +kernel
theorem dX6_moveStall_30 : decode cX6_moveStall 30 = .ok (.ireturn, 1) := by decide +kernel
theorem hd_X6_moveStall : yX6_moveStall.cls = RX6 ∧ yX6_moveStall.cls ≠ "java/lang/invoke/MethodHandle" ∧ yX6_moveStall.cls ≠ "java/lang/invoke/VarHandle" ∧ (parseMethodDescriptor yX6_moveStall.desc).map (fun d => d.parameters.length) = some 2 := by decide +kernel
set_option maxRecDepth 100000 in
set_option maxHeartbeats 4000000 in
theorem c_X6_moveStall (l : Launch) (D : va_G) (g : xG) (tb : List xQ) (hT : x_T g tb) {a1 : Int32} {a2 : Int32} (h0 : x_fb tb) {M : xM} {r : Int32} {M' : xM} (hf : f_X6_moveStall a1 a2 M = some (r, M')) :
    cI l D g tb yX6_moveStall cX6_moveStall 5 .int ({ frames := 3, cells := 0, slots := 0, locals := 63 } : Room) [.ref (g.1 4 1664), .int a1, .int a2] M r M' := by
  refine x_startI (own := RX6) (by decide +kernel) rfl rfl (Nat.le_of_ble_eq_true rfl) hT ?_
  intro p e s m args below meth c Q C0 hend
  unfold f_X6_moveStall at hf
  refine r_aload_n C0 (kk := 0) 0 rfl dX6_moveStall_0 ?_
  refine r_iload_n C0 (kk := 1) 1 rfl dX6_moveStall_1 ?_
  obtain ⟨r3, M2, hc1, hf⟩ := bd2_e hf
  refine r_callVr C0 (As := [.int a1]) (rest := []) (c_X6_stallAt l D g tb hT h0 hc1) w1_149 w1_151 wp1_1 w1_13 w1_153 (x_rec4 C0 h0.1) hd_X6_stallAt rfl ⟨rfl, rfl⟩ ⟨Nat.le_of_ble_eq_true rfl, Nat.le_of_ble_eq_true rfl⟩ (by decide) (by decide) rfl (Nat.le_of_ble_eq_true rfl) dX6_moveStall_2 (fun hm4 => ?_)
  refine r_astore_n C0 (kk := 3) (lv2 := [(3, .ref (g.1 0 r3)), (0, .ref (g.1 4 1664)), (1, .int a1), (2, .int a2)]) (by decide) rfl dX6_moveStall_5 ?_
  refine r_iload_n C0 (kk := 2) 3 rfl dX6_moveStall_6 ?_
  refine r_iconst C0 (v := 0) dX6_moveStall_7 rfl ?_
  refine r_bipush C0 (v := 99) dX6_moveStall_8 rfl ?_
  obtain ⟨M6, hc5, hf⟩ := bd_e hf
  refine r_callSv C0 (As := [.int a2, .int 0, .int 99]) (rest := []) (c_X6_checkRange l D g tb hT  hc5) w1_48 w1_49 w1_13 w1_50 hd_X6_checkRange rfl ⟨rfl, rfl⟩ ⟨Nat.le_of_ble_eq_true rfl, Nat.le_of_ble_eq_true rfl⟩ (by decide) (by decide) rfl (Nat.le_of_ble_eq_true rfl) dX6_moveStall_10 ?_
  refine r_aload_n C0 (kk := 0) 1 rfl dX6_moveStall_13 ?_
  obtain ⟨M8, hc7, hf⟩ := bd_e hf
  refine r_callVv C0 (As := []) (rest := []) (c_X6_remember l D g tb hT h0 hc7) w2_22 w2_24 wp1_5 w1_13 w2_25 (x_rec4 C0 h0.1) hd_X6_remember rfl ⟨rfl, rfl⟩ ⟨Nat.le_of_ble_eq_true rfl, Nat.le_of_ble_eq_true rfl⟩ (by decide) (by decide) rfl (Nat.le_of_ble_eq_true rfl) dX6_moveStall_14 ?_
  refine r_aload_n C0 (kk := 3) 0 rfl dX6_moveStall_17 ?_
  refine r_get0 C0 hm4 0 (by decide) (v := .int (M8 (r3 + 0))) rfl rfl w3_148 dX6_moveStall_18 ?_
  refine r_istore C0 (lv2 := [(4, .int (M8 (r3 + 0))), (3, .ref (g.1 0 r3)), (0, .ref (g.1 4 1664)), (1, .int a1), (2, .int a2)]) (by decide) rfl dX6_moveStall_21 ?_
  refine r_aload_n C0 (kk := 3) 1 rfl dX6_moveStall_23 ?_
  refine r_iload_n C0 (kk := 2) 4 rfl dX6_moveStall_24 ?_
  refine r_put0 C0 hm4 0 rfl rfl w3_148 rfl rfl rfl dX6_moveStall_25 ?_
  refine r_iload C0 0 rfl dX6_moveStall_28 ?_
  exact hend hf dX6_moveStall_30
theorem dX6_setPrice_0 : decode cX6_setPrice 0 = .ok (.aload_n 0, 1) := by decide +kernel
theorem dX6_setPrice_1 : decode cX6_setPrice 1 = .ok (.iload_n 1, 1) := by decide +kernel
theorem dX6_setPrice_2 : decode cX6_setPrice 2 = .ok (.invokevirtual 152, 3) := by decide +kernel
theorem dX6_setPrice_5 : decode cX6_setPrice 5 = .ok (.astore_n 3, 1) := by decide +kernel
theorem dX6_setPrice_6 : decode cX6_setPrice 6 = .ok (.iload_n 2, 1) := by decide +kernel
theorem dX6_setPrice_7 : decode cX6_setPrice 7 = .ok (.iconst 1, 1) := by decide +kernel
theorem dX6_setPrice_8 : decode cX6_setPrice 8 = .ok (.sipush 999, 3) := by decide +kernel
theorem dX6_setPrice_11 : decode cX6_setPrice 11 = .ok (.invokestatic 123, 3) := by decide +kernel
theorem dX6_setPrice_14 : decode cX6_setPrice 14 = .ok (.aload_n 0, 1) := by decide +kernel
theorem dX6_setPrice_15 : decode cX6_setPrice 15 = .ok (.invokevirtual 83, 3) := by decide +kernel
theorem dX6_setPrice_18 : decode cX6_setPrice 18 = .ok (.aload_n 3, 1) := by decide +kernel
theorem dX6_setPrice_19 : decode cX6_setPrice 19 = .ok (.getfield 167, 3) := by decide +kernel
theorem dX6_setPrice_22 : decode cX6_setPrice 22 = .ok (.istore 4, 2) := by decide +kernel
theorem dX6_setPrice_24 : decode cX6_setPrice 24 = .ok (.aload_n 3, 1) := by decide +kernel
theorem dX6_setPrice_25 : decode cX6_setPrice 25 = .ok (.iload_n 2, 1) := by decide +kernel
theorem dX6_setPrice_26 : decode cX6_setPrice 26 = .ok (.putfield 167, 3) := by decide +kernel
theorem dX6_setPrice_29 : decode cX6_setPrice 29 = .ok (.iload 4, 2) := by decide +kernel
theorem dX6_setPrice_31 : decode cX6_setPrice 31 = .ok (.ireturn, 1) := by decide +kernel
theorem hd_X6_setPrice : yX6_setPrice.cls = RX6 ∧ yX6_setPrice.cls ≠ "java/lang/invoke/MethodHandle" ∧ yX6_setPrice.cls ≠ "java/lang/invoke/VarHandle" ∧ (parseMethodDescriptor yX6_setPrice.desc).map (fun d => d.parameters.length) = some 2 := by decide +kernel
set_option maxRecDepth 100000 in
set_option maxHeartbeats 4000000 in
theorem c_X6_setPrice (l : Launch) (D : va_G) (g : xG) (tb : List xQ) (hT : x_T g tb) {a1 : Int32} {a2 : Int32} (h0 : x_fb tb) {M : xM} {r : Int32} {M' : xM} (hf : f_X6_setPrice a1 a2 M = some (r, M')) :
    cI l D g tb yX6_setPrice cX6_setPrice 5 .int ({ frames := 3, cells := 0, slots := 0, locals := 63 } : Room) [.ref (g.1 4 1664), .int a1, .int a2] M r M' := by
  refine x_startI (own := RX6) (by decide +kernel) rfl rfl (Nat.le_of_ble_eq_true rfl) hT ?_
  intro p e s m args below meth c Q C0 hend
  unfold f_X6_setPrice at hf
  refine r_aload_n C0 (kk := 0) 0 rfl dX6_setPrice_0 ?_
  refine r_iload_n C0 (kk := 1) 1 rfl dX6_setPrice_1 ?_
  obtain ⟨r3, M2, hc1, hf⟩ := bd2_e hf
  refine r_callVr C0 (As := [.int a1]) (rest := []) (c_X6_stallAt l D g tb hT h0 hc1) w1_149 w1_151 wp1_1 w1_13 w1_153 (x_rec4 C0 h0.1) hd_X6_stallAt rfl ⟨rfl, rfl⟩ ⟨Nat.le_of_ble_eq_true rfl, Nat.le_of_ble_eq_true rfl⟩ (by decide) (by decide) rfl (Nat.le_of_ble_eq_true rfl) dX6_setPrice_2 (fun hm4 => ?_)
  refine r_astore_n C0 (kk := 3) (lv2 := [(3, .ref (g.1 0 r3)), (0, .ref (g.1 4 1664)), (1, .int a1), (2, .int a2)]) (by decide) rfl dX6_setPrice_5 ?_
  refine r_iload_n C0 (kk := 2) 3 rfl dX6_setPrice_6 ?_
  refine r_iconst C0 (v := 1) dX6_setPrice_7 rfl ?_
  refine r_sipush C0 (v := 999) dX6_setPrice_8 rfl ?_
  obtain ⟨M6, hc5, hf⟩ := bd_e hf
  refine r_callSv C0 (As := [.int a2, .int 1, .int 999]) (rest := []) (c_X6_checkRange l D g tb hT  hc5) w1_48 w1_49 w1_13 w1_50 hd_X6_checkRange rfl ⟨rfl, rfl⟩ ⟨Nat.le_of_ble_eq_true rfl, Nat.le_of_ble_eq_true rfl⟩ (by decide) (by decide) rfl (Nat.le_of_ble_eq_true rfl) dX6_setPrice_11 ?_
  refine r_aload_n C0 (kk := 0) 1 rfl dX6_setPrice_14 ?_
  obtain ⟨M8, hc7, hf⟩ := bd_e hf
  refine r_callVv C0 (As := []) (rest := []) (c_X6_remember l D g tb hT h0 hc7) w2_22 w2_24 wp1_5 w1_13 w2_25 (x_rec4 C0 h0.1) hd_X6_remember rfl ⟨rfl, rfl⟩ ⟨Nat.le_of_ble_eq_true rfl, Nat.le_of_ble_eq_true rfl⟩ (by decide) (by decide) rfl (Nat.le_of_ble_eq_true rfl) dX6_setPrice_15 ?_
  refine r_aload_n C0 (kk := 3) 0 rfl dX6_setPrice_18 ?_
  refine r_get0 C0 hm4 3 (by decide) (v := .int (M8 (r3 + 3))) rfl rfl w3_158 dX6_setPrice_19 ?_
  refine r_istore C0 (lv2 := [(4, .int (M8 (r3 + 3))), (3, .ref (g.1 0 r3)), (0, .ref (g.1 4 1664)), (1, .int a1), (2, .int a2)]) (by decide) rfl dX6_setPrice_22 ?_
  refine r_aload_n C0 (kk := 3) 1 rfl dX6_setPrice_24 ?_
  refine r_iload_n C0 (kk := 2) 4 rfl dX6_setPrice_25 ?_
  refine r_put0 C0 hm4 3 rfl rfl w3_158 rfl rfl rfl dX6_setPrice_26 ?_
  refine r_iload C0 0 rfl dX6_setPrice_29 ?_
  exact hend hf dX6_setPrice_31
theorem dX6_addStock_0 : decode cX6_addStock 0 = .ok (.aload_n 0, 1) := by decide +kernel
theorem dX6_addStock_1 : decode cX6_addStock 1 = .ok (.iload_n 1, 1) := by decide +kernel
theorem dX6_addStock_2 : decode cX6_addStock 2 = .ok (.invokevirtual 152, 3) := by decide +kernel
theorem dX6_addStock_5 : decode cX6_addStock 5 = .ok (.astore_n 3, 1) := by decide +kernel
theorem dX6_addStock_6 : decode cX6_addStock 6 = .ok (.iload_n 2, 1) := by decide +kernel
theorem dX6_addStock_7 : decode cX6_addStock 7 = .ok (.iconst 0, 1) := by decide +kernel
theorem dX6_addStock_8 : decode cX6_addStock 8 = .ok (.bipush 99, 2) := by decide +kernel
theorem dX6_addStock_10 : decode cX6_addStock 10 = .ok (.invokestatic 123, 3) := by decide +kernel
theorem dX6_addStock_13 : decode cX6_addStock 13 = .ok (.aload_n 3, 1) := by decide +kernel
theorem dX6_addStock_14 : decode cX6_addStock 14 = .ok (.iload_n 2, 1) := by decide +kernel
theorem dX6_addStock_15 : decode cX6_addStock 15 = .ok (.invokevirtual 294, 3) := by decide +kernel
theorem dX6_addStock_18 : decode cX6_addStock 18 = .ok (.ifCond .ne 14, 3) := by decide +kernel
theorem dX6_addStock_21 : decode cX6_addStock 21 = .ok (.new 279, 3) := by decide +kernel
theorem dX6_addStock_24 : decode cX6_addStock 24 = .ok (.dup, 1) := by decide +kernel
theorem dX6_addStock_25 : decode cX6_addStock 25 = .ok (.ldc_w 298, 3) := by decide +kernel
theorem dX6_addStock_28 : decode cX6_addStock 28 = .ok (.invokespecial 283, 3) := by decide +kernel
theorem dX6_addStock_31 : decode cX6_addStock 31 = .ok (.athrow, 1) := by decide +kernel
theorem dX6_addStock_32 : decode cX6_addStock 32 = .ok (.aload_n 0, 1) := by decide +kernel
theorem dX6_addStock_33 : decode cX6_addStock 33 = .ok (.invokevirtual 83, 3) := by decide +kernel
theorem dX6_addStock_36 : decode cX6_addStock 36 = .ok (.aload_n 3, 1) := by decide +kernel
theorem dX6_addStock_37 : decode cX6_addStock 37 = .ok (.iload_n 2, 1) := by decide +kernel
theorem dX6_addStock_38 : decode cX6_addStock 38 = .ok (.invokevirtual 300, 3) := by decide +kernel
theorem dX6_addStock_41 : decode cX6_addStock 41 = .ok (.aload_n 3, 1) := by decide +kernel
theorem dX6_addStock_42 : decode cX6_addStock 42 = .ok (.getfield 170, 3) := by decide +kernel
theorem dX6_addStock_45 : decode cX6_addStock 45 = .ok (.ireturn, 1) := by decide +kernel
theorem hd_X6_addStock : yX6_addStock.cls = RX6 ∧ yX6_addStock.cls ≠ "java/lang/invoke/MethodHandle" ∧ yX6_addStock.cls ≠ "java/lang/invoke/VarHandle" ∧ (parseMethodDescriptor yX6_addStock.desc).map (fun d => d.parameters.length) = some 2 := by decide +kernel
set_option maxRecDepth 100000 in
set_option maxHeartbeats 4000000 in
theorem c_X6_addStock (l : Launch) (D : va_G) (g : xG) (tb : List xQ) (hT : x_T g tb) {a1 : Int32} {a2 : Int32} (h0 : x_fb tb) {M : xM} {r : Int32} {M' : xM} (hf : f_X6_addStock a1 a2 M = some (r, M')) :
    cI l D g tb yX6_addStock cX6_addStock 4 .int ({ frames := 3, cells := 0, slots := 0, locals := 63 } : Room) [.ref (g.1 4 1664), .int a1, .int a2] M r M' := by
  refine x_startI (own := RX6) (by decide +kernel) rfl rfl (Nat.le_of_ble_eq_true rfl) hT ?_
  intro p e s m args below meth c Q C0 hend
  unfold f_X6_addStock at hf
  refine r_aload_n C0 (kk := 0) 0 rfl dX6_addStock_0 ?_
  refine r_iload_n C0 (kk := 1) 1 rfl dX6_addStock_1 ?_
  obtain ⟨r3, M2, hc1, hf⟩ := bd2_e hf
  refine r_callVr C0 (As := [.int a1]) (rest := []) (c_X6_stallAt l D g tb hT h0 hc1) w1_149 w1_151 wp1_1 w1_13 w1_153 (x_rec4 C0 h0.1) hd_X6_stallAt rfl ⟨rfl, rfl⟩ ⟨Nat.le_of_ble_eq_true rfl, Nat.le_of_ble_eq_true rfl⟩ (by decide) (by decide) rfl (Nat.le_of_ble_eq_true rfl) dX6_addStock_2 (fun hm4 => ?_)
  refine r_astore_n C0 (kk := 3) (lv2 := [(3, .ref (g.1 0 r3)), (0, .ref (g.1 4 1664)), (1, .int a1), (2, .int a2)]) (by decide) rfl dX6_addStock_5 ?_
  refine r_iload_n C0 (kk := 2) 3 rfl dX6_addStock_6 ?_
  refine r_iconst C0 (v := 0) dX6_addStock_7 rfl ?_
  refine r_bipush C0 (v := 99) dX6_addStock_8 rfl ?_
  obtain ⟨M6, hc5, hf⟩ := bd_e hf
  refine r_callSv C0 (As := [.int a2, .int 0, .int 99]) (rest := []) (c_X6_checkRange l D g tb hT  hc5) w1_48 w1_49 w1_13 w1_50 hd_X6_checkRange rfl ⟨rfl, rfl⟩ ⟨Nat.le_of_ble_eq_true rfl, Nat.le_of_ble_eq_true rfl⟩ (by decide) (by decide) rfl (Nat.le_of_ble_eq_true rfl) dX6_addStock_10 ?_
  refine r_aload_n C0 (kk := 3) 0 rfl dX6_addStock_13 ?_
  refine r_iload_n C0 (kk := 2) 3 rfl dX6_addStock_14 ?_
  obtain ⟨r9, M8, hc7, hf⟩ := bd2_e hf
  refine r_callVi C0 (As := [.int a2]) (rest := []) (c_X4_hasRoomFor l D g tb hT hm4 hc7) w5_184 w5_24 w5_25 w1_15 w5_26 (x_rec0 C0 hm4) hd_X4_hasRoomFor rfl ⟨rfl, rfl⟩ ⟨Nat.le_of_ble_eq_true rfl, Nat.le_of_ble_eq_true rfl⟩ (by decide) (by decide) rfl (Nat.le_of_ble_eq_true rfl) dX6_addStock_15 ?_
  refine r_if_ne C0 (tgt := 32) (by decide) dX6_addStock_18 (fun q10 => ?_) (fun q10 => ?_)
  · have hf := ie_f hf q10
    refine r_aload_n C0 (kk := 0) 1 rfl dX6_addStock_32 ?_
    obtain ⟨M12, hc11, hf⟩ := bd_e hf
    refine r_callVv C0 (As := []) (rest := []) (c_X6_remember l D g tb hT h0 hc11) w2_22 w2_24 wp1_5 w1_13 w2_25 (x_rec4 C0 h0.1) hd_X6_remember rfl ⟨rfl, rfl⟩ ⟨Nat.le_of_ble_eq_true rfl, Nat.le_of_ble_eq_true rfl⟩ (by decide) (by decide) rfl (Nat.le_of_ble_eq_true rfl) dX6_addStock_33 ?_
    refine r_aload_n C0 (kk := 3) 0 rfl dX6_addStock_36 ?_
    refine r_iload_n C0 (kk := 2) 3 rfl dX6_addStock_37 ?_
    obtain ⟨M14, hc13, hf⟩ := bd_e hf
    refine r_callVv C0 (As := [.int a2]) (rest := []) (c_X4_receive l D g tb hT hm4 hc13) w5_186 w5_59 w5_60 w1_15 w5_61 (x_rec0 C0 hm4) hd_X4_receive rfl ⟨rfl, rfl⟩ ⟨Nat.le_of_ble_eq_true rfl, Nat.le_of_ble_eq_true rfl⟩ (by decide) (by decide) rfl (Nat.le_of_ble_eq_true rfl) dX6_addStock_38 ?_
    refine r_aload_n C0 (kk := 3) 0 rfl dX6_addStock_41 ?_
    refine r_get0 C0 hm4 4 (by decide) (v := .int (M14 (r3 + 4))) rfl rfl w3_162 dX6_addStock_42 ?_
    exact hend hf dX6_addStock_45
  · have hf := ie_t hf q10
    exact none_ne hf
theorem dX6_setLantern_0 : decode cX6_setLantern 0 = .ok (.aload_n 0, 1) := by decide +kernel
theorem dX6_setLantern_1 : decode cX6_setLantern 1 = .ok (.iload_n 1, 1) := by decide +kernel
theorem dX6_setLantern_2 : decode cX6_setLantern 2 = .ok (.invokevirtual 152, 3) := by decide +kernel
theorem dX6_setLantern_5 : decode cX6_setLantern 5 = .ok (.astore_n 3, 1) := by decide +kernel
theorem dX6_setLantern_6 : decode cX6_setLantern 6 = .ok (.iload_n 2, 1) := by decide +kernel
theorem dX6_setLantern_7 : decode cX6_setLantern 7 = .ok (.iconst 0, 1) := by decide +kernel
theorem dX6_setLantern_8 : decode cX6_setLantern 8 = .ok (.iconst 3, 1) := by decide +kernel
theorem dX6_setLantern_9 : decode cX6_setLantern 9 = .ok (.invokestatic 123, 3) := by decide +kernel
theorem dX6_setLantern_12 : decode cX6_setLantern 12 = .ok (.aload_n 0, 1) := by decide +kernel
theorem dX6_setLantern_13 : decode cX6_setLantern 13 = .ok (.invokevirtual 83, 3) := by decide +kernel
theorem dX6_setLantern_16 : decode cX6_setLantern 16 = .ok (.aload_n 3, 1) := by decide +kernel
theorem dX6_setLantern_17 : decode cX6_setLantern 17 = .ok (.getfield 161, 3) := by decide +kernel
theorem dX6_setLantern_20 : decode cX6_setLantern 20 = .ok (.istore 4, 2) := by decide +kernel
theorem dX6_setLantern_22 : decode cX6_setLantern 22 = .ok (.aload_n 3, 1) := by decide +kernel
theorem dX6_setLantern_23 : decode cX6_setLantern 23 = .ok (.iload_n 2, 1) := by decide +kernel
theorem dX6_setLantern_24 : decode cX6_setLantern 24 = .ok (.putfield 161, 3) := by decide +kernel
theorem dX6_setLantern_27 : decode cX6_setLantern 27 = .ok (.iload 4, 2) := by decide +kernel
theorem dX6_setLantern_29 : decode cX6_setLantern 29 = .ok (.ireturn, 1) := by decide +kernel
theorem hd_X6_setLantern : yX6_setLantern.cls = RX6 ∧ yX6_setLantern.cls ≠ "java/lang/invoke/MethodHandle" ∧ yX6_setLantern.cls ≠ "java/lang/invoke/VarHandle" ∧ (parseMethodDescriptor yX6_setLantern.desc).map (fun d => d.parameters.length) = some 2 := by decide +kernel
set_option maxRecDepth 100000 in
set_option maxHeartbeats 4000000 in
theorem c_X6_setLantern (l : Launch) (D : va_G) (g : xG) (tb : List xQ) (hT : x_T g tb) {a1 : Int32} {a2 : Int32} (h0 : x_fb tb) {M : xM} {r : Int32} {M' : xM} (hf : f_X6_setLantern a1 a2 M = some (r, M')) :
    cI l D g tb yX6_setLantern cX6_setLantern 5 .int ({ frames := 3, cells := 0, slots := 0, locals := 63 } : Room) [.ref (g.1 4 1664), .int a1, .int a2] M r M' := by
  refine x_startI (own := RX6) (by decide +kernel) rfl rfl (Nat.le_of_ble_eq_true rfl) hT ?_
  intro p e s m args below meth c Q C0 hend
  unfold f_X6_setLantern at hf
  refine r_aload_n C0 (kk := 0) 0 rfl dX6_setLantern_0 ?_
  refine r_iload_n C0 (kk := 1) 1 rfl dX6_setLantern_1 ?_
  obtain ⟨r3, M2, hc1, hf⟩ := bd2_e hf
  refine r_callVr C0 (As := [.int a1]) (rest := []) (c_X6_stallAt l D g tb hT h0 hc1) w1_149 w1_151 wp1_1 w1_13 w1_153 (x_rec4 C0 h0.1) hd_X6_stallAt rfl ⟨rfl, rfl⟩ ⟨Nat.le_of_ble_eq_true rfl, Nat.le_of_ble_eq_true rfl⟩ (by decide) (by decide) rfl (Nat.le_of_ble_eq_true rfl) dX6_setLantern_2 (fun hm4 => ?_)
  refine r_astore_n C0 (kk := 3) (lv2 := [(3, .ref (g.1 0 r3)), (0, .ref (g.1 4 1664)), (1, .int a1), (2, .int a2)]) (by decide) rfl dX6_setLantern_5 ?_
  refine r_iload_n C0 (kk := 2) 3 rfl dX6_setLantern_6 ?_
  refine r_iconst C0 (v := 0) dX6_setLantern_7 rfl ?_
  refine r_iconst C0 (v := 3) dX6_setLantern_8 rfl ?_
  obtain ⟨M6, hc5, hf⟩ := bd_e hf
  refine r_callSv C0 (As := [.int a2, .int 0, .int 3]) (rest := []) (c_X6_checkRange l D g tb hT  hc5) w1_48 w1_49 w1_13 w1_50 hd_X6_checkRange rfl ⟨rfl, rfl⟩ ⟨Nat.le_of_ble_eq_true rfl, Nat.le_of_ble_eq_true rfl⟩ (by decide) (by decide) rfl (Nat.le_of_ble_eq_true rfl) dX6_setLantern_9 ?_
  refine r_aload_n C0 (kk := 0) 1 rfl dX6_setLantern_12 ?_
  obtain ⟨M8, hc7, hf⟩ := bd_e hf
  refine r_callVv C0 (As := []) (rest := []) (c_X6_remember l D g tb hT h0 hc7) w2_22 w2_24 wp1_5 w1_13 w2_25 (x_rec4 C0 h0.1) hd_X6_remember rfl ⟨rfl, rfl⟩ ⟨Nat.le_of_ble_eq_true rfl, Nat.le_of_ble_eq_true rfl⟩ (by decide) (by decide) rfl (Nat.le_of_ble_eq_true rfl) dX6_setLantern_13 ?_
  refine r_aload_n C0 (kk := 3) 0 rfl dX6_setLantern_16 ?_
  refine r_get0 C0 hm4 1 (by decide) (v := .int (M8 (r3 + 1))) rfl rfl w3_151 dX6_setLantern_17 ?_
  refine r_istore C0 (lv2 := [(4, .int (M8 (r3 + 1))), (3, .ref (g.1 0 r3)), (0, .ref (g.1 4 1664)), (1, .int a1), (2, .int a2)]) (by decide) rfl dX6_setLantern_20 ?_
  refine r_aload_n C0 (kk := 3) 1 rfl dX6_setLantern_22 ?_
  refine r_iload_n C0 (kk := 2) 4 rfl dX6_setLantern_23 ?_
  refine r_put0 C0 hm4 1 rfl rfl w3_151 rfl rfl rfl dX6_setLantern_24 ?_
  refine r_iload C0 0 rfl dX6_setLantern_27 ?_
  exact hend hf dX6_setLantern_29
theorem dX6_setFog_0 : decode cX6_setFog 0 = .ok (.iload_n 1, 1) := by decide +kernel
theorem dX6_setFog_1 : decode cX6_setFog 1 = .ok (.ifCond .lt 14, 3) := by decide +kernel
theorem dX6_setFog_4 : decode cX6_setFog 4 = .ok (.iload_n 1, 1) := by decide +kernel
theorem dX6_setFog_5 : decode cX6_setFog 5 = .ok (.aload_n 0, 1) := by decide +kernel
theorem dX6_setFog_6 : decode cX6_setFog 6 = .ok (.getfield 10, 3) := by decide +kernel
theorem dX6_setFog_9 : decode cX6_setFog 9 = .ok (.getfield 303, 3) := by decide +kernel
theorem dX6_setFog_12 : decode cX6_setFog 12 = .ok (.if_icmp .lt 14, 3) := by decide +kernel
theorem dX6_setFog_15 : decode cX6_setFog 15 = .ok (.new 200, 3) := by decide +kernel
theorem dX6_setFog_18 : decode cX6_setFog 18 = .ok (.dup, 1) := by decide +kernel
theorem dX6_setFog_19 : decode cX6_setFog 19 = .ok (.ldc_w 306, 3) := by decide +kernel
theorem dX6_setFog_22 : decode cX6_setFog 22 = .ok (.invokespecial 204, 3) := by decide +kernel
theorem dX6_setFog_25 : decode cX6_setFog 25 = .ok (.athrow, 1) := by decide +kernel
theorem dX6_setFog_26 : decode cX6_setFog 26 = .ok (.iload_n 2, 1) := by decide +kernel
theorem dX6_setFog_27 : decode cX6_setFog 27 = .ok (.iconst 0, 1) := by decide +kernel
theorem dX6_setFog_28 : decode cX6_setFog 28 = .ok (.bipush 9, 2) := by decide +kernel
theorem dX6_setFog_30 : decode cX6_setFog 30 = .ok (.invokestatic 123, 3) := by decide +kernel
theorem dX6_setFog_33 : decode cX6_setFog 33 = .ok (.aload_n 0, 1) := by decide +kernel
theorem dX6_setFog_34 : decode cX6_setFog 34 = .ok (.invokevirtual 83, 3) := by decide +kernel
theorem dX6_setFog_37 : decode cX6_setFog 37 = .ok (.aload_n 0, 1) := by decide +kernel
theorem dX6_setFog_38 : decode cX6_setFog 38 = .ok (.getfield 10, 3) := by decide +kernel
theorem dX6_setFog_41 : decode cX6_setFog 41 = .ok (.getfield 308, 3) := by decide +kernel
theorem dX6_setFog_44 : decode cX6_setFog 44 = .ok (.iload_n 1, 1) := by decide +kernel
theorem dX6_setFog_45 : decode cX6_setFog 45 = .ok (.iaload, 1) := by decide +kernel
theorem dX6_setFog_46 : decode cX6_setFog 46 = .ok (.istore_n 3, 1) := by decide +kernel
theorem dX6_setFog_47 : decode cX6_setFog 47 = .ok (.aload_n 0, 1) := by decide +kernel
theorem dX6_setFog_48 : decode cX6_setFog 48 = .ok (.getfield 10, 3) := by decide +kernel
theorem dX6_setFog_51 : decode cX6_setFog 51 = .ok (.getfield 308, 3) := by decide +kernel
theorem dX6_setFog_54 : decode cX6_setFog 54 = .ok (.iload_n 1, 1) := by decide +kernel
theorem dX6_setFog_55 : decode cX6_setFog 55 = .ok (.iload_n 2, 1) := by decide +kernel
theorem dX6_setFog_56 : decode cX6_setFog 56 = .ok (.iastore, 1) := by decide +kernel
theorem dX6_setFog_57 : decode cX6_setFog 57 = .ok (.iload_n 3, 1) := by decide +kernel
theorem dX6_setFog_58 : decode cX6_setFog 58 = .ok (.ireturn, 1) := by decide +kernel
theorem hd_X6_setFog : yX6_setFog.cls = RX6 ∧ yX6_setFog.cls ≠ "java/lang/invoke/MethodHandle" ∧ yX6_setFog.cls ≠ "java/lang/invoke/VarHandle" ∧ (parseMethodDescriptor yX6_setFog.desc).map (fun d => d.parameters.length) = some 2 := by decide +kernel
set_option maxRecDepth 100000 in
set_option maxHeartbeats 4000000 in
theorem c_X6_setFog (l : Launch) (D : va_G) (g : xG) (tb : List xQ) (hT : x_T g tb) {a1 : Int32} {a2 : Int32} (h0 : x_fb tb) {M : xM} {r : Int32} {M' : xM} (hf : f_X6_setFog a1 a2 M = some (r, M')) :
    cI l D g tb yX6_setFog cX6_setFog 4 .int ({ frames := 3, cells := 0, slots := 0, locals := 63 } : Room) [.ref (g.1 4 1664), .int a1, .int a2] M r M' := by
  refine x_startI (own := RX6) (by decide +kernel) rfl rfl (Nat.le_of_ble_eq_true rfl) hT ?_
  intro p e s m args below meth c Q C0 hend
  have B15 : ∀ (M : xM), f_X6_setFog_c15  a1 a2 M = some (r, M') → WW p l e ({ frames := 3, cells := 0, slots := 0, locals := 63 } : Room) s m args below meth c 0 0 Q 4 D g tb 15 [] [] M := by
    intro     M hf
    unfold f_X6_setFog_c15 at hf
    exact none_ne hf
  unfold f_X6_setFog at hf
  refine r_iload_n C0 (kk := 1) 1 rfl dX6_setFog_0 ?_
  refine r_if_lt C0 (tgt := 15) (by decide) dX6_setFog_1 (fun q1 => ?_) (fun q1 => ?_)
  · have hf := ie_t hf q1
    refine WW.sub [] rfl ?_
    exact B15     _ hf
  · have hf := ie_f hf q1
    refine r_iload_n C0 (kk := 1) 1 rfl dX6_setFog_4 ?_
    refine r_aload_n C0 (kk := 0) 0 rfl dX6_setFog_5 ?_
    refine r_get4 C0 h0.1 0 (by decide) (v := .ref (g.1 2 0)) rfl rfl w5_87 dX6_setFog_6 ?_
    refine r_get2 C0 h0.2.1.1 5 (by decide) (v := .int (M 8)) rfl rfl w4_11 dX6_setFog_9 ?_
    refine r_icmp_lt C0 (tgt := 26) (by decide) dX6_setFog_12 (fun q2 => ?_) (fun q2 => ?_)
    · have hf := ie_t hf q2
      refine r_iload_n C0 (kk := 2) 2 rfl dX6_setFog_26 ?_
      refine r_iconst C0 (v := 0) dX6_setFog_27 rfl ?_
      refine r_bipush C0 (v := 9) dX6_setFog_28 rfl ?_
      obtain ⟨M4, hc3, hf⟩ := bd_e hf
      refine r_callSv C0 (As := [.int a2, .int 0, .int 9]) (rest := []) (c_X6_checkRange l D g tb hT  hc3) w1_48 w1_49 w1_13 w1_50 hd_X6_checkRange rfl ⟨rfl, rfl⟩ ⟨Nat.le_of_ble_eq_true rfl, Nat.le_of_ble_eq_true rfl⟩ (by decide) (by decide) rfl (Nat.le_of_ble_eq_true rfl) dX6_setFog_30 ?_
      refine r_aload_n C0 (kk := 0) 0 rfl dX6_setFog_33 ?_
      obtain ⟨M6, hc5, hf⟩ := bd_e hf
      refine r_callVv C0 (As := []) (rest := []) (c_X6_remember l D g tb hT h0 hc5) w2_22 w2_24 wp1_5 w1_13 w2_25 (x_rec4 C0 h0.1) hd_X6_remember rfl ⟨rfl, rfl⟩ ⟨Nat.le_of_ble_eq_true rfl, Nat.le_of_ble_eq_true rfl⟩ (by decide) (by decide) rfl (Nat.le_of_ble_eq_true rfl) dX6_setFog_34 ?_
      refine r_aload_n C0 (kk := 0) 0 rfl dX6_setFog_37 ?_
      refine r_get4 C0 h0.1 0 (by decide) (v := .ref (g.1 2 0)) rfl rfl w5_87 dX6_setFog_38 ?_
      refine r_get2 C0 h0.2.1.1 4 (by decide) (v := .ref (g.1 6 11)) rfl rfl w4_8 dX6_setFog_41 ?_
      refine r_iload_n C0 (kk := 1) 1 rfl dX6_setFog_44 ?_
      obtain ⟨q7, hf⟩ := gd_e hf
      refine r_ialdc C0 h0.2.1.2.2.2.1 q7 rfl dX6_setFog_45 ?_
      refine r_istore_n C0 (kk := 3) (lv2 := [(3, .int (M6 (11 + a1.toNatClampNeg))), (0, .ref (g.1 4 1664)), (1, .int a1), (2, .int a2)]) (by decide) rfl dX6_setFog_46 ?_
      refine r_aload_n C0 (kk := 0) 1 rfl dX6_setFog_47 ?_
      refine r_get4 C0 h0.1 0 (by decide) (v := .ref (g.1 2 0)) rfl rfl w5_87 dX6_setFog_48 ?_
      refine r_get2 C0 h0.2.1.1 4 (by decide) (v := .ref (g.1 6 11)) rfl rfl w4_8 dX6_setFog_51 ?_
      refine r_iload_n C0 (kk := 1) 2 rfl dX6_setFog_54 ?_
      refine r_iload_n C0 (kk := 2) 3 rfl dX6_setFog_55 ?_
      obtain ⟨q8, hf⟩ := gd_e hf
      refine r_iastc C0 h0.2.1.2.2.2.1 q8 rfl dX6_setFog_56 ?_
      refine r_iload_n C0 (kk := 3) 0 rfl dX6_setFog_57 ?_
      exact hend hf dX6_setFog_58
    · have hf := ie_f hf q2
      refine WW.sub [] rfl ?_
      exact B15     _ hf
theorem dX6_putBack_0 : decode cX6_putBack 0 = .ok (.aload_n 0, 1) := by decide +kernel
theorem dX6_putBack_1 : decode cX6_putBack 1 = .ok (.iload_n 1, 1) := by decide +kernel
theorem dX6_putBack_2 : decode cX6_putBack 2 = .ok (.invokevirtual 214, 3) := by decide +kernel
theorem dX6_putBack_5 : decode cX6_putBack 5 = .ok (.astore_n 2, 1) := by decide +kernel
theorem dX6_putBack_6 : decode cX6_putBack 6 = .ok (.aload_n 2, 1) := by decide +kernel
theorem dX6_putBack_7 : decode cX6_putBack 7 = .ok (.invokevirtual 242, 3) := by decide +kernel
theorem dX6_putBack_10 : decode cX6_putBack 10 = .ok (.ifCond .ne 14, 3) := by decide +kernel
theorem dX6_putBack_13 : decode cX6_putBack 13 = .ok (.new 279, 3) := by decide +kernel
theorem dX6_putBack_16 : decode cX6_putBack 16 = .ok (.dup, 1) := by decide +kernel
theorem dX6_putBack_17 : decode cX6_putBack 17 = .ok (.ldc_w 312, 3) := by decide +kernel
theorem dX6_putBack_20 : decode cX6_putBack 20 = .ok (.invokespecial 283, 3) := by decide +kernel
theorem dX6_putBack_23 : decode cX6_putBack 23 = .ok (.athrow, 1) := by decide +kernel
theorem dX6_putBack_24 : decode cX6_putBack 24 = .ok (.aload_n 0, 1) := by decide +kernel
theorem dX6_putBack_25 : decode cX6_putBack 25 = .ok (.invokevirtual 83, 3) := by decide +kernel
theorem dX6_putBack_28 : decode cX6_putBack 28 = .ok (.aload_n 2, 1) := by decide +kernel
theorem dX6_putBack_29 : decode cX6_putBack 29 = .ok (.getfield 230, 3) := by decide +kernel
theorem dX6_putBack_32 : decode cX6_putBack 32 = .ok (.istore_n 3, 1) := by decide +kernel
theorem dX6_putBack_33 : decode cX6_putBack 33 = .ok (.aload_n 0, 1) := by decide +kernel
theorem dX6_putBack_34 : decode cX6_putBack 34 = .ok (.getfield 10, 3) := by decide +kernel
theorem dX6_putBack_37 : decode cX6_putBack 37 = .ok (.aload_n 2, 1) := by decide +kernel
theorem dX6_putBack_38 : decode cX6_putBack 38 = .ok (.invokevirtual 314, 3) := by decide +kernel
theorem dX6_putBack_41 : decode cX6_putBack 41 = .ok (.iload_n 3, 1) := by decide +kernel
theorem dX6_putBack_42 : decode cX6_putBack 42 = .ok (.ireturn, 1) := by decide +kernel
theorem hd_X6_putBack : yX6_putBack.cls = RX6 ∧ yX6_putBack.cls ≠ "java/lang/invoke/MethodHandle" ∧ yX6_putBack.cls ≠ "java/lang/invoke/VarHandle" ∧ (parseMethodDescriptor yX6_putBack.desc).map (fun d => d.parameters.length) = some 1 := by decide +kernel
set_option maxRecDepth 100000 in
set_option maxHeartbeats 4000000 in
theorem c_X6_putBack (l : Launch) (D : va_G) (g : xG) (tb : List xQ) (hT : x_T g tb) {a1 : Int32} (h0 : x_fb tb) {M : xM} {r : Int32} {M' : xM} (hf : f_X6_putBack a1 M = some (r, M')) :
    cI l D g tb yX6_putBack cX6_putBack 4 .int ({ frames := 3, cells := 0, slots := 0, locals := 64 } : Room) [.ref (g.1 4 1664), .int a1] M r M' := by
  refine x_startI (own := RX6) (by decide +kernel) rfl rfl (Nat.le_of_ble_eq_true rfl) hT ?_
  intro p e s m args below meth c Q C0 hend
  unfold f_X6_putBack at hf
  refine r_aload_n C0 (kk := 0) 0 rfl dX6_putBack_0 ?_
  refine r_iload_n C0 (kk := 1) 1 rfl dX6_putBack_1 ?_
  obtain ⟨r3, M2, hc1, hf⟩ := bd2_e hf
  refine r_callVr C0 (As := [.int a1]) (rest := []) (c_X6_buyerAt l D g tb hT h0 hc1) w1_210 w1_212 wp1_3 w1_13 w1_213 (x_rec4 C0 h0.1) hd_X6_buyerAt rfl ⟨rfl, rfl⟩ ⟨Nat.le_of_ble_eq_true rfl, Nat.le_of_ble_eq_true rfl⟩ (by decide) (by decide) rfl (Nat.le_of_ble_eq_true rfl) dX6_putBack_2 (fun hm4 => ?_)
  refine r_astore_n C0 (kk := 2) (lv2 := [(2, .ref (g.1 1 r3)), (0, .ref (g.1 4 1664)), (1, .int a1)]) (by decide) rfl dX6_putBack_5 ?_
  refine r_aload_n C0 (kk := 2) 0 rfl dX6_putBack_6 ?_
  obtain ⟨r7, M6, hc5, hf⟩ := bd2_e hf
  refine r_callVi C0 (As := []) (rest := []) (c_X1_holds l D g tb hT hm4 hc5) w5_200 w5_34 w5_35 w1_16 w5_36 (x_rec1 C0 hm4) hd_X1_holds rfl ⟨rfl, rfl⟩ ⟨Nat.le_of_ble_eq_true rfl, Nat.le_of_ble_eq_true rfl⟩ (by decide) (by decide) rfl (Nat.le_of_ble_eq_true rfl) dX6_putBack_7 ?_
  refine r_if_ne C0 (tgt := 24) (by decide) dX6_putBack_10 (fun q8 => ?_) (fun q8 => ?_)
  · have hf := ie_f hf q8
    refine r_aload_n C0 (kk := 0) 1 rfl dX6_putBack_24 ?_
    obtain ⟨M10, hc9, hf⟩ := bd_e hf
    refine r_callVv C0 (As := []) (rest := []) (c_X6_remember l D g tb hT h0 hc9) w2_22 w2_24 wp1_5 w1_13 w2_25 (x_rec4 C0 h0.1) hd_X6_remember rfl ⟨rfl, rfl⟩ ⟨Nat.le_of_ble_eq_true rfl, Nat.le_of_ble_eq_true rfl⟩ (by decide) (by decide) rfl (Nat.le_of_ble_eq_true rfl) dX6_putBack_25 ?_
    refine r_aload_n C0 (kk := 2) 0 rfl dX6_putBack_28 ?_
    refine r_get1 C0 hm4 4 (by decide) (v := .int (M10 (r3 + 4))) rfl rfl w3_210 dX6_putBack_29 ?_
    refine r_istore_n C0 (kk := 3) (lv2 := [(3, .int (M10 (r3 + 4))), (2, .ref (g.1 1 r3)), (0, .ref (g.1 4 1664)), (1, .int a1)]) (by decide) rfl dX6_putBack_32 ?_
    refine r_aload_n C0 (kk := 0) 2 rfl dX6_putBack_33 ?_
    refine r_get4 C0 h0.1 0 (by decide) (v := .ref (g.1 2 0)) rfl rfl w5_87 dX6_putBack_34 ?_
    refine r_aload_n C0 (kk := 2) 1 rfl dX6_putBack_37 ?_
    obtain ⟨M12, hc11, hf⟩ := bd_e hf
    refine r_callVv C0 (As := [.ref (g.1 1 r3)]) (rest := []) (c_X2_returnAndAvoid l D g tb hT h0.2.1 hm4 hc11) w5_202 w5_72 w5_73 w1_14 w5_74 (x_rec2 C0 h0.2.1.1) hd_X2_returnAndAvoid rfl ⟨rfl, rfl⟩ ⟨Nat.le_of_ble_eq_true rfl, Nat.le_of_ble_eq_true rfl⟩ (by decide) (by decide) rfl (Nat.le_of_ble_eq_true rfl) dX6_putBack_38 ?_
    refine r_iload_n C0 (kk := 3) 0 rfl dX6_putBack_41 ?_
    exact hend hf dX6_putBack_42
  · have hf := ie_t hf q8
    exact none_ne hf
theorem dX2_pass_0 : decode cX2_pass 0 = .ok (.iconst 0, 1) := by decide +kernel
theorem dX2_pass_1 : decode cX2_pass 1 = .ok (.istore_n 2, 1) := by decide +kernel
theorem dX2_pass_2 : decode cX2_pass 2 = .ok (.iload_n 2, 1) := by decide +kernel
theorem dX2_pass_3 : decode cX2_pass 3 = .ok (.iload_n 1, 1) := by decide +kernel
theorem dX2_pass_4 : decode cX2_pass 4 = .ok (.if_icmp .ge 89, 3) := by decide +kernel
theorem dX2_pass_7 : decode cX2_pass 7 = .ok (.aload_n 0, 1) := by decide +kernel
theorem dX2_pass_8 : decode cX2_pass 8 = .ok (.invokevirtual 128, 3) := by decide +kernel
theorem dX2_pass_11 : decode cX2_pass 11 = .ok (.istore_n 3, 1) := by decide +kernel
theorem dX2_pass_12 : decode cX2_pass 12 = .ok (.aload_n 0, 1) := by decide +kernel
theorem dX2_pass_13 : decode cX2_pass 13 = .ok (.iload_n 3, 1) := by decide +kernel
theorem dX2_pass_14 : decode cX2_pass 14 = .ok (.invokevirtual 132, 3) := by decide +kernel
theorem dX2_pass_17 : decode cX2_pass 17 = .ok (.aload_n 0, 1) := by decide +kernel
theorem dX2_pass_18 : decode cX2_pass 18 = .ok (.getfield 51, 3) := by decide +kernel
theorem dX2_pass_21 : decode cX2_pass 21 = .ok (.ifCond .eq 62, 3) := by decide +kernel
theorem dX2_pass_24 : decode cX2_pass 24 = .ok (.iconst 0, 1) := by decide +kernel
theorem dX2_pass_25 : decode cX2_pass 25 = .ok (.istore 4, 2) := by decide +kernel
theorem dX2_pass_27 : decode cX2_pass 27 = .ok (.iload 4, 2) := by decide +kernel
theorem dX2_pass_29 : decode cX2_pass 29 = .ok (.aload_n 0, 1) := by decide +kernel
theorem dX2_pass_30 : decode cX2_pass 30 = .ok (.getfield 33, 3) := by decide +kernel
theorem dX2_pass_33 : decode cX2_pass 33 = .ok (.if_icmp .ge 21, 3) := by decide +kernel
theorem dX2_pass_36 : decode cX2_pass 36 = .ok (.aload_n 0, 1) := by decide +kernel
theorem dX2_pass_37 : decode cX2_pass 37 = .ok (.aload_n 0, 1) := by decide +kernel
theorem dX2_pass_38 : decode cX2_pass 38 = .ok (.getfield 19, 3) := by decide +kernel
theorem dX2_pass_41 : decode cX2_pass 41 = .ok (.iload 4, 2) := by decide +kernel
theorem dX2_pass_43 : decode cX2_pass 43 = .ok (.aaload, 1) := by decide +kernel
theorem dX2_pass_44 : decode cX2_pass 44 = .ok (.iload_n 3, 1) := by decide +kernel
theorem dX2_pass_45 : decode cX2_pass 45 = .ok (.invokevirtual 135, 3) := by decide +kernel
theorem dX2_pass_48 : decode cX2_pass 48 = .ok (.iinc 4 1, 3) := by decide +kernel
theorem dX2_pass_51 : decode cX2_pass 51 = .ok (.goto (-24), 3) := by decide +kernel
theorem dX2_pass_54 : decode cX2_pass 54 = .ok (.iconst 0, 1) := by decide +kernel
theorem dX2_pass_55 : decode cX2_pass 55 = .ok (.istore 4, 2) := by decide +kernel
theorem dX2_pass_57 : decode cX2_pass 57 = .ok (.iload 4, 2) := by decide +kernel
theorem dX2_pass_59 : decode cX2_pass 59 = .ok (.aload_n 0, 1) := by decide +kernel
theorem dX2_pass_60 : decode cX2_pass 60 = .ok (.getfield 29, 3) := by decide +kernel
theorem dX2_pass_63 : decode cX2_pass 63 = .ok (.if_icmp .ge 20, 3) := by decide +kernel
theorem dX2_pass_66 : decode cX2_pass 66 = .ok (.aload_n 0, 1) := by decide +kernel
theorem dX2_pass_67 : decode cX2_pass 67 = .ok (.getfield 11, 3) := by decide +kernel
theorem dX2_pass_70 : decode cX2_pass 70 = .ok (.iload 4, 2) := by decide +kernel
theorem dX2_pass_72 : decode cX2_pass 72 = .ok (.aaload, 1) := by decide +kernel
theorem dX2_pass_73 : decode cX2_pass 73 = .ok (.iload_n 3, 1) := by decide +kernel
theorem dX2_pass_74 : decode cX2_pass 74 = .ok (.invokevirtual 139, 3) := by decide +kernel
theorem dX2_pass_77 : decode cX2_pass 77 = .ok (.iinc 4 1, 3) := by decide +kernel
theorem dX2_pass_80 : decode cX2_pass 80 = .ok (.goto (-23), 3) := by decide +kernel
theorem dX2_pass_83 : decode cX2_pass 83 = .ok (.aload_n 0, 1) := by decide +kernel
theorem dX2_pass_84 : decode cX2_pass 84 = .ok (.invokevirtual 142, 3) := by decide +kernel
theorem dX2_pass_87 : decode cX2_pass 87 = .ok (.iinc 2 1, 3) := by decide +kernel
theorem dX2_pass_90 : decode cX2_pass 90 = .ok (.goto (-88), 3) := by decide +kernel
theorem dX2_pass_93 : decode cX2_pass 93 = .ok (.return_, 1) := by decide +kernel
theorem hd_X2_pass : yX2_pass.cls = RX2 ∧ yX2_pass.cls ≠ "java/lang/invoke/MethodHandle" ∧ yX2_pass.cls ≠ "java/lang/invoke/VarHandle" ∧ (parseMethodDescriptor yX2_pass.desc).map (fun d => d.parameters.length) = some 1 := by decide +kernel
set_option maxRecDepth 100000 in
set_option maxHeartbeats 4000000 in
theorem c_X2_pass (l : Launch) (D : va_G) (g : xG) (tb : List xQ) (hT : x_T g tb) {a0 : Nat} {a1 : Int32} (h0 : x_mk tb a0) {M M' : xM} (hf : f_X2_pass a0 a1 M = some M') :
    cV l D g tb yX2_pass cX2_pass 5 ({ frames := 3, cells := 0, slots := 0, locals := 72 } : Room) [.ref (g.1 2 a0), .int a1] M M' := by
  refine x_startV (own := RX2) (by decide +kernel) rfl rfl (Nat.le_of_ble_eq_true rfl) hT ?_
  intro p e s m args below meth c Q C0 hend
  have B83 : ∀ (k2 : Int32 → xM → Option xM) (hk2 : ∀ (v2 : Int32)  (M : xM), k2 v2 M = some M' → WW p l e ({ frames := 3, cells := 0, slots := 0, locals := 72 } : Room) s m args below meth c 0 0 Q 5 D g tb 2 [(0, .ref (g.1 2 a0)), (1, .int a1), (2, .int v2)] [] M), ∀ (v2 : Int32)  (M : xM), f_X2_pass_c83 k2 a0 a1 v2 M = some M' → WW p l e ({ frames := 3, cells := 0, slots := 0, locals := 72 } : Room) s m args below meth c 0 0 Q 5 D g tb 83 [(0, .ref (g.1 2 a0)), (1, .int a1), (2, .int v2)] [] M := by
    intro k2 hk2 v2  M hf
    unfold f_X2_pass_c83 at hf
    refine r_aload_n C0 (kk := 0) 0 rfl dX2_pass_83 ?_
    obtain ⟨M9, hc8, hf⟩ := bd_e hf
    refine r_callVv C0 (As := []) (rest := []) (c_X2_countMinute l D g tb hT h0 hc8) w2_117 w2_118 w2_119 w1_14 w2_120 (x_rec2 C0 h0.1) hd_X2_countMinute rfl ⟨rfl, rfl⟩ ⟨Nat.le_of_ble_eq_true rfl, Nat.le_of_ble_eq_true rfl⟩ (by decide) (by decide) rfl (Nat.le_of_ble_eq_true rfl) dX2_pass_84 ?_
    refine r_iincc C0 2 rfl (k0 := 1) (by decide) (by decide) (lv2 := [(2, .int (v2 + 1)), (0, .ref (g.1 2 a0)), (1, .int a1)]) rfl dX2_pass_87 ?_
    refine r_goto C0 (tgt := 2) (by decide) dX2_pass_90 ?_
    refine WW.sub [1, 2, 0] rfl ?_
    exact hk2 _   _ hf
  have B57 : ∀ (k2 : Int32 → xM → Option xM) (k57 : Int32 → Int32 → Int32 → xM → Option xM) (hk2 : ∀ (v2 : Int32)  (M : xM), k2 v2 M = some M' → WW p l e ({ frames := 3, cells := 0, slots := 0, locals := 72 } : Room) s m args below meth c 0 0 Q 5 D g tb 2 [(0, .ref (g.1 2 a0)), (1, .int a1), (2, .int v2)] [] M) (hk57 : ∀ (v2 : Int32) (v3 : Int32) (v4 : Int32)  (M : xM), k57 v2 v3 v4 M = some M' → WW p l e ({ frames := 3, cells := 0, slots := 0, locals := 72 } : Room) s m args below meth c 0 0 Q 5 D g tb 57 [(0, .ref (g.1 2 a0)), (1, .int a1), (2, .int v2), (3, .int v3), (4, .int v4)] [] M), ∀ (v2 : Int32) (v3 : Int32) (v4 : Int32)  (M : xM), fb_X2_pass_c57 k2 k57 a0 a1 v2 v3 v4 M = some M' → WW p l e ({ frames := 3, cells := 0, slots := 0, locals := 72 } : Room) s m args below meth c 0 0 Q 5 D g tb 57 [(0, .ref (g.1 2 a0)), (1, .int a1), (2, .int v2), (3, .int v3), (4, .int v4)] [] M := by
    intro k2 k57 hk2 hk57 v2 v3 v4  M hf
    unfold fb_X2_pass_c57 at hf
    refine r_iload C0 4 rfl dX2_pass_57 ?_
    refine r_aload_n C0 (kk := 0) 0 rfl dX2_pass_59 ?_
    refine r_get2 C0 h0.1 1 (by decide) (v := .int (M (a0 + 9))) rfl rfl w3_238 dX2_pass_60 ?_
    refine r_icmp_ge C0 (tgt := 83) (by decide) dX2_pass_63 (fun q15 => ?_) (fun q15 => ?_)
    · have hf := ie_t hf q15
      refine WW.sub [0, 1, 2] rfl ?_
      exact B83 k2 hk2 _   _ hf
    · have hf := ie_f hf q15
      refine r_aload_n C0 (kk := 0) 0 rfl dX2_pass_66 ?_
      refine r_get2 C0 h0.1 0 (by decide) (v := .ref (g.1 10 (a0 + 23))) rfl rfl w3_235 dX2_pass_67 ?_
      refine r_iload C0 4 rfl dX2_pass_70 ?_
      obtain ⟨q16, hf⟩ := gd_e hf
      have hm17 : ((0, ((a0 + 23) + 9 * v4.toNatClampNeg), 0) : xQ) ∈ tb := h0.2.2.2.2.1 _ (inb_lt q16)
      refine r_aald10 C0 h0.2.1 (inb_in q16) dX2_pass_72 ?_
      refine r_iload_n C0 (kk := 3) 3 rfl dX2_pass_73 ?_
      obtain ⟨M19, hc18, hf⟩ := bd_e hf
      refine r_callVv C0 (As := [.int v3]) (rest := []) (c_X4_letMistIn l D g tb hT hm17 hc18) w2_108 w2_109 w2_110 w1_15 w2_111 (x_rec0 C0 hm17) hd_X4_letMistIn rfl ⟨rfl, rfl⟩ ⟨Nat.le_of_ble_eq_true rfl, Nat.le_of_ble_eq_true rfl⟩ (by decide) (by decide) rfl (Nat.le_of_ble_eq_true rfl) dX2_pass_74 ?_
      refine r_iincc C0 4 rfl (k0 := 1) (by decide) (by decide) (lv2 := [(4, .int (v4 + 1)), (0, .ref (g.1 2 a0)), (1, .int a1), (2, .int v2), (3, .int v3)]) rfl dX2_pass_77 ?_
      refine r_goto C0 (tgt := 57) (by decide) dX2_pass_80 ?_
      refine WW.sub [1, 2, 3, 4, 0] rfl ?_
      exact hk57 _ _ _   _ hf
  have L57 : ∀ (k2 : Int32 → xM → Option xM) (hk2 : ∀ (v2 : Int32)  (M : xM), k2 v2 M = some M' → WW p l e ({ frames := 3, cells := 0, slots := 0, locals := 72 } : Room) s m args below meth c 0 0 Q 5 D g tb 2 [(0, .ref (g.1 2 a0)), (1, .int a1), (2, .int v2)] [] M), ∀ (v2 : Int32) (v3 : Int32) (v4 : Int32)  (M : xM), f_X2_pass_c57 k2 a0 a1 v2 v3 v4 M = some M' → WW p l e ({ frames := 3, cells := 0, slots := 0, locals := 72 } : Room) s m args below meth c 0 0 Q 5 D g tb 57 [(0, .ref (g.1 2 a0)), (1, .int a1), (2, .int v2), (3, .int v3), (4, .int v4)] [] M := fun k2 hk2 => lp_ind (P := fun f => ∀ (v2 : Int32) (v3 : Int32) (v4 : Int32)  (M : xM), f v2 v3 v4 M = some M' → WW p l e ({ frames := 3, cells := 0, slots := 0, locals := 72 } : Room) s m args below meth c 0 0 Q 5 D g tb 57 [(0, .ref (g.1 2 a0)), (1, .int a1), (2, .int v2), (3, .int v3), (4, .int v4)] [] M) (fun _ _ _ _ h => none_ne h) (fun f hf => B57 k2 f hk2 hf) FU
  have B27 : ∀ (k2 : Int32 → xM → Option xM) (k27 : Int32 → Int32 → Int32 → xM → Option xM) (hk2 : ∀ (v2 : Int32)  (M : xM), k2 v2 M = some M' → WW p l e ({ frames := 3, cells := 0, slots := 0, locals := 72 } : Room) s m args below meth c 0 0 Q 5 D g tb 2 [(0, .ref (g.1 2 a0)), (1, .int a1), (2, .int v2)] [] M) (hk27 : ∀ (v2 : Int32) (v3 : Int32) (v4 : Int32)  (M : xM), k27 v2 v3 v4 M = some M' → WW p l e ({ frames := 3, cells := 0, slots := 0, locals := 72 } : Room) s m args below meth c 0 0 Q 5 D g tb 27 [(0, .ref (g.1 2 a0)), (1, .int a1), (2, .int v2), (3, .int v3), (4, .int v4)] [] M), ∀ (v2 : Int32) (v3 : Int32) (v4 : Int32)  (M : xM), fb_X2_pass_c27 k2 k27 a0 a1 v2 v3 v4 M = some M' → WW p l e ({ frames := 3, cells := 0, slots := 0, locals := 72 } : Room) s m args below meth c 0 0 Q 5 D g tb 27 [(0, .ref (g.1 2 a0)), (1, .int a1), (2, .int v2), (3, .int v3), (4, .int v4)] [] M := by
    intro k2 k27 hk2 hk27 v2 v3 v4  M hf
    unfold fb_X2_pass_c27 at hf
    refine r_iload C0 4 rfl dX2_pass_27 ?_
    refine r_aload_n C0 (kk := 0) 0 rfl dX2_pass_29 ?_
    refine r_get2 C0 h0.1 3 (by decide) (v := .int (M (a0 + 10))) rfl rfl w4_4 dX2_pass_30 ?_
    refine r_icmp_ge C0 (tgt := 54) (by decide) dX2_pass_33 (fun q10 => ?_) (fun q10 => ?_)
    · have hf := ie_t hf q10
      refine r_iconst C0 (v := 0) dX2_pass_54 rfl ?_
      refine r_istore C0 (lv2 := [(4, .int 0), (0, .ref (g.1 2 a0)), (1, .int a1), (2, .int v2), (3, .int v3)]) (by decide) rfl dX2_pass_55 ?_
      refine WW.sub [1, 2, 3, 4, 0] rfl ?_
      exact L57 k2 hk2 _ _ _   _ hf
    · have hf := ie_f hf q10
      refine r_aload_n C0 (kk := 0) 0 rfl dX2_pass_36 ?_
      refine r_aload_n C0 (kk := 0) 0 rfl dX2_pass_37 ?_
      refine r_get2 C0 h0.1 2 (by decide) (v := .ref (g.1 11 (a0 + 77))) rfl rfl w4_1 dX2_pass_38 ?_
      refine r_iload C0 4 rfl dX2_pass_41 ?_
      obtain ⟨q11, hf⟩ := gd_e hf
      have hm12 : ((1, ((a0 + 77) + 8 * v4.toNatClampNeg), 0) : xQ) ∈ tb := h0.2.2.2.2.2 _ (inb_lt q11)
      refine r_aald11 C0 h0.2.2.1 (inb_in q11) dX2_pass_43 ?_
      refine r_iload_n C0 (kk := 3) 3 rfl dX2_pass_44 ?_
      obtain ⟨M14, hc13, hf⟩ := bd_e hf
      refine r_callVv C0 (As := [.ref (g.1 1 ((a0 + 77) + 8 * v4.toNatClampNeg)), .int v3]) (rest := []) (c_X2_letAct l D g tb hT h0 hm12 hc13) w2_70 w2_72 wp1_6 w1_14 w2_74 (x_rec2 C0 h0.1) hd_X2_letAct rfl ⟨rfl, rfl⟩ ⟨Nat.le_of_ble_eq_true rfl, Nat.le_of_ble_eq_true rfl⟩ (by decide) (by decide) rfl (Nat.le_of_ble_eq_true rfl) dX2_pass_45 ?_
      refine r_iincc C0 4 rfl (k0 := 1) (by decide) (by decide) (lv2 := [(4, .int (v4 + 1)), (0, .ref (g.1 2 a0)), (1, .int a1), (2, .int v2), (3, .int v3)]) rfl dX2_pass_48 ?_
      refine r_goto C0 (tgt := 27) (by decide) dX2_pass_51 ?_
      refine WW.sub [1, 2, 3, 4, 0] rfl ?_
      exact hk27 _ _ _   _ hf
  have L27 : ∀ (k2 : Int32 → xM → Option xM) (hk2 : ∀ (v2 : Int32)  (M : xM), k2 v2 M = some M' → WW p l e ({ frames := 3, cells := 0, slots := 0, locals := 72 } : Room) s m args below meth c 0 0 Q 5 D g tb 2 [(0, .ref (g.1 2 a0)), (1, .int a1), (2, .int v2)] [] M), ∀ (v2 : Int32) (v3 : Int32) (v4 : Int32)  (M : xM), f_X2_pass_c27 k2 a0 a1 v2 v3 v4 M = some M' → WW p l e ({ frames := 3, cells := 0, slots := 0, locals := 72 } : Room) s m args below meth c 0 0 Q 5 D g tb 27 [(0, .ref (g.1 2 a0)), (1, .int a1), (2, .int v2), (3, .int v3), (4, .int v4)] [] M := fun k2 hk2 => lp_ind (P := fun f => ∀ (v2 : Int32) (v3 : Int32) (v4 : Int32)  (M : xM), f v2 v3 v4 M = some M' → WW p l e ({ frames := 3, cells := 0, slots := 0, locals := 72 } : Room) s m args below meth c 0 0 Q 5 D g tb 27 [(0, .ref (g.1 2 a0)), (1, .int a1), (2, .int v2), (3, .int v3), (4, .int v4)] [] M) (fun _ _ _ _ h => none_ne h) (fun f hf => B27 k2 f hk2 hf) FU
  have B2 : ∀ (k2 : Int32 → xM → Option xM) (hk2 : ∀ (v2 : Int32)  (M : xM), k2 v2 M = some M' → WW p l e ({ frames := 3, cells := 0, slots := 0, locals := 72 } : Room) s m args below meth c 0 0 Q 5 D g tb 2 [(0, .ref (g.1 2 a0)), (1, .int a1), (2, .int v2)] [] M), ∀ (v2 : Int32)  (M : xM), fb_X2_pass_c2 k2 a0 a1 v2 M = some M' → WW p l e ({ frames := 3, cells := 0, slots := 0, locals := 72 } : Room) s m args below meth c 0 0 Q 5 D g tb 2 [(0, .ref (g.1 2 a0)), (1, .int a1), (2, .int v2)] [] M := by
    intro k2 hk2 v2  M hf
    unfold fb_X2_pass_c2 at hf
    refine r_iload_n C0 (kk := 2) 2 rfl dX2_pass_2 ?_
    refine r_iload_n C0 (kk := 1) 1 rfl dX2_pass_3 ?_
    refine r_icmp_ge C0 (tgt := 93) (by decide) dX2_pass_4 (fun q1 => ?_) (fun q1 => ?_)
    · have hf := ie_t hf q1
      exact hend hf dX2_pass_93
    · have hf := ie_f hf q1
      refine r_aload_n C0 (kk := 0) 0 rfl dX2_pass_7 ?_
      obtain ⟨r4, M3, hc2, hf⟩ := bd2_e hf
      refine r_callVi C0 (As := []) (rest := []) (c_X2_densityNow l D g tb hT h0 hc2) w2_49 w2_50 w2_51 w1_14 w2_52 (x_rec2 C0 h0.1) hd_X2_densityNow rfl ⟨rfl, rfl⟩ ⟨Nat.le_of_ble_eq_true rfl, Nat.le_of_ble_eq_true rfl⟩ (by decide) (by decide) rfl (Nat.le_of_ble_eq_true rfl) dX2_pass_8 ?_
      refine r_istore_n C0 (kk := 3) (lv2 := [(3, .int r4), (0, .ref (g.1 2 a0)), (1, .int a1), (2, .int v2)]) (by decide) rfl dX2_pass_11 ?_
      refine r_aload_n C0 (kk := 0) 1 rfl dX2_pass_12 ?_
      refine r_iload_n C0 (kk := 3) 0 rfl dX2_pass_13 ?_
      obtain ⟨M6, hc5, hf⟩ := bd_e hf
      refine r_callVv C0 (As := [.int r4]) (rest := []) (c_X2_moveBell l D g tb hT h0 hc5) w2_54 w2_55 w2_56 w1_14 w2_57 (x_rec2 C0 h0.1) hd_X2_moveBell rfl ⟨rfl, rfl⟩ ⟨Nat.le_of_ble_eq_true rfl, Nat.le_of_ble_eq_true rfl⟩ (by decide) (by decide) rfl (Nat.le_of_ble_eq_true rfl) dX2_pass_14 ?_
      refine r_aload_n C0 (kk := 0) 1 rfl dX2_pass_17 ?_
      refine r_get2 C0 h0.1 10 (by decide) (v := .int (M6 (a0 + 1))) rfl rfl w4_20 dX2_pass_18 ?_
      refine r_if_eq C0 (tgt := 83) (by decide) dX2_pass_21 (fun q7 => ?_) (fun q7 => ?_)
      · have hf := ie_t hf q7
        refine WW.sub [1, 2, 3] rfl ?_
        exact B83 k2 hk2 _   _ hf
      · have hf := ie_f hf q7
        refine r_iconst C0 (v := 0) dX2_pass_24 rfl ?_
        refine r_istore C0 (lv2 := [(4, .int 0), (3, .int r4), (0, .ref (g.1 2 a0)), (1, .int a1), (2, .int v2)]) (by decide) rfl dX2_pass_25 ?_
        refine WW.sub [2, 3, 4, 1, 0] rfl ?_
        exact L27 k2 hk2 _ _ _   _ hf
  have L2 : ∀ (v2 : Int32)  (M : xM), f_X2_pass_c2  a0 a1 v2 M = some M' → WW p l e ({ frames := 3, cells := 0, slots := 0, locals := 72 } : Room) s m args below meth c 0 0 Q 5 D g tb 2 [(0, .ref (g.1 2 a0)), (1, .int a1), (2, .int v2)] [] M := lp_ind (P := fun f => ∀ (v2 : Int32)  (M : xM), f v2 M = some M' → WW p l e ({ frames := 3, cells := 0, slots := 0, locals := 72 } : Room) s m args below meth c 0 0 Q 5 D g tb 2 [(0, .ref (g.1 2 a0)), (1, .int a1), (2, .int v2)] [] M) (fun _ _ h => none_ne h) (fun f hf => B2 f hf) FU
  unfold f_X2_pass at hf
  refine r_iconst C0 (v := 0) dX2_pass_0 rfl ?_
  refine r_istore_n C0 (kk := 2) (lv2 := [(2, .int 0), (0, .ref (g.1 2 a0)), (1, .int a1)]) (by decide) rfl dX2_pass_1 ?_
  refine WW.sub [1, 2, 0] rfl ?_
  exact L2   _   _ hf
theorem dJ0_charAt_5068e_0 : decode cJ0_charAt_5068e 0 = .ok (.aload_n 0, 1) := by decide +kernel
theorem dJ0_charAt_5068e_1 : decode cJ0_charAt_5068e 1 = .ok (.invokevirtual 492, 3) := by decide +kernel
theorem dJ0_charAt_5068e_4 : decode cJ0_charAt_5068e 4 = .ok (.ifCond .eq 12, 3) := by decide +kernel
theorem dJ0_charAt_5068e_7 : decode cJ0_charAt_5068e 7 = .ok (.aload_n 0, 1) := by decide +kernel
theorem dJ0_charAt_5068e_8 : decode cJ0_charAt_5068e 8 = .ok (.getfield 9, 3) := by decide +kernel
theorem dJ0_charAt_5068e_11 : decode cJ0_charAt_5068e 11 = .ok (.iload_n 1, 1) := by decide +kernel
theorem dJ0_charAt_5068e_12 : decode cJ0_charAt_5068e 12 = .ok (.invokestatic 495, 3) := by decide +kernel
theorem dJ0_charAt_5068e_15 : decode cJ0_charAt_5068e 15 = .ok (.ireturn, 1) := by decide +kernel
theorem dJ0_charAt_5068e_16 : decode cJ0_charAt_5068e 16 = .ok (.aload_n 0, 1) := by decide +kernel
theorem dJ0_charAt_5068e_17 : decode cJ0_charAt_5068e 17 = .ok (.getfield 9, 3) := by decide +kernel
theorem dJ0_charAt_5068e_20 : decode cJ0_charAt_5068e 20 = .ok (.iload_n 1, 1) := by decide +kernel
theorem dJ0_charAt_5068e_21 : decode cJ0_charAt_5068e 21 = .ok (.invokestatic 498, 3) := by decide +kernel
theorem dJ0_charAt_5068e_24 : decode cJ0_charAt_5068e 24 = .ok (.ireturn, 1) := by decide +kernel
theorem hd_J0_charAt_5068e : yJ0_charAt_5068e.cls = RJ0 ∧ yJ0_charAt_5068e.cls ≠ "java/lang/invoke/MethodHandle" ∧ yJ0_charAt_5068e.cls ≠ "java/lang/invoke/VarHandle" ∧ (parseMethodDescriptor yJ0_charAt_5068e.desc).map (fun d => d.parameters.length) = some 1 := by decide +kernel
set_option maxRecDepth 100000 in
set_option maxHeartbeats 4000000 in
theorem c_J0_charAt_5068e (l : Launch) (D : va_G) (g : xG) (tb : List xQ) (hT : x_T g tb) {a0 : Nat} {a1 : Int32} (h0 : a0 < 40) {M : xM} {r : Int32} {M' : xM} (hf : f_J0_charAt_5068e a0 a1 M = some (r, M')) :
    cI l D g tb yJ0_charAt_5068e cJ0_charAt_5068e 2 .char ({ frames := 3, cells := 0, slots := 0, locals := 64 } : Room) [.ref (g.1 20 a0), .int a1] M r M' := by
  refine x_startN (own := RJ0) (by decide +kernel) rfl rfl (Nat.le_of_ble_eq_true rfl) hT ?_
  intro p e s m args below meth c Q C0 hend
  unfold f_J0_charAt_5068e at hf
  refine r_aload_n C0 (kk := 0) 0 rfl dJ0_charAt_5068e_0 ?_
  obtain ⟨r3, M2, hc1, hf⟩ := bd2_e hf
  refine r_callVi C0 (As := []) (rest := []) (c_J0_isLatin1_aae02 l D g tb hT h0 hc1) w4_108 w4_109 w4_110 w1_3 w4_111 (x_rec20 C0 h0) hd_J0_isLatin1_aae02 rfl ⟨rfl, rfl⟩ ⟨Nat.le_of_ble_eq_true rfl, Nat.le_of_ble_eq_true rfl⟩ (by decide) (by decide) rfl (Nat.le_of_ble_eq_true rfl) dJ0_charAt_5068e_1 ?_
  refine r_if_eq C0 (tgt := 16) (by decide) dJ0_charAt_5068e_4 (fun q4 => ?_) (fun q4 => ?_)
  · have hf := ie_t hf q4
    refine r_aload_n C0 (kk := 0) 0 rfl dJ0_charAt_5068e_16 ?_
    refine r_sval C0 h0 w3_117 dJ0_charAt_5068e_17 ?_
    refine r_iload_n C0 (kk := 1) 1 rfl dJ0_charAt_5068e_20 ?_
    exact none_ne hf
  · have hf := ie_f hf q4
    refine r_aload_n C0 (kk := 0) 0 rfl dJ0_charAt_5068e_7 ?_
    refine r_sval C0 h0 w3_117 dJ0_charAt_5068e_8 ?_
    refine r_iload_n C0 (kk := 1) 1 rfl dJ0_charAt_5068e_11 ?_
    obtain ⟨r7, M6, hc5, hf⟩ := bd2_e hf
    refine r_callSi C0 (As := [.ref (g.1 21 a0), .int a1]) (rest := []) (c_J1_charAt_3b067 l D g tb hT h0 hc5) w4_112 w4_113 w1_10 w4_114 hd_J1_charAt_3b067 rfl ⟨rfl, rfl⟩ ⟨Nat.le_of_ble_eq_true rfl, Nat.le_of_ble_eq_true rfl⟩ (by decide) (by decide) rfl (Nat.le_of_ble_eq_true rfl) dJ0_charAt_5068e_12 ?_
    obtain ⟨q8, hf⟩ := gd_e hf
    exact hend (isn_e q8) hf dJ0_charAt_5068e_15
theorem dX3_isWord_0 : decode cX3_isWord 0 = .ok (.aload_n 0, 1) := by decide +kernel
theorem dX3_isWord_1 : decode cX3_isWord 1 = .ok (.getfield 77, 3) := by decide +kernel
theorem dX3_isWord_4 : decode cX3_isWord 4 = .ok (.iconst 1, 1) := by decide +kernel
theorem dX3_isWord_5 : decode cX3_isWord 5 = .ok (.if_icmp .ne 19, 3) := by decide +kernel
theorem dX3_isWord_8 : decode cX3_isWord 8 = .ok (.aload_n 0, 1) := by decide +kernel
theorem dX3_isWord_9 : decode cX3_isWord 9 = .ok (.getfield 39, 3) := by decide +kernel
theorem dX3_isWord_12 : decode cX3_isWord 12 = .ok (.aload_n 0, 1) := by decide +kernel
theorem dX3_isWord_13 : decode cX3_isWord 13 = .ok (.getfield 206, 3) := by decide +kernel
theorem dX3_isWord_16 : decode cX3_isWord 16 = .ok (.isub, 1) := by decide +kernel
theorem dX3_isWord_17 : decode cX3_isWord 17 = .ok (.aload_n 1, 1) := by decide +kernel
theorem dX3_isWord_18 : decode cX3_isWord 18 = .ok (.invokevirtual 23, 3) := by decide +kernel
theorem dX3_isWord_21 : decode cX3_isWord 21 = .ok (.if_icmp .eq 5, 3) := by decide +kernel
theorem dX3_isWord_24 : decode cX3_isWord 24 = .ok (.iconst 0, 1) := by decide +kernel
theorem dX3_isWord_25 : decode cX3_isWord 25 = .ok (.ireturn, 1) := by decide +kernel
theorem dX3_isWord_26 : decode cX3_isWord 26 = .ok (.iconst 0, 1) := by decide +kernel
theorem dX3_isWord_27 : decode cX3_isWord 27 = .ok (.istore_n 2, 1) := by decide +kernel
theorem dX3_isWord_28 : decode cX3_isWord 28 = .ok (.iload_n 2, 1) := by decide +kernel
theorem dX3_isWord_29 : decode cX3_isWord 29 = .ok (.aload_n 1, 1) := by decide +kernel
theorem dX3_isWord_30 : decode cX3_isWord 30 = .ok (.invokevirtual 23, 3) := by decide +kernel
theorem dX3_isWord_33 : decode cX3_isWord 33 = .ok (.if_icmp .ge 29, 3) := by decide +kernel
theorem dX3_isWord_36 : decode cX3_isWord 36 = .ok (.aload_n 0, 1) := by decide +kernel
theorem dX3_isWord_37 : decode cX3_isWord 37 = .ok (.aload_n 0, 1) := by decide +kernel
theorem dX3_isWord_38 : decode cX3_isWord 38 = .ok (.getfield 206, 3) := by decide +kernel
theorem dX3_isWord_41 : decode cX3_isWord 41 = .ok (.iload_n 2, 1) := by decide +kernel
theorem dX3_isWord_42 : decode cX3_isWord 42 = .ok (.iadd, 1) := by decide +kernel
theorem dX3_isWord_43 : decode cX3_isWord 43 = .ok (.invokevirtual 209, 3) := by decide +kernel
theorem dX3_isWord_46 : decode cX3_isWord 46 = .ok (.aload_n 1, 1) := by decide +kernel
theorem dX3_isWord_47 : decode cX3_isWord 47 = .ok (.iload_n 2, 1) := by decide +kernel
theorem dX3_isWord_48 : decode cX3_isWord 48 = .ok (.invokevirtual 29, 3) := by decide +kernel
theorem dX3_isWord_51 : decode cX3_isWord 51 = .ok (.if_icmp .eq 5, 3) := by decide +kernel
theorem dX3_isWord_54 : decode cX3_isWord 54 = .ok (.iconst 0, 1) := by decide +kernel
theorem dX3_isWord_55 : decode cX3_isWord 55 = .ok (.ireturn, 1) := by decide +kernel
theorem dX3_isWord_56 : decode cX3_isWord 56 = .ok (.iinc 2 1, 3) := by decide +kernel
theorem dX3_isWord_59 : decode cX3_isWord 59 = .ok (.goto (-31), 3) := by decide +kernel
theorem dX3_isWord_62 : decode cX3_isWord 62 = .ok (.iconst 1, 1) := by decide +kernel
theorem dX3_isWord_63 : decode cX3_isWord 63 = .ok (.ireturn, 1) := by decide +kernel
theorem hd_X3_isWord : yX3_isWord.cls = RX3 ∧ yX3_isWord.cls ≠ "java/lang/invoke/MethodHandle" ∧ yX3_isWord.cls ≠ "java/lang/invoke/VarHandle" ∧ (parseMethodDescriptor yX3_isWord.desc).map (fun d => d.parameters.length) = some 1 := by decide +kernel
set_option maxRecDepth 100000 in
set_option maxHeartbeats 4000000 in
theorem c_X3_isWord (l : Launch) (D : va_G) (g : xG) (tb : List xQ) (hT : x_T g tb) {a1 : Nat} (h0 : x_rd tb) (h1 : a1 < 40) {M : xM} {r : Int32} {M' : xM} (hf : f_X3_isWord a1 M = some (r, M')) :
    cI l D g tb yX3_isWord cX3_isWord 3 .boolean ({ frames := 4, cells := 0, slots := 0, locals := 85 } : Room) [.ref (g.1 3 1777), .ref (g.1 20 a1)] M r M' := by
  refine x_startZ (own := RX3) (by decide +kernel) rfl rfl (Nat.le_of_ble_eq_true rfl) hT ?_
  intro p e s m args below meth c Q C0 hend
  have B28 : ∀ (k28 : Int32 → xM → Option (Int32 × xM)) (hk28 : ∀ (v2 : Int32)  (M : xM), k28 v2 M = some (r, M') → WW p l e ({ frames := 4, cells := 0, slots := 0, locals := 85 } : Room) s m args below meth c 0 0 Q 3 D g tb 28 [(0, .ref (g.1 3 1777)), (1, .ref (g.1 20 a1)), (2, .int v2)] [] M), ∀ (v2 : Int32)  (M : xM), fb_X3_isWord_c28 k28 a1 v2 M = some (r, M') → WW p l e ({ frames := 4, cells := 0, slots := 0, locals := 85 } : Room) s m args below meth c 0 0 Q 3 D g tb 28 [(0, .ref (g.1 3 1777)), (1, .ref (g.1 20 a1)), (2, .int v2)] [] M := by
    intro k28 hk28 v2  M hf
    unfold fb_X3_isWord_c28 at hf
    refine r_iload_n C0 (kk := 2) 2 rfl dX3_isWord_28 ?_
    refine r_aload_n C0 (kk := 1) 1 rfl dX3_isWord_29 ?_
    obtain ⟨r8, M7, hc6, hf⟩ := bd2_e hf
    refine r_callVi C0 (As := []) (rest := [.int v2]) (c_J0_length_8abf5 l D g tb hT h1 hc6) w4_103 w2_239 w3_0 w1_3 w3_1 (x_rec20 C0 h1) hd_J0_length_8abf5 rfl ⟨rfl, rfl⟩ ⟨Nat.le_of_ble_eq_true rfl, Nat.le_of_ble_eq_true rfl⟩ (by decide) (by decide) rfl (Nat.le_of_ble_eq_true rfl) dX3_isWord_30 ?_
    refine r_icmp_ge C0 (tgt := 62) (by decide) dX3_isWord_33 (fun q9 => ?_) (fun q9 => ?_)
    · have hf := ie_t hf q9
      refine r_iconst C0 (v := 1) dX3_isWord_62 rfl ?_
      exact hend (by decide) hf dX3_isWord_63
    · have hf := ie_f hf q9
      refine r_aload_n C0 (kk := 0) 0 rfl dX3_isWord_36 ?_
      refine r_aload_n C0 (kk := 0) 0 rfl dX3_isWord_37 ?_
      refine r_get3 C0 h0.1 8 (by decide) (v := .int (M7 1785)) rfl rfl w4_74 dX3_isWord_38 ?_
      refine r_iload_n C0 (kk := 2) 2 rfl dX3_isWord_41 ?_
      refine r_iadd C0 dX3_isWord_42 ?_
      obtain ⟨r12, M11, hc10, hf⟩ := bd2_e hf
      refine r_callVi C0 (As := [.int ((M7 1785) + v2)]) (rest := []) (c_X3_byteAt l D g tb hT h0 hc10) w4_153 w4_155 wp1_12 w1_17 w4_156 (x_rec3 C0 h0.1) hd_X3_byteAt rfl ⟨rfl, rfl⟩ ⟨Nat.le_of_ble_eq_true rfl, Nat.le_of_ble_eq_true rfl⟩ (by decide) (by decide) rfl (Nat.le_of_ble_eq_true rfl) dX3_isWord_43 ?_
      refine r_aload_n C0 (kk := 1) 1 rfl dX3_isWord_46 ?_
      refine r_iload_n C0 (kk := 2) 2 rfl dX3_isWord_47 ?_
      obtain ⟨r15, M14, hc13, hf⟩ := bd2_e hf
      refine r_callVi C0 (As := [.int v2]) (rest := [.int r12]) (c_J0_charAt_5068e l D g tb hT h1 hc13) w4_104 w4_105 w4_106 w1_3 w4_107 (x_rec20 C0 h1) hd_J0_charAt_5068e rfl ⟨rfl, rfl⟩ ⟨Nat.le_of_ble_eq_true rfl, Nat.le_of_ble_eq_true rfl⟩ (by decide) (by decide) rfl (Nat.le_of_ble_eq_true rfl) dX3_isWord_48 ?_
      refine r_icmp_eq C0 (tgt := 56) (by decide) dX3_isWord_51 (fun q16 => ?_) (fun q16 => ?_)
      · have hf := ie_t hf q16
        refine r_iincc C0 2 rfl (k0 := 1) (by decide) (by decide) (lv2 := [(2, .int (v2 + 1)), (0, .ref (g.1 3 1777)), (1, .ref (g.1 20 a1))]) rfl dX3_isWord_56 ?_
        refine r_goto C0 (tgt := 28) (by decide) dX3_isWord_59 ?_
        refine WW.sub [1, 2, 0] rfl ?_
        exact hk28 _   _ hf
      · have hf := ie_f hf q16
        refine r_iconst C0 (v := 0) dX3_isWord_54 rfl ?_
        exact hend (by decide) hf dX3_isWord_55
  have L28 : ∀ (v2 : Int32)  (M : xM), f_X3_isWord_c28  a1 v2 M = some (r, M') → WW p l e ({ frames := 4, cells := 0, slots := 0, locals := 85 } : Room) s m args below meth c 0 0 Q 3 D g tb 28 [(0, .ref (g.1 3 1777)), (1, .ref (g.1 20 a1)), (2, .int v2)] [] M := lp_ind (P := fun f => ∀ (v2 : Int32)  (M : xM), f v2 M = some (r, M') → WW p l e ({ frames := 4, cells := 0, slots := 0, locals := 85 } : Room) s m args below meth c 0 0 Q 3 D g tb 28 [(0, .ref (g.1 3 1777)), (1, .ref (g.1 20 a1)), (2, .int v2)] [] M) (fun _ _ h => none_ne h) (fun f hf => B28 f hf) FU
  unfold f_X3_isWord at hf
  refine r_aload_n C0 (kk := 0) 0 rfl dX3_isWord_0 ?_
  refine r_get3 C0 h0.1 7 (by decide) (v := .int (M 1784)) rfl rfl w4_73 dX3_isWord_1 ?_
  refine r_iconst C0 (v := 1) dX3_isWord_4 rfl ?_
  refine r_icmp_ne C0 (tgt := 24) (by decide) dX3_isWord_5 (fun q1 => ?_) (fun q1 => ?_)
  · have hf := ie_f hf q1
    refine r_iconst C0 (v := 0) dX3_isWord_24 rfl ?_
    exact hend (by decide) hf dX3_isWord_25
  · have hf := ie_t hf q1
    refine r_aload_n C0 (kk := 0) 0 rfl dX3_isWord_8 ?_
    refine r_get3 C0 h0.1 6 (by decide) (v := .int (M 1783)) rfl rfl w4_72 dX3_isWord_9 ?_
    refine r_aload_n C0 (kk := 0) 0 rfl dX3_isWord_12 ?_
    refine r_get3 C0 h0.1 8 (by decide) (v := .int (M 1785)) rfl rfl w4_74 dX3_isWord_13 ?_
    refine r_isub C0 dX3_isWord_16 ?_
    refine r_aload_n C0 (kk := 1) 1 rfl dX3_isWord_17 ?_
    obtain ⟨r4, M3, hc2, hf⟩ := bd2_e hf
    refine r_callVi C0 (As := []) (rest := [.int ((M 1783) - (M 1785))]) (c_J0_length_8abf5 l D g tb hT h1 hc2) w4_103 w2_239 w3_0 w1_3 w3_1 (x_rec20 C0 h1) hd_J0_length_8abf5 rfl ⟨rfl, rfl⟩ ⟨Nat.le_of_ble_eq_true rfl, Nat.le_of_ble_eq_true rfl⟩ (by decide) (by decide) rfl (Nat.le_of_ble_eq_true rfl) dX3_isWord_18 ?_
    refine r_icmp_eq C0 (tgt := 26) (by decide) dX3_isWord_21 (fun q5 => ?_) (fun q5 => ?_)
    · have hf := ie_t hf q5
      refine r_iconst C0 (v := 0) dX3_isWord_26 rfl ?_
      refine r_istore_n C0 (kk := 2) (lv2 := [(2, .int 0), (0, .ref (g.1 3 1777)), (1, .ref (g.1 20 a1))]) (by decide) rfl dX3_isWord_27 ?_
      refine WW.sub [1, 2, 0] rfl ?_
      exact L28   _   _ hf
    · have hf := ie_f hf q5
      refine r_iconst C0 (v := 0) dX3_isWord_24 rfl ?_
      exact hend (by decide) hf dX3_isWord_25
