theorem dX6_remember_0 : decode cX6_remember 0 = .ok (.aload_n 0, 1) := by decide +kernel
theorem dX6_remember_1 : decode cX6_remember 1 = .ok (.getfield 29, 3) := by decide +kernel
theorem dX6_remember_4 : decode cX6_remember 4 = .ok (.aload_n 0, 1) := by decide +kernel
theorem dX6_remember_5 : decode cX6_remember 5 = .ok (.getfield 318, 3) := by decide +kernel
theorem dX6_remember_8 : decode cX6_remember 8 = .ok (.aaload, 1) := by decide +kernel
theorem dX6_remember_9 : decode cX6_remember 9 = .ok (.aload_n 0, 1) := by decide +kernel
theorem dX6_remember_10 : decode cX6_remember 10 = .ok (.getfield 10, 3) := by decide +kernel
theorem dX6_remember_13 : decode cX6_remember 13 = .ok (.invokevirtual 69, 3) := by decide +kernel
theorem dX6_remember_16 : decode cX6_remember 16 = .ok (.aload_n 0, 1) := by decide +kernel
theorem dX6_remember_17 : decode cX6_remember 17 = .ok (.aload_n 0, 1) := by decide +kernel
theorem dX6_remember_18 : decode cX6_remember 18 = .ok (.getfield 318, 3) := by decide +kernel
theorem dX6_remember_21 : decode cX6_remember 21 = .ok (.iconst 1, 1) := by decide +kernel
theorem dX6_remember_22 : decode cX6_remember 22 = .ok (.iadd, 1) := by decide +kernel
theorem dX6_remember_23 : decode cX6_remember 23 = .ok (.aload_n 0, 1) := by decide +kernel
theorem dX6_remember_24 : decode cX6_remember 24 = .ok (.getfield 29, 3) := by decide +kernel
theorem dX6_remember_27 : decode cX6_remember 27 = .ok (.arraylength, 1) := by decide +kernel
theorem dX6_remember_28 : decode cX6_remember 28 = .ok (.if_icmp .ge 12, 3) := by decide +kernel
theorem dX6_remember_31 : decode cX6_remember 31 = .ok (.aload_n 0, 1) := by decide +kernel
theorem dX6_remember_32 : decode cX6_remember 32 = .ok (.getfield 318, 3) := by decide +kernel
theorem dX6_remember_35 : decode cX6_remember 35 = .ok (.iconst 1, 1) := by decide +kernel
theorem dX6_remember_36 : decode cX6_remember 36 = .ok (.iadd, 1) := by decide +kernel
theorem dX6_remember_37 : decode cX6_remember 37 = .ok (.goto 4, 3) := by decide +kernel
theorem dX6_remember_40 : decode cX6_remember 40 = .ok (.iconst 0, 1) := by decide +kernel
theorem dX6_remember_41 : decode cX6_remember 41 = .ok (.putfield 318, 3) := by decide +kernel
theorem dX6_remember_44 : decode cX6_remember 44 = .ok (.aload_n 0, 1) := by decide +kernel
theorem dX6_remember_45 : decode cX6_remember 45 = .ok (.aload_n 0, 1) := by decide +kernel
theorem dX6_remember_46 : decode cX6_remember 46 = .ok (.getfield 119, 3) := by decide +kernel
theorem dX6_remember_49 : decode cX6_remember 49 = .ok (.iconst 1, 1) := by decide +kernel
theorem dX6_remember_50 : decode cX6_remember 50 = .ok (.iadd, 1) := by decide +kernel
theorem dX6_remember_51 : decode cX6_remember 51 = .ok (.bipush 8, 2) := by decide +kernel
theorem dX6_remember_53 : decode cX6_remember 53 = .ok (.invokestatic 321, 3) := by decide +kernel
theorem dX6_remember_56 : decode cX6_remember 56 = .ok (.putfield 119, 3) := by decide +kernel
theorem dX6_remember_59 : decode cX6_remember 59 = .ok (.return_, 1) := by decide +kernel
theorem hd_X6_remember : yX6_remember.cls = RX6 ∧ yX6_remember.cls ≠ "java/lang/invoke/MethodHandle" ∧ yX6_remember.cls ≠ "java/lang/invoke/VarHandle" ∧ (parseMethodDescriptor yX6_remember.desc).map (fun d => d.parameters.length) = some 0 := by decide +kernel
set_option maxRecDepth 100000 in
set_option maxHeartbeats 4000000 in
theorem c_X6_remember (l : Launch) (D : va_G) (g : xG) (tb : List xQ) (hT : x_T g tb)  (h0 : x_fb tb) {M M' : xM} (hf : f_X6_remember  M = some M') :
    cV l D g tb yX6_remember cX6_remember 1 ({ frames := 2, cells := 0, slots := 0, locals := 43 } : Room) [.ref (g.1 4 1664)] M M' := by
  refine x_startV (own := RX6) (by decide +kernel) rfl rfl (Nat.le_of_ble_eq_true rfl) hT ?_
  intro p e s m args below meth c Q C0 hend
  have B41 : ∀ (s0 : Int32)  (M : xM), f_X6_remember_c41   s0 M = some M' → WW p l e ({ frames := 2, cells := 0, slots := 0, locals := 43 } : Room) s m args below meth c 0 0 Q 1 D g tb 41 [(0, .ref (g.1 4 1664))] [.int s0, .ref (g.1 4 1664)] M := by
    intro   s0  M hf
    unfold f_X6_remember_c41 at hf
    refine r_put4 C0 h0.1 5 rfl rfl w3_107 rfl rfl rfl dX6_remember_41 ?_
    refine r_aload_n C0 (kk := 0) 0 rfl dX6_remember_44 ?_
    refine r_aload_n C0 (kk := 0) 0 rfl dX6_remember_45 ?_
    refine r_get4 C0 h0.1 6 (by decide) (v := .int ((upd M 1669 s0) 1670)) rfl rfl w3_108 dX6_remember_46 ?_
    refine r_iconst C0 (v := 1) dX6_remember_49 rfl ?_
    refine r_iadd C0 dX6_remember_50 ?_
    refine r_bipush C0 (v := 8) dX6_remember_51 rfl ?_
    refine r_min C0 w3_160 w3_161 w1_13 w3_162 (by decide) (Nat.le_of_ble_eq_true rfl) (by decide) (by decide) dX6_remember_53 ?_
    refine r_put4 C0 h0.1 6 rfl rfl w3_108 rfl rfl rfl dX6_remember_56 ?_
    exact hend hf dX6_remember_59
  unfold f_X6_remember at hf
  refine r_aload_n C0 (kk := 0) 0 rfl dX6_remember_0 ?_
  refine r_get4 C0 h0.1 4 (by decide) (v := .ref (g.1 12 384)) rfl rfl w3_106 dX6_remember_1 ?_
  refine r_aload_n C0 (kk := 0) 0 rfl dX6_remember_4 ?_
  refine r_get4 C0 h0.1 5 (by decide) (v := .int (M 1669)) rfl rfl w3_107 dX6_remember_5 ?_
  obtain ⟨q1, hf⟩ := gd_e hf
  have hm2 : x_mk tb (384 + 128 * (M 1669).toNatClampNeg) := h0.2.2.2.2.2.2.2.2.2.1 _ (inb_lt q1)
  refine r_aald12 C0 h0.2.2.2.2.2.1 (inb_in q1) dX6_remember_8 ?_
  refine r_aload_n C0 (kk := 0) 0 rfl dX6_remember_9 ?_
  refine r_get4 C0 h0.1 0 (by decide) (v := .ref (g.1 2 0)) rfl rfl w3_102 dX6_remember_10 ?_
  obtain ⟨M4, hc3, hf⟩ := bd_e hf
  refine r_callVv C0 (As := [.ref (g.1 2 0)]) (rest := []) (c_X2_copyFrom l D g tb hT hm2 h0.2.1 hc3) w3_86 w3_87 w3_88 w1_2 w3_89 (x_rec2 C0 hm2.1) hd_X2_copyFrom rfl ⟨rfl, rfl⟩ ⟨Nat.le_of_ble_eq_true rfl, Nat.le_of_ble_eq_true rfl⟩ (by decide) (by decide) rfl (Nat.le_of_ble_eq_true rfl) dX6_remember_13 ?_
  refine r_aload_n C0 (kk := 0) 0 rfl dX6_remember_16 ?_
  refine r_aload_n C0 (kk := 0) 0 rfl dX6_remember_17 ?_
  refine r_get4 C0 h0.1 5 (by decide) (v := .int (M4 1669)) rfl rfl w3_107 dX6_remember_18 ?_
  refine r_iconst C0 (v := 1) dX6_remember_21 rfl ?_
  refine r_iadd C0 dX6_remember_22 ?_
  refine r_aload_n C0 (kk := 0) 0 rfl dX6_remember_23 ?_
  refine r_get4 C0 h0.1 4 (by decide) (v := .ref (g.1 12 384)) rfl rfl w3_106 dX6_remember_24 ?_
  refine r_alen12 C0 h0.2.2.2.2.2.1 (v := 8) rfl dX6_remember_27 ?_
  refine r_icmp_ge C0 (tgt := 40) (by decide) dX6_remember_28 (fun q5 => ?_) (fun q5 => ?_)
  · have hf := ie_t hf q5
    refine r_iconst C0 (v := 0) dX6_remember_40 rfl ?_
    exact B41   _   _ hf
  · have hf := ie_f hf q5
    refine r_aload_n C0 (kk := 0) 0 rfl dX6_remember_31 ?_
    refine r_get4 C0 h0.1 5 (by decide) (v := .int (M4 1669)) rfl rfl w3_107 dX6_remember_32 ?_
    refine r_iconst C0 (v := 1) dX6_remember_35 rfl ?_
    refine r_iadd C0 dX6_remember_36 ?_
    refine r_goto C0 (tgt := 41) (by decide) dX6_remember_37 ?_
    exact B41   _   _ hf
theorem dX6_minutesToBell_0 : decode cX6_minutesToBell 0 = .ok (.aload_n 0, 1) := by decide +kernel
theorem dX6_minutesToBell_1 : decode cX6_minutesToBell 1 = .ok (.getfield 19, 3) := by decide +kernel
theorem dX6_minutesToBell_4 : decode cX6_minutesToBell 4 = .ok (.aload_n 0, 1) := by decide +kernel
theorem dX6_minutesToBell_5 : decode cX6_minutesToBell 5 = .ok (.getfield 10, 3) := by decide +kernel
theorem dX6_minutesToBell_8 : decode cX6_minutesToBell 8 = .ok (.invokevirtual 69, 3) := by decide +kernel
theorem dX6_minutesToBell_11 : decode cX6_minutesToBell 11 = .ok (.iconst 0, 1) := by decide +kernel
theorem dX6_minutesToBell_12 : decode cX6_minutesToBell 12 = .ok (.istore_n 1, 1) := by decide +kernel
theorem dX6_minutesToBell_13 : decode cX6_minutesToBell 13 = .ok (.iload_n 1, 1) := by decide +kernel
theorem dX6_minutesToBell_14 : decode cX6_minutesToBell 14 = .ok (.sipush 200, 3) := by decide +kernel
theorem dX6_minutesToBell_17 : decode cX6_minutesToBell 17 = .ok (.if_icmp .gt 54, 3) := by decide +kernel
theorem dX6_minutesToBell_20 : decode cX6_minutesToBell 20 = .ok (.aload_n 0, 1) := by decide +kernel
theorem dX6_minutesToBell_21 : decode cX6_minutesToBell 21 = .ok (.getfield 19, 3) := by decide +kernel
theorem dX6_minutesToBell_24 : decode cX6_minutesToBell 24 = .ok (.getfield 130, 3) := by decide +kernel
theorem dX6_minutesToBell_27 : decode cX6_minutesToBell 27 = .ok (.istore_n 2, 1) := by decide +kernel
theorem dX6_minutesToBell_28 : decode cX6_minutesToBell 28 = .ok (.aload_n 0, 1) := by decide +kernel
theorem dX6_minutesToBell_29 : decode cX6_minutesToBell 29 = .ok (.getfield 19, 3) := by decide +kernel
theorem dX6_minutesToBell_32 : decode cX6_minutesToBell 32 = .ok (.aload_n 0, 1) := by decide +kernel
theorem dX6_minutesToBell_33 : decode cX6_minutesToBell 33 = .ok (.getfield 19, 3) := by decide +kernel
theorem dX6_minutesToBell_36 : decode cX6_minutesToBell 36 = .ok (.invokevirtual 143, 3) := by decide +kernel
theorem dX6_minutesToBell_39 : decode cX6_minutesToBell 39 = .ok (.invokevirtual 146, 3) := by decide +kernel
theorem dX6_minutesToBell_42 : decode cX6_minutesToBell 42 = .ok (.iload_n 2, 1) := by decide +kernel
theorem dX6_minutesToBell_43 : decode cX6_minutesToBell 43 = .ok (.ifCond .ne 15, 3) := by decide +kernel
theorem dX6_minutesToBell_46 : decode cX6_minutesToBell 46 = .ok (.aload_n 0, 1) := by decide +kernel
theorem dX6_minutesToBell_47 : decode cX6_minutesToBell 47 = .ok (.getfield 19, 3) := by decide +kernel
theorem dX6_minutesToBell_50 : decode cX6_minutesToBell 50 = .ok (.getfield 130, 3) := by decide +kernel
theorem dX6_minutesToBell_53 : decode cX6_minutesToBell 53 = .ok (.ifCond .eq 5, 3) := by decide +kernel
theorem dX6_minutesToBell_56 : decode cX6_minutesToBell 56 = .ok (.iload_n 1, 1) := by decide +kernel
theorem dX6_minutesToBell_57 : decode cX6_minutesToBell 57 = .ok (.ireturn, 1) := by decide +kernel
theorem dX6_minutesToBell_58 : decode cX6_minutesToBell 58 = .ok (.aload_n 0, 1) := by decide +kernel
theorem dX6_minutesToBell_59 : decode cX6_minutesToBell 59 = .ok (.getfield 19, 3) := by decide +kernel
theorem dX6_minutesToBell_62 : decode cX6_minutesToBell 62 = .ok (.invokevirtual 149, 3) := by decide +kernel
theorem dX6_minutesToBell_65 : decode cX6_minutesToBell 65 = .ok (.iinc 1 1, 3) := by decide +kernel
theorem dX6_minutesToBell_68 : decode cX6_minutesToBell 68 = .ok (.goto (-55), 3) := by decide +kernel
theorem dX6_minutesToBell_71 : decode cX6_minutesToBell 71 = .ok (.iconst (-1), 1) := by decide +kernel
theorem dX6_minutesToBell_72 : decode cX6_minutesToBell 72 = .ok (.ireturn, 1) := by decide +kernel
theorem hd_X6_minutesToBell : yX6_minutesToBell.cls = RX6 ∧ yX6_minutesToBell.cls ≠ "java/lang/invoke/MethodHandle" ∧ yX6_minutesToBell.cls ≠ "java/lang/invoke/VarHandle" ∧ (parseMethodDescriptor yX6_minutesToBell.desc).map (fun d => d.parameters.length) = some 0 := by decide +kernel
set_option maxRecDepth 100000 in
set_option maxHeartbeats 4000000 in
theorem c_X6_minutesToBell (l : Launch) (D : va_G) (g : xG) (tb : List xQ) (hT : x_T g tb)  (h0 : x_fb tb) {M : xM} {r : Int32} {M' : xM} (hf : f_X6_minutesToBell  M = some (r, M')) :
    cI l D g tb yX6_minutesToBell cX6_minutesToBell 3 .int ({ frames := 3, cells := 0, slots := 0, locals := 65 } : Room) [.ref (g.1 4 1664)] M r M' := by
  refine x_startI (own := RX6) (by decide +kernel) rfl rfl (Nat.le_of_ble_eq_true rfl) hT ?_
  intro p e s m args below meth c Q C0 hend
  have B58 : ∀ (k13 : Int32 → xM → Option (Int32 × xM)) (hk13 : ∀ (v1 : Int32)  (M : xM), k13 v1 M = some (r, M') → WW p l e ({ frames := 3, cells := 0, slots := 0, locals := 65 } : Room) s m args below meth c 0 0 Q 3 D g tb 13 [(0, .ref (g.1 4 1664)), (1, .int v1)] [] M), ∀ (v1 : Int32)  (M : xM), f_X6_minutesToBell_c58 k13  v1 M = some (r, M') → WW p l e ({ frames := 3, cells := 0, slots := 0, locals := 65 } : Room) s m args below meth c 0 0 Q 3 D g tb 58 [(0, .ref (g.1 4 1664)), (1, .int v1)] [] M := by
    intro k13 hk13 v1  M hf
    unfold f_X6_minutesToBell_c58 at hf
    refine r_aload_n C0 (kk := 0) 0 rfl dX6_minutesToBell_58 ?_
    refine r_get4 C0 h0.1 2 (by decide) (v := .ref (g.1 2 256)) rfl rfl w3_104 dX6_minutesToBell_59 ?_
    obtain ⟨M12, hc11, hf⟩ := bd_e hf
    refine r_callVv C0 (As := []) (rest := []) (c_X2_countMinute l D g tb hT h0.2.2.2.1 hc11) w3_213 w3_76 w3_77 w1_2 w3_78 (x_rec2 C0 h0.2.2.2.1.1) hd_X2_countMinute rfl ⟨rfl, rfl⟩ ⟨Nat.le_of_ble_eq_true rfl, Nat.le_of_ble_eq_true rfl⟩ (by decide) (by decide) rfl (Nat.le_of_ble_eq_true rfl) dX6_minutesToBell_62 ?_
    refine r_iincc C0 1 rfl (k0 := 1) (by decide) (by decide) (lv2 := [(1, .int (v1 + 1)), (0, .ref (g.1 4 1664))]) rfl dX6_minutesToBell_65 ?_
    refine r_goto C0 (tgt := 13) (by decide) dX6_minutesToBell_68 ?_
    refine WW.sub [1, 0] rfl ?_
    exact hk13 _   _ hf
  have B13 : ∀ (k13 : Int32 → xM → Option (Int32 × xM)) (hk13 : ∀ (v1 : Int32)  (M : xM), k13 v1 M = some (r, M') → WW p l e ({ frames := 3, cells := 0, slots := 0, locals := 65 } : Room) s m args below meth c 0 0 Q 3 D g tb 13 [(0, .ref (g.1 4 1664)), (1, .int v1)] [] M), ∀ (v1 : Int32)  (M : xM), fb_X6_minutesToBell_c13 k13  v1 M = some (r, M') → WW p l e ({ frames := 3, cells := 0, slots := 0, locals := 65 } : Room) s m args below meth c 0 0 Q 3 D g tb 13 [(0, .ref (g.1 4 1664)), (1, .int v1)] [] M := by
    intro k13 hk13 v1  M hf
    unfold fb_X6_minutesToBell_c13 at hf
    refine r_iload_n C0 (kk := 1) 1 rfl dX6_minutesToBell_13 ?_
    refine r_sipush C0 (v := 200) dX6_minutesToBell_14 rfl ?_
    refine r_icmp_gt C0 (tgt := 71) (by decide) dX6_minutesToBell_17 (fun q3 => ?_) (fun q3 => ?_)
    · have hf := ie_t hf q3
      refine r_iconst C0 (v := (-1)) dX6_minutesToBell_71 rfl ?_
      exact hend hf dX6_minutesToBell_72
    · have hf := ie_f hf q3
      refine r_aload_n C0 (kk := 0) 0 rfl dX6_minutesToBell_20 ?_
      refine r_get4 C0 h0.1 2 (by decide) (v := .ref (g.1 2 256)) rfl rfl w3_104 dX6_minutesToBell_21 ?_
      refine r_get2 C0 h0.2.2.2.1.1 10 (by decide) (v := .int (M 257)) rfl rfl w1_161 dX6_minutesToBell_24 ?_
      refine r_istore_n C0 (kk := 2) (lv2 := [(2, .int (M 257)), (0, .ref (g.1 4 1664)), (1, .int v1)]) (by decide) rfl dX6_minutesToBell_27 ?_
      refine r_aload_n C0 (kk := 0) 1 rfl dX6_minutesToBell_28 ?_
      refine r_get4 C0 h0.1 2 (by decide) (v := .ref (g.1 2 256)) rfl rfl w3_104 dX6_minutesToBell_29 ?_
      refine r_aload_n C0 (kk := 0) 1 rfl dX6_minutesToBell_32 ?_
      refine r_get4 C0 h0.1 2 (by decide) (v := .ref (g.1 2 256)) rfl rfl w3_104 dX6_minutesToBell_33 ?_
      obtain ⟨r6, M5, hc4, hf⟩ := bd2_e hf
      refine r_callVi C0 (As := []) (rest := [.ref (g.1 2 256)]) (c_X2_densityNow l D g tb hT h0.2.2.2.1 hc4) w3_211 w3_21 w3_22 w1_2 w3_23 (x_rec2 C0 h0.2.2.2.1.1) hd_X2_densityNow rfl ⟨rfl, rfl⟩ ⟨Nat.le_of_ble_eq_true rfl, Nat.le_of_ble_eq_true rfl⟩ (by decide) (by decide) rfl (Nat.le_of_ble_eq_true rfl) dX6_minutesToBell_36 ?_
      obtain ⟨M8, hc7, hf⟩ := bd_e hf
      refine r_callVv C0 (As := [.int r6]) (rest := []) (c_X2_moveBell l D g tb hT h0.2.2.2.1 hc7) w3_212 w3_29 w3_30 w1_2 w3_31 (x_rec2 C0 h0.2.2.2.1.1) hd_X2_moveBell rfl ⟨rfl, rfl⟩ ⟨Nat.le_of_ble_eq_true rfl, Nat.le_of_ble_eq_true rfl⟩ (by decide) (by decide) rfl (Nat.le_of_ble_eq_true rfl) dX6_minutesToBell_39 ?_
      refine r_iload_n C0 (kk := 2) 0 rfl dX6_minutesToBell_42 ?_
      refine r_if_ne C0 (tgt := 58) (by decide) dX6_minutesToBell_43 (fun q9 => ?_) (fun q9 => ?_)
      · have hf := ie_f hf q9
        refine WW.sub [1, 2] rfl ?_
        exact B58 k13 hk13 _   _ hf
      · have hf := ie_t hf q9
        refine r_aload_n C0 (kk := 0) 1 rfl dX6_minutesToBell_46 ?_
        refine r_get4 C0 h0.1 2 (by decide) (v := .ref (g.1 2 256)) rfl rfl w3_104 dX6_minutesToBell_47 ?_
        refine r_get2 C0 h0.2.2.2.1.1 10 (by decide) (v := .int (M8 257)) rfl rfl w1_161 dX6_minutesToBell_50 ?_
        refine r_if_eq C0 (tgt := 58) (by decide) dX6_minutesToBell_53 (fun q10 => ?_) (fun q10 => ?_)
        · have hf := ie_t hf q10
          refine WW.sub [1, 2] rfl ?_
          exact B58 k13 hk13 _   _ hf
        · have hf := ie_f hf q10
          refine r_iload_n C0 (kk := 1) 2 rfl dX6_minutesToBell_56 ?_
          exact hend hf dX6_minutesToBell_57
  have L13 : ∀ (v1 : Int32)  (M : xM), f_X6_minutesToBell_c13   v1 M = some (r, M') → WW p l e ({ frames := 3, cells := 0, slots := 0, locals := 65 } : Room) s m args below meth c 0 0 Q 3 D g tb 13 [(0, .ref (g.1 4 1664)), (1, .int v1)] [] M := lp_ind (P := fun f => ∀ (v1 : Int32)  (M : xM), f v1 M = some (r, M') → WW p l e ({ frames := 3, cells := 0, slots := 0, locals := 65 } : Room) s m args below meth c 0 0 Q 3 D g tb 13 [(0, .ref (g.1 4 1664)), (1, .int v1)] [] M) (fun _ _ h => none_ne h) (fun f hf => B13 f hf) FU
  unfold f_X6_minutesToBell at hf
  refine r_aload_n C0 (kk := 0) 0 rfl dX6_minutesToBell_0 ?_
  refine r_get4 C0 h0.1 2 (by decide) (v := .ref (g.1 2 256)) rfl rfl w3_104 dX6_minutesToBell_1 ?_
  refine r_aload_n C0 (kk := 0) 0 rfl dX6_minutesToBell_4 ?_
  refine r_get4 C0 h0.1 0 (by decide) (v := .ref (g.1 2 0)) rfl rfl w3_102 dX6_minutesToBell_5 ?_
  obtain ⟨M2, hc1, hf⟩ := bd_e hf
  refine r_callVv C0 (As := [.ref (g.1 2 0)]) (rest := []) (c_X2_copyFrom l D g tb hT h0.2.2.2.1 h0.2.1 hc1) w3_86 w3_87 w3_88 w1_2 w3_89 (x_rec2 C0 h0.2.2.2.1.1) hd_X2_copyFrom rfl ⟨rfl, rfl⟩ ⟨Nat.le_of_ble_eq_true rfl, Nat.le_of_ble_eq_true rfl⟩ (by decide) (by decide) rfl (Nat.le_of_ble_eq_true rfl) dX6_minutesToBell_8 ?_
  refine r_iconst C0 (v := 0) dX6_minutesToBell_11 rfl ?_
  refine r_istore_n C0 (kk := 1) (lv2 := [(1, .int 0), (0, .ref (g.1 4 1664))]) (by decide) rfl dX6_minutesToBell_12 ?_
  refine WW.sub [1, 0] rfl ?_
  exact L13   _   _ hf
theorem dX6_minutesToEnd_0 : decode cX6_minutesToEnd 0 = .ok (.aload_n 0, 1) := by decide +kernel
theorem dX6_minutesToEnd_1 : decode cX6_minutesToEnd 1 = .ok (.getfield 10, 3) := by decide +kernel
theorem dX6_minutesToEnd_4 : decode cX6_minutesToEnd 4 = .ok (.getfield 130, 3) := by decide +kernel
theorem dX6_minutesToEnd_7 : decode cX6_minutesToEnd 7 = .ok (.ifCond .ne 5, 3) := by decide +kernel
theorem dX6_minutesToEnd_10 : decode cX6_minutesToEnd 10 = .ok (.iconst (-1), 1) := by decide +kernel
theorem dX6_minutesToEnd_11 : decode cX6_minutesToEnd 11 = .ok (.ireturn, 1) := by decide +kernel
theorem dX6_minutesToEnd_12 : decode cX6_minutesToEnd 12 = .ok (.aload_n 0, 1) := by decide +kernel
theorem dX6_minutesToEnd_13 : decode cX6_minutesToEnd 13 = .ok (.getfield 19, 3) := by decide +kernel
theorem dX6_minutesToEnd_16 : decode cX6_minutesToEnd 16 = .ok (.aload_n 0, 1) := by decide +kernel
theorem dX6_minutesToEnd_17 : decode cX6_minutesToEnd 17 = .ok (.getfield 10, 3) := by decide +kernel
theorem dX6_minutesToEnd_20 : decode cX6_minutesToEnd 20 = .ok (.invokevirtual 69, 3) := by decide +kernel
theorem dX6_minutesToEnd_23 : decode cX6_minutesToEnd 23 = .ok (.iconst 0, 1) := by decide +kernel
theorem dX6_minutesToEnd_24 : decode cX6_minutesToEnd 24 = .ok (.istore_n 1, 1) := by decide +kernel
theorem dX6_minutesToEnd_25 : decode cX6_minutesToEnd 25 = .ok (.iload_n 1, 1) := by decide +kernel
theorem dX6_minutesToEnd_26 : decode cX6_minutesToEnd 26 = .ok (.sipush 200, 3) := by decide +kernel
theorem dX6_minutesToEnd_29 : decode cX6_minutesToEnd 29 = .ok (.if_icmp .gt 42, 3) := by decide +kernel
theorem dX6_minutesToEnd_32 : decode cX6_minutesToEnd 32 = .ok (.aload_n 0, 1) := by decide +kernel
theorem dX6_minutesToEnd_33 : decode cX6_minutesToEnd 33 = .ok (.getfield 19, 3) := by decide +kernel
theorem dX6_minutesToEnd_36 : decode cX6_minutesToEnd 36 = .ok (.aload_n 0, 1) := by decide +kernel
theorem dX6_minutesToEnd_37 : decode cX6_minutesToEnd 37 = .ok (.getfield 19, 3) := by decide +kernel
theorem dX6_minutesToEnd_40 : decode cX6_minutesToEnd 40 = .ok (.invokevirtual 143, 3) := by decide +kernel
theorem dX6_minutesToEnd_43 : decode cX6_minutesToEnd 43 = .ok (.invokevirtual 146, 3) := by decide +kernel
theorem dX6_minutesToEnd_46 : decode cX6_minutesToEnd 46 = .ok (.aload_n 0, 1) := by decide +kernel
theorem dX6_minutesToEnd_47 : decode cX6_minutesToEnd 47 = .ok (.getfield 19, 3) := by decide +kernel
theorem dX6_minutesToEnd_50 : decode cX6_minutesToEnd 50 = .ok (.getfield 130, 3) := by decide +kernel
theorem dX6_minutesToEnd_53 : decode cX6_minutesToEnd 53 = .ok (.ifCond .ne 5, 3) := by decide +kernel
theorem dX6_minutesToEnd_56 : decode cX6_minutesToEnd 56 = .ok (.iload_n 1, 1) := by decide +kernel
theorem dX6_minutesToEnd_57 : decode cX6_minutesToEnd 57 = .ok (.ireturn, 1) := by decide +kernel
theorem dX6_minutesToEnd_58 : decode cX6_minutesToEnd 58 = .ok (.aload_n 0, 1) := by decide +kernel
theorem dX6_minutesToEnd_59 : decode cX6_minutesToEnd 59 = .ok (.getfield 19, 3) := by decide +kernel
theorem dX6_minutesToEnd_62 : decode cX6_minutesToEnd 62 = .ok (.invokevirtual 149, 3) := by decide +kernel
theorem dX6_minutesToEnd_65 : decode cX6_minutesToEnd 65 = .ok (.iinc 1 1, 3) := by decide +kernel
theorem dX6_minutesToEnd_68 : decode cX6_minutesToEnd 68 = .ok (.goto (-43), 3) := by decide +kernel
theorem dX6_minutesToEnd_71 : decode cX6_minutesToEnd 71 = .ok (.iconst (-1), 1) := by decide +kernel
theorem dX6_minutesToEnd_72 : decode cX6_minutesToEnd 72 = .ok (.ireturn, 1) := by decide +kernel
theorem hd_X6_minutesToEnd : yX6_minutesToEnd.cls = RX6 ∧ yX6_minutesToEnd.cls ≠ "java/lang/invoke/MethodHandle" ∧ yX6_minutesToEnd.cls ≠ "java/lang/invoke/VarHandle" ∧ (parseMethodDescriptor yX6_minutesToEnd.desc).map (fun d => d.parameters.length) = some 0 := by decide +kernel
set_option maxRecDepth 100000 in
set_option maxHeartbeats 4000000 in
theorem c_X6_minutesToEnd (l : Launch) (D : va_G) (g : xG) (tb : List xQ) (hT : x_T g tb)  (h0 : x_fb tb) {M : xM} {r : Int32} {M' : xM} (hf : f_X6_minutesToEnd  M = some (r, M')) :
    cI l D g tb yX6_minutesToEnd cX6_minutesToEnd 2 .int ({ frames := 3, cells := 0, slots := 0, locals := 65 } : Room) [.ref (g.1 4 1664)] M r M' := by
  refine x_startI (own := RX6) (by decide +kernel) rfl rfl (Nat.le_of_ble_eq_true rfl) hT ?_
  intro p e s m args below meth c Q C0 hend
  have B25 : ∀ (k25 : Int32 → xM → Option (Int32 × xM)) (hk25 : ∀ (v1 : Int32)  (M : xM), k25 v1 M = some (r, M') → WW p l e ({ frames := 3, cells := 0, slots := 0, locals := 65 } : Room) s m args below meth c 0 0 Q 2 D g tb 25 [(0, .ref (g.1 4 1664)), (1, .int v1)] [] M), ∀ (v1 : Int32)  (M : xM), fb_X6_minutesToEnd_c25 k25  v1 M = some (r, M') → WW p l e ({ frames := 3, cells := 0, slots := 0, locals := 65 } : Room) s m args below meth c 0 0 Q 2 D g tb 25 [(0, .ref (g.1 4 1664)), (1, .int v1)] [] M := by
    intro k25 hk25 v1  M hf
    unfold fb_X6_minutesToEnd_c25 at hf
    refine r_iload_n C0 (kk := 1) 1 rfl dX6_minutesToEnd_25 ?_
    refine r_sipush C0 (v := 200) dX6_minutesToEnd_26 rfl ?_
    refine r_icmp_gt C0 (tgt := 71) (by decide) dX6_minutesToEnd_29 (fun q4 => ?_) (fun q4 => ?_)
    · have hf := ie_t hf q4
      refine r_iconst C0 (v := (-1)) dX6_minutesToEnd_71 rfl ?_
      exact hend hf dX6_minutesToEnd_72
    · have hf := ie_f hf q4
      refine r_aload_n C0 (kk := 0) 0 rfl dX6_minutesToEnd_32 ?_
      refine r_get4 C0 h0.1 2 (by decide) (v := .ref (g.1 2 256)) rfl rfl w3_104 dX6_minutesToEnd_33 ?_
      refine r_aload_n C0 (kk := 0) 0 rfl dX6_minutesToEnd_36 ?_
      refine r_get4 C0 h0.1 2 (by decide) (v := .ref (g.1 2 256)) rfl rfl w3_104 dX6_minutesToEnd_37 ?_
      obtain ⟨r7, M6, hc5, hf⟩ := bd2_e hf
      refine r_callVi C0 (As := []) (rest := [.ref (g.1 2 256)]) (c_X2_densityNow l D g tb hT h0.2.2.2.1 hc5) w3_211 w3_21 w3_22 w1_2 w3_23 (x_rec2 C0 h0.2.2.2.1.1) hd_X2_densityNow rfl ⟨rfl, rfl⟩ ⟨Nat.le_of_ble_eq_true rfl, Nat.le_of_ble_eq_true rfl⟩ (by decide) (by decide) rfl (Nat.le_of_ble_eq_true rfl) dX6_minutesToEnd_40 ?_
      obtain ⟨M9, hc8, hf⟩ := bd_e hf
      refine r_callVv C0 (As := [.int r7]) (rest := []) (c_X2_moveBell l D g tb hT h0.2.2.2.1 hc8) w3_212 w3_29 w3_30 w1_2 w3_31 (x_rec2 C0 h0.2.2.2.1.1) hd_X2_moveBell rfl ⟨rfl, rfl⟩ ⟨Nat.le_of_ble_eq_true rfl, Nat.le_of_ble_eq_true rfl⟩ (by decide) (by decide) rfl (Nat.le_of_ble_eq_true rfl) dX6_minutesToEnd_43 ?_
      refine r_aload_n C0 (kk := 0) 0 rfl dX6_minutesToEnd_46 ?_
      refine r_get4 C0 h0.1 2 (by decide) (v := .ref (g.1 2 256)) rfl rfl w3_104 dX6_minutesToEnd_47 ?_
      refine r_get2 C0 h0.2.2.2.1.1 10 (by decide) (v := .int (M9 257)) rfl rfl w1_161 dX6_minutesToEnd_50 ?_
      refine r_if_ne C0 (tgt := 58) (by decide) dX6_minutesToEnd_53 (fun q10 => ?_) (fun q10 => ?_)
      · have hf := ie_f hf q10
        refine r_aload_n C0 (kk := 0) 0 rfl dX6_minutesToEnd_58 ?_
        refine r_get4 C0 h0.1 2 (by decide) (v := .ref (g.1 2 256)) rfl rfl w3_104 dX6_minutesToEnd_59 ?_
        obtain ⟨M12, hc11, hf⟩ := bd_e hf
        refine r_callVv C0 (As := []) (rest := []) (c_X2_countMinute l D g tb hT h0.2.2.2.1 hc11) w3_213 w3_76 w3_77 w1_2 w3_78 (x_rec2 C0 h0.2.2.2.1.1) hd_X2_countMinute rfl ⟨rfl, rfl⟩ ⟨Nat.le_of_ble_eq_true rfl, Nat.le_of_ble_eq_true rfl⟩ (by decide) (by decide) rfl (Nat.le_of_ble_eq_true rfl) dX6_minutesToEnd_62 ?_
        refine r_iincc C0 1 rfl (k0 := 1) (by decide) (by decide) (lv2 := [(1, .int (v1 + 1)), (0, .ref (g.1 4 1664))]) rfl dX6_minutesToEnd_65 ?_
        refine r_goto C0 (tgt := 25) (by decide) dX6_minutesToEnd_68 ?_
        refine WW.sub [1, 0] rfl ?_
        exact hk25 _   _ hf
      · have hf := ie_t hf q10
        refine r_iload_n C0 (kk := 1) 1 rfl dX6_minutesToEnd_56 ?_
        exact hend hf dX6_minutesToEnd_57
  have L25 : ∀ (v1 : Int32)  (M : xM), f_X6_minutesToEnd_c25   v1 M = some (r, M') → WW p l e ({ frames := 3, cells := 0, slots := 0, locals := 65 } : Room) s m args below meth c 0 0 Q 2 D g tb 25 [(0, .ref (g.1 4 1664)), (1, .int v1)] [] M := lp_ind (P := fun f => ∀ (v1 : Int32)  (M : xM), f v1 M = some (r, M') → WW p l e ({ frames := 3, cells := 0, slots := 0, locals := 65 } : Room) s m args below meth c 0 0 Q 2 D g tb 25 [(0, .ref (g.1 4 1664)), (1, .int v1)] [] M) (fun _ _ h => none_ne h) (fun f hf => B25 f hf) FU
  unfold f_X6_minutesToEnd at hf
  refine r_aload_n C0 (kk := 0) 0 rfl dX6_minutesToEnd_0 ?_
  refine r_get4 C0 h0.1 0 (by decide) (v := .ref (g.1 2 0)) rfl rfl w3_102 dX6_minutesToEnd_1 ?_
  refine r_get2 C0 h0.2.1.1 10 (by decide) (v := .int (M 1)) rfl rfl w1_161 dX6_minutesToEnd_4 ?_
  refine r_if_ne C0 (tgt := 12) (by decide) dX6_minutesToEnd_7 (fun q1 => ?_) (fun q1 => ?_)
  · have hf := ie_f hf q1
    refine r_aload_n C0 (kk := 0) 0 rfl dX6_minutesToEnd_12 ?_
    refine r_get4 C0 h0.1 2 (by decide) (v := .ref (g.1 2 256)) rfl rfl w3_104 dX6_minutesToEnd_13 ?_
    refine r_aload_n C0 (kk := 0) 0 rfl dX6_minutesToEnd_16 ?_
    refine r_get4 C0 h0.1 0 (by decide) (v := .ref (g.1 2 0)) rfl rfl w3_102 dX6_minutesToEnd_17 ?_
    obtain ⟨M3, hc2, hf⟩ := bd_e hf
    refine r_callVv C0 (As := [.ref (g.1 2 0)]) (rest := []) (c_X2_copyFrom l D g tb hT h0.2.2.2.1 h0.2.1 hc2) w3_86 w3_87 w3_88 w1_2 w3_89 (x_rec2 C0 h0.2.2.2.1.1) hd_X2_copyFrom rfl ⟨rfl, rfl⟩ ⟨Nat.le_of_ble_eq_true rfl, Nat.le_of_ble_eq_true rfl⟩ (by decide) (by decide) rfl (Nat.le_of_ble_eq_true rfl) dX6_minutesToEnd_20 ?_
    refine r_iconst C0 (v := 0) dX6_minutesToEnd_23 rfl ?_
    refine r_istore_n C0 (kk := 1) (lv2 := [(1, .int 0), (0, .ref (g.1 4 1664))]) (by decide) rfl dX6_minutesToEnd_24 ?_
    refine WW.sub [1, 0] rfl ?_
    exact L25   _   _ hf
  · have hf := ie_t hf q1
    refine r_iconst C0 (v := (-1)) dX6_minutesToEnd_10 rfl ?_
    exact hend hf dX6_minutesToEnd_11
theorem dX6_coinsInAll_0 : decode cX6_coinsInAll 0 = .ok (.aload_n 0, 1) := by decide +kernel
theorem dX6_coinsInAll_1 : decode cX6_coinsInAll 1 = .ok (.getfield 10, 3) := by decide +kernel
theorem dX6_coinsInAll_4 : decode cX6_coinsInAll 4 = .ok (.invokevirtual 262, 3) := by decide +kernel
theorem dX6_coinsInAll_7 : decode cX6_coinsInAll 7 = .ok (.istore_n 1, 1) := by decide +kernel
theorem dX6_coinsInAll_8 : decode cX6_coinsInAll 8 = .ok (.iconst 0, 1) := by decide +kernel
theorem dX6_coinsInAll_9 : decode cX6_coinsInAll 9 = .ok (.istore_n 2, 1) := by decide +kernel
theorem dX6_coinsInAll_10 : decode cX6_coinsInAll 10 = .ok (.iload_n 2, 1) := by decide +kernel
theorem dX6_coinsInAll_11 : decode cX6_coinsInAll 11 = .ok (.aload_n 0, 1) := by decide +kernel
theorem dX6_coinsInAll_12 : decode cX6_coinsInAll 12 = .ok (.getfield 10, 3) := by decide +kernel
theorem dX6_coinsInAll_15 : decode cX6_coinsInAll 15 = .ok (.getfield 211, 3) := by decide +kernel
theorem dX6_coinsInAll_18 : decode cX6_coinsInAll 18 = .ok (.if_icmp .ge 24, 3) := by decide +kernel
theorem dX6_coinsInAll_21 : decode cX6_coinsInAll 21 = .ok (.iload_n 1, 1) := by decide +kernel
theorem dX6_coinsInAll_22 : decode cX6_coinsInAll 22 = .ok (.aload_n 0, 1) := by decide +kernel
theorem dX6_coinsInAll_23 : decode cX6_coinsInAll 23 = .ok (.getfield 10, 3) := by decide +kernel
theorem dX6_coinsInAll_26 : decode cX6_coinsInAll 26 = .ok (.getfield 258, 3) := by decide +kernel
theorem dX6_coinsInAll_29 : decode cX6_coinsInAll 29 = .ok (.iload_n 2, 1) := by decide +kernel
theorem dX6_coinsInAll_30 : decode cX6_coinsInAll 30 = .ok (.aaload, 1) := by decide +kernel
theorem dX6_coinsInAll_31 : decode cX6_coinsInAll 31 = .ok (.getfield 221, 3) := by decide +kernel
theorem dX6_coinsInAll_34 : decode cX6_coinsInAll 34 = .ok (.iadd, 1) := by decide +kernel
theorem dX6_coinsInAll_35 : decode cX6_coinsInAll 35 = .ok (.istore_n 1, 1) := by decide +kernel
theorem dX6_coinsInAll_36 : decode cX6_coinsInAll 36 = .ok (.iinc 2 1, 3) := by decide +kernel
theorem dX6_coinsInAll_39 : decode cX6_coinsInAll 39 = .ok (.goto (-29), 3) := by decide +kernel
theorem dX6_coinsInAll_42 : decode cX6_coinsInAll 42 = .ok (.iload_n 1, 1) := by decide +kernel
theorem dX6_coinsInAll_43 : decode cX6_coinsInAll 43 = .ok (.ireturn, 1) := by decide +kernel
theorem hd_X6_coinsInAll : yX6_coinsInAll.cls = RX6 ∧ yX6_coinsInAll.cls ≠ "java/lang/invoke/MethodHandle" ∧ yX6_coinsInAll.cls ≠ "java/lang/invoke/VarHandle" ∧ (parseMethodDescriptor yX6_coinsInAll.desc).map (fun d => d.parameters.length) = some 0 := by decide +kernel
set_option maxRecDepth 100000 in
set_option maxHeartbeats 4000000 in
theorem c_X6_coinsInAll (l : Launch) (D : va_G) (g : xG) (tb : List xQ) (hT : x_T g tb)  (h0 : x_fb tb) {M : xM} {r : Int32} {M' : xM} (hf : f_X6_coinsInAll  M = some (r, M')) :
    cI l D g tb yX6_coinsInAll cX6_coinsInAll 3 .int ({ frames := 1, cells := 0, slots := 0, locals := 22 } : Room) [.ref (g.1 4 1664)] M r M' := by
  refine x_startI (own := RX6) (by decide +kernel) rfl rfl (Nat.le_of_ble_eq_true rfl) hT ?_
  intro p e s m args below meth c Q C0 hend
  have B10 : ∀ (k10 : Int32 → Int32 → xM → Option (Int32 × xM)) (hk10 : ∀ (v1 : Int32) (v2 : Int32)  (M : xM), k10 v1 v2 M = some (r, M') → WW p l e ({ frames := 1, cells := 0, slots := 0, locals := 22 } : Room) s m args below meth c 0 0 Q 3 D g tb 10 [(0, .ref (g.1 4 1664)), (1, .int v1), (2, .int v2)] [] M), ∀ (v1 : Int32) (v2 : Int32)  (M : xM), fb_X6_coinsInAll_c10 k10  v1 v2 M = some (r, M') → WW p l e ({ frames := 1, cells := 0, slots := 0, locals := 22 } : Room) s m args below meth c 0 0 Q 3 D g tb 10 [(0, .ref (g.1 4 1664)), (1, .int v1), (2, .int v2)] [] M := by
    intro k10 hk10 v1 v2  M hf
    unfold fb_X6_coinsInAll_c10 at hf
    refine r_iload_n C0 (kk := 2) 2 rfl dX6_coinsInAll_10 ?_
    refine r_aload_n C0 (kk := 0) 0 rfl dX6_coinsInAll_11 ?_
    refine r_get4 C0 h0.1 0 (by decide) (v := .ref (g.1 2 0)) rfl rfl w3_102 dX6_coinsInAll_12 ?_
    refine r_get2 C0 h0.2.1.1 3 (by decide) (v := .int (M 10)) rfl rfl w1_146 dX6_coinsInAll_15 ?_
    refine r_icmp_ge C0 (tgt := 42) (by decide) dX6_coinsInAll_18 (fun q4 => ?_) (fun q4 => ?_)
    · have hf := ie_t hf q4
      refine r_iload_n C0 (kk := 1) 1 rfl dX6_coinsInAll_42 ?_
      exact hend hf dX6_coinsInAll_43
    · have hf := ie_f hf q4
      refine r_iload_n C0 (kk := 1) 1 rfl dX6_coinsInAll_21 ?_
      refine r_aload_n C0 (kk := 0) 0 rfl dX6_coinsInAll_22 ?_
      refine r_get4 C0 h0.1 0 (by decide) (v := .ref (g.1 2 0)) rfl rfl w3_102 dX6_coinsInAll_23 ?_
      refine r_get2 C0 h0.2.1.1 2 (by decide) (v := .ref (g.1 11 77)) rfl rfl w1_143 dX6_coinsInAll_26 ?_
      refine r_iload_n C0 (kk := 2) 2 rfl dX6_coinsInAll_29 ?_
      obtain ⟨q5, hf⟩ := gd_e hf
      have hm6 : ((1, (77 + 8 * v2.toNatClampNeg), 0) : xQ) ∈ tb := h0.2.1.2.2.2.2.2 _ (inb_lt q5)
      refine r_aald11 C0 h0.2.1.2.2.1 (inb_in q5) dX6_coinsInAll_30 ?_
      refine r_get1 C0 hm6 1 (by decide) (v := .int (M ((77 + 8 * v2.toNatClampNeg) + 1))) rfl rfl w1_103 dX6_coinsInAll_31 ?_
      refine r_iadd C0 dX6_coinsInAll_34 ?_
      refine r_istore_n C0 (kk := 1) (lv2 := [(1, .int (v1 + (M ((77 + 8 * v2.toNatClampNeg) + 1)))), (0, .ref (g.1 4 1664)), (2, .int v2)]) (by decide) rfl dX6_coinsInAll_35 ?_
      refine r_iincc C0 2 rfl (k0 := 1) (by decide) (by decide) (lv2 := [(2, .int (v2 + 1)), (1, .int (v1 + (M ((77 + 8 * v2.toNatClampNeg) + 1)))), (0, .ref (g.1 4 1664))]) rfl dX6_coinsInAll_36 ?_
      refine r_goto C0 (tgt := 10) (by decide) dX6_coinsInAll_39 ?_
      refine WW.sub [2, 1, 0] rfl ?_
      exact hk10 _ _   _ hf
  have L10 : ∀ (v1 : Int32) (v2 : Int32)  (M : xM), f_X6_coinsInAll_c10   v1 v2 M = some (r, M') → WW p l e ({ frames := 1, cells := 0, slots := 0, locals := 22 } : Room) s m args below meth c 0 0 Q 3 D g tb 10 [(0, .ref (g.1 4 1664)), (1, .int v1), (2, .int v2)] [] M := lp_ind (P := fun f => ∀ (v1 : Int32) (v2 : Int32)  (M : xM), f v1 v2 M = some (r, M') → WW p l e ({ frames := 1, cells := 0, slots := 0, locals := 22 } : Room) s m args below meth c 0 0 Q 3 D g tb 10 [(0, .ref (g.1 4 1664)), (1, .int v1), (2, .int v2)] [] M) (fun _ _ _ h => none_ne h) (fun f hf => B10 f hf) FU
  unfold f_X6_coinsInAll at hf
  refine r_aload_n C0 (kk := 0) 0 rfl dX6_coinsInAll_0 ?_
  refine r_get4 C0 h0.1 0 (by decide) (v := .ref (g.1 2 0)) rfl rfl w3_102 dX6_coinsInAll_1 ?_
  obtain ⟨r3, M2, hc1, hf⟩ := bd2_e hf
  refine r_callVi C0 (As := []) (rest := []) (c_X2_earnedInAll l D g tb hT h0.2.1 hc1) w3_230 w3_231 w3_232 w1_2 w3_233 (x_rec2 C0 h0.2.1.1) hd_X2_earnedInAll rfl ⟨rfl, rfl⟩ ⟨Nat.le_of_ble_eq_true rfl, Nat.le_of_ble_eq_true rfl⟩ (by decide) (by decide) rfl (Nat.le_of_ble_eq_true rfl) dX6_coinsInAll_4 ?_
  refine r_istore_n C0 (kk := 1) (lv2 := [(1, .int r3), (0, .ref (g.1 4 1664))]) (by decide) rfl dX6_coinsInAll_7 ?_
  refine r_iconst C0 (v := 0) dX6_coinsInAll_8 rfl ?_
  refine r_istore_n C0 (kk := 2) (lv2 := [(2, .int 0), (1, .int r3), (0, .ref (g.1 4 1664))]) (by decide) rfl dX6_coinsInAll_9 ?_
  refine WW.sub [2, 1, 0] rfl ?_
  exact L10   _ _   _ hf
theorem dX6_consistencyError_0 : decode cX6_consistencyError 0 = .ok (.iconst 0, 1) := by decide +kernel
theorem dX6_consistencyError_1 : decode cX6_consistencyError 1 = .ok (.istore_n 1, 1) := by decide +kernel
theorem dX6_consistencyError_2 : decode cX6_consistencyError 2 = .ok (.iconst 0, 1) := by decide +kernel
theorem dX6_consistencyError_3 : decode cX6_consistencyError 3 = .ok (.istore_n 2, 1) := by decide +kernel
theorem dX6_consistencyError_4 : decode cX6_consistencyError 4 = .ok (.iload_n 2, 1) := by decide +kernel
theorem dX6_consistencyError_5 : decode cX6_consistencyError 5 = .ok (.aload_n 0, 1) := by decide +kernel
theorem dX6_consistencyError_6 : decode cX6_consistencyError 6 = .ok (.getfield 10, 3) := by decide +kernel
theorem dX6_consistencyError_9 : decode cX6_consistencyError 9 = .ok (.getfield 66, 3) := by decide +kernel
theorem dX6_consistencyError_12 : decode cX6_consistencyError 12 = .ok (.if_icmp .ge 57, 3) := by decide +kernel
theorem dX6_consistencyError_15 : decode cX6_consistencyError 15 = .ok (.aload_n 0, 1) := by decide +kernel
theorem dX6_consistencyError_16 : decode cX6_consistencyError 16 = .ok (.getfield 10, 3) := by decide +kernel
theorem dX6_consistencyError_19 : decode cX6_consistencyError 19 = .ok (.getfield 192, 3) := by decide +kernel
theorem dX6_consistencyError_22 : decode cX6_consistencyError 22 = .ok (.iload_n 2, 1) := by decide +kernel
theorem dX6_consistencyError_23 : decode cX6_consistencyError 23 = .ok (.aaload, 1) := by decide +kernel
theorem dX6_consistencyError_24 : decode cX6_consistencyError 24 = .ok (.astore_n 3, 1) := by decide +kernel
theorem dX6_consistencyError_25 : decode cX6_consistencyError 25 = .ok (.aload_n 3, 1) := by decide +kernel
theorem dX6_consistencyError_26 : decode cX6_consistencyError 26 = .ok (.getfield 170, 3) := by decide +kernel
theorem dX6_consistencyError_29 : decode cX6_consistencyError 29 = .ok (.aload_n 0, 1) := by decide +kernel
theorem dX6_consistencyError_30 : decode cX6_consistencyError 30 = .ok (.getfield 10, 3) := by decide +kernel
theorem dX6_consistencyError_33 : decode cX6_consistencyError 33 = .ok (.iload_n 2, 1) := by decide +kernel
theorem dX6_consistencyError_34 : decode cX6_consistencyError 34 = .ok (.invokevirtual 176, 3) := by decide +kernel
theorem dX6_consistencyError_37 : decode cX6_consistencyError 37 = .ok (.iadd, 1) := by decide +kernel
theorem dX6_consistencyError_38 : decode cX6_consistencyError 38 = .ok (.aload_n 3, 1) := by decide +kernel
theorem dX6_consistencyError_39 : decode cX6_consistencyError 39 = .ok (.getfield 179, 3) := by decide +kernel
theorem dX6_consistencyError_42 : decode cX6_consistencyError 42 = .ok (.iadd, 1) := by decide +kernel
theorem dX6_consistencyError_43 : decode cX6_consistencyError 43 = .ok (.aload_n 3, 1) := by decide +kernel
theorem dX6_consistencyError_44 : decode cX6_consistencyError 44 = .ok (.getfield 182, 3) := by decide +kernel
theorem dX6_consistencyError_47 : decode cX6_consistencyError 47 = .ok (.iadd, 1) := by decide +kernel
theorem dX6_consistencyError_48 : decode cX6_consistencyError 48 = .ok (.istore 4, 2) := by decide +kernel
theorem dX6_consistencyError_50 : decode cX6_consistencyError 50 = .ok (.iload_n 1, 1) := by decide +kernel
theorem dX6_consistencyError_51 : decode cX6_consistencyError 51 = .ok (.aload_n 3, 1) := by decide +kernel
theorem dX6_consistencyError_52 : decode cX6_consistencyError 52 = .ok (.getfield 265, 3) := by decide +kernel
theorem dX6_consistencyError_55 : decode cX6_consistencyError 55 = .ok (.iload 4, 2) := by decide +kernel
theorem dX6_consistencyError_57 : decode cX6_consistencyError 57 = .ok (.isub, 1) := by decide +kernel
theorem dX6_consistencyError_58 : decode cX6_consistencyError 58 = .ok (.invokestatic 268, 3) := by decide +kernel
theorem dX6_consistencyError_61 : decode cX6_consistencyError 61 = .ok (.iadd, 1) := by decide +kernel
theorem dX6_consistencyError_62 : decode cX6_consistencyError 62 = .ok (.istore_n 1, 1) := by decide +kernel
theorem dX6_consistencyError_63 : decode cX6_consistencyError 63 = .ok (.iinc 2 1, 3) := by decide +kernel
theorem dX6_consistencyError_66 : decode cX6_consistencyError 66 = .ok (.goto (-62), 3) := by decide +kernel
theorem dX6_consistencyError_69 : decode cX6_consistencyError 69 = .ok (.iload_n 1, 1) := by decide +kernel
theorem dX6_consistencyError_70 : decode cX6_consistencyError 70 = .ok (.ireturn, 1) := by decide +kernel
theorem hd_X6_consistencyError : yX6_consistencyError.cls = RX6 ∧ yX6_consistencyError.cls ≠ "java/lang/invoke/MethodHandle" ∧ yX6_consistencyError.cls ≠ "java/lang/invoke/VarHandle" ∧ (parseMethodDescriptor yX6_consistencyError.desc).map (fun d => d.parameters.length) = some 0 := by decide +kernel
set_option maxRecDepth 100000 in
set_option maxHeartbeats 4000000 in
theorem c_X6_consistencyError (l : Launch) (D : va_G) (g : xG) (tb : List xQ) (hT : x_T g tb)  (h0 : x_fb tb) {M : xM} {r : Int32} {M' : xM} (hf : f_X6_consistencyError  M = some (r, M')) :
    cI l D g tb yX6_consistencyError cX6_consistencyError 5 .int ({ frames := 1, cells := 0, slots := 0, locals := 23 } : Room) [.ref (g.1 4 1664)] M r M' := by
  refine x_startI (own := RX6) (by decide +kernel) rfl rfl (Nat.le_of_ble_eq_true rfl) hT ?_
  intro p e s m args below meth c Q C0 hend
  have B4 : ∀ (k4 : Int32 → Int32 → xM → Option (Int32 × xM)) (hk4 : ∀ (v1 : Int32) (v2 : Int32)  (M : xM), k4 v1 v2 M = some (r, M') → WW p l e ({ frames := 1, cells := 0, slots := 0, locals := 23 } : Room) s m args below meth c 0 0 Q 5 D g tb 4 [(0, .ref (g.1 4 1664)), (1, .int v1), (2, .int v2)] [] M), ∀ (v1 : Int32) (v2 : Int32)  (M : xM), fb_X6_consistencyError_c4 k4  v1 v2 M = some (r, M') → WW p l e ({ frames := 1, cells := 0, slots := 0, locals := 23 } : Room) s m args below meth c 0 0 Q 5 D g tb 4 [(0, .ref (g.1 4 1664)), (1, .int v1), (2, .int v2)] [] M := by
    intro k4 hk4 v1 v2  M hf
    unfold fb_X6_consistencyError_c4 at hf
    refine r_iload_n C0 (kk := 2) 2 rfl dX6_consistencyError_4 ?_
    refine r_aload_n C0 (kk := 0) 0 rfl dX6_consistencyError_5 ?_
    refine r_get4 C0 h0.1 0 (by decide) (v := .ref (g.1 2 0)) rfl rfl w3_102 dX6_consistencyError_6 ?_
    refine r_get2 C0 h0.2.1.1 1 (by decide) (v := .int (M 9)) rfl rfl w1_139 dX6_consistencyError_9 ?_
    refine r_icmp_ge C0 (tgt := 69) (by decide) dX6_consistencyError_12 (fun q1 => ?_) (fun q1 => ?_)
    · have hf := ie_t hf q1
      refine r_iload_n C0 (kk := 1) 1 rfl dX6_consistencyError_69 ?_
      exact hend hf dX6_consistencyError_70
    · have hf := ie_f hf q1
      refine r_aload_n C0 (kk := 0) 0 rfl dX6_consistencyError_15 ?_
      refine r_get4 C0 h0.1 0 (by decide) (v := .ref (g.1 2 0)) rfl rfl w3_102 dX6_consistencyError_16 ?_
      refine r_get2 C0 h0.2.1.1 0 (by decide) (v := .ref (g.1 10 23)) rfl rfl w1_137 dX6_consistencyError_19 ?_
      refine r_iload_n C0 (kk := 2) 2 rfl dX6_consistencyError_22 ?_
      obtain ⟨q2, hf⟩ := gd_e hf
      have hm3 : ((0, (23 + 9 * v2.toNatClampNeg), 0) : xQ) ∈ tb := h0.2.1.2.2.2.2.1 _ (inb_lt q2)
      refine r_aald10 C0 h0.2.1.2.1 (inb_in q2) dX6_consistencyError_23 ?_
      refine r_astore_n C0 (kk := 3) (lv2 := [(3, .ref (g.1 0 (23 + 9 * v2.toNatClampNeg))), (0, .ref (g.1 4 1664)), (1, .int v1), (2, .int v2)]) (by decide) rfl dX6_consistencyError_24 ?_
      refine r_aload_n C0 (kk := 3) 0 rfl dX6_consistencyError_25 ?_
      refine r_get0 C0 hm3 4 (by decide) (v := .int (M ((23 + 9 * v2.toNatClampNeg) + 4))) rfl rfl w1_61 dX6_consistencyError_26 ?_
      refine r_aload_n C0 (kk := 0) 1 rfl dX6_consistencyError_29 ?_
      refine r_get4 C0 h0.1 0 (by decide) (v := .ref (g.1 2 0)) rfl rfl w3_102 dX6_consistencyError_30 ?_
      refine r_iload_n C0 (kk := 2) 3 rfl dX6_consistencyError_33 ?_
      obtain ⟨r6, M5, hc4, hf⟩ := bd2_e hf
      refine r_callVi C0 (As := [.int v2]) (rest := [.int (M ((23 + 9 * v2.toNatClampNeg) + 4))]) (c_X2_countHeld l D g tb hT h0.2.1 hc4) w3_238 w3_239 w4_0 w1_2 w4_1 (x_rec2 C0 h0.2.1.1) hd_X2_countHeld rfl ⟨rfl, rfl⟩ ⟨Nat.le_of_ble_eq_true rfl, Nat.le_of_ble_eq_true rfl⟩ (by decide) (by decide) rfl (Nat.le_of_ble_eq_true rfl) dX6_consistencyError_34 ?_
      refine r_iadd C0 dX6_consistencyError_37 ?_
      refine r_aload_n C0 (kk := 3) 0 rfl dX6_consistencyError_38 ?_
      refine r_get0 C0 hm3 5 (by decide) (v := .int (M5 ((23 + 9 * v2.toNatClampNeg) + 5))) rfl rfl w1_65 dX6_consistencyError_39 ?_
      refine r_iadd C0 dX6_consistencyError_42 ?_
      refine r_aload_n C0 (kk := 3) 0 rfl dX6_consistencyError_43 ?_
      refine r_get0 C0 hm3 6 (by decide) (v := .int (M5 ((23 + 9 * v2.toNatClampNeg) + 6))) rfl rfl w1_67 dX6_consistencyError_44 ?_
      refine r_iadd C0 dX6_consistencyError_47 ?_
      refine r_istore C0 (lv2 := [(4, .int ((((M ((23 + 9 * v2.toNatClampNeg) + 4)) + r6) + (M5 ((23 + 9 * v2.toNatClampNeg) + 5))) + (M5 ((23 + 9 * v2.toNatClampNeg) + 6)))), (3, .ref (g.1 0 (23 + 9 * v2.toNatClampNeg))), (0, .ref (g.1 4 1664)), (1, .int v1), (2, .int v2)]) (by decide) rfl dX6_consistencyError_48 ?_
      refine r_iload_n C0 (kk := 1) 3 rfl dX6_consistencyError_50 ?_
      refine r_aload_n C0 (kk := 3) 1 rfl dX6_consistencyError_51 ?_
      refine r_get0 C0 hm3 8 (by decide) (v := .int (M5 ((23 + 9 * v2.toNatClampNeg) + 8))) rfl rfl w1_73 dX6_consistencyError_52 ?_
      refine r_iload C0 0 rfl dX6_consistencyError_55 ?_
      refine r_isub C0 dX6_consistencyError_57 ?_
      refine r_abs C0 w4_2 w3_50 w1_13 w3_51 (by decide) (Nat.le_of_ble_eq_true rfl) (by decide) (by decide) dX6_consistencyError_58 ?_
      refine r_iadd C0 dX6_consistencyError_61 ?_
      refine r_istore_n C0 (kk := 1) (lv2 := [(1, .int (v1 + (iabs ((M5 ((23 + 9 * v2.toNatClampNeg) + 8)) - ((((M ((23 + 9 * v2.toNatClampNeg) + 4)) + r6) + (M5 ((23 + 9 * v2.toNatClampNeg) + 5))) + (M5 ((23 + 9 * v2.toNatClampNeg) + 6))))))), (4, .int ((((M ((23 + 9 * v2.toNatClampNeg) + 4)) + r6) + (M5 ((23 + 9 * v2.toNatClampNeg) + 5))) + (M5 ((23 + 9 * v2.toNatClampNeg) + 6)))), (3, .ref (g.1 0 (23 + 9 * v2.toNatClampNeg))), (0, .ref (g.1 4 1664)), (2, .int v2)]) (by decide) rfl dX6_consistencyError_62 ?_
      refine r_iincc C0 4 rfl (k0 := 1) (by decide) (by decide) (lv2 := [(2, .int (v2 + 1)), (1, .int (v1 + (iabs ((M5 ((23 + 9 * v2.toNatClampNeg) + 8)) - ((((M ((23 + 9 * v2.toNatClampNeg) + 4)) + r6) + (M5 ((23 + 9 * v2.toNatClampNeg) + 5))) + (M5 ((23 + 9 * v2.toNatClampNeg) + 6))))))), (4, .int ((((M ((23 + 9 * v2.toNatClampNeg) + 4)) + r6) + (M5 ((23 + 9 * v2.toNatClampNeg) + 5))) + (M5 ((23 + 9 * v2.toNatClampNeg) + 6)))), (3, .ref (g.1 0 (23 + 9 * v2.toNatClampNeg))), (0, .ref (g.1 4 1664))]) rfl dX6_consistencyError_63 ?_
      refine r_goto C0 (tgt := 4) (by decide) dX6_consistencyError_66 ?_
      refine WW.sub [4, 1, 0] rfl ?_
      exact hk4 _ _   _ hf
  have L4 : ∀ (v1 : Int32) (v2 : Int32)  (M : xM), f_X6_consistencyError_c4   v1 v2 M = some (r, M') → WW p l e ({ frames := 1, cells := 0, slots := 0, locals := 23 } : Room) s m args below meth c 0 0 Q 5 D g tb 4 [(0, .ref (g.1 4 1664)), (1, .int v1), (2, .int v2)] [] M := lp_ind (P := fun f => ∀ (v1 : Int32) (v2 : Int32)  (M : xM), f v1 v2 M = some (r, M') → WW p l e ({ frames := 1, cells := 0, slots := 0, locals := 23 } : Room) s m args below meth c 0 0 Q 5 D g tb 4 [(0, .ref (g.1 4 1664)), (1, .int v1), (2, .int v2)] [] M) (fun _ _ _ h => none_ne h) (fun f hf => B4 f hf) FU
  unfold f_X6_consistencyError at hf
  refine r_iconst C0 (v := 0) dX6_consistencyError_0 rfl ?_
  refine r_istore_n C0 (kk := 1) (lv2 := [(1, .int 0), (0, .ref (g.1 4 1664))]) (by decide) rfl dX6_consistencyError_1 ?_
  refine r_iconst C0 (v := 0) dX6_consistencyError_2 rfl ?_
  refine r_istore_n C0 (kk := 2) (lv2 := [(2, .int 0), (1, .int 0), (0, .ref (g.1 4 1664))]) (by decide) rfl dX6_consistencyError_3 ?_
  refine WW.sub [2, 1, 0] rfl ?_
  exact L4   _ _   _ hf
theorem dX6_writeRope_0 : decode cX6_writeRope 0 = .ok (.iconst 0, 1) := by decide +kernel
theorem dX6_writeRope_1 : decode cX6_writeRope 1 = .ok (.istore_n 1, 1) := by decide +kernel
theorem dX6_writeRope_2 : decode cX6_writeRope 2 = .ok (.iload_n 1, 1) := by decide +kernel
theorem dX6_writeRope_3 : decode cX6_writeRope 3 = .ok (.aload_n 0, 1) := by decide +kernel
theorem dX6_writeRope_4 : decode cX6_writeRope 4 = .ok (.getfield 40, 3) := by decide +kernel
theorem dX6_writeRope_7 : decode cX6_writeRope 7 = .ok (.arraylength, 1) := by decide +kernel
theorem dX6_writeRope_8 : decode cX6_writeRope 8 = .ok (.if_icmp .ge 17, 3) := by decide +kernel
theorem dX6_writeRope_11 : decode cX6_writeRope 11 = .ok (.aload_n 0, 1) := by decide +kernel
theorem dX6_writeRope_12 : decode cX6_writeRope 12 = .ok (.getfield 40, 3) := by decide +kernel
theorem dX6_writeRope_15 : decode cX6_writeRope 15 = .ok (.iload_n 1, 1) := by decide +kernel
theorem dX6_writeRope_16 : decode cX6_writeRope 16 = .ok (.bipush 45, 2) := by decide +kernel
theorem dX6_writeRope_18 : decode cX6_writeRope 18 = .ok (.bastore, 1) := by decide +kernel
theorem dX6_writeRope_19 : decode cX6_writeRope 19 = .ok (.iinc 1 1, 3) := by decide +kernel
theorem dX6_writeRope_22 : decode cX6_writeRope 22 = .ok (.goto (-20), 3) := by decide +kernel
theorem dX6_writeRope_25 : decode cX6_writeRope 25 = .ok (.aload_n 0, 1) := by decide +kernel
theorem dX6_writeRope_26 : decode cX6_writeRope 26 = .ok (.getfield 10, 3) := by decide +kernel
theorem dX6_writeRope_29 : decode cX6_writeRope 29 = .ok (.getfield 66, 3) := by decide +kernel
theorem dX6_writeRope_32 : decode cX6_writeRope 32 = .ok (.iconst 1, 1) := by decide +kernel
theorem dX6_writeRope_33 : decode cX6_writeRope 33 = .ok (.isub, 1) := by decide +kernel
theorem dX6_writeRope_34 : decode cX6_writeRope 34 = .ok (.istore_n 1, 1) := by decide +kernel
theorem dX6_writeRope_35 : decode cX6_writeRope 35 = .ok (.iload_n 1, 1) := by decide +kernel
theorem dX6_writeRope_36 : decode cX6_writeRope 36 = .ok (.ifCond .lt 29, 3) := by decide +kernel
theorem dX6_writeRope_39 : decode cX6_writeRope 39 = .ok (.aload_n 0, 1) := by decide +kernel
theorem dX6_writeRope_40 : decode cX6_writeRope 40 = .ok (.aload_n 0, 1) := by decide +kernel
theorem dX6_writeRope_41 : decode cX6_writeRope 41 = .ok (.getfield 10, 3) := by decide +kernel
theorem dX6_writeRope_44 : decode cX6_writeRope 44 = .ok (.getfield 192, 3) := by decide +kernel
theorem dX6_writeRope_47 : decode cX6_writeRope 47 = .ok (.iload_n 1, 1) := by decide +kernel
theorem dX6_writeRope_48 : decode cX6_writeRope 48 = .ok (.aaload, 1) := by decide +kernel
theorem dX6_writeRope_49 : decode cX6_writeRope 49 = .ok (.getfield 156, 3) := by decide +kernel
theorem dX6_writeRope_52 : decode cX6_writeRope 52 = .ok (.bipush 65, 2) := by decide +kernel
theorem dX6_writeRope_54 : decode cX6_writeRope 54 = .ok (.iload_n 1, 1) := by decide +kernel
theorem dX6_writeRope_55 : decode cX6_writeRope 55 = .ok (.iadd, 1) := by decide +kernel
theorem dX6_writeRope_56 : decode cX6_writeRope 56 = .ok (.invokevirtual 331, 3) := by decide +kernel
theorem dX6_writeRope_59 : decode cX6_writeRope 59 = .ok (.iinc 1 (-1), 3) := by decide +kernel
theorem dX6_writeRope_62 : decode cX6_writeRope 62 = .ok (.goto (-27), 3) := by decide +kernel
theorem dX6_writeRope_65 : decode cX6_writeRope 65 = .ok (.aload_n 0, 1) := by decide +kernel
theorem dX6_writeRope_66 : decode cX6_writeRope 66 = .ok (.getfield 10, 3) := by decide +kernel
theorem dX6_writeRope_69 : decode cX6_writeRope 69 = .ok (.getfield 211, 3) := by decide +kernel
theorem dX6_writeRope_72 : decode cX6_writeRope 72 = .ok (.iconst 1, 1) := by decide +kernel
theorem dX6_writeRope_73 : decode cX6_writeRope 73 = .ok (.isub, 1) := by decide +kernel
theorem dX6_writeRope_74 : decode cX6_writeRope 74 = .ok (.istore_n 1, 1) := by decide +kernel
theorem dX6_writeRope_75 : decode cX6_writeRope 75 = .ok (.iload_n 1, 1) := by decide +kernel
theorem dX6_writeRope_76 : decode cX6_writeRope 76 = .ok (.ifCond .lt 29, 3) := by decide +kernel
theorem dX6_writeRope_79 : decode cX6_writeRope 79 = .ok (.aload_n 0, 1) := by decide +kernel
theorem dX6_writeRope_80 : decode cX6_writeRope 80 = .ok (.aload_n 0, 1) := by decide +kernel
theorem dX6_writeRope_81 : decode cX6_writeRope 81 = .ok (.getfield 10, 3) := by decide +kernel
theorem dX6_writeRope_84 : decode cX6_writeRope 84 = .ok (.getfield 258, 3) := by decide +kernel
theorem dX6_writeRope_87 : decode cX6_writeRope 87 = .ok (.iload_n 1, 1) := by decide +kernel
theorem dX6_writeRope_88 : decode cX6_writeRope 88 = .ok (.aaload, 1) := by decide +kernel
theorem dX6_writeRope_89 : decode cX6_writeRope 89 = .ok (.getfield 218, 3) := by decide +kernel
theorem dX6_writeRope_92 : decode cX6_writeRope 92 = .ok (.bipush 97, 2) := by decide +kernel
theorem dX6_writeRope_94 : decode cX6_writeRope 94 = .ok (.iload_n 1, 1) := by decide +kernel
theorem dX6_writeRope_95 : decode cX6_writeRope 95 = .ok (.iadd, 1) := by decide +kernel
theorem dX6_writeRope_96 : decode cX6_writeRope 96 = .ok (.invokevirtual 331, 3) := by decide +kernel
theorem dX6_writeRope_99 : decode cX6_writeRope 99 = .ok (.iinc 1 (-1), 3) := by decide +kernel
theorem dX6_writeRope_102 : decode cX6_writeRope 102 = .ok (.goto (-27), 3) := by decide +kernel
theorem dX6_writeRope_105 : decode cX6_writeRope 105 = .ok (.aload_n 0, 1) := by decide +kernel
theorem dX6_writeRope_106 : decode cX6_writeRope 106 = .ok (.aload_n 0, 1) := by decide +kernel
theorem dX6_writeRope_107 : decode cX6_writeRope 107 = .ok (.getfield 10, 3) := by decide +kernel
theorem dX6_writeRope_110 : decode cX6_writeRope 110 = .ok (.getfield 110, 3) := by decide +kernel
theorem dX6_writeRope_113 : decode cX6_writeRope 113 = .ok (.bipush 42, 2) := by decide +kernel
theorem dX6_writeRope_115 : decode cX6_writeRope 115 = .ok (.invokevirtual 331, 3) := by decide +kernel
theorem dX6_writeRope_118 : decode cX6_writeRope 118 = .ok (.aload_n 0, 1) := by decide +kernel
theorem dX6_writeRope_119 : decode cX6_writeRope 119 = .ok (.aload_n 0, 1) := by decide +kernel
theorem dX6_writeRope_120 : decode cX6_writeRope 120 = .ok (.getfield 40, 3) := by decide +kernel
theorem dX6_writeRope_123 : decode cX6_writeRope 123 = .ok (.arraylength, 1) := by decide +kernel
theorem dX6_writeRope_124 : decode cX6_writeRope 124 = .ok (.putfield 335, 3) := by decide +kernel
theorem dX6_writeRope_127 : decode cX6_writeRope 127 = .ok (.aload_n 0, 1) := by decide +kernel
theorem dX6_writeRope_128 : decode cX6_writeRope 128 = .ok (.getfield 335, 3) := by decide +kernel
theorem dX6_writeRope_131 : decode cX6_writeRope 131 = .ok (.ireturn, 1) := by decide +kernel
theorem hd_X6_writeRope : yX6_writeRope.cls = RX6 ∧ yX6_writeRope.cls ≠ "java/lang/invoke/MethodHandle" ∧ yX6_writeRope.cls ≠ "java/lang/invoke/VarHandle" ∧ (parseMethodDescriptor yX6_writeRope.desc).map (fun d => d.parameters.length) = some 0 := by decide +kernel
set_option maxRecDepth 100000 in
set_option maxHeartbeats 4000000 in
theorem c_X6_writeRope (l : Launch) (D : va_G) (g : xG) (tb : List xQ) (hT : x_T g tb)  (h0 : x_fb tb) {M : xM} {r : Int32} {M' : xM} (hf : f_X6_writeRope  M = some (r, M')) :
    cI l D g tb yX6_writeRope cX6_writeRope 2 .int ({ frames := 1, cells := 0, slots := 0, locals := 22 } : Room) [.ref (g.1 4 1664)] M r M' := by
  refine x_startI (own := RX6) (by decide +kernel) rfl rfl (Nat.le_of_ble_eq_true rfl) hT ?_
  intro p e s m args below meth c Q C0 hend
  have B75 : ∀ (k75 : Int32 → xM → Option (Int32 × xM)) (hk75 : ∀ (v1 : Int32)  (M : xM), k75 v1 M = some (r, M') → WW p l e ({ frames := 1, cells := 0, slots := 0, locals := 22 } : Room) s m args below meth c 0 0 Q 2 D g tb 75 [(0, .ref (g.1 4 1664)), (1, .int v1)] [] M), ∀ (v1 : Int32)  (M : xM), fb_X6_writeRope_c75 k75  v1 M = some (r, M') → WW p l e ({ frames := 1, cells := 0, slots := 0, locals := 22 } : Room) s m args below meth c 0 0 Q 2 D g tb 75 [(0, .ref (g.1 4 1664)), (1, .int v1)] [] M := by
    intro k75 hk75 v1  M hf
    unfold fb_X6_writeRope_c75 at hf
    refine r_iload_n C0 (kk := 1) 1 rfl dX6_writeRope_75 ?_
    refine r_if_lt C0 (tgt := 105) (by decide) dX6_writeRope_76 (fun q8 => ?_) (fun q8 => ?_)
    · have hf := ie_t hf q8
      refine r_aload_n C0 (kk := 0) 0 rfl dX6_writeRope_105 ?_
      refine r_aload_n C0 (kk := 0) 0 rfl dX6_writeRope_106 ?_
      refine r_get4 C0 h0.1 0 (by decide) (v := .ref (g.1 2 0)) rfl rfl w3_102 dX6_writeRope_107 ?_
      refine r_get2 C0 h0.2.1.1 7 (by decide) (v := .int (M 7)) rfl rfl w1_155 dX6_writeRope_110 ?_
      refine r_bipush C0 (v := 42) dX6_writeRope_113 rfl ?_
      obtain ⟨M10, hc9, hf⟩ := bd_e hf
      refine r_callVv C0 (As := [.int (M 7), .int 42]) (rest := []) (c_X6_drawOnRope l D g tb hT h0 hc9) w4_28 w4_30 wp2_8 w1_1 w4_31 (x_rec4 C0 h0.1) hd_X6_drawOnRope rfl ⟨rfl, rfl⟩ ⟨Nat.le_of_ble_eq_true rfl, Nat.le_of_ble_eq_true rfl⟩ (by decide) (by decide) rfl (Nat.le_of_ble_eq_true rfl) dX6_writeRope_115 ?_
      refine r_aload_n C0 (kk := 0) 0 rfl dX6_writeRope_118 ?_
      refine r_aload_n C0 (kk := 0) 0 rfl dX6_writeRope_119 ?_
      refine r_get4 C0 h0.1 9 (by decide) (v := .ref (g.1 7 1677)) rfl rfl w3_111 dX6_writeRope_120 ?_
      refine r_alen7 C0 h0.2.2.2.2.2.2.2.2.1 (v := 100) rfl dX6_writeRope_123 ?_
      refine r_put4 C0 h0.1 10 rfl rfl w3_112 rfl rfl rfl dX6_writeRope_124 ?_
      refine r_aload_n C0 (kk := 0) 0 rfl dX6_writeRope_127 ?_
      refine r_get4 C0 h0.1 10 (by decide) (v := .int ((upd M10 1674 100) 1674)) rfl rfl w3_112 dX6_writeRope_128 ?_
      exact hend hf dX6_writeRope_131
    · have hf := ie_f hf q8
      refine r_aload_n C0 (kk := 0) 0 rfl dX6_writeRope_79 ?_
      refine r_aload_n C0 (kk := 0) 0 rfl dX6_writeRope_80 ?_
      refine r_get4 C0 h0.1 0 (by decide) (v := .ref (g.1 2 0)) rfl rfl w3_102 dX6_writeRope_81 ?_
      refine r_get2 C0 h0.2.1.1 2 (by decide) (v := .ref (g.1 11 77)) rfl rfl w1_143 dX6_writeRope_84 ?_
      refine r_iload_n C0 (kk := 1) 1 rfl dX6_writeRope_87 ?_
      obtain ⟨q11, hf⟩ := gd_e hf
      have hm12 : ((1, (77 + 8 * v1.toNatClampNeg), 0) : xQ) ∈ tb := h0.2.1.2.2.2.2.2 _ (inb_lt q11)
      refine r_aald11 C0 h0.2.1.2.2.1 (inb_in q11) dX6_writeRope_88 ?_
      refine r_get1 C0 hm12 0 (by decide) (v := .int (M ((77 + 8 * v1.toNatClampNeg) + 0))) rfl rfl w1_101 dX6_writeRope_89 ?_
      refine r_bipush C0 (v := 97) dX6_writeRope_92 rfl ?_
      refine r_iload_n C0 (kk := 1) 1 rfl dX6_writeRope_94 ?_
      refine r_iadd C0 dX6_writeRope_95 ?_
      obtain ⟨M14, hc13, hf⟩ := bd_e hf
      refine r_callVv C0 (As := [.int (M ((77 + 8 * v1.toNatClampNeg) + 0)), .int (97 + v1)]) (rest := []) (c_X6_drawOnRope l D g tb hT h0 hc13) w4_28 w4_30 wp2_8 w1_1 w4_31 (x_rec4 C0 h0.1) hd_X6_drawOnRope rfl ⟨rfl, rfl⟩ ⟨Nat.le_of_ble_eq_true rfl, Nat.le_of_ble_eq_true rfl⟩ (by decide) (by decide) rfl (Nat.le_of_ble_eq_true rfl) dX6_writeRope_96 ?_
      refine r_iincc C0 1 rfl (k0 := (-1)) (by decide) (by decide) (lv2 := [(1, .int (v1 + (-1))), (0, .ref (g.1 4 1664))]) rfl dX6_writeRope_99 ?_
      refine r_goto C0 (tgt := 75) (by decide) dX6_writeRope_102 ?_
      refine WW.sub [1, 0] rfl ?_
      exact hk75 _   _ hf
  have L75 : ∀ (v1 : Int32)  (M : xM), f_X6_writeRope_c75   v1 M = some (r, M') → WW p l e ({ frames := 1, cells := 0, slots := 0, locals := 22 } : Room) s m args below meth c 0 0 Q 2 D g tb 75 [(0, .ref (g.1 4 1664)), (1, .int v1)] [] M := lp_ind (P := fun f => ∀ (v1 : Int32)  (M : xM), f v1 M = some (r, M') → WW p l e ({ frames := 1, cells := 0, slots := 0, locals := 22 } : Room) s m args below meth c 0 0 Q 2 D g tb 75 [(0, .ref (g.1 4 1664)), (1, .int v1)] [] M) (fun _ _ h => none_ne h) (fun f hf => B75 f hf) FU
  have B35 : ∀ (k35 : Int32 → xM → Option (Int32 × xM)) (hk35 : ∀ (v1 : Int32)  (M : xM), k35 v1 M = some (r, M') → WW p l e ({ frames := 1, cells := 0, slots := 0, locals := 22 } : Room) s m args below meth c 0 0 Q 2 D g tb 35 [(0, .ref (g.1 4 1664)), (1, .int v1)] [] M), ∀ (v1 : Int32)  (M : xM), fb_X6_writeRope_c35 k35  v1 M = some (r, M') → WW p l e ({ frames := 1, cells := 0, slots := 0, locals := 22 } : Room) s m args below meth c 0 0 Q 2 D g tb 35 [(0, .ref (g.1 4 1664)), (1, .int v1)] [] M := by
    intro k35 hk35 v1  M hf
    unfold fb_X6_writeRope_c35 at hf
    refine r_iload_n C0 (kk := 1) 1 rfl dX6_writeRope_35 ?_
    refine r_if_lt C0 (tgt := 65) (by decide) dX6_writeRope_36 (fun q3 => ?_) (fun q3 => ?_)
    · have hf := ie_t hf q3
      refine r_aload_n C0 (kk := 0) 0 rfl dX6_writeRope_65 ?_
      refine r_get4 C0 h0.1 0 (by decide) (v := .ref (g.1 2 0)) rfl rfl w3_102 dX6_writeRope_66 ?_
      refine r_get2 C0 h0.2.1.1 3 (by decide) (v := .int (M 10)) rfl rfl w1_146 dX6_writeRope_69 ?_
      refine r_iconst C0 (v := 1) dX6_writeRope_72 rfl ?_
      refine r_isub C0 dX6_writeRope_73 ?_
      refine r_istore_n C0 (kk := 1) (lv2 := [(1, .int ((M 10) - 1)), (0, .ref (g.1 4 1664))]) (by decide) rfl dX6_writeRope_74 ?_
      refine WW.sub [1, 0] rfl ?_
      exact L75   _   _ hf
    · have hf := ie_f hf q3
      refine r_aload_n C0 (kk := 0) 0 rfl dX6_writeRope_39 ?_
      refine r_aload_n C0 (kk := 0) 0 rfl dX6_writeRope_40 ?_
      refine r_get4 C0 h0.1 0 (by decide) (v := .ref (g.1 2 0)) rfl rfl w3_102 dX6_writeRope_41 ?_
      refine r_get2 C0 h0.2.1.1 0 (by decide) (v := .ref (g.1 10 23)) rfl rfl w1_137 dX6_writeRope_44 ?_
      refine r_iload_n C0 (kk := 1) 1 rfl dX6_writeRope_47 ?_
      obtain ⟨q4, hf⟩ := gd_e hf
      have hm5 : ((0, (23 + 9 * v1.toNatClampNeg), 0) : xQ) ∈ tb := h0.2.1.2.2.2.2.1 _ (inb_lt q4)
      refine r_aald10 C0 h0.2.1.2.1 (inb_in q4) dX6_writeRope_48 ?_
      refine r_get0 C0 hm5 0 (by decide) (v := .int (M ((23 + 9 * v1.toNatClampNeg) + 0))) rfl rfl w1_47 dX6_writeRope_49 ?_
      refine r_bipush C0 (v := 65) dX6_writeRope_52 rfl ?_
      refine r_iload_n C0 (kk := 1) 1 rfl dX6_writeRope_54 ?_
      refine r_iadd C0 dX6_writeRope_55 ?_
      obtain ⟨M7, hc6, hf⟩ := bd_e hf
      refine r_callVv C0 (As := [.int (M ((23 + 9 * v1.toNatClampNeg) + 0)), .int (65 + v1)]) (rest := []) (c_X6_drawOnRope l D g tb hT h0 hc6) w4_28 w4_30 wp2_8 w1_1 w4_31 (x_rec4 C0 h0.1) hd_X6_drawOnRope rfl ⟨rfl, rfl⟩ ⟨Nat.le_of_ble_eq_true rfl, Nat.le_of_ble_eq_true rfl⟩ (by decide) (by decide) rfl (Nat.le_of_ble_eq_true rfl) dX6_writeRope_56 ?_
      refine r_iincc C0 1 rfl (k0 := (-1)) (by decide) (by decide) (lv2 := [(1, .int (v1 + (-1))), (0, .ref (g.1 4 1664))]) rfl dX6_writeRope_59 ?_
      refine r_goto C0 (tgt := 35) (by decide) dX6_writeRope_62 ?_
      refine WW.sub [1, 0] rfl ?_
      exact hk35 _   _ hf
  have L35 : ∀ (v1 : Int32)  (M : xM), f_X6_writeRope_c35   v1 M = some (r, M') → WW p l e ({ frames := 1, cells := 0, slots := 0, locals := 22 } : Room) s m args below meth c 0 0 Q 2 D g tb 35 [(0, .ref (g.1 4 1664)), (1, .int v1)] [] M := lp_ind (P := fun f => ∀ (v1 : Int32)  (M : xM), f v1 M = some (r, M') → WW p l e ({ frames := 1, cells := 0, slots := 0, locals := 22 } : Room) s m args below meth c 0 0 Q 2 D g tb 35 [(0, .ref (g.1 4 1664)), (1, .int v1)] [] M) (fun _ _ h => none_ne h) (fun f hf => B35 f hf) FU
  have B2 : ∀ (k2 : Int32 → xM → Option (Int32 × xM)) (hk2 : ∀ (v1 : Int32)  (M : xM), k2 v1 M = some (r, M') → WW p l e ({ frames := 1, cells := 0, slots := 0, locals := 22 } : Room) s m args below meth c 0 0 Q 2 D g tb 2 [(0, .ref (g.1 4 1664)), (1, .int v1)] [] M), ∀ (v1 : Int32)  (M : xM), fb_X6_writeRope_c2 k2  v1 M = some (r, M') → WW p l e ({ frames := 1, cells := 0, slots := 0, locals := 22 } : Room) s m args below meth c 0 0 Q 2 D g tb 2 [(0, .ref (g.1 4 1664)), (1, .int v1)] [] M := by
    intro k2 hk2 v1  M hf
    unfold fb_X6_writeRope_c2 at hf
    refine r_iload_n C0 (kk := 1) 1 rfl dX6_writeRope_2 ?_
    refine r_aload_n C0 (kk := 0) 0 rfl dX6_writeRope_3 ?_
    refine r_get4 C0 h0.1 9 (by decide) (v := .ref (g.1 7 1677)) rfl rfl w3_111 dX6_writeRope_4 ?_
    refine r_alen7 C0 h0.2.2.2.2.2.2.2.2.1 (v := 100) rfl dX6_writeRope_7 ?_
    refine r_icmp_ge C0 (tgt := 25) (by decide) dX6_writeRope_8 (fun q1 => ?_) (fun q1 => ?_)
    · have hf := ie_t hf q1
      refine r_aload_n C0 (kk := 0) 0 rfl dX6_writeRope_25 ?_
      refine r_get4 C0 h0.1 0 (by decide) (v := .ref (g.1 2 0)) rfl rfl w3_102 dX6_writeRope_26 ?_
      refine r_get2 C0 h0.2.1.1 1 (by decide) (v := .int (M 9)) rfl rfl w1_139 dX6_writeRope_29 ?_
      refine r_iconst C0 (v := 1) dX6_writeRope_32 rfl ?_
      refine r_isub C0 dX6_writeRope_33 ?_
      refine r_istore_n C0 (kk := 1) (lv2 := [(1, .int ((M 9) - 1)), (0, .ref (g.1 4 1664))]) (by decide) rfl dX6_writeRope_34 ?_
      refine WW.sub [1, 0] rfl ?_
      exact L35   _   _ hf
    · have hf := ie_f hf q1
      refine r_aload_n C0 (kk := 0) 0 rfl dX6_writeRope_11 ?_
      refine r_get4 C0 h0.1 9 (by decide) (v := .ref (g.1 7 1677)) rfl rfl w3_111 dX6_writeRope_12 ?_
      refine r_iload_n C0 (kk := 1) 1 rfl dX6_writeRope_15 ?_
      refine r_bipush C0 (v := 45) dX6_writeRope_16 rfl ?_
      obtain ⟨q2, hf⟩ := gd_e hf
      refine r_bastc C0 h0.2.2.2.2.2.2.2.2.1 q2 rfl dX6_writeRope_18 ?_
      refine r_iincc C0 1 rfl (k0 := 1) (by decide) (by decide) (lv2 := [(1, .int (v1 + 1)), (0, .ref (g.1 4 1664))]) rfl dX6_writeRope_19 ?_
      refine r_goto C0 (tgt := 2) (by decide) dX6_writeRope_22 ?_
      refine WW.sub [1, 0] rfl ?_
      exact hk2 _   _ hf
  have L2 : ∀ (v1 : Int32)  (M : xM), f_X6_writeRope_c2   v1 M = some (r, M') → WW p l e ({ frames := 1, cells := 0, slots := 0, locals := 22 } : Room) s m args below meth c 0 0 Q 2 D g tb 2 [(0, .ref (g.1 4 1664)), (1, .int v1)] [] M := lp_ind (P := fun f => ∀ (v1 : Int32)  (M : xM), f v1 M = some (r, M') → WW p l e ({ frames := 1, cells := 0, slots := 0, locals := 22 } : Room) s m args below meth c 0 0 Q 2 D g tb 2 [(0, .ref (g.1 4 1664)), (1, .int v1)] [] M) (fun _ _ h => none_ne h) (fun f hf => B2 f hf) FU
  unfold f_X6_writeRope at hf
  refine r_iconst C0 (v := 0) dX6_writeRope_0 rfl ?_
  refine r_istore_n C0 (kk := 1) (lv2 := [(1, .int 0), (0, .ref (g.1 4 1664))]) (by decide) rfl dX6_writeRope_1 ?_
  refine WW.sub [1, 0] rfl ?_
  exact L2   _   _ hf
theorem dX6_fogIn_0 : decode cX6_fogIn 0 = .ok (.iload_n 1, 1) := by decide +kernel
theorem dX6_fogIn_1 : decode cX6_fogIn 1 = .ok (.iconst 0, 1) := by decide +kernel
theorem dX6_fogIn_2 : decode cX6_fogIn 2 = .ok (.ldc 122, 2) := by decide +kernel
theorem dX6_fogIn_4 : decode cX6_fogIn 4 = .ok (.invokestatic 123, 3) := by decide +kernel
theorem dX6_fogIn_7 : decode cX6_fogIn 7 = .ok (.aload_n 0, 1) := by decide +kernel
theorem dX6_fogIn_8 : decode cX6_fogIn 8 = .ok (.getfield 10, 3) := by decide +kernel
theorem dX6_fogIn_11 : decode cX6_fogIn 11 = .ok (.iload_n 1, 1) := by decide +kernel
theorem dX6_fogIn_12 : decode cX6_fogIn 12 = .ok (.invokevirtual 127, 3) := by decide +kernel
theorem dX6_fogIn_15 : decode cX6_fogIn 15 = .ok (.ireturn, 1) := by decide +kernel
theorem hd_X6_fogIn : yX6_fogIn.cls = RX6 ∧ yX6_fogIn.cls ≠ "java/lang/invoke/MethodHandle" ∧ yX6_fogIn.cls ≠ "java/lang/invoke/VarHandle" ∧ (parseMethodDescriptor yX6_fogIn.desc).map (fun d => d.parameters.length) = some 1 := by decide +kernel
set_option maxRecDepth 100000 in
set_option maxHeartbeats 4000000 in
theorem c_X6_fogIn (l : Launch) (D : va_G) (g : xG) (tb : List xQ) (hT : x_T g tb) (hlst : l.stackTraces = false) {a1 : Int32} (h0 : x_fb tb) {M : xM} {k : Nat} {r : Int32} {M' : xM} (hf : f_X6_fogIn a1 M = some (k, r, M')) :
    tI l D g tb yX6_fogIn cX6_fogIn 2 .int ({ frames := 7, cells := 1, slots := 6, locals := 104 } : Room) 1 [.ref (g.1 4 1664), .int a1] M k r M' := by
  refine x_tstartI (own := RX6) (r := r) (by decide +kernel) rfl rfl (Nat.le_of_ble_eq_true rfl) hT ?_
  intro p e s m args below meth c Q C0 hend hpr hthr
  unfold f_X6_fogIn at hf
  refine r_iload_n C0 (kk := 1) 1 rfl dX6_fogIn_0 ?_
  refine r_iconst C0 (v := 0) dX6_fogIn_1 rfl ?_
  refine r_ldc C0 w4_44 dX6_fogIn_2 ?_
  obtain ⟨k2, r4, M3, hc1, hx5, hf⟩ := tbd_e hf
  refine r_tcallSv C0 (As := [.int a1, .int 0, .int 99999]) (rest := []) (c_X6_checkRange l D g tb hT hlst  hc1) w4_45 w4_46 w1_1 w4_47 hd_X6_checkRange rfl ⟨rfl, rfl⟩ ⟨Nat.le_of_ble_eq_true rfl, Nat.le_of_ble_eq_true rfl⟩ (by decide) (by decide) rfl (Nat.le_of_ble_eq_true rfl) dX6_fogIn_4 (fun H1 locs1 ls E ce q hk hE hH hS hl h1 h2 h3 => hpr (by decide) (by decide) hk hE hH hS h1 h2 h3 (hx5 hk)) (fun hk => ?_)
  have hf := hf hk
  refine r_aload_n C0 (kk := 0) 0 rfl dX6_fogIn_7 ?_
  refine r_get4 C0 h0.1 0 (by decide) (v := .ref (g.1 2 0)) rfl rfl w3_102 dX6_fogIn_8 ?_
  refine r_iload_n C0 (kk := 1) 1 rfl dX6_fogIn_11 ?_
  obtain ⟨r9, M8, hc7, hf⟩ := bd2_e hf
  refine r_callVi C0 (As := [.int a1]) (rest := []) (c_X2_densityIn l D g tb hT h0.2.1 hc7) w4_116 w3_25 w3_26 w1_2 w3_27 (x_rec2 C0 h0.2.1.1) hd_X2_densityIn rfl ⟨rfl, rfl⟩ ⟨Nat.le_of_ble_eq_true rfl, Nat.le_of_ble_eq_true rfl⟩ (by decide) (by decide) rfl (Nat.le_of_ble_eq_true rfl) dX6_fogIn_12 ?_
  exact hend (by decide) (by decide) hf dX6_fogIn_15
theorem dX6_stallAt_0 : decode cX6_stallAt 0 = .ok (.aload_n 0, 1) := by decide +kernel
theorem dX6_stallAt_1 : decode cX6_stallAt 1 = .ok (.iload_n 1, 1) := by decide +kernel
theorem dX6_stallAt_2 : decode cX6_stallAt 2 = .ok (.invokevirtual 173, 3) := by decide +kernel
theorem dX6_stallAt_5 : decode cX6_stallAt 5 = .ok (.aload_n 0, 1) := by decide +kernel
theorem dX6_stallAt_6 : decode cX6_stallAt 6 = .ok (.getfield 10, 3) := by decide +kernel
theorem dX6_stallAt_9 : decode cX6_stallAt 9 = .ok (.getfield 192, 3) := by decide +kernel
theorem dX6_stallAt_12 : decode cX6_stallAt 12 = .ok (.iload_n 1, 1) := by decide +kernel
theorem dX6_stallAt_13 : decode cX6_stallAt 13 = .ok (.aaload, 1) := by decide +kernel
theorem dX6_stallAt_14 : decode cX6_stallAt 14 = .ok (.areturn, 1) := by decide +kernel
theorem hd_X6_stallAt : yX6_stallAt.cls = RX6 ∧ yX6_stallAt.cls ≠ "java/lang/invoke/MethodHandle" ∧ yX6_stallAt.cls ≠ "java/lang/invoke/VarHandle" ∧ (parseMethodDescriptor yX6_stallAt.desc).map (fun d => d.parameters.length) = some 1 := by decide +kernel
set_option maxRecDepth 100000 in
set_option maxHeartbeats 4000000 in
theorem c_X6_stallAt (l : Launch) (D : va_G) (g : xG) (tb : List xQ) (hT : x_T g tb) (hlst : l.stackTraces = false) {a1 : Int32} (h0 : x_fb tb) {M : xM} {k : Nat} {r : Nat} {M' : xM} (hf : f_X6_stallAt a1 M = some (k, r, M')) :
    tR l D g tb yX6_stallAt cX6_stallAt 2 (FieldType.object "FogBellMarket$Stall") 0 ({ frames := 7, cells := 1, slots := 6, locals := 103 } : Room) 1 [.ref (g.1 4 1664), .int a1] M k r M' := by
  refine x_tstartR (own := RX6) (r := r) (by decide +kernel) rfl rfl (Nat.le_of_ble_eq_true rfl) hT ?_
  intro p e s m args below meth c Q C0 hend hpr hthr
  unfold f_X6_stallAt at hf
  refine r_aload_n C0 (kk := 0) 0 rfl dX6_stallAt_0 ?_
  refine r_iload_n C0 (kk := 1) 1 rfl dX6_stallAt_1 ?_
  obtain ⟨k2, r4, M3, hc1, hx5, hf⟩ := tbd_e hf
  refine r_tcallVv C0 (As := [.int a1]) (rest := []) (c_X6_checkStall l D g tb hT hlst h0 hc1) w4_129 w4_131 wp2_11 w1_1 w4_132 (x_rec4 C0 h0.1) hd_X6_checkStall rfl ⟨rfl, rfl⟩ ⟨Nat.le_of_ble_eq_true rfl, Nat.le_of_ble_eq_true rfl⟩ (by decide) (by decide) rfl (Nat.le_of_ble_eq_true rfl) dX6_stallAt_2 (fun H1 locs1 ls E ce q hk hE hH hS hl h1 h2 h3 => hpr (by decide) (by decide) hk hE hH hS h1 h2 h3 (hx5 hk)) (fun hk => ?_)
  have hf := hf hk
  refine r_aload_n C0 (kk := 0) 0 rfl dX6_stallAt_5 ?_
  refine r_get4 C0 h0.1 0 (by decide) (v := .ref (g.1 2 0)) rfl rfl w3_102 dX6_stallAt_6 ?_
  refine r_get2 C0 h0.2.1.1 0 (by decide) (v := .ref (g.1 10 23)) rfl rfl w1_137 dX6_stallAt_9 ?_
  refine r_iload_n C0 (kk := 1) 1 rfl dX6_stallAt_12 ?_
  obtain ⟨q7, hf⟩ := gd_e hf
  have hm8 : ((0, (23 + 9 * a1.toNatClampNeg), 0) : xQ) ∈ tb := h0.2.1.2.2.2.2.1 _ (inb_lt q7)
  refine r_aald10 C0 h0.2.1.2.1 (inb_in q7) dX6_stallAt_13 ?_
  exact hend hm8 (by decide) (by decide) hf dX6_stallAt_14
theorem dX6_lanternOf_0 : decode cX6_lanternOf 0 = .ok (.aload_n 0, 1) := by decide +kernel
theorem dX6_lanternOf_1 : decode cX6_lanternOf 1 = .ok (.iload_n 1, 1) := by decide +kernel
theorem dX6_lanternOf_2 : decode cX6_lanternOf 2 = .ok (.invokevirtual 152, 3) := by decide +kernel
theorem dX6_lanternOf_5 : decode cX6_lanternOf 5 = .ok (.getfield 161, 3) := by decide +kernel
theorem dX6_lanternOf_8 : decode cX6_lanternOf 8 = .ok (.ireturn, 1) := by decide +kernel
theorem hd_X6_lanternOf : yX6_lanternOf.cls = RX6 ∧ yX6_lanternOf.cls ≠ "java/lang/invoke/MethodHandle" ∧ yX6_lanternOf.cls ≠ "java/lang/invoke/VarHandle" ∧ (parseMethodDescriptor yX6_lanternOf.desc).map (fun d => d.parameters.length) = some 1 := by decide +kernel
set_option maxRecDepth 100000 in
set_option maxHeartbeats 4000000 in
theorem c_X6_lanternOf (l : Launch) (D : va_G) (g : xG) (tb : List xQ) (hT : x_T g tb) (hlst : l.stackTraces = false) {a1 : Int32} (h0 : x_fb tb) {M : xM} {k : Nat} {r : Int32} {M' : xM} (hf : f_X6_lanternOf a1 M = some (k, r, M')) :
    tI l D g tb yX6_lanternOf cX6_lanternOf 2 .int ({ frames := 8, cells := 1, slots := 6, locals := 124 } : Room) 1 [.ref (g.1 4 1664), .int a1] M k r M' := by
  refine x_tstartI (own := RX6) (r := r) (by decide +kernel) rfl rfl (Nat.le_of_ble_eq_true rfl) hT ?_
  intro p e s m args below meth c Q C0 hend hpr hthr
  unfold f_X6_lanternOf at hf
  refine r_aload_n C0 (kk := 0) 0 rfl dX6_lanternOf_0 ?_
  refine r_iload_n C0 (kk := 1) 1 rfl dX6_lanternOf_1 ?_
  obtain ⟨k2, r4, M3, hc1, hx5, hf⟩ := tbd_e hf
  refine r_tcallVr C0 (As := [.int a1]) (rest := []) (c_X6_stallAt l D g tb hT hlst h0 hc1) w4_125 w4_127 wp2_10 w1_1 w4_128 (x_rec4 C0 h0.1) hd_X6_stallAt rfl ⟨rfl, rfl⟩ ⟨Nat.le_of_ble_eq_true rfl, Nat.le_of_ble_eq_true rfl⟩ (by decide) (by decide) rfl (Nat.le_of_ble_eq_true rfl) dX6_lanternOf_2 (fun H1 locs1 ls E ce q hk hE hH hS hl h1 h2 h3 => hpr (by decide) (by decide) hk hE hH hS h1 h2 h3 (hx5 hk)) (fun hm6 hk => ?_)
  have hf := hf hk
  refine r_get0 C0 hm6 1 (by decide) (v := .int (M3 (r4 + 1))) rfl rfl w1_50 dX6_lanternOf_5 ?_
  exact hend (by decide) (by decide) hf dX6_lanternOf_8
theorem dX6_textureOf_0 : decode cX6_textureOf 0 = .ok (.aload_n 0, 1) := by decide +kernel
theorem dX6_textureOf_1 : decode cX6_textureOf 1 = .ok (.iload_n 1, 1) := by decide +kernel
theorem dX6_textureOf_2 : decode cX6_textureOf 2 = .ok (.invokevirtual 152, 3) := by decide +kernel
theorem dX6_textureOf_5 : decode cX6_textureOf 5 = .ok (.getfield 164, 3) := by decide +kernel
theorem dX6_textureOf_8 : decode cX6_textureOf 8 = .ok (.ireturn, 1) := by decide +kernel
theorem hd_X6_textureOf : yX6_textureOf.cls = RX6 ∧ yX6_textureOf.cls ≠ "java/lang/invoke/MethodHandle" ∧ yX6_textureOf.cls ≠ "java/lang/invoke/VarHandle" ∧ (parseMethodDescriptor yX6_textureOf.desc).map (fun d => d.parameters.length) = some 1 := by decide +kernel
set_option maxRecDepth 100000 in
set_option maxHeartbeats 4000000 in
theorem c_X6_textureOf (l : Launch) (D : va_G) (g : xG) (tb : List xQ) (hT : x_T g tb) (hlst : l.stackTraces = false) {a1 : Int32} (h0 : x_fb tb) {M : xM} {k : Nat} {r : Int32} {M' : xM} (hf : f_X6_textureOf a1 M = some (k, r, M')) :
    tI l D g tb yX6_textureOf cX6_textureOf 2 .int ({ frames := 8, cells := 1, slots := 6, locals := 124 } : Room) 1 [.ref (g.1 4 1664), .int a1] M k r M' := by
  refine x_tstartI (own := RX6) (r := r) (by decide +kernel) rfl rfl (Nat.le_of_ble_eq_true rfl) hT ?_
  intro p e s m args below meth c Q C0 hend hpr hthr
  unfold f_X6_textureOf at hf
  refine r_aload_n C0 (kk := 0) 0 rfl dX6_textureOf_0 ?_
  refine r_iload_n C0 (kk := 1) 1 rfl dX6_textureOf_1 ?_
  obtain ⟨k2, r4, M3, hc1, hx5, hf⟩ := tbd_e hf
  refine r_tcallVr C0 (As := [.int a1]) (rest := []) (c_X6_stallAt l D g tb hT hlst h0 hc1) w4_125 w4_127 wp2_10 w1_1 w4_128 (x_rec4 C0 h0.1) hd_X6_stallAt rfl ⟨rfl, rfl⟩ ⟨Nat.le_of_ble_eq_true rfl, Nat.le_of_ble_eq_true rfl⟩ (by decide) (by decide) rfl (Nat.le_of_ble_eq_true rfl) dX6_textureOf_2 (fun H1 locs1 ls E ce q hk hE hH hS hl h1 h2 h3 => hpr (by decide) (by decide) hk hE hH hS h1 h2 h3 (hx5 hk)) (fun hm6 hk => ?_)
  have hf := hf hk
  refine r_get0 C0 hm6 2 (by decide) (v := .int (M3 (r4 + 2))) rfl rfl w1_53 dX6_textureOf_5 ?_
  exact hend (by decide) (by decide) hf dX6_textureOf_8
theorem dX6_priceOf_0 : decode cX6_priceOf 0 = .ok (.aload_n 0, 1) := by decide +kernel
theorem dX6_priceOf_1 : decode cX6_priceOf 1 = .ok (.iload_n 1, 1) := by decide +kernel
theorem dX6_priceOf_2 : decode cX6_priceOf 2 = .ok (.invokevirtual 152, 3) := by decide +kernel
theorem dX6_priceOf_5 : decode cX6_priceOf 5 = .ok (.getfield 167, 3) := by decide +kernel
theorem dX6_priceOf_8 : decode cX6_priceOf 8 = .ok (.ireturn, 1) := by decide +kernel
theorem hd_X6_priceOf : yX6_priceOf.cls = RX6 ∧ yX6_priceOf.cls ≠ "java/lang/invoke/MethodHandle" ∧ yX6_priceOf.cls ≠ "java/lang/invoke/VarHandle" ∧ (parseMethodDescriptor yX6_priceOf.desc).map (fun d => d.parameters.length) = some 1 := by decide +kernel
set_option maxRecDepth 100000 in
set_option maxHeartbeats 4000000 in
theorem c_X6_priceOf (l : Launch) (D : va_G) (g : xG) (tb : List xQ) (hT : x_T g tb) (hlst : l.stackTraces = false) {a1 : Int32} (h0 : x_fb tb) {M : xM} {k : Nat} {r : Int32} {M' : xM} (hf : f_X6_priceOf a1 M = some (k, r, M')) :
    tI l D g tb yX6_priceOf cX6_priceOf 2 .int ({ frames := 8, cells := 1, slots := 6, locals := 124 } : Room) 1 [.ref (g.1 4 1664), .int a1] M k r M' := by
  refine x_tstartI (own := RX6) (r := r) (by decide +kernel) rfl rfl (Nat.le_of_ble_eq_true rfl) hT ?_
  intro p e s m args below meth c Q C0 hend hpr hthr
  unfold f_X6_priceOf at hf
  refine r_aload_n C0 (kk := 0) 0 rfl dX6_priceOf_0 ?_
  refine r_iload_n C0 (kk := 1) 1 rfl dX6_priceOf_1 ?_
  obtain ⟨k2, r4, M3, hc1, hx5, hf⟩ := tbd_e hf
  refine r_tcallVr C0 (As := [.int a1]) (rest := []) (c_X6_stallAt l D g tb hT hlst h0 hc1) w4_125 w4_127 wp2_10 w1_1 w4_128 (x_rec4 C0 h0.1) hd_X6_stallAt rfl ⟨rfl, rfl⟩ ⟨Nat.le_of_ble_eq_true rfl, Nat.le_of_ble_eq_true rfl⟩ (by decide) (by decide) rfl (Nat.le_of_ble_eq_true rfl) dX6_priceOf_2 (fun H1 locs1 ls E ce q hk hE hH hS hl h1 h2 h3 => hpr (by decide) (by decide) hk hE hH hS h1 h2 h3 (hx5 hk)) (fun hm6 hk => ?_)
  have hf := hf hk
  refine r_get0 C0 hm6 3 (by decide) (v := .int (M3 (r4 + 3))) rfl rfl w1_57 dX6_priceOf_5 ?_
  exact hend (by decide) (by decide) hf dX6_priceOf_8
theorem dX6_stockOf_0 : decode cX6_stockOf 0 = .ok (.aload_n 0, 1) := by decide +kernel
theorem dX6_stockOf_1 : decode cX6_stockOf 1 = .ok (.iload_n 1, 1) := by decide +kernel
theorem dX6_stockOf_2 : decode cX6_stockOf 2 = .ok (.invokevirtual 152, 3) := by decide +kernel
theorem dX6_stockOf_5 : decode cX6_stockOf 5 = .ok (.getfield 170, 3) := by decide +kernel
theorem dX6_stockOf_8 : decode cX6_stockOf 8 = .ok (.ireturn, 1) := by decide +kernel
theorem hd_X6_stockOf : yX6_stockOf.cls = RX6 ∧ yX6_stockOf.cls ≠ "java/lang/invoke/MethodHandle" ∧ yX6_stockOf.cls ≠ "java/lang/invoke/VarHandle" ∧ (parseMethodDescriptor yX6_stockOf.desc).map (fun d => d.parameters.length) = some 1 := by decide +kernel
set_option maxRecDepth 100000 in
set_option maxHeartbeats 4000000 in
theorem c_X6_stockOf (l : Launch) (D : va_G) (g : xG) (tb : List xQ) (hT : x_T g tb) (hlst : l.stackTraces = false) {a1 : Int32} (h0 : x_fb tb) {M : xM} {k : Nat} {r : Int32} {M' : xM} (hf : f_X6_stockOf a1 M = some (k, r, M')) :
    tI l D g tb yX6_stockOf cX6_stockOf 2 .int ({ frames := 8, cells := 1, slots := 6, locals := 124 } : Room) 1 [.ref (g.1 4 1664), .int a1] M k r M' := by
  refine x_tstartI (own := RX6) (r := r) (by decide +kernel) rfl rfl (Nat.le_of_ble_eq_true rfl) hT ?_
  intro p e s m args below meth c Q C0 hend hpr hthr
  unfold f_X6_stockOf at hf
  refine r_aload_n C0 (kk := 0) 0 rfl dX6_stockOf_0 ?_
  refine r_iload_n C0 (kk := 1) 1 rfl dX6_stockOf_1 ?_
  obtain ⟨k2, r4, M3, hc1, hx5, hf⟩ := tbd_e hf
  refine r_tcallVr C0 (As := [.int a1]) (rest := []) (c_X6_stallAt l D g tb hT hlst h0 hc1) w4_125 w4_127 wp2_10 w1_1 w4_128 (x_rec4 C0 h0.1) hd_X6_stallAt rfl ⟨rfl, rfl⟩ ⟨Nat.le_of_ble_eq_true rfl, Nat.le_of_ble_eq_true rfl⟩ (by decide) (by decide) rfl (Nat.le_of_ble_eq_true rfl) dX6_stockOf_2 (fun H1 locs1 ls E ce q hk hE hH hS hl h1 h2 h3 => hpr (by decide) (by decide) hk hE hH hS h1 h2 h3 (hx5 hk)) (fun hm6 hk => ?_)
  have hf := hf hk
  refine r_get0 C0 hm6 4 (by decide) (v := .int (M3 (r4 + 4))) rfl rfl w1_61 dX6_stockOf_5 ?_
  exact hend (by decide) (by decide) hf dX6_stockOf_8
theorem dX6_soldOf_0 : decode cX6_soldOf 0 = .ok (.aload_n 0, 1) := by decide +kernel
theorem dX6_soldOf_1 : decode cX6_soldOf 1 = .ok (.iload_n 1, 1) := by decide +kernel
theorem dX6_soldOf_2 : decode cX6_soldOf 2 = .ok (.invokevirtual 152, 3) := by decide +kernel
theorem dX6_soldOf_5 : decode cX6_soldOf 5 = .ok (.getfield 179, 3) := by decide +kernel
theorem dX6_soldOf_8 : decode cX6_soldOf 8 = .ok (.ireturn, 1) := by decide +kernel
theorem hd_X6_soldOf : yX6_soldOf.cls = RX6 ∧ yX6_soldOf.cls ≠ "java/lang/invoke/MethodHandle" ∧ yX6_soldOf.cls ≠ "java/lang/invoke/VarHandle" ∧ (parseMethodDescriptor yX6_soldOf.desc).map (fun d => d.parameters.length) = some 1 := by decide +kernel
set_option maxRecDepth 100000 in
set_option maxHeartbeats 4000000 in
theorem c_X6_soldOf (l : Launch) (D : va_G) (g : xG) (tb : List xQ) (hT : x_T g tb) (hlst : l.stackTraces = false) {a1 : Int32} (h0 : x_fb tb) {M : xM} {k : Nat} {r : Int32} {M' : xM} (hf : f_X6_soldOf a1 M = some (k, r, M')) :
    tI l D g tb yX6_soldOf cX6_soldOf 2 .int ({ frames := 8, cells := 1, slots := 6, locals := 124 } : Room) 1 [.ref (g.1 4 1664), .int a1] M k r M' := by
  refine x_tstartI (own := RX6) (r := r) (by decide +kernel) rfl rfl (Nat.le_of_ble_eq_true rfl) hT ?_
  intro p e s m args below meth c Q C0 hend hpr hthr
  unfold f_X6_soldOf at hf
  refine r_aload_n C0 (kk := 0) 0 rfl dX6_soldOf_0 ?_
  refine r_iload_n C0 (kk := 1) 1 rfl dX6_soldOf_1 ?_
  obtain ⟨k2, r4, M3, hc1, hx5, hf⟩ := tbd_e hf
  refine r_tcallVr C0 (As := [.int a1]) (rest := []) (c_X6_stallAt l D g tb hT hlst h0 hc1) w4_125 w4_127 wp2_10 w1_1 w4_128 (x_rec4 C0 h0.1) hd_X6_stallAt rfl ⟨rfl, rfl⟩ ⟨Nat.le_of_ble_eq_true rfl, Nat.le_of_ble_eq_true rfl⟩ (by decide) (by decide) rfl (Nat.le_of_ble_eq_true rfl) dX6_soldOf_2 (fun H1 locs1 ls E ce q hk hE hH hS hl h1 h2 h3 => hpr (by decide) (by decide) hk hE hH hS h1 h2 h3 (hx5 hk)) (fun hm6 hk => ?_)
  have hf := hf hk
  refine r_get0 C0 hm6 5 (by decide) (v := .int (M3 (r4 + 5))) rfl rfl w1_65 dX6_soldOf_5 ?_
  exact hend (by decide) (by decide) hf dX6_soldOf_8
theorem dX6_lostOf_0 : decode cX6_lostOf 0 = .ok (.aload_n 0, 1) := by decide +kernel
theorem dX6_lostOf_1 : decode cX6_lostOf 1 = .ok (.iload_n 1, 1) := by decide +kernel
theorem dX6_lostOf_2 : decode cX6_lostOf 2 = .ok (.invokevirtual 152, 3) := by decide +kernel
theorem dX6_lostOf_5 : decode cX6_lostOf 5 = .ok (.getfield 182, 3) := by decide +kernel
theorem dX6_lostOf_8 : decode cX6_lostOf 8 = .ok (.ireturn, 1) := by decide +kernel
theorem hd_X6_lostOf : yX6_lostOf.cls = RX6 ∧ yX6_lostOf.cls ≠ "java/lang/invoke/MethodHandle" ∧ yX6_lostOf.cls ≠ "java/lang/invoke/VarHandle" ∧ (parseMethodDescriptor yX6_lostOf.desc).map (fun d => d.parameters.length) = some 1 := by decide +kernel
set_option maxRecDepth 100000 in
set_option maxHeartbeats 4000000 in
theorem c_X6_lostOf (l : Launch) (D : va_G) (g : xG) (tb : List xQ) (hT : x_T g tb) (hlst : l.stackTraces = false) {a1 : Int32} (h0 : x_fb tb) {M : xM} {k : Nat} {r : Int32} {M' : xM} (hf : f_X6_lostOf a1 M = some (k, r, M')) :
    tI l D g tb yX6_lostOf cX6_lostOf 2 .int ({ frames := 8, cells := 1, slots := 6, locals := 124 } : Room) 1 [.ref (g.1 4 1664), .int a1] M k r M' := by
  refine x_tstartI (own := RX6) (r := r) (by decide +kernel) rfl rfl (Nat.le_of_ble_eq_true rfl) hT ?_
  intro p e s m args below meth c Q C0 hend hpr hthr
  unfold f_X6_lostOf at hf
  refine r_aload_n C0 (kk := 0) 0 rfl dX6_lostOf_0 ?_
  refine r_iload_n C0 (kk := 1) 1 rfl dX6_lostOf_1 ?_
  obtain ⟨k2, r4, M3, hc1, hx5, hf⟩ := tbd_e hf
  refine r_tcallVr C0 (As := [.int a1]) (rest := []) (c_X6_stallAt l D g tb hT hlst h0 hc1) w4_125 w4_127 wp2_10 w1_1 w4_128 (x_rec4 C0 h0.1) hd_X6_stallAt rfl ⟨rfl, rfl⟩ ⟨Nat.le_of_ble_eq_true rfl, Nat.le_of_ble_eq_true rfl⟩ (by decide) (by decide) rfl (Nat.le_of_ble_eq_true rfl) dX6_lostOf_2 (fun H1 locs1 ls E ce q hk hE hH hS hl h1 h2 h3 => hpr (by decide) (by decide) hk hE hH hS h1 h2 h3 (hx5 hk)) (fun hm6 hk => ?_)
  have hf := hf hk
  refine r_get0 C0 hm6 6 (by decide) (v := .int (M3 (r4 + 6))) rfl rfl w1_67 dX6_lostOf_5 ?_
  exact hend (by decide) (by decide) hf dX6_lostOf_8
theorem dX6_earnings_0 : decode cX6_earnings 0 = .ok (.aload_n 0, 1) := by decide +kernel
theorem dX6_earnings_1 : decode cX6_earnings 1 = .ok (.iload_n 1, 1) := by decide +kernel
theorem dX6_earnings_2 : decode cX6_earnings 2 = .ok (.invokevirtual 152, 3) := by decide +kernel
theorem dX6_earnings_5 : decode cX6_earnings 5 = .ok (.getfield 185, 3) := by decide +kernel
theorem dX6_earnings_8 : decode cX6_earnings 8 = .ok (.ireturn, 1) := by decide +kernel
theorem hd_X6_earnings : yX6_earnings.cls = RX6 ∧ yX6_earnings.cls ≠ "java/lang/invoke/MethodHandle" ∧ yX6_earnings.cls ≠ "java/lang/invoke/VarHandle" ∧ (parseMethodDescriptor yX6_earnings.desc).map (fun d => d.parameters.length) = some 1 := by decide +kernel
set_option maxRecDepth 100000 in
set_option maxHeartbeats 4000000 in
theorem c_X6_earnings (l : Launch) (D : va_G) (g : xG) (tb : List xQ) (hT : x_T g tb) (hlst : l.stackTraces = false) {a1 : Int32} (h0 : x_fb tb) {M : xM} {k : Nat} {r : Int32} {M' : xM} (hf : f_X6_earnings a1 M = some (k, r, M')) :
    tI l D g tb yX6_earnings cX6_earnings 2 .int ({ frames := 8, cells := 1, slots := 6, locals := 124 } : Room) 1 [.ref (g.1 4 1664), .int a1] M k r M' := by
  refine x_tstartI (own := RX6) (r := r) (by decide +kernel) rfl rfl (Nat.le_of_ble_eq_true rfl) hT ?_
  intro p e s m args below meth c Q C0 hend hpr hthr
  unfold f_X6_earnings at hf
  refine r_aload_n C0 (kk := 0) 0 rfl dX6_earnings_0 ?_
  refine r_iload_n C0 (kk := 1) 1 rfl dX6_earnings_1 ?_
  obtain ⟨k2, r4, M3, hc1, hx5, hf⟩ := tbd_e hf
  refine r_tcallVr C0 (As := [.int a1]) (rest := []) (c_X6_stallAt l D g tb hT hlst h0 hc1) w4_125 w4_127 wp2_10 w1_1 w4_128 (x_rec4 C0 h0.1) hd_X6_stallAt rfl ⟨rfl, rfl⟩ ⟨Nat.le_of_ble_eq_true rfl, Nat.le_of_ble_eq_true rfl⟩ (by decide) (by decide) rfl (Nat.le_of_ble_eq_true rfl) dX6_earnings_2 (fun H1 locs1 ls E ce q hk hE hH hS hl h1 h2 h3 => hpr (by decide) (by decide) hk hE hH hS h1 h2 h3 (hx5 hk)) (fun hm6 hk => ?_)
  have hf := hf hk
  refine r_get0 C0 hm6 7 (by decide) (v := .int (M3 (r4 + 7))) rfl rfl w1_71 dX6_earnings_5 ?_
  exact hend (by decide) (by decide) hf dX6_earnings_8
theorem dX6_seenFrom_0 : decode cX6_seenFrom 0 = .ok (.iload_n 1, 1) := by decide +kernel
theorem dX6_seenFrom_1 : decode cX6_seenFrom 1 = .ok (.iconst 0, 1) := by decide +kernel
theorem dX6_seenFrom_2 : decode cX6_seenFrom 2 = .ok (.bipush 99, 2) := by decide +kernel
theorem dX6_seenFrom_4 : decode cX6_seenFrom 4 = .ok (.invokestatic 123, 3) := by decide +kernel
theorem dX6_seenFrom_7 : decode cX6_seenFrom 7 = .ok (.aload_n 0, 1) := by decide +kernel
theorem dX6_seenFrom_8 : decode cX6_seenFrom 8 = .ok (.getfield 10, 3) := by decide +kernel
theorem dX6_seenFrom_11 : decode cX6_seenFrom 11 = .ok (.invokevirtual 143, 3) := by decide +kernel
theorem dX6_seenFrom_14 : decode cX6_seenFrom 14 = .ok (.istore_n 2, 1) := by decide +kernel
theorem dX6_seenFrom_15 : decode cX6_seenFrom 15 = .ok (.iconst 0, 1) := by decide +kernel
theorem dX6_seenFrom_16 : decode cX6_seenFrom 16 = .ok (.istore_n 3, 1) := by decide +kernel
theorem dX6_seenFrom_17 : decode cX6_seenFrom 17 = .ok (.iconst 0, 1) := by decide +kernel
theorem dX6_seenFrom_18 : decode cX6_seenFrom 18 = .ok (.istore 4, 2) := by decide +kernel
theorem dX6_seenFrom_20 : decode cX6_seenFrom 20 = .ok (.iload 4, 2) := by decide +kernel
theorem dX6_seenFrom_22 : decode cX6_seenFrom 22 = .ok (.aload_n 0, 1) := by decide +kernel
theorem dX6_seenFrom_23 : decode cX6_seenFrom 23 = .ok (.getfield 10, 3) := by decide +kernel
theorem dX6_seenFrom_26 : decode cX6_seenFrom 26 = .ok (.getfield 66, 3) := by decide +kernel
theorem dX6_seenFrom_29 : decode cX6_seenFrom 29 = .ok (.if_icmp .ge 34, 3) := by decide +kernel
theorem dX6_seenFrom_32 : decode cX6_seenFrom 32 = .ok (.aload_n 0, 1) := by decide +kernel
theorem dX6_seenFrom_33 : decode cX6_seenFrom 33 = .ok (.getfield 10, 3) := by decide +kernel
theorem dX6_seenFrom_36 : decode cX6_seenFrom 36 = .ok (.getfield 192, 3) := by decide +kernel
theorem dX6_seenFrom_39 : decode cX6_seenFrom 39 = .ok (.iload 4, 2) := by decide +kernel
theorem dX6_seenFrom_41 : decode cX6_seenFrom 41 = .ok (.aaload, 1) := by decide +kernel
theorem dX6_seenFrom_42 : decode cX6_seenFrom 42 = .ok (.iload_n 1, 1) := by decide +kernel
theorem dX6_seenFrom_43 : decode cX6_seenFrom 43 = .ok (.iload_n 2, 1) := by decide +kernel
theorem dX6_seenFrom_44 : decode cX6_seenFrom 44 = .ok (.invokevirtual 196, 3) := by decide +kernel
theorem dX6_seenFrom_47 : decode cX6_seenFrom 47 = .ok (.ifCond .eq 10, 3) := by decide +kernel
theorem dX6_seenFrom_50 : decode cX6_seenFrom 50 = .ok (.iload_n 3, 1) := by decide +kernel
theorem dX6_seenFrom_51 : decode cX6_seenFrom 51 = .ok (.iconst 1, 1) := by decide +kernel
theorem dX6_seenFrom_52 : decode cX6_seenFrom 52 = .ok (.iload 4, 2) := by decide +kernel
theorem dX6_seenFrom_54 : decode cX6_seenFrom 54 = .ok (.ishl, 1) := by decide +kernel
theorem dX6_seenFrom_55 : decode cX6_seenFrom 55 = .ok (.ior, 1) := by decide +kernel
theorem dX6_seenFrom_56 : decode cX6_seenFrom 56 = .ok (.istore_n 3, 1) := by decide +kernel
theorem dX6_seenFrom_57 : decode cX6_seenFrom 57 = .ok (.iinc 4 1, 3) := by decide +kernel
theorem dX6_seenFrom_60 : decode cX6_seenFrom 60 = .ok (.goto (-40), 3) := by decide +kernel
theorem dX6_seenFrom_63 : decode cX6_seenFrom 63 = .ok (.iload_n 3, 1) := by decide +kernel
theorem dX6_seenFrom_64 : decode cX6_seenFrom 64 = .ok (.ireturn, 1) := by decide +kernel
theorem hd_X6_seenFrom : yX6_seenFrom.cls = RX6 ∧ yX6_seenFrom.cls ≠ "java/lang/invoke/MethodHandle" ∧ yX6_seenFrom.cls ≠ "java/lang/invoke/VarHandle" ∧ (parseMethodDescriptor yX6_seenFrom.desc).map (fun d => d.parameters.length) = some 1 := by decide +kernel
set_option maxRecDepth 100000 in
set_option maxHeartbeats 4000000 in
theorem c_X6_seenFrom (l : Launch) (D : va_G) (g : xG) (tb : List xQ) (hT : x_T g tb) (hlst : l.stackTraces = false) {a1 : Int32} (h0 : x_fb tb) {M : xM} {k : Nat} {r : Int32} {M' : xM} (hf : f_X6_seenFrom a1 M = some (k, r, M')) :
    tI l D g tb yX6_seenFrom cX6_seenFrom 5 .int ({ frames := 7, cells := 1, slots := 6, locals := 104 } : Room) 1 [.ref (g.1 4 1664), .int a1] M k r M' := by
  refine x_tstartI (own := RX6) (r := r) (by decide +kernel) rfl rfl (Nat.le_of_ble_eq_true rfl) hT ?_
  intro p e s m args below meth c Q C0 hend hpr hthr
  have B20 : ∀ (k20 : Int32 → Int32 → Int32 → xM → Option (Nat × Int32 × xM)) (hk20 : ∀ (v2 : Int32) (v3 : Int32) (v4 : Int32)  (M : xM), k20 v2 v3 v4 M = some (k, r, M') → WW p l e ({ frames := 7, cells := 1, slots := 6, locals := 104 } : Room) s m args below meth c 1 6 Q 5 D g tb 20 [(0, .ref (g.1 4 1664)), (1, .int a1), (2, .int v2), (3, .int v3), (4, .int v4)] [] M), ∀ (v2 : Int32) (v3 : Int32) (v4 : Int32)  (M : xM), fb_X6_seenFrom_c20 k20 a1 v2 v3 v4 M = some (k, r, M') → WW p l e ({ frames := 7, cells := 1, slots := 6, locals := 104 } : Room) s m args below meth c 1 6 Q 5 D g tb 20 [(0, .ref (g.1 4 1664)), (1, .int a1), (2, .int v2), (3, .int v3), (4, .int v4)] [] M := by
    intro k20 hk20 v2 v3 v4  M hf
    unfold fb_X6_seenFrom_c20 at hf
    refine r_iload C0 4 rfl dX6_seenFrom_20 ?_
    refine r_aload_n C0 (kk := 0) 0 rfl dX6_seenFrom_22 ?_
    refine r_get4 C0 h0.1 0 (by decide) (v := .ref (g.1 2 0)) rfl rfl w3_102 dX6_seenFrom_23 ?_
    refine r_get2 C0 h0.2.1.1 1 (by decide) (v := .int (M 9)) rfl rfl w1_139 dX6_seenFrom_26 ?_
    refine r_icmp_ge C0 (tgt := 63) (by decide) dX6_seenFrom_29 (fun q10 => ?_) (fun q10 => ?_)
    · have hf := ie_t hf q10
      refine r_iload_n C0 (kk := 3) 3 rfl dX6_seenFrom_63 ?_
      exact hend (by decide) (by decide) hf dX6_seenFrom_64
    · have hf := ie_f hf q10
      refine r_aload_n C0 (kk := 0) 0 rfl dX6_seenFrom_32 ?_
      refine r_get4 C0 h0.1 0 (by decide) (v := .ref (g.1 2 0)) rfl rfl w3_102 dX6_seenFrom_33 ?_
      refine r_get2 C0 h0.2.1.1 0 (by decide) (v := .ref (g.1 10 23)) rfl rfl w1_137 dX6_seenFrom_36 ?_
      refine r_iload C0 4 rfl dX6_seenFrom_39 ?_
      obtain ⟨q11, hf⟩ := gd_e hf
      have hm12 : ((0, (23 + 9 * v4.toNatClampNeg), 0) : xQ) ∈ tb := h0.2.1.2.2.2.2.1 _ (inb_lt q11)
      refine r_aald10 C0 h0.2.1.2.1 (inb_in q11) dX6_seenFrom_41 ?_
      refine r_iload_n C0 (kk := 1) 1 rfl dX6_seenFrom_42 ?_
      refine r_iload_n C0 (kk := 2) 2 rfl dX6_seenFrom_43 ?_
      obtain ⟨r15, M14, hc13, hf⟩ := bd2_e hf
      refine r_callVi C0 (As := [.int a1, .int v2]) (rest := []) (c_X4_isSeenFrom l D g tb hT hm12 hc13) w4_220 w4_221 w4_222 w1_3 w4_223 (x_rec0 C0 hm12) hd_X4_isSeenFrom rfl ⟨rfl, rfl⟩ ⟨Nat.le_of_ble_eq_true rfl, Nat.le_of_ble_eq_true rfl⟩ (by decide) (by decide) rfl (Nat.le_of_ble_eq_true rfl) dX6_seenFrom_44 ?_
      refine r_if_eq C0 (tgt := 57) (by decide) dX6_seenFrom_47 (fun q16 => ?_) (fun q16 => ?_)
      · have hf := ie_t hf q16
        refine r_iincc C0 4 rfl (k0 := 1) (by decide) (by decide) (lv2 := [(4, .int (v4 + 1)), (0, .ref (g.1 4 1664)), (1, .int a1), (2, .int v2), (3, .int v3)]) rfl dX6_seenFrom_57 ?_
        refine r_goto C0 (tgt := 20) (by decide) dX6_seenFrom_60 ?_
        refine WW.sub [1, 2, 3, 4, 0] rfl ?_
        exact hk20 _ _ _   _ hf
      · have hf := ie_f hf q16
        refine r_iload_n C0 (kk := 3) 3 rfl dX6_seenFrom_50 ?_
        refine r_iconst C0 (v := 1) dX6_seenFrom_51 rfl ?_
        refine r_iload C0 4 rfl dX6_seenFrom_52 ?_
        refine r_ishl C0 dX6_seenFrom_54 ?_
        refine r_ior C0 dX6_seenFrom_55 ?_
        refine r_istore_n C0 (kk := 3) (lv2 := [(3, .int (v3 ||| (1 <<< (v4 &&& 31)))), (0, .ref (g.1 4 1664)), (1, .int a1), (2, .int v2), (4, .int v4)]) (by decide) rfl dX6_seenFrom_56 ?_
        refine r_iincc C0 4 rfl (k0 := 1) (by decide) (by decide) (lv2 := [(4, .int (v4 + 1)), (3, .int (v3 ||| (1 <<< (v4 &&& 31)))), (0, .ref (g.1 4 1664)), (1, .int a1), (2, .int v2)]) rfl dX6_seenFrom_57 ?_
        refine r_goto C0 (tgt := 20) (by decide) dX6_seenFrom_60 ?_
        refine WW.sub [2, 3, 4, 1, 0] rfl ?_
        exact hk20 _ _ _   _ hf
  have L20 : ∀ (v2 : Int32) (v3 : Int32) (v4 : Int32)  (M : xM), f_X6_seenFrom_c20  a1 v2 v3 v4 M = some (k, r, M') → WW p l e ({ frames := 7, cells := 1, slots := 6, locals := 104 } : Room) s m args below meth c 1 6 Q 5 D g tb 20 [(0, .ref (g.1 4 1664)), (1, .int a1), (2, .int v2), (3, .int v3), (4, .int v4)] [] M := lp_ind (P := fun f => ∀ (v2 : Int32) (v3 : Int32) (v4 : Int32)  (M : xM), f v2 v3 v4 M = some (k, r, M') → WW p l e ({ frames := 7, cells := 1, slots := 6, locals := 104 } : Room) s m args below meth c 1 6 Q 5 D g tb 20 [(0, .ref (g.1 4 1664)), (1, .int a1), (2, .int v2), (3, .int v3), (4, .int v4)] [] M) (fun _ _ _ _ h => none_ne h) (fun f hf => B20 f hf) FU
  unfold f_X6_seenFrom at hf
  refine r_iload_n C0 (kk := 1) 1 rfl dX6_seenFrom_0 ?_
  refine r_iconst C0 (v := 0) dX6_seenFrom_1 rfl ?_
  refine r_bipush C0 (v := 99) dX6_seenFrom_2 rfl ?_
  obtain ⟨k2, r4, M3, hc1, hx5, hf⟩ := tbd_e hf
  refine r_tcallSv C0 (As := [.int a1, .int 0, .int 99]) (rest := []) (c_X6_checkRange l D g tb hT hlst  hc1) w4_45 w4_46 w1_1 w4_47 hd_X6_checkRange rfl ⟨rfl, rfl⟩ ⟨Nat.le_of_ble_eq_true rfl, Nat.le_of_ble_eq_true rfl⟩ (by decide) (by decide) rfl (Nat.le_of_ble_eq_true rfl) dX6_seenFrom_4 (fun H1 locs1 ls E ce q hk hE hH hS hl h1 h2 h3 => hpr (by decide) (by decide) hk hE hH hS h1 h2 h3 (hx5 hk)) (fun hk => ?_)
  have hf := hf hk
  refine r_aload_n C0 (kk := 0) 0 rfl dX6_seenFrom_7 ?_
  refine r_get4 C0 h0.1 0 (by decide) (v := .ref (g.1 2 0)) rfl rfl w3_102 dX6_seenFrom_8 ?_
  obtain ⟨r9, M8, hc7, hf⟩ := bd2_e hf
  refine r_callVi C0 (As := []) (rest := []) (c_X2_densityNow l D g tb hT h0.2.1 hc7) w3_211 w3_21 w3_22 w1_2 w3_23 (x_rec2 C0 h0.2.1.1) hd_X2_densityNow rfl ⟨rfl, rfl⟩ ⟨Nat.le_of_ble_eq_true rfl, Nat.le_of_ble_eq_true rfl⟩ (by decide) (by decide) rfl (Nat.le_of_ble_eq_true rfl) dX6_seenFrom_11 ?_
  refine r_istore_n C0 (kk := 2) (lv2 := [(2, .int r9), (0, .ref (g.1 4 1664)), (1, .int a1)]) (by decide) rfl dX6_seenFrom_14 ?_
  refine r_iconst C0 (v := 0) dX6_seenFrom_15 rfl ?_
  refine r_istore_n C0 (kk := 3) (lv2 := [(3, .int 0), (2, .int r9), (0, .ref (g.1 4 1664)), (1, .int a1)]) (by decide) rfl dX6_seenFrom_16 ?_
  refine r_iconst C0 (v := 0) dX6_seenFrom_17 rfl ?_
  refine r_istore C0 (lv2 := [(4, .int 0), (3, .int 0), (2, .int r9), (0, .ref (g.1 4 1664)), (1, .int a1)]) (by decide) rfl dX6_seenFrom_18 ?_
  refine WW.sub [3, 4, 2, 1, 0] rfl ?_
  exact L20   _ _ _   _ hf
theorem dX6_buyerAt_0 : decode cX6_buyerAt 0 = .ok (.aload_n 0, 1) := by decide +kernel
theorem dX6_buyerAt_1 : decode cX6_buyerAt 1 = .ok (.iload_n 1, 1) := by decide +kernel
theorem dX6_buyerAt_2 : decode cX6_buyerAt 2 = .ok (.invokevirtual 255, 3) := by decide +kernel
theorem dX6_buyerAt_5 : decode cX6_buyerAt 5 = .ok (.aload_n 0, 1) := by decide +kernel
theorem dX6_buyerAt_6 : decode cX6_buyerAt 6 = .ok (.getfield 10, 3) := by decide +kernel
theorem dX6_buyerAt_9 : decode cX6_buyerAt 9 = .ok (.getfield 258, 3) := by decide +kernel
theorem dX6_buyerAt_12 : decode cX6_buyerAt 12 = .ok (.iload_n 1, 1) := by decide +kernel
theorem dX6_buyerAt_13 : decode cX6_buyerAt 13 = .ok (.aaload, 1) := by decide +kernel
theorem dX6_buyerAt_14 : decode cX6_buyerAt 14 = .ok (.areturn, 1) := by decide +kernel
theorem hd_X6_buyerAt : yX6_buyerAt.cls = RX6 ∧ yX6_buyerAt.cls ≠ "java/lang/invoke/MethodHandle" ∧ yX6_buyerAt.cls ≠ "java/lang/invoke/VarHandle" ∧ (parseMethodDescriptor yX6_buyerAt.desc).map (fun d => d.parameters.length) = some 1 := by decide +kernel
set_option maxRecDepth 100000 in
set_option maxHeartbeats 4000000 in
theorem c_X6_buyerAt (l : Launch) (D : va_G) (g : xG) (tb : List xQ) (hT : x_T g tb) (hlst : l.stackTraces = false) {a1 : Int32} (h0 : x_fb tb) {M : xM} {k : Nat} {r : Nat} {M' : xM} (hf : f_X6_buyerAt a1 M = some (k, r, M')) :
    tR l D g tb yX6_buyerAt cX6_buyerAt 2 (FieldType.object "FogBellMarket$Buyer") 1 ({ frames := 7, cells := 1, slots := 6, locals := 103 } : Room) 1 [.ref (g.1 4 1664), .int a1] M k r M' := by
  refine x_tstartR (own := RX6) (r := r) (by decide +kernel) rfl rfl (Nat.le_of_ble_eq_true rfl) hT ?_
  intro p e s m args below meth c Q C0 hend hpr hthr
  unfold f_X6_buyerAt at hf
  refine r_aload_n C0 (kk := 0) 0 rfl dX6_buyerAt_0 ?_
  refine r_iload_n C0 (kk := 1) 1 rfl dX6_buyerAt_1 ?_
  obtain ⟨k2, r4, M3, hc1, hx5, hf⟩ := tbd_e hf
  refine r_tcallVv C0 (As := [.int a1]) (rest := []) (c_X6_checkBuyer l D g tb hT hlst h0 hc1) w4_237 w4_239 wp2_13 w1_1 w5_0 (x_rec4 C0 h0.1) hd_X6_checkBuyer rfl ⟨rfl, rfl⟩ ⟨Nat.le_of_ble_eq_true rfl, Nat.le_of_ble_eq_true rfl⟩ (by decide) (by decide) rfl (Nat.le_of_ble_eq_true rfl) dX6_buyerAt_2 (fun H1 locs1 ls E ce q hk hE hH hS hl h1 h2 h3 => hpr (by decide) (by decide) hk hE hH hS h1 h2 h3 (hx5 hk)) (fun hk => ?_)
  have hf := hf hk
  refine r_aload_n C0 (kk := 0) 0 rfl dX6_buyerAt_5 ?_
  refine r_get4 C0 h0.1 0 (by decide) (v := .ref (g.1 2 0)) rfl rfl w3_102 dX6_buyerAt_6 ?_
  refine r_get2 C0 h0.2.1.1 2 (by decide) (v := .ref (g.1 11 77)) rfl rfl w1_143 dX6_buyerAt_9 ?_
  refine r_iload_n C0 (kk := 1) 1 rfl dX6_buyerAt_12 ?_
  obtain ⟨q7, hf⟩ := gd_e hf
  have hm8 : ((1, (77 + 8 * a1.toNatClampNeg), 0) : xQ) ∈ tb := h0.2.1.2.2.2.2.2 _ (inb_lt q7)
  refine r_aald11 C0 h0.2.1.2.2.1 (inb_in q7) dX6_buyerAt_13 ?_
  exact hend hm8 (by decide) (by decide) hf dX6_buyerAt_14
theorem dX6_coinsOf_0 : decode cX6_coinsOf 0 = .ok (.aload_n 0, 1) := by decide +kernel
theorem dX6_coinsOf_1 : decode cX6_coinsOf 1 = .ok (.iload_n 1, 1) := by decide +kernel
theorem dX6_coinsOf_2 : decode cX6_coinsOf 2 = .ok (.invokevirtual 214, 3) := by decide +kernel
theorem dX6_coinsOf_5 : decode cX6_coinsOf 5 = .ok (.getfield 221, 3) := by decide +kernel
theorem dX6_coinsOf_8 : decode cX6_coinsOf 8 = .ok (.ireturn, 1) := by decide +kernel
theorem hd_X6_coinsOf : yX6_coinsOf.cls = RX6 ∧ yX6_coinsOf.cls ≠ "java/lang/invoke/MethodHandle" ∧ yX6_coinsOf.cls ≠ "java/lang/invoke/VarHandle" ∧ (parseMethodDescriptor yX6_coinsOf.desc).map (fun d => d.parameters.length) = some 1 := by decide +kernel
set_option maxRecDepth 100000 in
set_option maxHeartbeats 4000000 in
theorem c_X6_coinsOf (l : Launch) (D : va_G) (g : xG) (tb : List xQ) (hT : x_T g tb) (hlst : l.stackTraces = false) {a1 : Int32} (h0 : x_fb tb) {M : xM} {k : Nat} {r : Int32} {M' : xM} (hf : f_X6_coinsOf a1 M = some (k, r, M')) :
    tI l D g tb yX6_coinsOf cX6_coinsOf 2 .int ({ frames := 8, cells := 1, slots := 6, locals := 124 } : Room) 1 [.ref (g.1 4 1664), .int a1] M k r M' := by
  refine x_tstartI (own := RX6) (r := r) (by decide +kernel) rfl rfl (Nat.le_of_ble_eq_true rfl) hT ?_
  intro p e s m args below meth c Q C0 hend hpr hthr
  unfold f_X6_coinsOf at hf
  refine r_aload_n C0 (kk := 0) 0 rfl dX6_coinsOf_0 ?_
  refine r_iload_n C0 (kk := 1) 1 rfl dX6_coinsOf_1 ?_
  obtain ⟨k2, r4, M3, hc1, hx5, hf⟩ := tbd_e hf
  refine r_tcallVr C0 (As := [.int a1]) (rest := []) (c_X6_buyerAt l D g tb hT hlst h0 hc1) w4_233 w4_235 wp2_12 w1_1 w4_236 (x_rec4 C0 h0.1) hd_X6_buyerAt rfl ⟨rfl, rfl⟩ ⟨Nat.le_of_ble_eq_true rfl, Nat.le_of_ble_eq_true rfl⟩ (by decide) (by decide) rfl (Nat.le_of_ble_eq_true rfl) dX6_coinsOf_2 (fun H1 locs1 ls E ce q hk hE hH hS hl h1 h2 h3 => hpr (by decide) (by decide) hk hE hH hS h1 h2 h3 (hx5 hk)) (fun hm6 hk => ?_)
  have hf := hf hk
  refine r_get1 C0 hm6 1 (by decide) (v := .int (M3 (r4 + 1))) rfl rfl w1_103 dX6_coinsOf_5 ?_
  exact hend (by decide) (by decide) hf dX6_coinsOf_8
theorem dX6_wantedTexture_0 : decode cX6_wantedTexture 0 = .ok (.aload_n 0, 1) := by decide +kernel
theorem dX6_wantedTexture_1 : decode cX6_wantedTexture 1 = .ok (.iload_n 1, 1) := by decide +kernel
theorem dX6_wantedTexture_2 : decode cX6_wantedTexture 2 = .ok (.invokevirtual 214, 3) := by decide +kernel
theorem dX6_wantedTexture_5 : decode cX6_wantedTexture 5 = .ok (.getfield 224, 3) := by decide +kernel
theorem dX6_wantedTexture_8 : decode cX6_wantedTexture 8 = .ok (.ireturn, 1) := by decide +kernel
theorem hd_X6_wantedTexture : yX6_wantedTexture.cls = RX6 ∧ yX6_wantedTexture.cls ≠ "java/lang/invoke/MethodHandle" ∧ yX6_wantedTexture.cls ≠ "java/lang/invoke/VarHandle" ∧ (parseMethodDescriptor yX6_wantedTexture.desc).map (fun d => d.parameters.length) = some 1 := by decide +kernel
set_option maxRecDepth 100000 in
set_option maxHeartbeats 4000000 in
theorem c_X6_wantedTexture (l : Launch) (D : va_G) (g : xG) (tb : List xQ) (hT : x_T g tb) (hlst : l.stackTraces = false) {a1 : Int32} (h0 : x_fb tb) {M : xM} {k : Nat} {r : Int32} {M' : xM} (hf : f_X6_wantedTexture a1 M = some (k, r, M')) :
    tI l D g tb yX6_wantedTexture cX6_wantedTexture 2 .int ({ frames := 8, cells := 1, slots := 6, locals := 124 } : Room) 1 [.ref (g.1 4 1664), .int a1] M k r M' := by
  refine x_tstartI (own := RX6) (r := r) (by decide +kernel) rfl rfl (Nat.le_of_ble_eq_true rfl) hT ?_
  intro p e s m args below meth c Q C0 hend hpr hthr
  unfold f_X6_wantedTexture at hf
  refine r_aload_n C0 (kk := 0) 0 rfl dX6_wantedTexture_0 ?_
  refine r_iload_n C0 (kk := 1) 1 rfl dX6_wantedTexture_1 ?_
  obtain ⟨k2, r4, M3, hc1, hx5, hf⟩ := tbd_e hf
  refine r_tcallVr C0 (As := [.int a1]) (rest := []) (c_X6_buyerAt l D g tb hT hlst h0 hc1) w4_233 w4_235 wp2_12 w1_1 w4_236 (x_rec4 C0 h0.1) hd_X6_buyerAt rfl ⟨rfl, rfl⟩ ⟨Nat.le_of_ble_eq_true rfl, Nat.le_of_ble_eq_true rfl⟩ (by decide) (by decide) rfl (Nat.le_of_ble_eq_true rfl) dX6_wantedTexture_2 (fun H1 locs1 ls E ce q hk hE hH hS hl h1 h2 h3 => hpr (by decide) (by decide) hk hE hH hS h1 h2 h3 (hx5 hk)) (fun hm6 hk => ?_)
  have hf := hf hk
  refine r_get1 C0 hm6 2 (by decide) (v := .int (M3 (r4 + 2))) rfl rfl w1_105 dX6_wantedTexture_5 ?_
  exact hend (by decide) (by decide) hf dX6_wantedTexture_8
theorem dX6_speedOf_0 : decode cX6_speedOf 0 = .ok (.aload_n 0, 1) := by decide +kernel
theorem dX6_speedOf_1 : decode cX6_speedOf 1 = .ok (.iload_n 1, 1) := by decide +kernel
theorem dX6_speedOf_2 : decode cX6_speedOf 2 = .ok (.invokevirtual 214, 3) := by decide +kernel
theorem dX6_speedOf_5 : decode cX6_speedOf 5 = .ok (.getfield 227, 3) := by decide +kernel
theorem dX6_speedOf_8 : decode cX6_speedOf 8 = .ok (.ireturn, 1) := by decide +kernel
theorem hd_X6_speedOf : yX6_speedOf.cls = RX6 ∧ yX6_speedOf.cls ≠ "java/lang/invoke/MethodHandle" ∧ yX6_speedOf.cls ≠ "java/lang/invoke/VarHandle" ∧ (parseMethodDescriptor yX6_speedOf.desc).map (fun d => d.parameters.length) = some 1 := by decide +kernel
set_option maxRecDepth 100000 in
set_option maxHeartbeats 4000000 in
theorem c_X6_speedOf (l : Launch) (D : va_G) (g : xG) (tb : List xQ) (hT : x_T g tb) (hlst : l.stackTraces = false) {a1 : Int32} (h0 : x_fb tb) {M : xM} {k : Nat} {r : Int32} {M' : xM} (hf : f_X6_speedOf a1 M = some (k, r, M')) :
    tI l D g tb yX6_speedOf cX6_speedOf 2 .int ({ frames := 8, cells := 1, slots := 6, locals := 124 } : Room) 1 [.ref (g.1 4 1664), .int a1] M k r M' := by
  refine x_tstartI (own := RX6) (r := r) (by decide +kernel) rfl rfl (Nat.le_of_ble_eq_true rfl) hT ?_
  intro p e s m args below meth c Q C0 hend hpr hthr
  unfold f_X6_speedOf at hf
  refine r_aload_n C0 (kk := 0) 0 rfl dX6_speedOf_0 ?_
  refine r_iload_n C0 (kk := 1) 1 rfl dX6_speedOf_1 ?_
  obtain ⟨k2, r4, M3, hc1, hx5, hf⟩ := tbd_e hf
  refine r_tcallVr C0 (As := [.int a1]) (rest := []) (c_X6_buyerAt l D g tb hT hlst h0 hc1) w4_233 w4_235 wp2_12 w1_1 w4_236 (x_rec4 C0 h0.1) hd_X6_buyerAt rfl ⟨rfl, rfl⟩ ⟨Nat.le_of_ble_eq_true rfl, Nat.le_of_ble_eq_true rfl⟩ (by decide) (by decide) rfl (Nat.le_of_ble_eq_true rfl) dX6_speedOf_2 (fun H1 locs1 ls E ce q hk hE hH hS hl h1 h2 h3 => hpr (by decide) (by decide) hk hE hH hS h1 h2 h3 (hx5 hk)) (fun hm6 hk => ?_)
  have hf := hf hk
  refine r_get1 C0 hm6 3 (by decide) (v := .int (M3 (r4 + 3))) rfl rfl w1_107 dX6_speedOf_5 ?_
  exact hend (by decide) (by decide) hf dX6_speedOf_8
theorem dX6_heldFrom_0 : decode cX6_heldFrom 0 = .ok (.aload_n 0, 1) := by decide +kernel
theorem dX6_heldFrom_1 : decode cX6_heldFrom 1 = .ok (.iload_n 1, 1) := by decide +kernel
theorem dX6_heldFrom_2 : decode cX6_heldFrom 2 = .ok (.invokevirtual 214, 3) := by decide +kernel
theorem dX6_heldFrom_5 : decode cX6_heldFrom 5 = .ok (.getfield 230, 3) := by decide +kernel
theorem dX6_heldFrom_8 : decode cX6_heldFrom 8 = .ok (.ireturn, 1) := by decide +kernel
theorem hd_X6_heldFrom : yX6_heldFrom.cls = RX6 ∧ yX6_heldFrom.cls ≠ "java/lang/invoke/MethodHandle" ∧ yX6_heldFrom.cls ≠ "java/lang/invoke/VarHandle" ∧ (parseMethodDescriptor yX6_heldFrom.desc).map (fun d => d.parameters.length) = some 1 := by decide +kernel
set_option maxRecDepth 100000 in
set_option maxHeartbeats 4000000 in
theorem c_X6_heldFrom (l : Launch) (D : va_G) (g : xG) (tb : List xQ) (hT : x_T g tb) (hlst : l.stackTraces = false) {a1 : Int32} (h0 : x_fb tb) {M : xM} {k : Nat} {r : Int32} {M' : xM} (hf : f_X6_heldFrom a1 M = some (k, r, M')) :
    tI l D g tb yX6_heldFrom cX6_heldFrom 2 .int ({ frames := 8, cells := 1, slots := 6, locals := 124 } : Room) 1 [.ref (g.1 4 1664), .int a1] M k r M' := by
  refine x_tstartI (own := RX6) (r := r) (by decide +kernel) rfl rfl (Nat.le_of_ble_eq_true rfl) hT ?_
  intro p e s m args below meth c Q C0 hend hpr hthr
  unfold f_X6_heldFrom at hf
  refine r_aload_n C0 (kk := 0) 0 rfl dX6_heldFrom_0 ?_
  refine r_iload_n C0 (kk := 1) 1 rfl dX6_heldFrom_1 ?_
  obtain ⟨k2, r4, M3, hc1, hx5, hf⟩ := tbd_e hf
  refine r_tcallVr C0 (As := [.int a1]) (rest := []) (c_X6_buyerAt l D g tb hT hlst h0 hc1) w4_233 w4_235 wp2_12 w1_1 w4_236 (x_rec4 C0 h0.1) hd_X6_buyerAt rfl ⟨rfl, rfl⟩ ⟨Nat.le_of_ble_eq_true rfl, Nat.le_of_ble_eq_true rfl⟩ (by decide) (by decide) rfl (Nat.le_of_ble_eq_true rfl) dX6_heldFrom_2 (fun H1 locs1 ls E ce q hk hE hH hS hl h1 h2 h3 => hpr (by decide) (by decide) hk hE hH hS h1 h2 h3 (hx5 hk)) (fun hm6 hk => ?_)
  have hf := hf hk
  refine r_get1 C0 hm6 4 (by decide) (v := .int (M3 (r4 + 4))) rfl rfl w1_110 dX6_heldFrom_5 ?_
  exact hend (by decide) (by decide) hf dX6_heldFrom_8
theorem dX6_debtOf_0 : decode cX6_debtOf 0 = .ok (.aload_n 0, 1) := by decide +kernel
theorem dX6_debtOf_1 : decode cX6_debtOf 1 = .ok (.iload_n 1, 1) := by decide +kernel
theorem dX6_debtOf_2 : decode cX6_debtOf 2 = .ok (.invokevirtual 214, 3) := by decide +kernel
theorem dX6_debtOf_5 : decode cX6_debtOf 5 = .ok (.getfield 233, 3) := by decide +kernel
theorem dX6_debtOf_8 : decode cX6_debtOf 8 = .ok (.ireturn, 1) := by decide +kernel
theorem hd_X6_debtOf : yX6_debtOf.cls = RX6 ∧ yX6_debtOf.cls ≠ "java/lang/invoke/MethodHandle" ∧ yX6_debtOf.cls ≠ "java/lang/invoke/VarHandle" ∧ (parseMethodDescriptor yX6_debtOf.desc).map (fun d => d.parameters.length) = some 1 := by decide +kernel
set_option maxRecDepth 100000 in
set_option maxHeartbeats 4000000 in
theorem c_X6_debtOf (l : Launch) (D : va_G) (g : xG) (tb : List xQ) (hT : x_T g tb) (hlst : l.stackTraces = false) {a1 : Int32} (h0 : x_fb tb) {M : xM} {k : Nat} {r : Int32} {M' : xM} (hf : f_X6_debtOf a1 M = some (k, r, M')) :
    tI l D g tb yX6_debtOf cX6_debtOf 2 .int ({ frames := 8, cells := 1, slots := 6, locals := 124 } : Room) 1 [.ref (g.1 4 1664), .int a1] M k r M' := by
  refine x_tstartI (own := RX6) (r := r) (by decide +kernel) rfl rfl (Nat.le_of_ble_eq_true rfl) hT ?_
  intro p e s m args below meth c Q C0 hend hpr hthr
  unfold f_X6_debtOf at hf
  refine r_aload_n C0 (kk := 0) 0 rfl dX6_debtOf_0 ?_
  refine r_iload_n C0 (kk := 1) 1 rfl dX6_debtOf_1 ?_
  obtain ⟨k2, r4, M3, hc1, hx5, hf⟩ := tbd_e hf
  refine r_tcallVr C0 (As := [.int a1]) (rest := []) (c_X6_buyerAt l D g tb hT hlst h0 hc1) w4_233 w4_235 wp2_12 w1_1 w4_236 (x_rec4 C0 h0.1) hd_X6_buyerAt rfl ⟨rfl, rfl⟩ ⟨Nat.le_of_ble_eq_true rfl, Nat.le_of_ble_eq_true rfl⟩ (by decide) (by decide) rfl (Nat.le_of_ble_eq_true rfl) dX6_debtOf_2 (fun H1 locs1 ls E ce q hk hE hH hS hl h1 h2 h3 => hpr (by decide) (by decide) hk hE hH hS h1 h2 h3 (hx5 hk)) (fun hm6 hk => ?_)
  have hf := hf hk
  refine r_get1 C0 hm6 5 (by decide) (v := .int (M3 (r4 + 5))) rfl rfl w1_112 dX6_debtOf_5 ?_
  exact hend (by decide) (by decide) hf dX6_debtOf_8
theorem dX6_avoidedBy_0 : decode cX6_avoidedBy 0 = .ok (.aload_n 0, 1) := by decide +kernel
theorem dX6_avoidedBy_1 : decode cX6_avoidedBy 1 = .ok (.iload_n 1, 1) := by decide +kernel
theorem dX6_avoidedBy_2 : decode cX6_avoidedBy 2 = .ok (.invokevirtual 214, 3) := by decide +kernel
theorem dX6_avoidedBy_5 : decode cX6_avoidedBy 5 = .ok (.getfield 236, 3) := by decide +kernel
theorem dX6_avoidedBy_8 : decode cX6_avoidedBy 8 = .ok (.ireturn, 1) := by decide +kernel
theorem hd_X6_avoidedBy : yX6_avoidedBy.cls = RX6 ∧ yX6_avoidedBy.cls ≠ "java/lang/invoke/MethodHandle" ∧ yX6_avoidedBy.cls ≠ "java/lang/invoke/VarHandle" ∧ (parseMethodDescriptor yX6_avoidedBy.desc).map (fun d => d.parameters.length) = some 1 := by decide +kernel
set_option maxRecDepth 100000 in
set_option maxHeartbeats 4000000 in
theorem c_X6_avoidedBy (l : Launch) (D : va_G) (g : xG) (tb : List xQ) (hT : x_T g tb) (hlst : l.stackTraces = false) {a1 : Int32} (h0 : x_fb tb) {M : xM} {k : Nat} {r : Int32} {M' : xM} (hf : f_X6_avoidedBy a1 M = some (k, r, M')) :
    tI l D g tb yX6_avoidedBy cX6_avoidedBy 2 .int ({ frames := 8, cells := 1, slots := 6, locals := 124 } : Room) 1 [.ref (g.1 4 1664), .int a1] M k r M' := by
  refine x_tstartI (own := RX6) (r := r) (by decide +kernel) rfl rfl (Nat.le_of_ble_eq_true rfl) hT ?_
  intro p e s m args below meth c Q C0 hend hpr hthr
  unfold f_X6_avoidedBy at hf
  refine r_aload_n C0 (kk := 0) 0 rfl dX6_avoidedBy_0 ?_
  refine r_iload_n C0 (kk := 1) 1 rfl dX6_avoidedBy_1 ?_
  obtain ⟨k2, r4, M3, hc1, hx5, hf⟩ := tbd_e hf
  refine r_tcallVr C0 (As := [.int a1]) (rest := []) (c_X6_buyerAt l D g tb hT hlst h0 hc1) w4_233 w4_235 wp2_12 w1_1 w4_236 (x_rec4 C0 h0.1) hd_X6_buyerAt rfl ⟨rfl, rfl⟩ ⟨Nat.le_of_ble_eq_true rfl, Nat.le_of_ble_eq_true rfl⟩ (by decide) (by decide) rfl (Nat.le_of_ble_eq_true rfl) dX6_avoidedBy_2 (fun H1 locs1 ls E ce q hk hE hH hS hl h1 h2 h3 => hpr (by decide) (by decide) hk hE hH hS h1 h2 h3 (hx5 hk)) (fun hm6 hk => ?_)
  have hf := hf hk
  refine r_get1 C0 hm6 6 (by decide) (v := .int (M3 (r4 + 6))) rfl rfl w1_115 dX6_avoidedBy_5 ?_
  exact hend (by decide) (by decide) hf dX6_avoidedBy_8
theorem dX6_boughtBy_0 : decode cX6_boughtBy 0 = .ok (.aload_n 0, 1) := by decide +kernel
theorem dX6_boughtBy_1 : decode cX6_boughtBy 1 = .ok (.iload_n 1, 1) := by decide +kernel
theorem dX6_boughtBy_2 : decode cX6_boughtBy 2 = .ok (.invokevirtual 214, 3) := by decide +kernel
theorem dX6_boughtBy_5 : decode cX6_boughtBy 5 = .ok (.getfield 239, 3) := by decide +kernel
theorem dX6_boughtBy_8 : decode cX6_boughtBy 8 = .ok (.ireturn, 1) := by decide +kernel
theorem hd_X6_boughtBy : yX6_boughtBy.cls = RX6 ∧ yX6_boughtBy.cls ≠ "java/lang/invoke/MethodHandle" ∧ yX6_boughtBy.cls ≠ "java/lang/invoke/VarHandle" ∧ (parseMethodDescriptor yX6_boughtBy.desc).map (fun d => d.parameters.length) = some 1 := by decide +kernel
set_option maxRecDepth 100000 in
set_option maxHeartbeats 4000000 in
theorem c_X6_boughtBy (l : Launch) (D : va_G) (g : xG) (tb : List xQ) (hT : x_T g tb) (hlst : l.stackTraces = false) {a1 : Int32} (h0 : x_fb tb) {M : xM} {k : Nat} {r : Int32} {M' : xM} (hf : f_X6_boughtBy a1 M = some (k, r, M')) :
    tI l D g tb yX6_boughtBy cX6_boughtBy 2 .int ({ frames := 8, cells := 1, slots := 6, locals := 124 } : Room) 1 [.ref (g.1 4 1664), .int a1] M k r M' := by
  refine x_tstartI (own := RX6) (r := r) (by decide +kernel) rfl rfl (Nat.le_of_ble_eq_true rfl) hT ?_
  intro p e s m args below meth c Q C0 hend hpr hthr
  unfold f_X6_boughtBy at hf
  refine r_aload_n C0 (kk := 0) 0 rfl dX6_boughtBy_0 ?_
  refine r_iload_n C0 (kk := 1) 1 rfl dX6_boughtBy_1 ?_
  obtain ⟨k2, r4, M3, hc1, hx5, hf⟩ := tbd_e hf
  refine r_tcallVr C0 (As := [.int a1]) (rest := []) (c_X6_buyerAt l D g tb hT hlst h0 hc1) w4_233 w4_235 wp2_12 w1_1 w4_236 (x_rec4 C0 h0.1) hd_X6_buyerAt rfl ⟨rfl, rfl⟩ ⟨Nat.le_of_ble_eq_true rfl, Nat.le_of_ble_eq_true rfl⟩ (by decide) (by decide) rfl (Nat.le_of_ble_eq_true rfl) dX6_boughtBy_2 (fun H1 locs1 ls E ce q hk hE hH hS hl h1 h2 h3 => hpr (by decide) (by decide) hk hE hH hS h1 h2 h3 (hx5 hk)) (fun hm6 hk => ?_)
  have hf := hf hk
  refine r_get1 C0 hm6 7 (by decide) (v := .int (M3 (r4 + 7))) rfl rfl w1_117 dX6_boughtBy_5 ?_
  exact hend (by decide) (by decide) hf dX6_boughtBy_8
theorem dX6_targetOf_0 : decode cX6_targetOf 0 = .ok (.aload_n 0, 1) := by decide +kernel
theorem dX6_targetOf_1 : decode cX6_targetOf 1 = .ok (.iload_n 1, 1) := by decide +kernel
theorem dX6_targetOf_2 : decode cX6_targetOf 2 = .ok (.invokevirtual 214, 3) := by decide +kernel
theorem dX6_targetOf_5 : decode cX6_targetOf 5 = .ok (.astore_n 2, 1) := by decide +kernel
theorem dX6_targetOf_6 : decode cX6_targetOf 6 = .ok (.aload_n 2, 1) := by decide +kernel
theorem dX6_targetOf_7 : decode cX6_targetOf 7 = .ok (.invokevirtual 242, 3) := by decide +kernel
theorem dX6_targetOf_10 : decode cX6_targetOf 10 = .ok (.ifCond .eq 7, 3) := by decide +kernel
theorem dX6_targetOf_13 : decode cX6_targetOf 13 = .ok (.iconst (-1), 1) := by decide +kernel
theorem dX6_targetOf_14 : decode cX6_targetOf 14 = .ok (.goto 18, 3) := by decide +kernel
theorem dX6_targetOf_17 : decode cX6_targetOf 17 = .ok (.aload_n 0, 1) := by decide +kernel
theorem dX6_targetOf_18 : decode cX6_targetOf 18 = .ok (.getfield 10, 3) := by decide +kernel
theorem dX6_targetOf_21 : decode cX6_targetOf 21 = .ok (.aload_n 2, 1) := by decide +kernel
theorem dX6_targetOf_22 : decode cX6_targetOf 22 = .ok (.aload_n 0, 1) := by decide +kernel
theorem dX6_targetOf_23 : decode cX6_targetOf 23 = .ok (.getfield 10, 3) := by decide +kernel
theorem dX6_targetOf_26 : decode cX6_targetOf 26 = .ok (.invokevirtual 143, 3) := by decide +kernel
theorem dX6_targetOf_29 : decode cX6_targetOf 29 = .ok (.invokevirtual 245, 3) := by decide +kernel
theorem dX6_targetOf_32 : decode cX6_targetOf 32 = .ok (.ireturn, 1) := by decide +kernel
theorem hd_X6_targetOf : yX6_targetOf.cls = RX6 ∧ yX6_targetOf.cls ≠ "java/lang/invoke/MethodHandle" ∧ yX6_targetOf.cls ≠ "java/lang/invoke/VarHandle" ∧ (parseMethodDescriptor yX6_targetOf.desc).map (fun d => d.parameters.length) = some 1 := by decide +kernel
set_option maxRecDepth 100000 in
set_option maxHeartbeats 4000000 in
theorem c_X6_targetOf (l : Launch) (D : va_G) (g : xG) (tb : List xQ) (hT : x_T g tb) (hlst : l.stackTraces = false) {a1 : Int32} (h0 : x_fb tb) {M : xM} {k : Nat} {r : Int32} {M' : xM} (hf : f_X6_targetOf a1 M = some (k, r, M')) :
    tI l D g tb yX6_targetOf cX6_targetOf 3 .int ({ frames := 8, cells := 1, slots := 6, locals := 124 } : Room) 1 [.ref (g.1 4 1664), .int a1] M k r M' := by
  refine x_tstartI (own := RX6) (r := r) (by decide +kernel) rfl rfl (Nat.le_of_ble_eq_true rfl) hT ?_
  intro p e s m args below meth c Q C0 hend hpr hthr
  unfold f_X6_targetOf at hf
  refine r_aload_n C0 (kk := 0) 0 rfl dX6_targetOf_0 ?_
  refine r_iload_n C0 (kk := 1) 1 rfl dX6_targetOf_1 ?_
  obtain ⟨k2, r4, M3, hc1, hx5, hf⟩ := tbd_e hf
  refine r_tcallVr C0 (As := [.int a1]) (rest := []) (c_X6_buyerAt l D g tb hT hlst h0 hc1) w4_233 w4_235 wp2_12 w1_1 w4_236 (x_rec4 C0 h0.1) hd_X6_buyerAt rfl ⟨rfl, rfl⟩ ⟨Nat.le_of_ble_eq_true rfl, Nat.le_of_ble_eq_true rfl⟩ (by decide) (by decide) rfl (Nat.le_of_ble_eq_true rfl) dX6_targetOf_2 (fun H1 locs1 ls E ce q hk hE hH hS hl h1 h2 h3 => hpr (by decide) (by decide) hk hE hH hS h1 h2 h3 (hx5 hk)) (fun hm6 hk => ?_)
  have hf := hf hk
  refine r_astore_n C0 (kk := 2) (lv2 := [(2, .ref (g.1 1 r4)), (0, .ref (g.1 4 1664)), (1, .int a1)]) (by decide) rfl dX6_targetOf_5 ?_
  refine r_aload_n C0 (kk := 2) 0 rfl dX6_targetOf_6 ?_
  obtain ⟨r9, M8, hc7, hf⟩ := bd2_e hf
  refine r_callVi C0 (As := []) (rest := []) (c_X1_holds l D g tb hT hm6 hc7) w5_58 w2_202 w2_203 w1_4 w2_204 (x_rec1 C0 hm6) hd_X1_holds rfl ⟨rfl, rfl⟩ ⟨Nat.le_of_ble_eq_true rfl, Nat.le_of_ble_eq_true rfl⟩ (by decide) (by decide) rfl (Nat.le_of_ble_eq_true rfl) dX6_targetOf_7 ?_
  refine r_if_eq C0 (tgt := 17) (by decide) dX6_targetOf_10 (fun q10 => ?_) (fun q10 => ?_)
  · have hf := ie_t hf q10
    refine r_aload_n C0 (kk := 0) 1 rfl dX6_targetOf_17 ?_
    refine r_get4 C0 h0.1 0 (by decide) (v := .ref (g.1 2 0)) rfl rfl w3_102 dX6_targetOf_18 ?_
    refine r_aload_n C0 (kk := 2) 0 rfl dX6_targetOf_21 ?_
    refine r_aload_n C0 (kk := 0) 1 rfl dX6_targetOf_22 ?_
    refine r_get4 C0 h0.1 0 (by decide) (v := .ref (g.1 2 0)) rfl rfl w3_102 dX6_targetOf_23 ?_
    obtain ⟨r13, M12, hc11, hf⟩ := bd2_e hf
    refine r_callVi C0 (As := []) (rest := [.ref (g.1 1 r4), .ref (g.1 2 0)]) (c_X2_densityNow l D g tb hT h0.2.1 hc11) w3_211 w3_21 w3_22 w1_2 w3_23 (x_rec2 C0 h0.2.1.1) hd_X2_densityNow rfl ⟨rfl, rfl⟩ ⟨Nat.le_of_ble_eq_true rfl, Nat.le_of_ble_eq_true rfl⟩ (by decide) (by decide) rfl (Nat.le_of_ble_eq_true rfl) dX6_targetOf_26 ?_
    obtain ⟨r16, M15, hc14, hf⟩ := bd2_e hf
    refine r_callVi C0 (As := [.ref (g.1 1 r4), .int r13]) (rest := []) (c_X2_findTarget l D g tb hT h0.2.1 hm6 hc14) w5_59 w3_46 w3_47 w1_2 w3_48 (x_rec2 C0 h0.2.1.1) hd_X2_findTarget rfl ⟨rfl, rfl⟩ ⟨Nat.le_of_ble_eq_true rfl, Nat.le_of_ble_eq_true rfl⟩ (by decide) (by decide) rfl (Nat.le_of_ble_eq_true rfl) dX6_targetOf_29 ?_
    exact hend (by decide) (by decide) hf dX6_targetOf_32
  · have hf := ie_f hf q10
    refine r_iconst C0 (v := (-1)) dX6_targetOf_13 rfl ?_
    refine r_goto C0 (tgt := 32) (by decide) dX6_targetOf_14 ?_
    exact hend (by decide) (by decide) hf dX6_targetOf_32
theorem dX6_touch_0 : decode cX6_touch 0 = .ok (.aload_n 0, 1) := by decide +kernel
theorem dX6_touch_1 : decode cX6_touch 1 = .ok (.iload_n 1, 1) := by decide +kernel
theorem dX6_touch_2 : decode cX6_touch 2 = .ok (.invokevirtual 214, 3) := by decide +kernel
theorem dX6_touch_5 : decode cX6_touch 5 = .ok (.aload_n 0, 1) := by decide +kernel
theorem dX6_touch_6 : decode cX6_touch 6 = .ok (.iload_n 2, 1) := by decide +kernel
theorem dX6_touch_7 : decode cX6_touch 7 = .ok (.invokevirtual 152, 3) := by decide +kernel
theorem dX6_touch_10 : decode cX6_touch 10 = .ok (.invokevirtual 249, 3) := by decide +kernel
theorem dX6_touch_13 : decode cX6_touch 13 = .ok (.ireturn, 1) := by decide +kernel
theorem hd_X6_touch : yX6_touch.cls = RX6 ∧ yX6_touch.cls ≠ "java/lang/invoke/MethodHandle" ∧ yX6_touch.cls ≠ "java/lang/invoke/VarHandle" ∧ (parseMethodDescriptor yX6_touch.desc).map (fun d => d.parameters.length) = some 2 := by decide +kernel
set_option maxRecDepth 100000 in
set_option maxHeartbeats 4000000 in
theorem c_X6_touch (l : Launch) (D : va_G) (g : xG) (tb : List xQ) (hT : x_T g tb) (hlst : l.stackTraces = false) {a1 : Int32} {a2 : Int32} (h0 : x_fb tb) {M : xM} {k : Nat} {r : Int32} {M' : xM} (hf : f_X6_touch a1 a2 M = some (k, r, M')) :
    tI l D g tb yX6_touch cX6_touch 3 .int ({ frames := 8, cells := 2, slots := 12, locals := 124 } : Room) 2 [.ref (g.1 4 1664), .int a1, .int a2] M k r M' := by
  refine x_tstartI (own := RX6) (r := r) (by decide +kernel) rfl rfl (Nat.le_of_ble_eq_true rfl) hT ?_
  intro p e s m args below meth c Q C0 hend hpr hthr
  unfold f_X6_touch at hf
  refine r_aload_n C0 (kk := 0) 0 rfl dX6_touch_0 ?_
  refine r_iload_n C0 (kk := 1) 1 rfl dX6_touch_1 ?_
  obtain ⟨k2, r4, M3, hc1, hx5, hf⟩ := tbd_e hf
  refine r_tcallVr C0 (As := [.int a1]) (rest := []) (c_X6_buyerAt l D g tb hT hlst h0 hc1) w4_233 w4_235 wp2_12 w1_1 w4_236 (x_rec4 C0 h0.1) hd_X6_buyerAt rfl ⟨rfl, rfl⟩ ⟨Nat.le_of_ble_eq_true rfl, Nat.le_of_ble_eq_true rfl⟩ (by decide) (by decide) rfl (Nat.le_of_ble_eq_true rfl) dX6_touch_2 (fun H1 locs1 ls E ce q hk hE hH hS hl h1 h2 h3 => hpr (by decide) (by decide) hk hE hH hS h1 h2 h3 (hx5 hk)) (fun hm6 hk => ?_)
  have hf := hf hk
  refine r_aload_n C0 (kk := 0) 0 rfl dX6_touch_5 ?_
  refine r_iload_n C0 (kk := 2) 2 rfl dX6_touch_6 ?_
  obtain ⟨k8, r10, M9, hc7, hx11, hf⟩ := tbd_e hf
  refine r_tcallVr C0 (As := [.int a2]) (rest := [.ref (g.1 1 r4)]) (c_X6_stallAt l D g tb hT hlst h0 hc7) w4_125 w4_127 wp2_10 w1_1 w4_128 (x_rec4 C0 h0.1) hd_X6_stallAt rfl ⟨rfl, rfl⟩ ⟨Nat.le_of_ble_eq_true rfl, Nat.le_of_ble_eq_true rfl⟩ (by decide) (by decide) rfl (Nat.le_of_ble_eq_true rfl) dX6_touch_7 (fun H1 locs1 ls E ce q hk hE hH hS hl h1 h2 h3 => hpr (by decide) (by decide) hk hE hH hS h1 h2 h3 (hx11 hk)) (fun hm12 hk => ?_)
  have hf := hf hk
  obtain ⟨r15, M14, hc13, hf⟩ := bd2_e hf
  refine r_callVi C0 (As := [.ref (g.1 0 r10)]) (rest := []) (c_X1_feel l D g tb hT hm6 hm12 hc13) w5_67 w3_60 w3_61 w1_4 w3_62 (x_rec1 C0 hm6) hd_X1_feel rfl ⟨rfl, rfl⟩ ⟨Nat.le_of_ble_eq_true rfl, Nat.le_of_ble_eq_true rfl⟩ (by decide) (by decide) rfl (Nat.le_of_ble_eq_true rfl) dX6_touch_10 ?_
  exact hend (by decide) (by decide) hf dX6_touch_13
theorem dX6_addStall_0 : decode cX6_addStall 0 = .ok (.iload_n 1, 1) := by decide +kernel
theorem dX6_addStall_1 : decode cX6_addStall 1 = .ok (.iconst 0, 1) := by decide +kernel
theorem dX6_addStall_2 : decode cX6_addStall 2 = .ok (.bipush 99, 2) := by decide +kernel
theorem dX6_addStall_4 : decode cX6_addStall 4 = .ok (.invokestatic 123, 3) := by decide +kernel
theorem dX6_addStall_7 : decode cX6_addStall 7 = .ok (.iload_n 2, 1) := by decide +kernel
theorem dX6_addStall_8 : decode cX6_addStall 8 = .ok (.iconst 0, 1) := by decide +kernel
theorem dX6_addStall_9 : decode cX6_addStall 9 = .ok (.iconst 3, 1) := by decide +kernel
theorem dX6_addStall_10 : decode cX6_addStall 10 = .ok (.invokestatic 123, 3) := by decide +kernel
theorem dX6_addStall_13 : decode cX6_addStall 13 = .ok (.iload_n 3, 1) := by decide +kernel
theorem dX6_addStall_14 : decode cX6_addStall 14 = .ok (.iconst 0, 1) := by decide +kernel
theorem dX6_addStall_15 : decode cX6_addStall 15 = .ok (.iconst 2, 1) := by decide +kernel
theorem dX6_addStall_16 : decode cX6_addStall 16 = .ok (.invokestatic 123, 3) := by decide +kernel
theorem dX6_addStall_19 : decode cX6_addStall 19 = .ok (.iload 4, 2) := by decide +kernel
theorem dX6_addStall_21 : decode cX6_addStall 21 = .ok (.iconst 1, 1) := by decide +kernel
theorem dX6_addStall_22 : decode cX6_addStall 22 = .ok (.sipush 999, 3) := by decide +kernel
theorem dX6_addStall_25 : decode cX6_addStall 25 = .ok (.invokestatic 123, 3) := by decide +kernel
theorem dX6_addStall_28 : decode cX6_addStall 28 = .ok (.iload 5, 2) := by decide +kernel
theorem dX6_addStall_30 : decode cX6_addStall 30 = .ok (.iconst 0, 1) := by decide +kernel
theorem dX6_addStall_31 : decode cX6_addStall 31 = .ok (.bipush 99, 2) := by decide +kernel
theorem dX6_addStall_33 : decode cX6_addStall 33 = .ok (.invokestatic 123, 3) := by decide +kernel
theorem dX6_addStall_36 : decode cX6_addStall 36 = .ok (.aload_n 0, 1) := by decide +kernel
theorem dX6_addStall_37 : decode cX6_addStall 37 = .ok (.getfield 10, 3) := by decide +kernel
theorem dX6_addStall_40 : decode cX6_addStall 40 = .ok (.getfield 66, 3) := by decide +kernel
theorem dX6_addStall_43 : decode cX6_addStall 43 = .ok (.bipush 6, 2) := by decide +kernel
theorem dX6_addStall_45 : decode cX6_addStall 45 = .ok (.if_icmp .lt 14, 3) := by decide +kernel
theorem dX6_addStall_48 : decode cX6_addStall 48 = .ok (.new 279, 3) := by decide +kernel
theorem dX6_addStall_51 : decode cX6_addStall 51 = .ok (.dup, 1) := by decide +kernel
theorem dX6_addStall_52 : decode cX6_addStall 52 = .ok (.ldc_w 281, 3) := by decide +kernel
theorem dX6_addStall_55 : decode cX6_addStall 55 = .ok (.invokespecial 283, 3) := by decide +kernel
theorem dX6_addStall_58 : decode cX6_addStall 58 = .ok (.athrow, 1) := by decide +kernel
theorem dX6_addStall_59 : decode cX6_addStall 59 = .ok (.aload_n 0, 1) := by decide +kernel
theorem dX6_addStall_60 : decode cX6_addStall 60 = .ok (.invokevirtual 83, 3) := by decide +kernel
theorem dX6_addStall_63 : decode cX6_addStall 63 = .ok (.aload_n 0, 1) := by decide +kernel
theorem dX6_addStall_64 : decode cX6_addStall 64 = .ok (.getfield 10, 3) := by decide +kernel
theorem dX6_addStall_67 : decode cX6_addStall 67 = .ok (.iload_n 1, 1) := by decide +kernel
theorem dX6_addStall_68 : decode cX6_addStall 68 = .ok (.iload_n 2, 1) := by decide +kernel
theorem dX6_addStall_69 : decode cX6_addStall 69 = .ok (.iload_n 3, 1) := by decide +kernel
theorem dX6_addStall_70 : decode cX6_addStall 70 = .ok (.iload 4, 2) := by decide +kernel
theorem dX6_addStall_72 : decode cX6_addStall 72 = .ok (.iload 5, 2) := by decide +kernel
theorem dX6_addStall_74 : decode cX6_addStall 74 = .ok (.invokevirtual 284, 3) := by decide +kernel
theorem dX6_addStall_77 : decode cX6_addStall 77 = .ok (.ireturn, 1) := by decide +kernel
theorem hd_X6_addStall : yX6_addStall.cls = RX6 ∧ yX6_addStall.cls ≠ "java/lang/invoke/MethodHandle" ∧ yX6_addStall.cls ≠ "java/lang/invoke/VarHandle" ∧ (parseMethodDescriptor yX6_addStall.desc).map (fun d => d.parameters.length) = some 5 := by decide +kernel
set_option maxRecDepth 100000 in
set_option maxHeartbeats 4000000 in
theorem c_X6_addStall (l : Launch) (D : va_G) (g : xG) (tb : List xQ) (hT : x_T g tb) (hlst : l.stackTraces = false) {a1 : Int32} {a2 : Int32} {a3 : Int32} {a4 : Int32} {a5 : Int32} (h0 : x_fb tb) {M : xM} {k : Nat} {r : Int32} {M' : xM} (hf : f_X6_addStall a1 a2 a3 a4 a5 M = some (k, r, M')) :
    tI l D g tb yX6_addStall cX6_addStall 6 .int ({ frames := 7, cells := 6, slots := 36, locals := 104 } : Room) 6 [.ref (g.1 4 1664), .int a1, .int a2, .int a3, .int a4, .int a5] M k r M' := by
  refine x_tstartI (own := RX6) (r := r) (by decide +kernel) rfl rfl (Nat.le_of_ble_eq_true rfl) hT ?_
  intro p e s m args below meth c Q C0 hend hpr hthr
  unfold f_X6_addStall at hf
  refine r_iload_n C0 (kk := 1) 1 rfl dX6_addStall_0 ?_
  refine r_iconst C0 (v := 0) dX6_addStall_1 rfl ?_
  refine r_bipush C0 (v := 99) dX6_addStall_2 rfl ?_
  obtain ⟨k2, r4, M3, hc1, hx5, hf⟩ := tbd_e hf
  refine r_tcallSv C0 (As := [.int a1, .int 0, .int 99]) (rest := []) (c_X6_checkRange l D g tb hT hlst  hc1) w4_45 w4_46 w1_1 w4_47 hd_X6_checkRange rfl ⟨rfl, rfl⟩ ⟨Nat.le_of_ble_eq_true rfl, Nat.le_of_ble_eq_true rfl⟩ (by decide) (by decide) rfl (Nat.le_of_ble_eq_true rfl) dX6_addStall_4 (fun H1 locs1 ls E ce q hk hE hH hS hl h1 h2 h3 => hpr (by decide) (by decide) hk hE hH hS h1 h2 h3 (hx5 hk)) (fun hk => ?_)
  have hf := hf hk
  refine r_iload_n C0 (kk := 2) 2 rfl dX6_addStall_7 ?_
  refine r_iconst C0 (v := 0) dX6_addStall_8 rfl ?_
  refine r_iconst C0 (v := 3) dX6_addStall_9 rfl ?_
  obtain ⟨k8, r10, M9, hc7, hx11, hf⟩ := tbd_e hf
  refine r_tcallSv C0 (As := [.int a2, .int 0, .int 3]) (rest := []) (c_X6_checkRange l D g tb hT hlst  hc7) w4_45 w4_46 w1_1 w4_47 hd_X6_checkRange rfl ⟨rfl, rfl⟩ ⟨Nat.le_of_ble_eq_true rfl, Nat.le_of_ble_eq_true rfl⟩ (by decide) (by decide) rfl (Nat.le_of_ble_eq_true rfl) dX6_addStall_10 (fun H1 locs1 ls E ce q hk hE hH hS hl h1 h2 h3 => hpr (by decide) (by decide) hk hE hH hS h1 h2 h3 (hx11 hk)) (fun hk => ?_)
  have hf := hf hk
  refine r_iload_n C0 (kk := 3) 3 rfl dX6_addStall_13 ?_
  refine r_iconst C0 (v := 0) dX6_addStall_14 rfl ?_
  refine r_iconst C0 (v := 2) dX6_addStall_15 rfl ?_
  obtain ⟨k14, r16, M15, hc13, hx17, hf⟩ := tbd_e hf
  refine r_tcallSv C0 (As := [.int a3, .int 0, .int 2]) (rest := []) (c_X6_checkRange l D g tb hT hlst  hc13) w4_45 w4_46 w1_1 w4_47 hd_X6_checkRange rfl ⟨rfl, rfl⟩ ⟨Nat.le_of_ble_eq_true rfl, Nat.le_of_ble_eq_true rfl⟩ (by decide) (by decide) rfl (Nat.le_of_ble_eq_true rfl) dX6_addStall_16 (fun H1 locs1 ls E ce q hk hE hH hS hl h1 h2 h3 => hpr (by decide) (by decide) hk hE hH hS h1 h2 h3 (hx17 hk)) (fun hk => ?_)
  have hf := hf hk
  refine r_iload C0 4 rfl dX6_addStall_19 ?_
  refine r_iconst C0 (v := 1) dX6_addStall_21 rfl ?_
  refine r_sipush C0 (v := 999) dX6_addStall_22 rfl ?_
  obtain ⟨k20, r22, M21, hc19, hx23, hf⟩ := tbd_e hf
  refine r_tcallSv C0 (As := [.int a4, .int 1, .int 999]) (rest := []) (c_X6_checkRange l D g tb hT hlst  hc19) w4_45 w4_46 w1_1 w4_47 hd_X6_checkRange rfl ⟨rfl, rfl⟩ ⟨Nat.le_of_ble_eq_true rfl, Nat.le_of_ble_eq_true rfl⟩ (by decide) (by decide) rfl (Nat.le_of_ble_eq_true rfl) dX6_addStall_25 (fun H1 locs1 ls E ce q hk hE hH hS hl h1 h2 h3 => hpr (by decide) (by decide) hk hE hH hS h1 h2 h3 (hx23 hk)) (fun hk => ?_)
  have hf := hf hk
  refine r_iload C0 5 rfl dX6_addStall_28 ?_
  refine r_iconst C0 (v := 0) dX6_addStall_30 rfl ?_
  refine r_bipush C0 (v := 99) dX6_addStall_31 rfl ?_
  obtain ⟨k26, r28, M27, hc25, hx29, hf⟩ := tbd_e hf
  refine r_tcallSv C0 (As := [.int a5, .int 0, .int 99]) (rest := []) (c_X6_checkRange l D g tb hT hlst  hc25) w4_45 w4_46 w1_1 w4_47 hd_X6_checkRange rfl ⟨rfl, rfl⟩ ⟨Nat.le_of_ble_eq_true rfl, Nat.le_of_ble_eq_true rfl⟩ (by decide) (by decide) rfl (Nat.le_of_ble_eq_true rfl) dX6_addStall_33 (fun H1 locs1 ls E ce q hk hE hH hS hl h1 h2 h3 => hpr (by decide) (by decide) hk hE hH hS h1 h2 h3 (hx29 hk)) (fun hk => ?_)
  have hf := hf hk
  refine r_aload_n C0 (kk := 0) 0 rfl dX6_addStall_36 ?_
  refine r_get4 C0 h0.1 0 (by decide) (v := .ref (g.1 2 0)) rfl rfl w3_102 dX6_addStall_37 ?_
  refine r_get2 C0 h0.2.1.1 1 (by decide) (v := .int (M27 9)) rfl rfl w1_139 dX6_addStall_40 ?_
  refine r_bipush C0 (v := 6) dX6_addStall_43 rfl ?_
  refine r_icmp_lt C0 (tgt := 59) (by decide) dX6_addStall_45 (fun q31 => ?_) (fun q31 => ?_)
  · have hf := ie_t hf q31
    refine r_aload_n C0 (kk := 0) 0 rfl dX6_addStall_59 ?_
    obtain ⟨M33, hc32, hf⟩ := bd_e hf
    refine r_callVv C0 (As := []) (rest := []) (c_X6_remember l D g tb hT h0 hc32) w3_156 w3_158 wp2_7 w1_1 w3_159 (x_rec4 C0 h0.1) hd_X6_remember rfl ⟨rfl, rfl⟩ ⟨Nat.le_of_ble_eq_true rfl, Nat.le_of_ble_eq_true rfl⟩ (by decide) (by decide) rfl (Nat.le_of_ble_eq_true rfl) dX6_addStall_60 ?_
    refine r_aload_n C0 (kk := 0) 0 rfl dX6_addStall_63 ?_
    refine r_get4 C0 h0.1 0 (by decide) (v := .ref (g.1 2 0)) rfl rfl w3_102 dX6_addStall_64 ?_
    refine r_iload_n C0 (kk := 1) 1 rfl dX6_addStall_67 ?_
    refine r_iload_n C0 (kk := 2) 2 rfl dX6_addStall_68 ?_
    refine r_iload_n C0 (kk := 3) 3 rfl dX6_addStall_69 ?_
    refine r_iload C0 4 rfl dX6_addStall_70 ?_
    refine r_iload C0 5 rfl dX6_addStall_72 ?_
    obtain ⟨r36, M35, hc34, hf⟩ := bd2_e hf
    refine r_callVi C0 (As := [.int a1, .int a2, .int a3, .int a4, .int a5]) (rest := []) (c_X2_placeStall l D g tb hT h0.2.1 hc34) w5_120 w2_219 w2_220 w1_2 w2_221 (x_rec2 C0 h0.2.1.1) hd_X2_placeStall rfl ⟨rfl, rfl⟩ ⟨Nat.le_of_ble_eq_true rfl, Nat.le_of_ble_eq_true rfl⟩ (by decide) (by decide) rfl (Nat.le_of_ble_eq_true rfl) dX6_addStall_74 ?_
    exact hend (by decide) (by decide) hf dX6_addStall_77
  · have hf := ie_f hf q31
    exact hthr hlst rfl x_tk3 (by decide) (si := 13) rfl dX6_addStall_48 dX6_addStall_51 (Or.inr ⟨dX6_addStall_52, dX6_addStall_55, dX6_addStall_58⟩) (by decide) (Nat.le_of_ble_eq_true rfl) (by decide) (by decide) (by decide) (by decide) hf
theorem dX6_addBuyer_0 : decode cX6_addBuyer 0 = .ok (.iload_n 1, 1) := by decide +kernel
theorem dX6_addBuyer_1 : decode cX6_addBuyer 1 = .ok (.iconst 0, 1) := by decide +kernel
theorem dX6_addBuyer_2 : decode cX6_addBuyer 2 = .ok (.bipush 99, 2) := by decide +kernel
theorem dX6_addBuyer_4 : decode cX6_addBuyer 4 = .ok (.invokestatic 123, 3) := by decide +kernel
theorem dX6_addBuyer_7 : decode cX6_addBuyer 7 = .ok (.iload_n 2, 1) := by decide +kernel
theorem dX6_addBuyer_8 : decode cX6_addBuyer 8 = .ok (.iconst 0, 1) := by decide +kernel
theorem dX6_addBuyer_9 : decode cX6_addBuyer 9 = .ok (.sipush 9999, 3) := by decide +kernel
theorem dX6_addBuyer_12 : decode cX6_addBuyer 12 = .ok (.invokestatic 123, 3) := by decide +kernel
theorem dX6_addBuyer_15 : decode cX6_addBuyer 15 = .ok (.iload_n 3, 1) := by decide +kernel
theorem dX6_addBuyer_16 : decode cX6_addBuyer 16 = .ok (.iconst 0, 1) := by decide +kernel
theorem dX6_addBuyer_17 : decode cX6_addBuyer 17 = .ok (.iconst 2, 1) := by decide +kernel
theorem dX6_addBuyer_18 : decode cX6_addBuyer 18 = .ok (.invokestatic 123, 3) := by decide +kernel
theorem dX6_addBuyer_21 : decode cX6_addBuyer 21 = .ok (.iload 4, 2) := by decide +kernel
theorem dX6_addBuyer_23 : decode cX6_addBuyer 23 = .ok (.iconst 1, 1) := by decide +kernel
theorem dX6_addBuyer_24 : decode cX6_addBuyer 24 = .ok (.bipush 20, 2) := by decide +kernel
theorem dX6_addBuyer_26 : decode cX6_addBuyer 26 = .ok (.invokestatic 123, 3) := by decide +kernel
theorem dX6_addBuyer_29 : decode cX6_addBuyer 29 = .ok (.aload_n 0, 1) := by decide +kernel
theorem dX6_addBuyer_30 : decode cX6_addBuyer 30 = .ok (.getfield 10, 3) := by decide +kernel
theorem dX6_addBuyer_33 : decode cX6_addBuyer 33 = .ok (.getfield 211, 3) := by decide +kernel
theorem dX6_addBuyer_36 : decode cX6_addBuyer 36 = .ok (.bipush 6, 2) := by decide +kernel
theorem dX6_addBuyer_38 : decode cX6_addBuyer 38 = .ok (.if_icmp .lt 14, 3) := by decide +kernel
theorem dX6_addBuyer_41 : decode cX6_addBuyer 41 = .ok (.new 279, 3) := by decide +kernel
theorem dX6_addBuyer_44 : decode cX6_addBuyer 44 = .ok (.dup, 1) := by decide +kernel
theorem dX6_addBuyer_45 : decode cX6_addBuyer 45 = .ok (.ldc_w 288, 3) := by decide +kernel
theorem dX6_addBuyer_48 : decode cX6_addBuyer 48 = .ok (.invokespecial 283, 3) := by decide +kernel
theorem dX6_addBuyer_51 : decode cX6_addBuyer 51 = .ok (.athrow, 1) := by decide +kernel
theorem dX6_addBuyer_52 : decode cX6_addBuyer 52 = .ok (.aload_n 0, 1) := by decide +kernel
theorem dX6_addBuyer_53 : decode cX6_addBuyer 53 = .ok (.invokevirtual 83, 3) := by decide +kernel
theorem dX6_addBuyer_56 : decode cX6_addBuyer 56 = .ok (.aload_n 0, 1) := by decide +kernel
theorem dX6_addBuyer_57 : decode cX6_addBuyer 57 = .ok (.getfield 10, 3) := by decide +kernel
theorem dX6_addBuyer_60 : decode cX6_addBuyer 60 = .ok (.iload_n 1, 1) := by decide +kernel
theorem dX6_addBuyer_61 : decode cX6_addBuyer 61 = .ok (.iload_n 2, 1) := by decide +kernel
theorem dX6_addBuyer_62 : decode cX6_addBuyer 62 = .ok (.iload_n 3, 1) := by decide +kernel
theorem dX6_addBuyer_63 : decode cX6_addBuyer 63 = .ok (.iload 4, 2) := by decide +kernel
theorem dX6_addBuyer_65 : decode cX6_addBuyer 65 = .ok (.invokevirtual 290, 3) := by decide +kernel
theorem dX6_addBuyer_68 : decode cX6_addBuyer 68 = .ok (.ireturn, 1) := by decide +kernel
theorem hd_X6_addBuyer : yX6_addBuyer.cls = RX6 ∧ yX6_addBuyer.cls ≠ "java/lang/invoke/MethodHandle" ∧ yX6_addBuyer.cls ≠ "java/lang/invoke/VarHandle" ∧ (parseMethodDescriptor yX6_addBuyer.desc).map (fun d => d.parameters.length) = some 4 := by decide +kernel
set_option maxRecDepth 100000 in
set_option maxHeartbeats 4000000 in
theorem c_X6_addBuyer (l : Launch) (D : va_G) (g : xG) (tb : List xQ) (hT : x_T g tb) (hlst : l.stackTraces = false) {a1 : Int32} {a2 : Int32} {a3 : Int32} {a4 : Int32} (h0 : x_fb tb) {M : xM} {k : Nat} {r : Int32} {M' : xM} (hf : f_X6_addBuyer a1 a2 a3 a4 M = some (k, r, M')) :
    tI l D g tb yX6_addBuyer cX6_addBuyer 5 .int ({ frames := 7, cells := 5, slots := 30, locals := 104 } : Room) 5 [.ref (g.1 4 1664), .int a1, .int a2, .int a3, .int a4] M k r M' := by
  refine x_tstartI (own := RX6) (r := r) (by decide +kernel) rfl rfl (Nat.le_of_ble_eq_true rfl) hT ?_
  intro p e s m args below meth c Q C0 hend hpr hthr
  unfold f_X6_addBuyer at hf
  refine r_iload_n C0 (kk := 1) 1 rfl dX6_addBuyer_0 ?_
  refine r_iconst C0 (v := 0) dX6_addBuyer_1 rfl ?_
  refine r_bipush C0 (v := 99) dX6_addBuyer_2 rfl ?_
  obtain ⟨k2, r4, M3, hc1, hx5, hf⟩ := tbd_e hf
  refine r_tcallSv C0 (As := [.int a1, .int 0, .int 99]) (rest := []) (c_X6_checkRange l D g tb hT hlst  hc1) w4_45 w4_46 w1_1 w4_47 hd_X6_checkRange rfl ⟨rfl, rfl⟩ ⟨Nat.le_of_ble_eq_true rfl, Nat.le_of_ble_eq_true rfl⟩ (by decide) (by decide) rfl (Nat.le_of_ble_eq_true rfl) dX6_addBuyer_4 (fun H1 locs1 ls E ce q hk hE hH hS hl h1 h2 h3 => hpr (by decide) (by decide) hk hE hH hS h1 h2 h3 (hx5 hk)) (fun hk => ?_)
  have hf := hf hk
  refine r_iload_n C0 (kk := 2) 2 rfl dX6_addBuyer_7 ?_
  refine r_iconst C0 (v := 0) dX6_addBuyer_8 rfl ?_
  refine r_sipush C0 (v := 9999) dX6_addBuyer_9 rfl ?_
  obtain ⟨k8, r10, M9, hc7, hx11, hf⟩ := tbd_e hf
  refine r_tcallSv C0 (As := [.int a2, .int 0, .int 9999]) (rest := []) (c_X6_checkRange l D g tb hT hlst  hc7) w4_45 w4_46 w1_1 w4_47 hd_X6_checkRange rfl ⟨rfl, rfl⟩ ⟨Nat.le_of_ble_eq_true rfl, Nat.le_of_ble_eq_true rfl⟩ (by decide) (by decide) rfl (Nat.le_of_ble_eq_true rfl) dX6_addBuyer_12 (fun H1 locs1 ls E ce q hk hE hH hS hl h1 h2 h3 => hpr (by decide) (by decide) hk hE hH hS h1 h2 h3 (hx11 hk)) (fun hk => ?_)
  have hf := hf hk
  refine r_iload_n C0 (kk := 3) 3 rfl dX6_addBuyer_15 ?_
  refine r_iconst C0 (v := 0) dX6_addBuyer_16 rfl ?_
  refine r_iconst C0 (v := 2) dX6_addBuyer_17 rfl ?_
  obtain ⟨k14, r16, M15, hc13, hx17, hf⟩ := tbd_e hf
  refine r_tcallSv C0 (As := [.int a3, .int 0, .int 2]) (rest := []) (c_X6_checkRange l D g tb hT hlst  hc13) w4_45 w4_46 w1_1 w4_47 hd_X6_checkRange rfl ⟨rfl, rfl⟩ ⟨Nat.le_of_ble_eq_true rfl, Nat.le_of_ble_eq_true rfl⟩ (by decide) (by decide) rfl (Nat.le_of_ble_eq_true rfl) dX6_addBuyer_18 (fun H1 locs1 ls E ce q hk hE hH hS hl h1 h2 h3 => hpr (by decide) (by decide) hk hE hH hS h1 h2 h3 (hx17 hk)) (fun hk => ?_)
  have hf := hf hk
  refine r_iload C0 4 rfl dX6_addBuyer_21 ?_
  refine r_iconst C0 (v := 1) dX6_addBuyer_23 rfl ?_
  refine r_bipush C0 (v := 20) dX6_addBuyer_24 rfl ?_
  obtain ⟨k20, r22, M21, hc19, hx23, hf⟩ := tbd_e hf
  refine r_tcallSv C0 (As := [.int a4, .int 1, .int 20]) (rest := []) (c_X6_checkRange l D g tb hT hlst  hc19) w4_45 w4_46 w1_1 w4_47 hd_X6_checkRange rfl ⟨rfl, rfl⟩ ⟨Nat.le_of_ble_eq_true rfl, Nat.le_of_ble_eq_true rfl⟩ (by decide) (by decide) rfl (Nat.le_of_ble_eq_true rfl) dX6_addBuyer_26 (fun H1 locs1 ls E ce q hk hE hH hS hl h1 h2 h3 => hpr (by decide) (by decide) hk hE hH hS h1 h2 h3 (hx23 hk)) (fun hk => ?_)
  have hf := hf hk
  refine r_aload_n C0 (kk := 0) 0 rfl dX6_addBuyer_29 ?_
  refine r_get4 C0 h0.1 0 (by decide) (v := .ref (g.1 2 0)) rfl rfl w3_102 dX6_addBuyer_30 ?_
  refine r_get2 C0 h0.2.1.1 3 (by decide) (v := .int (M21 10)) rfl rfl w1_146 dX6_addBuyer_33 ?_
  refine r_bipush C0 (v := 6) dX6_addBuyer_36 rfl ?_
  refine r_icmp_lt C0 (tgt := 52) (by decide) dX6_addBuyer_38 (fun q25 => ?_) (fun q25 => ?_)
  · have hf := ie_t hf q25
    refine r_aload_n C0 (kk := 0) 0 rfl dX6_addBuyer_52 ?_
    obtain ⟨M27, hc26, hf⟩ := bd_e hf
    refine r_callVv C0 (As := []) (rest := []) (c_X6_remember l D g tb hT h0 hc26) w3_156 w3_158 wp2_7 w1_1 w3_159 (x_rec4 C0 h0.1) hd_X6_remember rfl ⟨rfl, rfl⟩ ⟨Nat.le_of_ble_eq_true rfl, Nat.le_of_ble_eq_true rfl⟩ (by decide) (by decide) rfl (Nat.le_of_ble_eq_true rfl) dX6_addBuyer_53 ?_
    refine r_aload_n C0 (kk := 0) 0 rfl dX6_addBuyer_56 ?_
    refine r_get4 C0 h0.1 0 (by decide) (v := .ref (g.1 2 0)) rfl rfl w3_102 dX6_addBuyer_57 ?_
    refine r_iload_n C0 (kk := 1) 1 rfl dX6_addBuyer_60 ?_
    refine r_iload_n C0 (kk := 2) 2 rfl dX6_addBuyer_61 ?_
    refine r_iload_n C0 (kk := 3) 3 rfl dX6_addBuyer_62 ?_
    refine r_iload C0 4 rfl dX6_addBuyer_63 ?_
    obtain ⟨r30, M29, hc28, hf⟩ := bd2_e hf
    refine r_callVi C0 (As := [.int a1, .int a2, .int a3, .int a4]) (rest := []) (c_X2_placeBuyer l D g tb hT h0.2.1 hc28) w5_129 w2_231 w2_232 w1_2 w2_233 (x_rec2 C0 h0.2.1.1) hd_X2_placeBuyer rfl ⟨rfl, rfl⟩ ⟨Nat.le_of_ble_eq_true rfl, Nat.le_of_ble_eq_true rfl⟩ (by decide) (by decide) rfl (Nat.le_of_ble_eq_true rfl) dX6_addBuyer_65 ?_
    exact hend (by decide) (by decide) hf dX6_addBuyer_68
  · have hf := ie_f hf q25
    exact hthr hlst rfl x_tk3 (by decide) (si := 14) rfl dX6_addBuyer_41 dX6_addBuyer_44 (Or.inr ⟨dX6_addBuyer_45, dX6_addBuyer_48, dX6_addBuyer_51⟩) (by decide) (Nat.le_of_ble_eq_true rfl) (by decide) (by decide) (by decide) (by decide) hf
theorem dX6_setPrice_0 : decode cX6_setPrice 0 = .ok (.aload_n 0, 1) := by decide +kernel
theorem dX6_setPrice_1 : decode cX6_setPrice 1 = .ok (.iload_n 1, 1) := by decide +kernel
theorem dX6_setPrice_2 : decode cX6_setPrice 2 = .ok (.invokevirtual 152, 3) := by decide +kernel
theorem dX6_setPrice_5 : decode cX6_setPrice 5 = .ok (.astore_n 3, 1) := by decide +kernel
theorem dX6_setPrice_6 : decode cX6_setPrice 6 = .ok (.iload_n 2, 1) := by decide +kernel
theorem dX6_setPrice_7 : decode cX6_setPrice 7 = .ok (.iconst 1, 1) := by decide +kernel
theorem dX6_setPrice_8 : decode cX6_setPrice 8 = .ok (.sipush 999, 3) := by decide +kernel
theorem dX6_setPrice_11 : decode cX6_setPrice 11 = .ok (.invokestatic 123, 3) := by decide +kernel
theorem dX6_setPrice_14 : decode cX6_setPrice 14 = .ok (.aload_n 0, 1) := by decide +kernel
theorem dX6_setPrice_15 : decode cX6_setPrice 15 = .ok (.invokevirtual 83, 3) := by decide +kernel
theorem dX6_setPrice_18 : decode cX6_setPrice 18 = .ok (.aload_n 3, 1) := by decide +kernel
theorem dX6_setPrice_19 : decode cX6_setPrice 19 = .ok (.getfield 167, 3) := by decide +kernel
theorem dX6_setPrice_22 : decode cX6_setPrice 22 = .ok (.istore 4, 2) := by decide +kernel
theorem dX6_setPrice_24 : decode cX6_setPrice 24 = .ok (.aload_n 3, 1) := by decide +kernel
theorem dX6_setPrice_25 : decode cX6_setPrice 25 = .ok (.iload_n 2, 1) := by decide +kernel
theorem dX6_setPrice_26 : decode cX6_setPrice 26 = .ok (.putfield 167, 3) := by decide +kernel
theorem dX6_setPrice_29 : decode cX6_setPrice 29 = .ok (.iload 4, 2) := by decide +kernel
theorem dX6_setPrice_31 : decode cX6_setPrice 31 = .ok (.ireturn, 1) := by decide +kernel
theorem hd_X6_setPrice : yX6_setPrice.cls = RX6 ∧ yX6_setPrice.cls ≠ "java/lang/invoke/MethodHandle" ∧ yX6_setPrice.cls ≠ "java/lang/invoke/VarHandle" ∧ (parseMethodDescriptor yX6_setPrice.desc).map (fun d => d.parameters.length) = some 2 := by decide +kernel
set_option maxRecDepth 100000 in
set_option maxHeartbeats 4000000 in
theorem c_X6_setPrice (l : Launch) (D : va_G) (g : xG) (tb : List xQ) (hT : x_T g tb) (hlst : l.stackTraces = false) {a1 : Int32} {a2 : Int32} (h0 : x_fb tb) {M : xM} {k : Nat} {r : Int32} {M' : xM} (hf : f_X6_setPrice a1 a2 M = some (k, r, M')) :
    tI l D g tb yX6_setPrice cX6_setPrice 5 .int ({ frames := 8, cells := 2, slots := 12, locals := 124 } : Room) 2 [.ref (g.1 4 1664), .int a1, .int a2] M k r M' := by
  refine x_tstartI (own := RX6) (r := r) (by decide +kernel) rfl rfl (Nat.le_of_ble_eq_true rfl) hT ?_
  intro p e s m args below meth c Q C0 hend hpr hthr
  unfold f_X6_setPrice at hf
  refine r_aload_n C0 (kk := 0) 0 rfl dX6_setPrice_0 ?_
  refine r_iload_n C0 (kk := 1) 1 rfl dX6_setPrice_1 ?_
  obtain ⟨k2, r4, M3, hc1, hx5, hf⟩ := tbd_e hf
  refine r_tcallVr C0 (As := [.int a1]) (rest := []) (c_X6_stallAt l D g tb hT hlst h0 hc1) w4_125 w4_127 wp2_10 w1_1 w4_128 (x_rec4 C0 h0.1) hd_X6_stallAt rfl ⟨rfl, rfl⟩ ⟨Nat.le_of_ble_eq_true rfl, Nat.le_of_ble_eq_true rfl⟩ (by decide) (by decide) rfl (Nat.le_of_ble_eq_true rfl) dX6_setPrice_2 (fun H1 locs1 ls E ce q hk hE hH hS hl h1 h2 h3 => hpr (by decide) (by decide) hk hE hH hS h1 h2 h3 (hx5 hk)) (fun hm6 hk => ?_)
  have hf := hf hk
  refine r_astore_n C0 (kk := 3) (lv2 := [(3, .ref (g.1 0 r4)), (0, .ref (g.1 4 1664)), (1, .int a1), (2, .int a2)]) (by decide) rfl dX6_setPrice_5 ?_
  refine r_iload_n C0 (kk := 2) 3 rfl dX6_setPrice_6 ?_
  refine r_iconst C0 (v := 1) dX6_setPrice_7 rfl ?_
  refine r_sipush C0 (v := 999) dX6_setPrice_8 rfl ?_
  obtain ⟨k8, r10, M9, hc7, hx11, hf⟩ := tbd_e hf
  refine r_tcallSv C0 (As := [.int a2, .int 1, .int 999]) (rest := []) (c_X6_checkRange l D g tb hT hlst  hc7) w4_45 w4_46 w1_1 w4_47 hd_X6_checkRange rfl ⟨rfl, rfl⟩ ⟨Nat.le_of_ble_eq_true rfl, Nat.le_of_ble_eq_true rfl⟩ (by decide) (by decide) rfl (Nat.le_of_ble_eq_true rfl) dX6_setPrice_11 (fun H1 locs1 ls E ce q hk hE hH hS hl h1 h2 h3 => hpr (by decide) (by decide) hk hE hH hS h1 h2 h3 (hx11 hk)) (fun hk => ?_)
  have hf := hf hk
  refine r_aload_n C0 (kk := 0) 1 rfl dX6_setPrice_14 ?_
  obtain ⟨M14, hc13, hf⟩ := bd_e hf
  refine r_callVv C0 (As := []) (rest := []) (c_X6_remember l D g tb hT h0 hc13) w3_156 w3_158 wp2_7 w1_1 w3_159 (x_rec4 C0 h0.1) hd_X6_remember rfl ⟨rfl, rfl⟩ ⟨Nat.le_of_ble_eq_true rfl, Nat.le_of_ble_eq_true rfl⟩ (by decide) (by decide) rfl (Nat.le_of_ble_eq_true rfl) dX6_setPrice_15 ?_
  refine r_aload_n C0 (kk := 3) 0 rfl dX6_setPrice_18 ?_
  refine r_get0 C0 hm6 3 (by decide) (v := .int (M14 (r4 + 3))) rfl rfl w1_57 dX6_setPrice_19 ?_
  refine r_istore C0 (lv2 := [(4, .int (M14 (r4 + 3))), (3, .ref (g.1 0 r4)), (0, .ref (g.1 4 1664)), (1, .int a1), (2, .int a2)]) (by decide) rfl dX6_setPrice_22 ?_
  refine r_aload_n C0 (kk := 3) 1 rfl dX6_setPrice_24 ?_
  refine r_iload_n C0 (kk := 2) 4 rfl dX6_setPrice_25 ?_
  refine r_put0 C0 hm6 3 rfl rfl w1_57 rfl rfl rfl dX6_setPrice_26 ?_
  refine r_iload C0 0 rfl dX6_setPrice_29 ?_
  exact hend (by decide) (by decide) hf dX6_setPrice_31
theorem dX6_addStock_0 : decode cX6_addStock 0 = .ok (.aload_n 0, 1) := by decide +kernel
theorem dX6_addStock_1 : decode cX6_addStock 1 = .ok (.iload_n 1, 1) := by decide +kernel
theorem dX6_addStock_2 : decode cX6_addStock 2 = .ok (.invokevirtual 152, 3) := by decide +kernel
theorem dX6_addStock_5 : decode cX6_addStock 5 = .ok (.astore_n 3, 1) := by decide +kernel
theorem dX6_addStock_6 : decode cX6_addStock 6 = .ok (.iload_n 2, 1) := by decide +kernel
theorem dX6_addStock_7 : decode cX6_addStock 7 = .ok (.iconst 0, 1) := by decide +kernel
theorem dX6_addStock_8 : decode cX6_addStock 8 = .ok (.bipush 99, 2) := by decide +kernel
theorem dX6_addStock_10 : decode cX6_addStock 10 = .ok (.invokestatic 123, 3) := by decide +kernel
theorem dX6_addStock_13 : decode cX6_addStock 13 = .ok (.aload_n 3, 1) := by decide +kernel
theorem dX6_addStock_14 : decode cX6_addStock 14 = .ok (.iload_n 2, 1) := by decide +kernel
theorem dX6_addStock_15 : decode cX6_addStock 15 = .ok (.invokevirtual 294, 3) := by decide +kernel
theorem dX6_addStock_18 : decode cX6_addStock 18 = .ok (.ifCond .ne 14, 3) := by decide +kernel
theorem dX6_addStock_21 : decode cX6_addStock 21 = .ok (.new 279, 3) := by decide +kernel
theorem dX6_addStock_24 : decode cX6_addStock 24 = .ok (.dup, 1) := by decide +kernel
theorem dX6_addStock_25 : decode cX6_addStock 25 = .ok (.ldc_w 298, 3) := by decide +kernel
theorem dX6_addStock_28 : decode cX6_addStock 28 = .ok (.invokespecial 283, 3) := by decide +kernel
theorem dX6_addStock_31 : decode cX6_addStock 31 = .ok (.athrow, 1) := by decide +kernel
theorem dX6_addStock_32 : decode cX6_addStock 32 = .ok (.aload_n 0, 1) := by decide +kernel
theorem dX6_addStock_33 : decode cX6_addStock 33 = .ok (.invokevirtual 83, 3) := by decide +kernel
theorem dX6_addStock_36 : decode cX6_addStock 36 = .ok (.aload_n 3, 1) := by decide +kernel
theorem dX6_addStock_37 : decode cX6_addStock 37 = .ok (.iload_n 2, 1) := by decide +kernel
theorem dX6_addStock_38 : decode cX6_addStock 38 = .ok (.invokevirtual 300, 3) := by decide +kernel
theorem dX6_addStock_41 : decode cX6_addStock 41 = .ok (.aload_n 3, 1) := by decide +kernel
theorem dX6_addStock_42 : decode cX6_addStock 42 = .ok (.getfield 170, 3) := by decide +kernel
theorem dX6_addStock_45 : decode cX6_addStock 45 = .ok (.ireturn, 1) := by decide +kernel
theorem hd_X6_addStock : yX6_addStock.cls = RX6 ∧ yX6_addStock.cls ≠ "java/lang/invoke/MethodHandle" ∧ yX6_addStock.cls ≠ "java/lang/invoke/VarHandle" ∧ (parseMethodDescriptor yX6_addStock.desc).map (fun d => d.parameters.length) = some 2 := by decide +kernel
set_option maxRecDepth 100000 in
set_option maxHeartbeats 4000000 in
theorem c_X6_addStock (l : Launch) (D : va_G) (g : xG) (tb : List xQ) (hT : x_T g tb) (hlst : l.stackTraces = false) {a1 : Int32} {a2 : Int32} (h0 : x_fb tb) {M : xM} {k : Nat} {r : Int32} {M' : xM} (hf : f_X6_addStock a1 a2 M = some (k, r, M')) :
    tI l D g tb yX6_addStock cX6_addStock 4 .int ({ frames := 8, cells := 3, slots := 18, locals := 124 } : Room) 3 [.ref (g.1 4 1664), .int a1, .int a2] M k r M' := by
  refine x_tstartI (own := RX6) (r := r) (by decide +kernel) rfl rfl (Nat.le_of_ble_eq_true rfl) hT ?_
  intro p e s m args below meth c Q C0 hend hpr hthr
  unfold f_X6_addStock at hf
  refine r_aload_n C0 (kk := 0) 0 rfl dX6_addStock_0 ?_
  refine r_iload_n C0 (kk := 1) 1 rfl dX6_addStock_1 ?_
  obtain ⟨k2, r4, M3, hc1, hx5, hf⟩ := tbd_e hf
  refine r_tcallVr C0 (As := [.int a1]) (rest := []) (c_X6_stallAt l D g tb hT hlst h0 hc1) w4_125 w4_127 wp2_10 w1_1 w4_128 (x_rec4 C0 h0.1) hd_X6_stallAt rfl ⟨rfl, rfl⟩ ⟨Nat.le_of_ble_eq_true rfl, Nat.le_of_ble_eq_true rfl⟩ (by decide) (by decide) rfl (Nat.le_of_ble_eq_true rfl) dX6_addStock_2 (fun H1 locs1 ls E ce q hk hE hH hS hl h1 h2 h3 => hpr (by decide) (by decide) hk hE hH hS h1 h2 h3 (hx5 hk)) (fun hm6 hk => ?_)
  have hf := hf hk
  refine r_astore_n C0 (kk := 3) (lv2 := [(3, .ref (g.1 0 r4)), (0, .ref (g.1 4 1664)), (1, .int a1), (2, .int a2)]) (by decide) rfl dX6_addStock_5 ?_
  refine r_iload_n C0 (kk := 2) 3 rfl dX6_addStock_6 ?_
  refine r_iconst C0 (v := 0) dX6_addStock_7 rfl ?_
  refine r_bipush C0 (v := 99) dX6_addStock_8 rfl ?_
  obtain ⟨k8, r10, M9, hc7, hx11, hf⟩ := tbd_e hf
  refine r_tcallSv C0 (As := [.int a2, .int 0, .int 99]) (rest := []) (c_X6_checkRange l D g tb hT hlst  hc7) w4_45 w4_46 w1_1 w4_47 hd_X6_checkRange rfl ⟨rfl, rfl⟩ ⟨Nat.le_of_ble_eq_true rfl, Nat.le_of_ble_eq_true rfl⟩ (by decide) (by decide) rfl (Nat.le_of_ble_eq_true rfl) dX6_addStock_10 (fun H1 locs1 ls E ce q hk hE hH hS hl h1 h2 h3 => hpr (by decide) (by decide) hk hE hH hS h1 h2 h3 (hx11 hk)) (fun hk => ?_)
  have hf := hf hk
  refine r_aload_n C0 (kk := 3) 0 rfl dX6_addStock_13 ?_
  refine r_iload_n C0 (kk := 2) 3 rfl dX6_addStock_14 ?_
  obtain ⟨r15, M14, hc13, hf⟩ := bd2_e hf
  refine r_callVi C0 (As := [.int a2]) (rest := []) (c_X4_hasRoomFor l D g tb hT hm6 hc13) w5_144 w2_192 w2_193 w1_3 w2_194 (x_rec0 C0 hm6) hd_X4_hasRoomFor rfl ⟨rfl, rfl⟩ ⟨Nat.le_of_ble_eq_true rfl, Nat.le_of_ble_eq_true rfl⟩ (by decide) (by decide) rfl (Nat.le_of_ble_eq_true rfl) dX6_addStock_15 ?_
  refine r_if_ne C0 (tgt := 32) (by decide) dX6_addStock_18 (fun q16 => ?_) (fun q16 => ?_)
  · have hf := ie_f hf q16
    refine r_aload_n C0 (kk := 0) 1 rfl dX6_addStock_32 ?_
    obtain ⟨M18, hc17, hf⟩ := bd_e hf
    refine r_callVv C0 (As := []) (rest := []) (c_X6_remember l D g tb hT h0 hc17) w3_156 w3_158 wp2_7 w1_1 w3_159 (x_rec4 C0 h0.1) hd_X6_remember rfl ⟨rfl, rfl⟩ ⟨Nat.le_of_ble_eq_true rfl, Nat.le_of_ble_eq_true rfl⟩ (by decide) (by decide) rfl (Nat.le_of_ble_eq_true rfl) dX6_addStock_33 ?_
    refine r_aload_n C0 (kk := 3) 0 rfl dX6_addStock_36 ?_
    refine r_iload_n C0 (kk := 2) 3 rfl dX6_addStock_37 ?_
    obtain ⟨M20, hc19, hf⟩ := bd_e hf
    refine r_callVv C0 (As := [.int a2]) (rest := []) (c_X4_receive l D g tb hT hm6 hc19) w5_146 w2_227 w2_228 w1_3 w2_229 (x_rec0 C0 hm6) hd_X4_receive rfl ⟨rfl, rfl⟩ ⟨Nat.le_of_ble_eq_true rfl, Nat.le_of_ble_eq_true rfl⟩ (by decide) (by decide) rfl (Nat.le_of_ble_eq_true rfl) dX6_addStock_38 ?_
    refine r_aload_n C0 (kk := 3) 0 rfl dX6_addStock_41 ?_
    refine r_get0 C0 hm6 4 (by decide) (v := .int (M20 (r4 + 4))) rfl rfl w1_61 dX6_addStock_42 ?_
    exact hend (by decide) (by decide) hf dX6_addStock_45
  · have hf := ie_t hf q16
    exact hthr hlst rfl x_tk3 (by decide) (si := 15) rfl dX6_addStock_21 dX6_addStock_24 (Or.inr ⟨dX6_addStock_25, dX6_addStock_28, dX6_addStock_31⟩) (by decide) (Nat.le_of_ble_eq_true rfl) (by decide) (by decide) (by decide) (by decide) hf
