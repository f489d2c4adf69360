theorem dX3_verbRead_0 : decode cX3_verbRead 0 = .ok (.iconst 0, 1) := by decide +kernel
theorem dX3_verbRead_1 : decode cX3_verbRead 1 = .ok (.istore_n 1, 1) := by decide +kernel
theorem dX3_verbRead_2 : decode cX3_verbRead 2 = .ok (.iload_n 1, 1) := by decide +kernel
theorem dX3_verbRead_3 : decode cX3_verbRead 3 = .ok (.getstatic 108, 3) := by decide +kernel
theorem dX3_verbRead_6 : decode cX3_verbRead 6 = .ok (.arraylength, 1) := by decide +kernel
theorem dX3_verbRead_7 : decode cX3_verbRead 7 = .ok (.if_icmp .ge 30, 3) := by decide +kernel
theorem dX3_verbRead_10 : decode cX3_verbRead 10 = .ok (.aload_n 0, 1) := by decide +kernel
theorem dX3_verbRead_11 : decode cX3_verbRead 11 = .ok (.getstatic 108, 3) := by decide +kernel
theorem dX3_verbRead_14 : decode cX3_verbRead 14 = .ok (.iload_n 1, 1) := by decide +kernel
theorem dX3_verbRead_15 : decode cX3_verbRead 15 = .ok (.aaload, 1) := by decide +kernel
theorem dX3_verbRead_16 : decode cX3_verbRead 16 = .ok (.getfield 112, 3) := by decide +kernel
theorem dX3_verbRead_19 : decode cX3_verbRead 19 = .ok (.invokevirtual 115, 3) := by decide +kernel
theorem dX3_verbRead_22 : decode cX3_verbRead 22 = .ok (.ifCond .eq 9, 3) := by decide +kernel
theorem dX3_verbRead_25 : decode cX3_verbRead 25 = .ok (.getstatic 108, 3) := by decide +kernel
theorem dX3_verbRead_28 : decode cX3_verbRead 28 = .ok (.iload_n 1, 1) := by decide +kernel
theorem dX3_verbRead_29 : decode cX3_verbRead 29 = .ok (.aaload, 1) := by decide +kernel
theorem dX3_verbRead_30 : decode cX3_verbRead 30 = .ok (.areturn, 1) := by decide +kernel
theorem dX3_verbRead_31 : decode cX3_verbRead 31 = .ok (.iinc 1 1, 3) := by decide +kernel
theorem dX3_verbRead_34 : decode cX3_verbRead 34 = .ok (.goto (-32), 3) := by decide +kernel
theorem dX3_verbRead_37 : decode cX3_verbRead 37 = .ok (.aconst_null, 1) := by decide +kernel
theorem dX3_verbRead_38 : decode cX3_verbRead 38 = .ok (.areturn, 1) := by decide +kernel
theorem hd_X3_verbRead : yX3_verbRead.cls = RX3 ∧ yX3_verbRead.cls ≠ "java/lang/invoke/MethodHandle" ∧ yX3_verbRead.cls ≠ "java/lang/invoke/VarHandle" ∧ (parseMethodDescriptor yX3_verbRead.desc).map (fun d => d.parameters.length) = some 0 := by decide +kernel
set_option maxRecDepth 100000 in
set_option maxHeartbeats 4000000 in
theorem c_X3_verbRead (l : Launch) (D : va_G) (g : xG) (tb : List xQ) (hT : x_T g tb)  (h0 : x_rd tb) {M : xM} {r : Int32} {M' : xM} (hf : f_X3_verbRead  M = some (r, M')) :
    cE l D g tb yX3_verbRead cX3_verbRead 2 (.object "FogBellMarket$Verb") ({ frames := 5, cells := 0, slots := 0, locals := 107 } : Room) [.ref (g.1 3 1777)] M r M' := by
  refine x_startE (own := RX3) (by decide +kernel) rfl rfl (Nat.le_of_ble_eq_true rfl) hT ?_
  intro p e s m args below meth c Q C0 hend
  have B2 : ∀ (k2 : Int32 → xM → Option (Int32 × xM)) (hk2 : ∀ (v1 : Int32)  (M : xM), k2 v1 M = some (r, M') → WW p l e ({ frames := 5, cells := 0, slots := 0, locals := 107 } : Room) s m args below meth c 0 0 Q 2 D g tb 2 [(0, .ref (g.1 3 1777)), (1, .int v1)] [] M), ∀ (v1 : Int32)  (M : xM), fb_X3_verbRead_c2 k2  v1 M = some (r, M') → WW p l e ({ frames := 5, cells := 0, slots := 0, locals := 107 } : Room) s m args below meth c 0 0 Q 2 D g tb 2 [(0, .ref (g.1 3 1777)), (1, .int v1)] [] M := by
    intro k2 hk2 v1  M hf
    unfold fb_X3_verbRead_c2 at hf
    refine r_iload_n C0 (kk := 1) 1 rfl dX3_verbRead_2 ?_
    refine r_gverbs C0 w4_213 dX3_verbRead_3 ?_
    refine r_vslen C0 dX3_verbRead_6 ?_
    refine r_icmp_ge C0 (tgt := 37) (by decide) dX3_verbRead_7 (fun q1 => ?_) (fun q1 => ?_)
    · have hf := ie_t hf q1
      refine r_nullv C0 dX3_verbRead_37 ?_
      exact hend hf dX3_verbRead_38
    · have hf := ie_f hf q1
      refine r_aload_n C0 (kk := 0) 0 rfl dX3_verbRead_10 ?_
      refine r_gverbs C0 w4_213 dX3_verbRead_11 ?_
      refine r_iload_n C0 (kk := 1) 1 rfl dX3_verbRead_14 ?_
      obtain ⟨q2, hf⟩ := gd_e hf
      refine r_vsald C0 q2 dX3_verbRead_15 ?_
      obtain ⟨q3, hf⟩ := gd_e hf
      refine r_vword C0 q3 w5_222 dX3_verbRead_16 ?_
      obtain ⟨r6, M5, hc4, hf⟩ := bd2_e hf
      refine r_callVi C0 (As := [.ref (g.1 20 (x_vw ((v1 + 1) - 1).toNatClampNeg))]) (rest := []) (c_X3_isWord l D g tb hT h0 (x_vw_lt _) hc4) w4_168 w4_170 wp1_14 w1_17 w4_171 (x_rec3 C0 h0.1) hd_X3_isWord rfl ⟨rfl, rfl⟩ ⟨Nat.le_of_ble_eq_true rfl, Nat.le_of_ble_eq_true rfl⟩ (by decide) (by decide) rfl (Nat.le_of_ble_eq_true rfl) dX3_verbRead_19 ?_
      refine r_if_eq C0 (tgt := 31) (by decide) dX3_verbRead_22 (fun q7 => ?_) (fun q7 => ?_)
      · have hf := ie_t hf q7
        refine r_iincc C0 1 rfl (k0 := 1) (by decide) (by decide) (lv2 := [(1, .int (v1 + 1)), (0, .ref (g.1 3 1777))]) rfl dX3_verbRead_31 ?_
        refine r_goto C0 (tgt := 2) (by decide) dX3_verbRead_34 ?_
        refine WW.sub [1, 0] rfl ?_
        exact hk2 _   _ hf
      · have hf := ie_f hf q7
        refine r_gverbs C0 w4_213 dX3_verbRead_25 ?_
        refine r_iload_n C0 (kk := 1) 1 rfl dX3_verbRead_28 ?_
        obtain ⟨q8, hf⟩ := gd_e hf
        refine r_vsald C0 q8 dX3_verbRead_29 ?_
        exact hend hf dX3_verbRead_30
  have L2 : ∀ (v1 : Int32)  (M : xM), f_X3_verbRead_c2   v1 M = some (r, M') → WW p l e ({ frames := 5, cells := 0, slots := 0, locals := 107 } : Room) s m args below meth c 0 0 Q 2 D g tb 2 [(0, .ref (g.1 3 1777)), (1, .int v1)] [] M := lp_ind (P := fun f => ∀ (v1 : Int32)  (M : xM), f v1 M = some (r, M') → WW p l e ({ frames := 5, cells := 0, slots := 0, locals := 107 } : Room) s m args below meth c 0 0 Q 2 D g tb 2 [(0, .ref (g.1 3 1777)), (1, .int v1)] [] M) (fun _ _ h => none_ne h) (fun f hf => B2 f hf) FU
  unfold f_X3_verbRead at hf
  refine r_iconst C0 (v := 0) dX3_verbRead_0 rfl ?_
  refine r_istore_n C0 (kk := 1) (lv2 := [(1, .int 0), (0, .ref (g.1 3 1777))]) (by decide) rfl dX3_verbRead_1 ?_
  refine WW.sub [1, 0] rfl ?_
  exact L2   _   _ hf
theorem dX3_lanternRead_0 : decode cX3_lanternRead 0 = .ok (.aload_n 0, 1) := by decide +kernel
theorem dX3_lanternRead_1 : decode cX3_lanternRead 1 = .ok (.ldc 192, 2) := by decide +kernel
theorem dX3_lanternRead_3 : decode cX3_lanternRead 3 = .ok (.invokevirtual 115, 3) := by decide +kernel
theorem dX3_lanternRead_6 : decode cX3_lanternRead 6 = .ok (.ifCond .eq 5, 3) := by decide +kernel
theorem dX3_lanternRead_9 : decode cX3_lanternRead 9 = .ok (.iconst 0, 1) := by decide +kernel
theorem dX3_lanternRead_10 : decode cX3_lanternRead 10 = .ok (.ireturn, 1) := by decide +kernel
theorem dX3_lanternRead_11 : decode cX3_lanternRead 11 = .ok (.aload_n 0, 1) := by decide +kernel
theorem dX3_lanternRead_12 : decode cX3_lanternRead 12 = .ok (.ldc 194, 2) := by decide +kernel
theorem dX3_lanternRead_14 : decode cX3_lanternRead 14 = .ok (.invokevirtual 115, 3) := by decide +kernel
theorem dX3_lanternRead_17 : decode cX3_lanternRead 17 = .ok (.ifCond .eq 5, 3) := by decide +kernel
theorem dX3_lanternRead_20 : decode cX3_lanternRead 20 = .ok (.iconst 1, 1) := by decide +kernel
theorem dX3_lanternRead_21 : decode cX3_lanternRead 21 = .ok (.ireturn, 1) := by decide +kernel
theorem dX3_lanternRead_22 : decode cX3_lanternRead 22 = .ok (.aload_n 0, 1) := by decide +kernel
theorem dX3_lanternRead_23 : decode cX3_lanternRead 23 = .ok (.ldc 196, 2) := by decide +kernel
theorem dX3_lanternRead_25 : decode cX3_lanternRead 25 = .ok (.invokevirtual 115, 3) := by decide +kernel
theorem dX3_lanternRead_28 : decode cX3_lanternRead 28 = .ok (.ifCond .eq 5, 3) := by decide +kernel
theorem dX3_lanternRead_31 : decode cX3_lanternRead 31 = .ok (.iconst 2, 1) := by decide +kernel
theorem dX3_lanternRead_32 : decode cX3_lanternRead 32 = .ok (.ireturn, 1) := by decide +kernel
theorem dX3_lanternRead_33 : decode cX3_lanternRead 33 = .ok (.aload_n 0, 1) := by decide +kernel
theorem dX3_lanternRead_34 : decode cX3_lanternRead 34 = .ok (.ldc 198, 2) := by decide +kernel
theorem dX3_lanternRead_36 : decode cX3_lanternRead 36 = .ok (.invokevirtual 115, 3) := by decide +kernel
theorem dX3_lanternRead_39 : decode cX3_lanternRead 39 = .ok (.ifCond .eq 7, 3) := by decide +kernel
theorem dX3_lanternRead_42 : decode cX3_lanternRead 42 = .ok (.iconst 3, 1) := by decide +kernel
theorem dX3_lanternRead_43 : decode cX3_lanternRead 43 = .ok (.goto 4, 3) := by decide +kernel
theorem dX3_lanternRead_46 : decode cX3_lanternRead 46 = .ok (.iconst (-1), 1) := by decide +kernel
theorem dX3_lanternRead_47 : decode cX3_lanternRead 47 = .ok (.ireturn, 1) := by decide +kernel
theorem hd_X3_lanternRead : yX3_lanternRead.cls = RX3 ∧ yX3_lanternRead.cls ≠ "java/lang/invoke/MethodHandle" ∧ yX3_lanternRead.cls ≠ "java/lang/invoke/VarHandle" ∧ (parseMethodDescriptor yX3_lanternRead.desc).map (fun d => d.parameters.length) = some 0 := by decide +kernel
set_option maxRecDepth 100000 in
set_option maxHeartbeats 4000000 in
theorem c_X3_lanternRead (l : Launch) (D : va_G) (g : xG) (tb : List xQ) (hT : x_T g tb)  (h0 : x_rd tb) {M : xM} {r : Int32} {M' : xM} (hf : f_X3_lanternRead  M = some (r, M')) :
    cI l D g tb yX3_lanternRead cX3_lanternRead 1 .int ({ frames := 5, cells := 0, slots := 0, locals := 107 } : Room) [.ref (g.1 3 1777)] M r M' := by
  refine x_startI (own := RX3) (by decide +kernel) rfl rfl (Nat.le_of_ble_eq_true rfl) hT ?_
  intro p e s m args below meth c Q C0 hend
  unfold f_X3_lanternRead at hf
  refine r_aload_n C0 (kk := 0) 0 rfl dX3_lanternRead_0 ?_
  refine r_ldcs C0 (si := 3) rfl dX3_lanternRead_1 ?_
  obtain ⟨r3, M2, hc1, hf⟩ := bd2_e hf
  refine r_callVi C0 (As := [.ref (g.1 20 3)]) (rest := []) (c_X3_isWord l D g tb hT h0 (by decide) hc1) w4_168 w4_170 wp1_14 w1_17 w4_171 (x_rec3 C0 h0.1) hd_X3_isWord rfl ⟨rfl, rfl⟩ ⟨Nat.le_of_ble_eq_true rfl, Nat.le_of_ble_eq_true rfl⟩ (by decide) (by decide) rfl (Nat.le_of_ble_eq_true rfl) dX3_lanternRead_3 ?_
  refine r_if_eq C0 (tgt := 11) (by decide) dX3_lanternRead_6 (fun q4 => ?_) (fun q4 => ?_)
  · have hf := ie_t hf q4
    refine r_aload_n C0 (kk := 0) 0 rfl dX3_lanternRead_11 ?_
    refine r_ldcs C0 (si := 4) rfl dX3_lanternRead_12 ?_
    obtain ⟨r7, M6, hc5, hf⟩ := bd2_e hf
    refine r_callVi C0 (As := [.ref (g.1 20 4)]) (rest := []) (c_X3_isWord l D g tb hT h0 (by decide) hc5) w4_168 w4_170 wp1_14 w1_17 w4_171 (x_rec3 C0 h0.1) hd_X3_isWord rfl ⟨rfl, rfl⟩ ⟨Nat.le_of_ble_eq_true rfl, Nat.le_of_ble_eq_true rfl⟩ (by decide) (by decide) rfl (Nat.le_of_ble_eq_true rfl) dX3_lanternRead_14 ?_
    refine r_if_eq C0 (tgt := 22) (by decide) dX3_lanternRead_17 (fun q8 => ?_) (fun q8 => ?_)
    · have hf := ie_t hf q8
      refine r_aload_n C0 (kk := 0) 0 rfl dX3_lanternRead_22 ?_
      refine r_ldcs C0 (si := 5) rfl dX3_lanternRead_23 ?_
      obtain ⟨r11, M10, hc9, hf⟩ := bd2_e hf
      refine r_callVi C0 (As := [.ref (g.1 20 5)]) (rest := []) (c_X3_isWord l D g tb hT h0 (by decide) hc9) w4_168 w4_170 wp1_14 w1_17 w4_171 (x_rec3 C0 h0.1) hd_X3_isWord rfl ⟨rfl, rfl⟩ ⟨Nat.le_of_ble_eq_true rfl, Nat.le_of_ble_eq_true rfl⟩ (by decide) (by decide) rfl (Nat.le_of_ble_eq_true rfl) dX3_lanternRead_25 ?_
      refine r_if_eq C0 (tgt := 33) (by decide) dX3_lanternRead_28 (fun q12 => ?_) (fun q12 => ?_)
      · have hf := ie_t hf q12
        refine r_aload_n C0 (kk := 0) 0 rfl dX3_lanternRead_33 ?_
        refine r_ldcs C0 (si := 6) rfl dX3_lanternRead_34 ?_
        obtain ⟨r15, M14, hc13, hf⟩ := bd2_e hf
        refine r_callVi C0 (As := [.ref (g.1 20 6)]) (rest := []) (c_X3_isWord l D g tb hT h0 (by decide) hc13) w4_168 w4_170 wp1_14 w1_17 w4_171 (x_rec3 C0 h0.1) hd_X3_isWord rfl ⟨rfl, rfl⟩ ⟨Nat.le_of_ble_eq_true rfl, Nat.le_of_ble_eq_true rfl⟩ (by decide) (by decide) rfl (Nat.le_of_ble_eq_true rfl) dX3_lanternRead_36 ?_
        refine r_if_eq C0 (tgt := 46) (by decide) dX3_lanternRead_39 (fun q16 => ?_) (fun q16 => ?_)
        · have hf := ie_t hf q16
          refine r_iconst C0 (v := (-1)) dX3_lanternRead_46 rfl ?_
          exact hend hf dX3_lanternRead_47
        · have hf := ie_f hf q16
          refine r_iconst C0 (v := 3) dX3_lanternRead_42 rfl ?_
          refine r_goto C0 (tgt := 47) (by decide) dX3_lanternRead_43 ?_
          exact hend hf dX3_lanternRead_47
      · have hf := ie_f hf q12
        refine r_iconst C0 (v := 2) dX3_lanternRead_31 rfl ?_
        exact hend hf dX3_lanternRead_32
    · have hf := ie_f hf q8
      refine r_iconst C0 (v := 1) dX3_lanternRead_20 rfl ?_
      exact hend hf dX3_lanternRead_21
  · have hf := ie_f hf q4
    refine r_iconst C0 (v := 0) dX3_lanternRead_9 rfl ?_
    exact hend hf dX3_lanternRead_10
theorem dX3_textureRead_0 : decode cX3_textureRead 0 = .ok (.aload_n 0, 1) := by decide +kernel
theorem dX3_textureRead_1 : decode cX3_textureRead 1 = .ok (.ldc 200, 2) := by decide +kernel
theorem dX3_textureRead_3 : decode cX3_textureRead 3 = .ok (.invokevirtual 115, 3) := by decide +kernel
theorem dX3_textureRead_6 : decode cX3_textureRead 6 = .ok (.ifCond .eq 5, 3) := by decide +kernel
theorem dX3_textureRead_9 : decode cX3_textureRead 9 = .ok (.iconst 0, 1) := by decide +kernel
theorem dX3_textureRead_10 : decode cX3_textureRead 10 = .ok (.ireturn, 1) := by decide +kernel
theorem dX3_textureRead_11 : decode cX3_textureRead 11 = .ok (.aload_n 0, 1) := by decide +kernel
theorem dX3_textureRead_12 : decode cX3_textureRead 12 = .ok (.ldc 202, 2) := by decide +kernel
theorem dX3_textureRead_14 : decode cX3_textureRead 14 = .ok (.invokevirtual 115, 3) := by decide +kernel
theorem dX3_textureRead_17 : decode cX3_textureRead 17 = .ok (.ifCond .eq 5, 3) := by decide +kernel
theorem dX3_textureRead_20 : decode cX3_textureRead 20 = .ok (.iconst 1, 1) := by decide +kernel
theorem dX3_textureRead_21 : decode cX3_textureRead 21 = .ok (.ireturn, 1) := by decide +kernel
theorem dX3_textureRead_22 : decode cX3_textureRead 22 = .ok (.aload_n 0, 1) := by decide +kernel
theorem dX3_textureRead_23 : decode cX3_textureRead 23 = .ok (.ldc 204, 2) := by decide +kernel
theorem dX3_textureRead_25 : decode cX3_textureRead 25 = .ok (.invokevirtual 115, 3) := by decide +kernel
theorem dX3_textureRead_28 : decode cX3_textureRead 28 = .ok (.ifCond .eq 7, 3) := by decide +kernel
theorem dX3_textureRead_31 : decode cX3_textureRead 31 = .ok (.iconst 2, 1) := by decide +kernel
theorem dX3_textureRead_32 : decode cX3_textureRead 32 = .ok (.goto 4, 3) := by decide +kernel
theorem dX3_textureRead_35 : decode cX3_textureRead 35 = .ok (.iconst (-1), 1) := by decide +kernel
theorem dX3_textureRead_36 : decode cX3_textureRead 36 = .ok (.ireturn, 1) := by decide +kernel
theorem hd_X3_textureRead : yX3_textureRead.cls = RX3 ∧ yX3_textureRead.cls ≠ "java/lang/invoke/MethodHandle" ∧ yX3_textureRead.cls ≠ "java/lang/invoke/VarHandle" ∧ (parseMethodDescriptor yX3_textureRead.desc).map (fun d => d.parameters.length) = some 0 := by decide +kernel
set_option maxRecDepth 100000 in
set_option maxHeartbeats 4000000 in
theorem c_X3_textureRead (l : Launch) (D : va_G) (g : xG) (tb : List xQ) (hT : x_T g tb)  (h0 : x_rd tb) {M : xM} {r : Int32} {M' : xM} (hf : f_X3_textureRead  M = some (r, M')) :
    cI l D g tb yX3_textureRead cX3_textureRead 1 .int ({ frames := 5, cells := 0, slots := 0, locals := 107 } : Room) [.ref (g.1 3 1777)] M r M' := by
  refine x_startI (own := RX3) (by decide +kernel) rfl rfl (Nat.le_of_ble_eq_true rfl) hT ?_
  intro p e s m args below meth c Q C0 hend
  unfold f_X3_textureRead at hf
  refine r_aload_n C0 (kk := 0) 0 rfl dX3_textureRead_0 ?_
  refine r_ldcs C0 (si := 7) rfl dX3_textureRead_1 ?_
  obtain ⟨r3, M2, hc1, hf⟩ := bd2_e hf
  refine r_callVi C0 (As := [.ref (g.1 20 7)]) (rest := []) (c_X3_isWord l D g tb hT h0 (by decide) hc1) w4_168 w4_170 wp1_14 w1_17 w4_171 (x_rec3 C0 h0.1) hd_X3_isWord rfl ⟨rfl, rfl⟩ ⟨Nat.le_of_ble_eq_true rfl, Nat.le_of_ble_eq_true rfl⟩ (by decide) (by decide) rfl (Nat.le_of_ble_eq_true rfl) dX3_textureRead_3 ?_
  refine r_if_eq C0 (tgt := 11) (by decide) dX3_textureRead_6 (fun q4 => ?_) (fun q4 => ?_)
  · have hf := ie_t hf q4
    refine r_aload_n C0 (kk := 0) 0 rfl dX3_textureRead_11 ?_
    refine r_ldcs C0 (si := 8) rfl dX3_textureRead_12 ?_
    obtain ⟨r7, M6, hc5, hf⟩ := bd2_e hf
    refine r_callVi C0 (As := [.ref (g.1 20 8)]) (rest := []) (c_X3_isWord l D g tb hT h0 (by decide) hc5) w4_168 w4_170 wp1_14 w1_17 w4_171 (x_rec3 C0 h0.1) hd_X3_isWord rfl ⟨rfl, rfl⟩ ⟨Nat.le_of_ble_eq_true rfl, Nat.le_of_ble_eq_true rfl⟩ (by decide) (by decide) rfl (Nat.le_of_ble_eq_true rfl) dX3_textureRead_14 ?_
    refine r_if_eq C0 (tgt := 22) (by decide) dX3_textureRead_17 (fun q8 => ?_) (fun q8 => ?_)
    · have hf := ie_t hf q8
      refine r_aload_n C0 (kk := 0) 0 rfl dX3_textureRead_22 ?_
      refine r_ldcs C0 (si := 9) rfl dX3_textureRead_23 ?_
      obtain ⟨r11, M10, hc9, hf⟩ := bd2_e hf
      refine r_callVi C0 (As := [.ref (g.1 20 9)]) (rest := []) (c_X3_isWord l D g tb hT h0 (by decide) hc9) w4_168 w4_170 wp1_14 w1_17 w4_171 (x_rec3 C0 h0.1) hd_X3_isWord rfl ⟨rfl, rfl⟩ ⟨Nat.le_of_ble_eq_true rfl, Nat.le_of_ble_eq_true rfl⟩ (by decide) (by decide) rfl (Nat.le_of_ble_eq_true rfl) dX3_textureRead_25 ?_
      refine r_if_eq C0 (tgt := 35) (by decide) dX3_textureRead_28 (fun q12 => ?_) (fun q12 => ?_)
      · have hf := ie_t hf q12
        refine r_iconst C0 (v := (-1)) dX3_textureRead_35 rfl ?_
        exact hend hf dX3_textureRead_36
      · have hf := ie_f hf q12
        refine r_iconst C0 (v := 2) dX3_textureRead_31 rfl ?_
        refine r_goto C0 (tgt := 36) (by decide) dX3_textureRead_32 ?_
        exact hend hf dX3_textureRead_36
    · have hf := ie_f hf q8
      refine r_iconst C0 (v := 1) dX3_textureRead_20 rfl ?_
      exact hend hf dX3_textureRead_21
  · have hf := ie_f hf q4
    refine r_iconst C0 (v := 0) dX3_textureRead_9 rfl ?_
    exact hend hf dX3_textureRead_10
theorem dX2_perform_0 : decode cX2_perform 0 = .ok (.aload_n 1, 1) := by decide +kernel
theorem dX2_perform_1 : decode cX2_perform 1 = .ok (.getfield 166, 3) := by decide +kernel
theorem dX2_perform_4 : decode cX2_perform 4 = .ok (.ifnonnull 4, 3) := by decide +kernel
theorem dX2_perform_7 : decode cX2_perform 7 = .ok (.return_, 1) := by decide +kernel
theorem dX2_perform_8 : decode cX2_perform 8 = .ok (.aload_n 1, 1) := by decide +kernel
theorem dX2_perform_9 : decode cX2_perform 9 = .ok (.iconst 0, 1) := by decide +kernel
theorem dX2_perform_10 : decode cX2_perform 10 = .ok (.invokevirtual 172, 3) := by decide +kernel
theorem dX2_perform_13 : decode cX2_perform 13 = .ok (.istore_n 2, 1) := by decide +kernel
theorem dX2_perform_14 : decode cX2_perform 14 = .ok (.aload_n 1, 1) := by decide +kernel
theorem dX2_perform_15 : decode cX2_perform 15 = .ok (.iconst 1, 1) := by decide +kernel
theorem dX2_perform_16 : decode cX2_perform 16 = .ok (.invokevirtual 172, 3) := by decide +kernel
theorem dX2_perform_19 : decode cX2_perform 19 = .ok (.istore_n 3, 1) := by decide +kernel
theorem dX2_perform_20 : decode cX2_perform 20 = .ok (.getstatic 175, 3) := by decide +kernel
theorem dX2_perform_23 : decode cX2_perform 23 = .ok (.aload_n 1, 1) := by decide +kernel
theorem dX2_perform_24 : decode cX2_perform 24 = .ok (.getfield 166, 3) := by decide +kernel
theorem dX2_perform_27 : decode cX2_perform 27 = .ok (.invokevirtual 180, 3) := by decide +kernel
theorem dX2_perform_30 : decode cX2_perform 30 = .ok (.iaload, 1) := by decide +kernel
theorem dX2_perform_31 : decode cX2_perform 31 = .ok (.tableswitch 129 1 5 #[33, 58, 78, 100, 121], 33) := by decide +kernel
theorem dX2_perform_64 : decode cX2_perform 64 = .ok (.aload_n 0, 1) := by decide +kernel
theorem dX2_perform_65 : decode cX2_perform 65 = .ok (.iload_n 2, 1) := by decide +kernel
theorem dX2_perform_66 : decode cX2_perform 66 = .ok (.iload_n 3, 1) := by decide +kernel
theorem dX2_perform_67 : decode cX2_perform 67 = .ok (.aload_n 1, 1) := by decide +kernel
theorem dX2_perform_68 : decode cX2_perform 68 = .ok (.iconst 2, 1) := by decide +kernel
theorem dX2_perform_69 : decode cX2_perform 69 = .ok (.invokevirtual 172, 3) := by decide +kernel
theorem dX2_perform_72 : decode cX2_perform 72 = .ok (.aload_n 1, 1) := by decide +kernel
theorem dX2_perform_73 : decode cX2_perform 73 = .ok (.iconst 3, 1) := by decide +kernel
theorem dX2_perform_74 : decode cX2_perform 74 = .ok (.invokevirtual 172, 3) := by decide +kernel
theorem dX2_perform_77 : decode cX2_perform 77 = .ok (.aload_n 1, 1) := by decide +kernel
theorem dX2_perform_78 : decode cX2_perform 78 = .ok (.iconst 4, 1) := by decide +kernel
theorem dX2_perform_79 : decode cX2_perform 79 = .ok (.invokevirtual 172, 3) := by decide +kernel
theorem dX2_perform_82 : decode cX2_perform 82 = .ok (.invokevirtual 185, 3) := by decide +kernel
theorem dX2_perform_85 : decode cX2_perform 85 = .ok (.pop, 1) := by decide +kernel
theorem dX2_perform_86 : decode cX2_perform 86 = .ok (.goto 96, 3) := by decide +kernel
theorem dX2_perform_89 : decode cX2_perform 89 = .ok (.aload_n 0, 1) := by decide +kernel
theorem dX2_perform_90 : decode cX2_perform 90 = .ok (.iload_n 2, 1) := by decide +kernel
theorem dX2_perform_91 : decode cX2_perform 91 = .ok (.iload_n 3, 1) := by decide +kernel
theorem dX2_perform_92 : decode cX2_perform 92 = .ok (.aload_n 1, 1) := by decide +kernel
theorem dX2_perform_93 : decode cX2_perform 93 = .ok (.iconst 2, 1) := by decide +kernel
theorem dX2_perform_94 : decode cX2_perform 94 = .ok (.invokevirtual 172, 3) := by decide +kernel
theorem dX2_perform_97 : decode cX2_perform 97 = .ok (.aload_n 1, 1) := by decide +kernel
theorem dX2_perform_98 : decode cX2_perform 98 = .ok (.iconst 3, 1) := by decide +kernel
theorem dX2_perform_99 : decode cX2_perform 99 = .ok (.invokevirtual 172, 3) := by decide +kernel
theorem dX2_perform_102 : decode cX2_perform 102 = .ok (.invokevirtual 189, 3) := by decide +kernel
theorem dX2_perform_105 : decode cX2_perform 105 = .ok (.pop, 1) := by decide +kernel
theorem dX2_perform_106 : decode cX2_perform 106 = .ok (.goto 76, 3) := by decide +kernel
theorem dX2_perform_109 : decode cX2_perform 109 = .ok (.iload_n 2, 1) := by decide +kernel
theorem dX2_perform_110 : decode cX2_perform 110 = .ok (.ifCond .lt 72, 3) := by decide +kernel
theorem dX2_perform_113 : decode cX2_perform 113 = .ok (.iload_n 2, 1) := by decide +kernel
theorem dX2_perform_114 : decode cX2_perform 114 = .ok (.aload_n 0, 1) := by decide +kernel
theorem dX2_perform_115 : decode cX2_perform 115 = .ok (.getfield 36, 3) := by decide +kernel
theorem dX2_perform_118 : decode cX2_perform 118 = .ok (.if_icmp .ge 64, 3) := by decide +kernel
theorem dX2_perform_121 : decode cX2_perform 121 = .ok (.aload_n 0, 1) := by decide +kernel
theorem dX2_perform_122 : decode cX2_perform 122 = .ok (.getfield 23, 3) := by decide +kernel
theorem dX2_perform_125 : decode cX2_perform 125 = .ok (.iload_n 2, 1) := by decide +kernel
theorem dX2_perform_126 : decode cX2_perform 126 = .ok (.iload_n 3, 1) := by decide +kernel
theorem dX2_perform_127 : decode cX2_perform 127 = .ok (.iastore, 1) := by decide +kernel
theorem dX2_perform_128 : decode cX2_perform 128 = .ok (.goto 54, 3) := by decide +kernel
theorem dX2_perform_131 : decode cX2_perform 131 = .ok (.aload_n 0, 1) := by decide +kernel
theorem dX2_perform_132 : decode cX2_perform 132 = .ok (.iload_n 2, 1) := by decide +kernel
theorem dX2_perform_133 : decode cX2_perform 133 = .ok (.invokevirtual 193, 3) := by decide +kernel
theorem dX2_perform_136 : decode cX2_perform 136 = .ok (.ifCond .eq 46, 3) := by decide +kernel
theorem dX2_perform_139 : decode cX2_perform 139 = .ok (.aload_n 0, 1) := by decide +kernel
theorem dX2_perform_140 : decode cX2_perform 140 = .ok (.aload_n 0, 1) := by decide +kernel
theorem dX2_perform_141 : decode cX2_perform 141 = .ok (.getfield 19, 3) := by decide +kernel
theorem dX2_perform_144 : decode cX2_perform 144 = .ok (.iload_n 2, 1) := by decide +kernel
theorem dX2_perform_145 : decode cX2_perform 145 = .ok (.aaload, 1) := by decide +kernel
theorem dX2_perform_146 : decode cX2_perform 146 = .ok (.invokevirtual 196, 3) := by decide +kernel
theorem dX2_perform_149 : decode cX2_perform 149 = .ok (.goto 33, 3) := by decide +kernel
theorem dX2_perform_152 : decode cX2_perform 152 = .ok (.aload_n 0, 1) := by decide +kernel
theorem dX2_perform_153 : decode cX2_perform 153 = .ok (.iload_n 2, 1) := by decide +kernel
theorem dX2_perform_154 : decode cX2_perform 154 = .ok (.invokevirtual 199, 3) := by decide +kernel
theorem dX2_perform_157 : decode cX2_perform 157 = .ok (.goto 25, 3) := by decide +kernel
theorem dX2_perform_160 : decode cX2_perform 160 = .ok (.aload_n 0, 1) := by decide +kernel
theorem dX2_perform_161 : decode cX2_perform 161 = .ok (.iload_n 2, 1) := by decide +kernel
theorem dX2_perform_162 : decode cX2_perform 162 = .ok (.invokevirtual 113, 3) := by decide +kernel
theorem dX2_perform_165 : decode cX2_perform 165 = .ok (.ifCond .eq 17, 3) := by decide +kernel
theorem dX2_perform_168 : decode cX2_perform 168 = .ok (.aload_n 1, 1) := by decide +kernel
theorem dX2_perform_169 : decode cX2_perform 169 = .ok (.getfield 166, 3) := by decide +kernel
theorem dX2_perform_172 : decode cX2_perform 172 = .ok (.aload_n 0, 1) := by decide +kernel
theorem dX2_perform_173 : decode cX2_perform 173 = .ok (.getfield 11, 3) := by decide +kernel
theorem dX2_perform_176 : decode cX2_perform 176 = .ok (.iload_n 2, 1) := by decide +kernel
theorem dX2_perform_177 : decode cX2_perform 177 = .ok (.aaload, 1) := by decide +kernel
theorem dX2_perform_178 : decode cX2_perform 178 = .ok (.iload_n 3, 1) := by decide +kernel
theorem dX2_perform_179 : decode cX2_perform 179 = .ok (.invokestatic 202, 3) := by decide +kernel
theorem dX2_perform_182 : decode cX2_perform 182 = .ok (.return_, 1) := by decide +kernel
theorem hd_X2_perform : yX2_perform.cls = RX2 ∧ yX2_perform.cls ≠ "java/lang/invoke/MethodHandle" ∧ yX2_perform.cls ≠ "java/lang/invoke/VarHandle" ∧ (parseMethodDescriptor yX2_perform.desc).map (fun d => d.parameters.length) = some 1 := by decide +kernel
set_option maxRecDepth 100000 in
set_option maxHeartbeats 4000000 in
theorem c_X2_perform (l : Launch) (D : va_G) (g : xG) (tb : List xQ) (hT : x_T g tb) {a0 : Nat} (h0 : x_mk tb a0) (h1 : x_rd tb) {M M' : xM} (hf : f_X2_perform a0 M = some M') :
    cV l D g tb yX2_perform cX2_perform 4 ({ frames := 4, cells := 0, slots := 0, locals := 96 } : Room) [.ref (g.1 2 a0), .ref (g.1 3 1777)] M M' := by
  refine x_startV (own := RX2) (by decide +kernel) rfl rfl (Nat.le_of_ble_eq_true rfl) hT ?_
  intro p e s m args below meth c Q C0 hend
  unfold f_X2_perform at hf
  refine r_aload_n C0 (kk := 1) 1 rfl dX2_perform_0 ?_
  refine r_get3 C0 h1.1 4 (by decide) (v := va_re g.2.2 (x_en (M 1781))) rfl rfl w4_70 dX2_perform_1 ?_
  refine r_ifnnv C0 (tgt := 8) (by decide) dX2_perform_4 (fun q1 => ?_) (fun q1 => ?_)
  · have hf := ie_f hf q1
    refine r_aload_n C0 (kk := 1) 1 rfl dX2_perform_8 ?_
    refine r_iconst C0 (v := 0) dX2_perform_9 rfl ?_
    obtain ⟨r4, M3, hc2, hf⟩ := bd2_e hf
    refine r_callVi C0 (As := [.int 0]) (rest := []) (c_X3_argument l D g tb hT h1 hc2) w5_41 w5_19 w5_20 w1_17 w5_21 (x_rec3 C0 h1.1) hd_X3_argument rfl ⟨rfl, rfl⟩ ⟨Nat.le_of_ble_eq_true rfl, Nat.le_of_ble_eq_true rfl⟩ (by decide) (by decide) rfl (Nat.le_of_ble_eq_true rfl) dX2_perform_10 ?_
    refine r_istore_n C0 (kk := 2) (lv2 := [(2, .int r4), (0, .ref (g.1 2 a0)), (1, .ref (g.1 3 1777))]) (by decide) rfl dX2_perform_13 ?_
    refine r_aload_n C0 (kk := 1) 2 rfl dX2_perform_14 ?_
    refine r_iconst C0 (v := 1) dX2_perform_15 rfl ?_
    obtain ⟨r7, M6, hc5, hf⟩ := bd2_e hf
    refine r_callVi C0 (As := [.int 1]) (rest := []) (c_X3_argument l D g tb hT h1 hc5) w5_41 w5_19 w5_20 w1_17 w5_21 (x_rec3 C0 h1.1) hd_X3_argument rfl ⟨rfl, rfl⟩ ⟨Nat.le_of_ble_eq_true rfl, Nat.le_of_ble_eq_true rfl⟩ (by decide) (by decide) rfl (Nat.le_of_ble_eq_true rfl) dX2_perform_16 ?_
    refine r_istore_n C0 (kk := 3) (lv2 := [(3, .int r7), (2, .int r4), (0, .ref (g.1 2 a0)), (1, .ref (g.1 3 1777))]) (by decide) rfl dX2_perform_19 ?_
    refine r_gsm C0 w5_42 dX2_perform_20 ?_
    refine r_aload_n C0 (kk := 1) 3 rfl dX2_perform_23 ?_
    refine r_get3 C0 h1.1 4 (by decide) (v := va_re g.2.2 (x_en (M6 1781))) rfl rfl w4_70 dX2_perform_24 ?_
    obtain ⟨q8, hf⟩ := gd_e hf
    refine WW.stk (st2 := [.ref (g.2.2 ((M6 1781) - 1).toNatClampNeg), .ref (g.1 23 0)]) (by rw [x_en_s q8 (by decide)]; rfl) ?_
    refine r_ordinal C0 (inb_lt q8) w5_44 (by decide) (by decide) (by decide) (by decide) (Nat.le_of_ble_eq_true rfl) dX2_perform_27 ?_
    obtain ⟨q9, hf⟩ := gd_e hf
    refine r_smald C0 q9 dX2_perform_30 ?_
    rcases Decidable.em ((x_smap (nI ((M6 1781) - 1).toNatClampNeg).toNatClampNeg) = 1) with q10 | q10
    · have hf := ie_t hf q10
      refine r_tsc C0 (cst := 1) q10 (by decide) (by decide) rfl (tgt := 64) (by decide) dX2_perform_31 ?_
      refine r_aload_n C0 (kk := 0) 2 rfl dX2_perform_64 ?_
      refine r_iload_n C0 (kk := 2) 1 rfl dX2_perform_65 ?_
      refine r_iload_n C0 (kk := 3) 0 rfl dX2_perform_66 ?_
      refine r_aload_n C0 (kk := 1) 3 rfl dX2_perform_67 ?_
      refine r_iconst C0 (v := 2) dX2_perform_68 rfl ?_
      obtain ⟨r13, M12, hc11, hf⟩ := bd2_e hf
      refine r_callVi C0 (As := [.int 2]) (rest := [.int r7, .int r4, .ref (g.1 2 a0)]) (c_X3_argument l D g tb hT h1 hc11) w5_41 w5_19 w5_20 w1_17 w5_21 (x_rec3 C0 h1.1) hd_X3_argument rfl ⟨rfl, rfl⟩ ⟨Nat.le_of_ble_eq_true rfl, Nat.le_of_ble_eq_true rfl⟩ (by decide) (by decide) rfl (Nat.le_of_ble_eq_true rfl) dX2_perform_69 ?_
      refine r_aload_n C0 (kk := 1) 3 rfl dX2_perform_72 ?_
      refine r_iconst C0 (v := 3) dX2_perform_73 rfl ?_
      obtain ⟨r16, M15, hc14, hf⟩ := bd2_e hf
      refine r_callVi C0 (As := [.int 3]) (rest := [.int r13, .int r7, .int r4, .ref (g.1 2 a0)]) (c_X3_argument l D g tb hT h1 hc14) w5_41 w5_19 w5_20 w1_17 w5_21 (x_rec3 C0 h1.1) hd_X3_argument rfl ⟨rfl, rfl⟩ ⟨Nat.le_of_ble_eq_true rfl, Nat.le_of_ble_eq_true rfl⟩ (by decide) (by decide) rfl (Nat.le_of_ble_eq_true rfl) dX2_perform_74 ?_
      refine r_aload_n C0 (kk := 1) 3 rfl dX2_perform_77 ?_
      refine r_iconst C0 (v := 4) dX2_perform_78 rfl ?_
      obtain ⟨r19, M18, hc17, hf⟩ := bd2_e hf
      refine r_callVi C0 (As := [.int 4]) (rest := [.int r16, .int r13, .int r7, .int r4, .ref (g.1 2 a0)]) (c_X3_argument l D g tb hT h1 hc17) w5_41 w5_19 w5_20 w1_17 w5_21 (x_rec3 C0 h1.1) hd_X3_argument rfl ⟨rfl, rfl⟩ ⟨Nat.le_of_ble_eq_true rfl, Nat.le_of_ble_eq_true rfl⟩ (by decide) (by decide) rfl (Nat.le_of_ble_eq_true rfl) dX2_perform_79 ?_
      obtain ⟨r22, M21, hc20, hf⟩ := bd2_e hf
      refine r_callVi C0 (As := [.int r4, .int r7, .int r13, .int r16, .int r19]) (rest := []) (c_X2_placeStall l D g tb hT h0 hc20) w5_50 w5_51 w5_52 w1_14 w5_53 (x_rec2 C0 h0.1) hd_X2_placeStall rfl ⟨rfl, rfl⟩ ⟨Nat.le_of_ble_eq_true rfl, Nat.le_of_ble_eq_true rfl⟩ (by decide) (by decide) rfl (Nat.le_of_ble_eq_true rfl) dX2_perform_82 ?_
      refine r_pop C0 rfl dX2_perform_85 ?_
      refine r_goto C0 (tgt := 182) (by decide) dX2_perform_86 ?_
      exact hend hf dX2_perform_182
    have hf := ie_f hf q10
    have nq10 : Int32.toInt (x_smap (nI ((M6 1781) - 1).toNatClampNeg).toNatClampNeg) ≠ 1 := fun h => q10 (Int32.toInt_inj.mp h)
    rcases Decidable.em ((x_smap (nI ((M6 1781) - 1).toNatClampNeg).toNatClampNeg) = 2) with q23 | q23
    · have hf := ie_t hf q23
      refine r_tsc C0 (cst := 2) q23 (by decide) (by decide) rfl (tgt := 89) (by decide) dX2_perform_31 ?_
      refine r_aload_n C0 (kk := 0) 2 rfl dX2_perform_89 ?_
      refine r_iload_n C0 (kk := 2) 1 rfl dX2_perform_90 ?_
      refine r_iload_n C0 (kk := 3) 0 rfl dX2_perform_91 ?_
      refine r_aload_n C0 (kk := 1) 3 rfl dX2_perform_92 ?_
      refine r_iconst C0 (v := 2) dX2_perform_93 rfl ?_
      obtain ⟨r26, M25, hc24, hf⟩ := bd2_e hf
      refine r_callVi C0 (As := [.int 2]) (rest := [.int r7, .int r4, .ref (g.1 2 a0)]) (c_X3_argument l D g tb hT h1 hc24) w5_41 w5_19 w5_20 w1_17 w5_21 (x_rec3 C0 h1.1) hd_X3_argument rfl ⟨rfl, rfl⟩ ⟨Nat.le_of_ble_eq_true rfl, Nat.le_of_ble_eq_true rfl⟩ (by decide) (by decide) rfl (Nat.le_of_ble_eq_true rfl) dX2_perform_94 ?_
      refine r_aload_n C0 (kk := 1) 3 rfl dX2_perform_97 ?_
      refine r_iconst C0 (v := 3) dX2_perform_98 rfl ?_
      obtain ⟨r29, M28, hc27, hf⟩ := bd2_e hf
      refine r_callVi C0 (As := [.int 3]) (rest := [.int r26, .int r7, .int r4, .ref (g.1 2 a0)]) (c_X3_argument l D g tb hT h1 hc27) w5_41 w5_19 w5_20 w1_17 w5_21 (x_rec3 C0 h1.1) hd_X3_argument rfl ⟨rfl, rfl⟩ ⟨Nat.le_of_ble_eq_true rfl, Nat.le_of_ble_eq_true rfl⟩ (by decide) (by decide) rfl (Nat.le_of_ble_eq_true rfl) dX2_perform_99 ?_
      obtain ⟨r32, M31, hc30, hf⟩ := bd2_e hf
      refine r_callVi C0 (As := [.int r4, .int r7, .int r26, .int r29]) (rest := []) (c_X2_placeBuyer l D g tb hT h0 hc30) w5_62 w5_63 w5_64 w1_14 w5_65 (x_rec2 C0 h0.1) hd_X2_placeBuyer rfl ⟨rfl, rfl⟩ ⟨Nat.le_of_ble_eq_true rfl, Nat.le_of_ble_eq_true rfl⟩ (by decide) (by decide) rfl (Nat.le_of_ble_eq_true rfl) dX2_perform_102 ?_
      refine r_pop C0 rfl dX2_perform_105 ?_
      refine r_goto C0 (tgt := 182) (by decide) dX2_perform_106 ?_
      exact hend hf dX2_perform_182
    have hf := ie_f hf q23
    have nq23 : Int32.toInt (x_smap (nI ((M6 1781) - 1).toNatClampNeg).toNatClampNeg) ≠ 2 := fun h => q23 (Int32.toInt_inj.mp h)
    rcases Decidable.em ((x_smap (nI ((M6 1781) - 1).toNatClampNeg).toNatClampNeg) = 3) with q33 | q33
    · have hf := ie_t hf q33
      refine r_tsc C0 (cst := 3) q33 (by decide) (by decide) rfl (tgt := 109) (by decide) dX2_perform_31 ?_
      refine r_iload_n C0 (kk := 2) 1 rfl dX2_perform_109 ?_
      refine r_if_lt C0 (tgt := 182) (by decide) dX2_perform_110 (fun q34 => ?_) (fun q34 => ?_)
      · have hf := ie_t hf q34
        exact hend hf dX2_perform_182
      · have hf := ie_f hf q34
        refine r_iload_n C0 (kk := 2) 1 rfl dX2_perform_113 ?_
        refine r_aload_n C0 (kk := 0) 2 rfl dX2_perform_114 ?_
        refine r_get2 C0 h0.1 5 (by decide) (v := .int (M6 (a0 + 8))) rfl rfl w4_9 dX2_perform_115 ?_
        refine r_icmp_ge C0 (tgt := 182) (by decide) dX2_perform_118 (fun q35 => ?_) (fun q35 => ?_)
        · have hf := ie_t hf q35
          exact hend hf dX2_perform_182
        · have hf := ie_f hf q35
          refine r_aload_n C0 (kk := 0) 2 rfl dX2_perform_121 ?_
          refine r_get2 C0 h0.1 4 (by decide) (v := .ref (g.1 6 (a0 + 11))) rfl rfl w4_7 dX2_perform_122 ?_
          refine r_iload_n C0 (kk := 2) 1 rfl dX2_perform_125 ?_
          refine r_iload_n C0 (kk := 3) 0 rfl dX2_perform_126 ?_
          obtain ⟨q36, hf⟩ := gd_e hf
          refine r_iastc C0 h0.2.2.2.1 q36 rfl dX2_perform_127 ?_
          refine r_goto C0 (tgt := 182) (by decide) dX2_perform_128 ?_
          exact hend hf dX2_perform_182
    have hf := ie_f hf q33
    have nq33 : Int32.toInt (x_smap (nI ((M6 1781) - 1).toNatClampNeg).toNatClampNeg) ≠ 3 := fun h => q33 (Int32.toInt_inj.mp h)
    rcases Decidable.em ((x_smap (nI ((M6 1781) - 1).toNatClampNeg).toNatClampNeg) = 4) with q37 | q37
    · have hf := ie_t hf q37
      refine r_tsc C0 (cst := 4) q37 (by decide) (by decide) rfl (tgt := 131) (by decide) dX2_perform_31 ?_
      refine r_aload_n C0 (kk := 0) 2 rfl dX2_perform_131 ?_
      refine r_iload_n C0 (kk := 2) 1 rfl dX2_perform_132 ?_
      obtain ⟨r40, M39, hc38, hf⟩ := bd2_e hf
      refine r_callVi C0 (As := [.int r4]) (rest := []) (c_X2_isBuyer l D g tb hT h0 hc38) w5_70 w5_30 w5_31 w1_14 w5_32 (x_rec2 C0 h0.1) hd_X2_isBuyer rfl ⟨rfl, rfl⟩ ⟨Nat.le_of_ble_eq_true rfl, Nat.le_of_ble_eq_true rfl⟩ (by decide) (by decide) rfl (Nat.le_of_ble_eq_true rfl) dX2_perform_133 ?_
      refine r_if_eq C0 (tgt := 182) (by decide) dX2_perform_136 (fun q41 => ?_) (fun q41 => ?_)
      · have hf := ie_t hf q41
        exact hend hf dX2_perform_182
      · have hf := ie_f hf q41
        refine r_aload_n C0 (kk := 0) 2 rfl dX2_perform_139 ?_
        refine r_aload_n C0 (kk := 0) 2 rfl dX2_perform_140 ?_
        refine r_get2 C0 h0.1 2 (by decide) (v := .ref (g.1 11 (a0 + 77))) rfl rfl w4_1 dX2_perform_141 ?_
        refine r_iload_n C0 (kk := 2) 1 rfl dX2_perform_144 ?_
        obtain ⟨q42, hf⟩ := gd_e hf
        have hm43 : ((1, ((a0 + 77) + 8 * r4.toNatClampNeg), 0) : xQ) ∈ tb := h0.2.2.2.2.2 _ (inb_lt q42)
        refine r_aald11 C0 h0.2.2.1 (inb_in q42) dX2_perform_145 ?_
        obtain ⟨M45, hc44, hf⟩ := bd_e hf
        refine r_callVv C0 (As := [.ref (g.1 1 ((a0 + 77) + 8 * r4.toNatClampNeg))]) (rest := []) (c_X2_returnAndAvoid l D g tb hT h0 hm43 hc44) w5_71 w5_72 w5_73 w1_14 w5_74 (x_rec2 C0 h0.1) hd_X2_returnAndAvoid rfl ⟨rfl, rfl⟩ ⟨Nat.le_of_ble_eq_true rfl, Nat.le_of_ble_eq_true rfl⟩ (by decide) (by decide) rfl (Nat.le_of_ble_eq_true rfl) dX2_perform_146 ?_
        refine r_goto C0 (tgt := 182) (by decide) dX2_perform_149 ?_
        exact hend hf dX2_perform_182
    have hf := ie_f hf q37
    have nq37 : Int32.toInt (x_smap (nI ((M6 1781) - 1).toNatClampNeg).toNatClampNeg) ≠ 4 := fun h => q37 (Int32.toInt_inj.mp h)
    rcases Decidable.em ((x_smap (nI ((M6 1781) - 1).toNatClampNeg).toNatClampNeg) = 5) with q46 | q46
    · have hf := ie_t hf q46
      refine r_tsc C0 (cst := 5) q46 (by decide) (by decide) rfl (tgt := 152) (by decide) dX2_perform_31 ?_
      refine r_aload_n C0 (kk := 0) 2 rfl dX2_perform_152 ?_
      refine r_iload_n C0 (kk := 2) 1 rfl dX2_perform_153 ?_
      obtain ⟨M48, hc47, hf⟩ := bd_e hf
      refine r_callVv C0 (As := [.int r4]) (rest := []) (c_X2_pass l D g tb hT h0 hc47) w5_75 w2_46 w2_47 w1_14 w2_48 (x_rec2 C0 h0.1) hd_X2_pass rfl ⟨rfl, rfl⟩ ⟨Nat.le_of_ble_eq_true rfl, Nat.le_of_ble_eq_true rfl⟩ (by decide) (by decide) rfl (Nat.le_of_ble_eq_true rfl) dX2_perform_154 ?_
      refine r_goto C0 (tgt := 182) (by decide) dX2_perform_157 ?_
      exact hend hf dX2_perform_182
    have hf := ie_f hf q46
    have nq46 : Int32.toInt (x_smap (nI ((M6 1781) - 1).toNatClampNeg).toNatClampNeg) ≠ 5 := fun h => q46 (Int32.toInt_inj.mp h)
    refine r_tsd C0 (by omega) (tgt := 160) (by decide) dX2_perform_31 ?_
    refine r_aload_n C0 (kk := 0) 2 rfl dX2_perform_160 ?_
    refine r_iload_n C0 (kk := 2) 1 rfl dX2_perform_161 ?_
    obtain ⟨r51, M50, hc49, hf⟩ := bd2_e hf
    refine r_callVi C0 (As := [.int r4]) (rest := []) (c_X2_isStall l D g tb hT h0 hc49) w2_62 w2_63 w2_64 w1_14 w2_65 (x_rec2 C0 h0.1) hd_X2_isStall rfl ⟨rfl, rfl⟩ ⟨Nat.le_of_ble_eq_true rfl, Nat.le_of_ble_eq_true rfl⟩ (by decide) (by decide) rfl (Nat.le_of_ble_eq_true rfl) dX2_perform_162 ?_
    refine r_if_eq C0 (tgt := 182) (by decide) dX2_perform_165 (fun q52 => ?_) (fun q52 => ?_)
    · have hf := ie_t hf q52
      exact hend hf dX2_perform_182
    · have hf := ie_f hf q52
      refine r_aload_n C0 (kk := 1) 3 rfl dX2_perform_168 ?_
      refine r_get3 C0 h1.1 4 (by decide) (v := va_re g.2.2 (x_en (M50 1781))) rfl rfl w4_70 dX2_perform_169 ?_
      refine r_aload_n C0 (kk := 0) 2 rfl dX2_perform_172 ?_
      refine r_get2 C0 h0.1 0 (by decide) (v := .ref (g.1 10 (a0 + 23))) rfl rfl w3_235 dX2_perform_173 ?_
      refine r_iload_n C0 (kk := 2) 1 rfl dX2_perform_176 ?_
      obtain ⟨q53, hf⟩ := gd_e hf
      have hm54 : ((0, ((a0 + 23) + 9 * r4.toNatClampNeg), 0) : xQ) ∈ tb := h0.2.2.2.2.1 _ (inb_lt q53)
      refine r_aald10 C0 h0.2.1 (inb_in q53) dX2_perform_177 ?_
      refine r_iload_n C0 (kk := 3) 0 rfl dX2_perform_178 ?_
      obtain ⟨q55, hf⟩ := gd_e hf
      refine WW.stk (st2 := [.int r7, .ref (g.1 0 ((a0 + 23) + 9 * r4.toNatClampNeg)), .ref (g.2.2 ((M50 1781) - 1).toNatClampNeg)]) (by rw [x_en_s q55 (by decide)]; rfl) ?_
      obtain ⟨M57, hc56, hf⟩ := bd_e hf
      refine r_callSv C0 (As := [.ref (g.2.2 ((M50 1781) - 1).toNatClampNeg), .ref (g.1 0 ((a0 + 23) + 9 * r4.toNatClampNeg)), .int r7]) (rest := []) (c_X2_changeStall l D g tb hT q55 hm54 hc56) w5_76 w5_77 w1_14 w5_78 hd_X2_changeStall rfl ⟨rfl, rfl⟩ ⟨Nat.le_of_ble_eq_true rfl, Nat.le_of_ble_eq_true rfl⟩ (by decide) (by decide) rfl (Nat.le_of_ble_eq_true rfl) dX2_perform_179 ?_
      exact hend hf dX2_perform_182
  · have hf := ie_t hf q1
    exact hend hf dX2_perform_7
theorem dX6_passMinutes_0 : decode cX6_passMinutes 0 = .ok (.iload_n 1, 1) := by decide +kernel
theorem dX6_passMinutes_1 : decode cX6_passMinutes 1 = .ok (.iconst 1, 1) := by decide +kernel
theorem dX6_passMinutes_2 : decode cX6_passMinutes 2 = .ok (.bipush 100, 2) := by decide +kernel
theorem dX6_passMinutes_4 : decode cX6_passMinutes 4 = .ok (.invokestatic 123, 3) := by decide +kernel
theorem dX6_passMinutes_7 : decode cX6_passMinutes 7 = .ok (.aload_n 0, 1) := by decide +kernel
theorem dX6_passMinutes_8 : decode cX6_passMinutes 8 = .ok (.invokevirtual 83, 3) := by decide +kernel
theorem dX6_passMinutes_11 : decode cX6_passMinutes 11 = .ok (.aload_n 0, 1) := by decide +kernel
theorem dX6_passMinutes_12 : decode cX6_passMinutes 12 = .ok (.getfield 10, 3) := by decide +kernel
theorem dX6_passMinutes_15 : decode cX6_passMinutes 15 = .ok (.invokevirtual 273, 3) := by decide +kernel
theorem dX6_passMinutes_18 : decode cX6_passMinutes 18 = .ok (.istore_n 2, 1) := by decide +kernel
theorem dX6_passMinutes_19 : decode cX6_passMinutes 19 = .ok (.aload_n 0, 1) := by decide +kernel
theorem dX6_passMinutes_20 : decode cX6_passMinutes 20 = .ok (.getfield 10, 3) := by decide +kernel
theorem dX6_passMinutes_23 : decode cX6_passMinutes 23 = .ok (.iload_n 1, 1) := by decide +kernel
theorem dX6_passMinutes_24 : decode cX6_passMinutes 24 = .ok (.invokevirtual 276, 3) := by decide +kernel
theorem dX6_passMinutes_27 : decode cX6_passMinutes 27 = .ok (.aload_n 0, 1) := by decide +kernel
theorem dX6_passMinutes_28 : decode cX6_passMinutes 28 = .ok (.getfield 10, 3) := by decide +kernel
theorem dX6_passMinutes_31 : decode cX6_passMinutes 31 = .ok (.invokevirtual 273, 3) := by decide +kernel
theorem dX6_passMinutes_34 : decode cX6_passMinutes 34 = .ok (.iload_n 2, 1) := by decide +kernel
theorem dX6_passMinutes_35 : decode cX6_passMinutes 35 = .ok (.isub, 1) := by decide +kernel
theorem dX6_passMinutes_36 : decode cX6_passMinutes 36 = .ok (.ireturn, 1) := by decide +kernel
theorem hd_X6_passMinutes : yX6_passMinutes.cls = RX6 ∧ yX6_passMinutes.cls ≠ "java/lang/invoke/MethodHandle" ∧ yX6_passMinutes.cls ≠ "java/lang/invoke/VarHandle" ∧ (parseMethodDescriptor yX6_passMinutes.desc).map (fun d => d.parameters.length) = some 1 := by decide +kernel
set_option maxRecDepth 100000 in
set_option maxHeartbeats 4000000 in
theorem c_X6_passMinutes (l : Launch) (D : va_G) (g : xG) (tb : List xQ) (hT : x_T g tb) {a1 : Int32} (h0 : x_fb tb) {M : xM} {r : Int32} {M' : xM} (hf : f_X6_passMinutes a1 M = some (r, M')) :
    cI l D g tb yX6_passMinutes cX6_passMinutes 3 .int ({ frames := 4, cells := 0, slots := 0, locals := 96 } : Room) [.ref (g.1 4 1664), .int a1] M r M' := by
  refine x_startI (own := RX6) (by decide +kernel) rfl rfl (Nat.le_of_ble_eq_true rfl) hT ?_
  intro p e s m args below meth c Q C0 hend
  unfold f_X6_passMinutes at hf
  refine r_iload_n C0 (kk := 1) 1 rfl dX6_passMinutes_0 ?_
  refine r_iconst C0 (v := 1) dX6_passMinutes_1 rfl ?_
  refine r_bipush C0 (v := 100) dX6_passMinutes_2 rfl ?_
  obtain ⟨M2, hc1, hf⟩ := bd_e hf
  refine r_callSv C0 (As := [.int a1, .int 1, .int 100]) (rest := []) (c_X6_checkRange l D g tb hT  hc1) w1_48 w1_49 w1_13 w1_50 hd_X6_checkRange rfl ⟨rfl, rfl⟩ ⟨Nat.le_of_ble_eq_true rfl, Nat.le_of_ble_eq_true rfl⟩ (by decide) (by decide) rfl (Nat.le_of_ble_eq_true rfl) dX6_passMinutes_4 ?_
  refine r_aload_n C0 (kk := 0) 0 rfl dX6_passMinutes_7 ?_
  obtain ⟨M4, hc3, hf⟩ := bd_e hf
  refine r_callVv C0 (As := []) (rest := []) (c_X6_remember l D g tb hT h0 hc3) w2_22 w2_24 wp1_5 w1_13 w2_25 (x_rec4 C0 h0.1) hd_X6_remember rfl ⟨rfl, rfl⟩ ⟨Nat.le_of_ble_eq_true rfl, Nat.le_of_ble_eq_true rfl⟩ (by decide) (by decide) rfl (Nat.le_of_ble_eq_true rfl) dX6_passMinutes_8 ?_
  refine r_aload_n C0 (kk := 0) 0 rfl dX6_passMinutes_11 ?_
  refine r_get4 C0 h0.1 0 (by decide) (v := .ref (g.1 2 0)) rfl rfl w5_87 dX6_passMinutes_12 ?_
  obtain ⟨r7, M6, hc5, hf⟩ := bd2_e hf
  refine r_callVi C0 (As := []) (rest := []) (c_X2_soldInAll l D g tb hT h0.2.1 hc5) w2_41 w2_42 w2_43 w1_14 w2_44 (x_rec2 C0 h0.2.1.1) hd_X2_soldInAll rfl ⟨rfl, rfl⟩ ⟨Nat.le_of_ble_eq_true rfl, Nat.le_of_ble_eq_true rfl⟩ (by decide) (by decide) rfl (Nat.le_of_ble_eq_true rfl) dX6_passMinutes_15 ?_
  refine r_istore_n C0 (kk := 2) (lv2 := [(2, .int r7), (0, .ref (g.1 4 1664)), (1, .int a1)]) (by decide) rfl dX6_passMinutes_18 ?_
  refine r_aload_n C0 (kk := 0) 1 rfl dX6_passMinutes_19 ?_
  refine r_get4 C0 h0.1 0 (by decide) (v := .ref (g.1 2 0)) rfl rfl w5_87 dX6_passMinutes_20 ?_
  refine r_iload_n C0 (kk := 1) 2 rfl dX6_passMinutes_23 ?_
  obtain ⟨M9, hc8, hf⟩ := bd_e hf
  refine r_callVv C0 (As := [.int a1]) (rest := []) (c_X2_pass l D g tb hT h0.2.1 hc8) w2_45 w2_46 w2_47 w1_14 w2_48 (x_rec2 C0 h0.2.1.1) hd_X2_pass rfl ⟨rfl, rfl⟩ ⟨Nat.le_of_ble_eq_true rfl, Nat.le_of_ble_eq_true rfl⟩ (by decide) (by decide) rfl (Nat.le_of_ble_eq_true rfl) dX6_passMinutes_24 ?_
  refine r_aload_n C0 (kk := 0) 1 rfl dX6_passMinutes_27 ?_
  refine r_get4 C0 h0.1 0 (by decide) (v := .ref (g.1 2 0)) rfl rfl w5_87 dX6_passMinutes_28 ?_
  obtain ⟨r12, M11, hc10, hf⟩ := bd2_e hf
  refine r_callVi C0 (As := []) (rest := []) (c_X2_soldInAll l D g tb hT h0.2.1 hc10) w2_41 w2_42 w2_43 w1_14 w2_44 (x_rec2 C0 h0.2.1.1) hd_X2_soldInAll rfl ⟨rfl, rfl⟩ ⟨Nat.le_of_ble_eq_true rfl, Nat.le_of_ble_eq_true rfl⟩ (by decide) (by decide) rfl (Nat.le_of_ble_eq_true rfl) dX6_passMinutes_31 ?_
  refine r_iload_n C0 (kk := 2) 0 rfl dX6_passMinutes_34 ?_
  refine r_isub C0 dX6_passMinutes_35 ?_
  exact hend hf dX6_passMinutes_36
theorem dX3_appendText_0 : decode cX3_appendText 0 = .ok (.iconst 0, 1) := by decide +kernel
theorem dX3_appendText_1 : decode cX3_appendText 1 = .ok (.istore_n 2, 1) := by decide +kernel
theorem dX3_appendText_2 : decode cX3_appendText 2 = .ok (.iload_n 2, 1) := by decide +kernel
theorem dX3_appendText_3 : decode cX3_appendText 3 = .ok (.aload_n 1, 1) := by decide +kernel
theorem dX3_appendText_4 : decode cX3_appendText 4 = .ok (.invokevirtual 23, 3) := by decide +kernel
theorem dX3_appendText_7 : decode cX3_appendText 7 = .ok (.if_icmp .ge 18, 3) := by decide +kernel
theorem dX3_appendText_10 : decode cX3_appendText 10 = .ok (.aload_n 0, 1) := by decide +kernel
theorem dX3_appendText_11 : decode cX3_appendText 11 = .ok (.aload_n 1, 1) := by decide +kernel
theorem dX3_appendText_12 : decode cX3_appendText 12 = .ok (.iload_n 2, 1) := by decide +kernel
theorem dX3_appendText_13 : decode cX3_appendText 13 = .ok (.invokevirtual 29, 3) := by decide +kernel
theorem dX3_appendText_16 : decode cX3_appendText 16 = .ok (.invokevirtual 33, 3) := by decide +kernel
theorem dX3_appendText_19 : decode cX3_appendText 19 = .ok (.iinc 2 1, 3) := by decide +kernel
theorem dX3_appendText_22 : decode cX3_appendText 22 = .ok (.goto (-20), 3) := by decide +kernel
theorem dX3_appendText_25 : decode cX3_appendText 25 = .ok (.return_, 1) := by decide +kernel
theorem hd_X3_appendText : yX3_appendText.cls = RX3 ∧ yX3_appendText.cls ≠ "java/lang/invoke/MethodHandle" ∧ yX3_appendText.cls ≠ "java/lang/invoke/VarHandle" ∧ (parseMethodDescriptor yX3_appendText.desc).map (fun d => d.parameters.length) = some 1 := by decide +kernel
set_option maxRecDepth 100000 in
set_option maxHeartbeats 4000000 in
theorem c_X3_appendText (l : Launch) (D : va_G) (g : xG) (tb : List xQ) (hT : x_T g tb) {a1 : Nat} (h0 : x_rd tb) (h1 : a1 < 40) {M M' : xM} (hf : f_X3_appendText a1 M = some M') :
    cV l D g tb yX3_appendText cX3_appendText 3 ({ frames := 4, cells := 0, slots := 0, locals := 85 } : Room) [.ref (g.1 3 1777), .ref (g.1 20 a1)] M M' := by
  refine x_startV (own := RX3) (by decide +kernel) rfl rfl (Nat.le_of_ble_eq_true rfl) hT ?_
  intro p e s m args below meth c Q C0 hend
  have B2 : ∀ (k2 : Int32 → xM → Option xM) (hk2 : ∀ (v2 : Int32)  (M : xM), k2 v2 M = some M' → WW p l e ({ frames := 4, cells := 0, slots := 0, locals := 85 } : Room) s m args below meth c 0 0 Q 3 D g tb 2 [(0, .ref (g.1 3 1777)), (1, .ref (g.1 20 a1)), (2, .int v2)] [] M), ∀ (v2 : Int32)  (M : xM), fb_X3_appendText_c2 k2 a1 v2 M = some M' → WW p l e ({ frames := 4, cells := 0, slots := 0, locals := 85 } : Room) s m args below meth c 0 0 Q 3 D g tb 2 [(0, .ref (g.1 3 1777)), (1, .ref (g.1 20 a1)), (2, .int v2)] [] M := by
    intro k2 hk2 v2  M hf
    unfold fb_X3_appendText_c2 at hf
    refine r_iload_n C0 (kk := 2) 2 rfl dX3_appendText_2 ?_
    refine r_aload_n C0 (kk := 1) 1 rfl dX3_appendText_3 ?_
    obtain ⟨r3, M2, hc1, hf⟩ := bd2_e hf
    refine r_callVi C0 (As := []) (rest := [.int v2]) (c_J0_length_8abf5 l D g tb hT h1 hc1) w4_103 w2_239 w3_0 w1_3 w3_1 (x_rec20 C0 h1) hd_J0_length_8abf5 rfl ⟨rfl, rfl⟩ ⟨Nat.le_of_ble_eq_true rfl, Nat.le_of_ble_eq_true rfl⟩ (by decide) (by decide) rfl (Nat.le_of_ble_eq_true rfl) dX3_appendText_4 ?_
    refine r_icmp_ge C0 (tgt := 25) (by decide) dX3_appendText_7 (fun q4 => ?_) (fun q4 => ?_)
    · have hf := ie_t hf q4
      exact hend hf dX3_appendText_25
    · have hf := ie_f hf q4
      refine r_aload_n C0 (kk := 0) 0 rfl dX3_appendText_10 ?_
      refine r_aload_n C0 (kk := 1) 1 rfl dX3_appendText_11 ?_
      refine r_iload_n C0 (kk := 2) 2 rfl dX3_appendText_12 ?_
      obtain ⟨r7, M6, hc5, hf⟩ := bd2_e hf
      refine r_callVi C0 (As := [.int v2]) (rest := [.ref (g.1 3 1777)]) (c_J0_charAt_5068e l D g tb hT h1 hc5) w4_104 w4_105 w4_106 w1_3 w4_107 (x_rec20 C0 h1) hd_J0_charAt_5068e rfl ⟨rfl, rfl⟩ ⟨Nat.le_of_ble_eq_true rfl, Nat.le_of_ble_eq_true rfl⟩ (by decide) (by decide) rfl (Nat.le_of_ble_eq_true rfl) dX3_appendText_13 ?_
      obtain ⟨M9, hc8, hf⟩ := bd_e hf
      refine r_callVv C0 (As := [.int r7]) (rest := []) (c_X3_appendByte l D g tb hT h0 hc8) w4_128 w4_130 wp1_8 w1_17 w4_131 (x_rec3 C0 h0.1) hd_X3_appendByte rfl ⟨rfl, rfl⟩ ⟨Nat.le_of_ble_eq_true rfl, Nat.le_of_ble_eq_true rfl⟩ (by decide) (by decide) rfl (Nat.le_of_ble_eq_true rfl) dX3_appendText_16 ?_
      refine r_iincc C0 2 rfl (k0 := 1) (by decide) (by decide) (lv2 := [(2, .int (v2 + 1)), (0, .ref (g.1 3 1777)), (1, .ref (g.1 20 a1))]) rfl dX3_appendText_19 ?_
      refine r_goto C0 (tgt := 2) (by decide) dX3_appendText_22 ?_
      refine WW.sub [1, 2, 0] rfl ?_
      exact hk2 _   _ hf
  have L2 : ∀ (v2 : Int32)  (M : xM), f_X3_appendText_c2  a1 v2 M = some M' → WW p l e ({ frames := 4, cells := 0, slots := 0, locals := 85 } : Room) s m args below meth c 0 0 Q 3 D g tb 2 [(0, .ref (g.1 3 1777)), (1, .ref (g.1 20 a1)), (2, .int v2)] [] M := lp_ind (P := fun f => ∀ (v2 : Int32)  (M : xM), f v2 M = some M' → WW p l e ({ frames := 4, cells := 0, slots := 0, locals := 85 } : Room) s m args below meth c 0 0 Q 3 D g tb 2 [(0, .ref (g.1 3 1777)), (1, .ref (g.1 20 a1)), (2, .int v2)] [] M) (fun _ _ h => none_ne h) (fun f hf => B2 f hf) FU
  unfold f_X3_appendText at hf
  refine r_iconst C0 (v := 0) dX3_appendText_0 rfl ?_
  refine r_istore_n C0 (kk := 2) (lv2 := [(2, .int 0), (0, .ref (g.1 3 1777)), (1, .ref (g.1 20 a1))]) (by decide) rfl dX3_appendText_1 ?_
  refine WW.sub [1, 2, 0] rfl ?_
  exact L2   _   _ hf
theorem dX3_readWord_0 : decode cX3_readWord 0 = .ok (.aload_n 0, 1) := by decide +kernel
theorem dX3_readWord_1 : decode cX3_readWord 1 = .ok (.invokevirtual 74, 3) := by decide +kernel
theorem dX3_readWord_4 : decode cX3_readWord 4 = .ok (.aload_n 0, 1) := by decide +kernel
theorem dX3_readWord_5 : decode cX3_readWord 5 = .ok (.aload_n 1, 1) := by decide +kernel
theorem dX3_readWord_6 : decode cX3_readWord 6 = .ok (.invokevirtual 115, 3) := by decide +kernel
theorem dX3_readWord_9 : decode cX3_readWord 9 = .ok (.ifCond .ne 11, 3) := by decide +kernel
theorem dX3_readWord_12 : decode cX3_readWord 12 = .ok (.aload_n 0, 1) := by decide +kernel
theorem dX3_readWord_13 : decode cX3_readWord 13 = .ok (.iconst 1, 1) := by decide +kernel
theorem dX3_readWord_14 : decode cX3_readWord 14 = .ok (.invokevirtual 80, 3) := by decide +kernel
theorem dX3_readWord_17 : decode cX3_readWord 17 = .ok (.ifCond .eq 7, 3) := by decide +kernel
theorem dX3_readWord_20 : decode cX3_readWord 20 = .ok (.iconst 1, 1) := by decide +kernel
theorem dX3_readWord_21 : decode cX3_readWord 21 = .ok (.goto 4, 3) := by decide +kernel
theorem dX3_readWord_24 : decode cX3_readWord 24 = .ok (.iconst 0, 1) := by decide +kernel
theorem dX3_readWord_25 : decode cX3_readWord 25 = .ok (.ireturn, 1) := by decide +kernel
theorem hd_X3_readWord : yX3_readWord.cls = RX3 ∧ yX3_readWord.cls ≠ "java/lang/invoke/MethodHandle" ∧ yX3_readWord.cls ≠ "java/lang/invoke/VarHandle" ∧ (parseMethodDescriptor yX3_readWord.desc).map (fun d => d.parameters.length) = some 1 := by decide +kernel
set_option maxRecDepth 100000 in
set_option maxHeartbeats 4000000 in
theorem c_X3_readWord (l : Launch) (D : va_G) (g : xG) (tb : List xQ) (hT : x_T g tb) {a1 : Nat} (h0 : x_rd tb) (h1 : a1 < 40) {M : xM} {r : Int32} {M' : xM} (hf : f_X3_readWord a1 M = some (r, M')) :
    cI l D g tb yX3_readWord cX3_readWord 2 .boolean ({ frames := 5, cells := 0, slots := 0, locals := 107 } : Room) [.ref (g.1 3 1777), .ref (g.1 20 a1)] M r M' := by
  refine x_startZ (own := RX3) (by decide +kernel) rfl rfl (Nat.le_of_ble_eq_true rfl) hT ?_
  intro p e s m args below meth c Q C0 hend
  unfold f_X3_readWord at hf
  refine r_aload_n C0 (kk := 0) 0 rfl dX3_readWord_0 ?_
  obtain ⟨M2, hc1, hf⟩ := bd_e hf
  refine r_callVv C0 (As := []) (rest := []) (c_X3_readToken l D g tb hT h0 hc1) w4_149 w4_151 wp1_11 w1_17 w4_152 (x_rec3 C0 h0.1) hd_X3_readToken rfl ⟨rfl, rfl⟩ ⟨Nat.le_of_ble_eq_true rfl, Nat.le_of_ble_eq_true rfl⟩ (by decide) (by decide) rfl (Nat.le_of_ble_eq_true rfl) dX3_readWord_1 ?_
  refine r_aload_n C0 (kk := 0) 0 rfl dX3_readWord_4 ?_
  refine r_aload_n C0 (kk := 1) 1 rfl dX3_readWord_5 ?_
  obtain ⟨r5, M4, hc3, hf⟩ := bd2_e hf
  refine r_callVi C0 (As := [.ref (g.1 20 a1)]) (rest := []) (c_X3_isWord l D g tb hT h0 h1 hc3) w4_168 w4_170 wp1_14 w1_17 w4_171 (x_rec3 C0 h0.1) hd_X3_isWord rfl ⟨rfl, rfl⟩ ⟨Nat.le_of_ble_eq_true rfl, Nat.le_of_ble_eq_true rfl⟩ (by decide) (by decide) rfl (Nat.le_of_ble_eq_true rfl) dX3_readWord_6 ?_
  refine r_if_ne C0 (tgt := 20) (by decide) dX3_readWord_9 (fun q6 => ?_) (fun q6 => ?_)
  · have hf := ie_f hf q6
    refine r_iconst C0 (v := 1) dX3_readWord_20 rfl ?_
    refine r_goto C0 (tgt := 25) (by decide) dX3_readWord_21 ?_
    exact hend (by decide) hf dX3_readWord_25
  · have hf := ie_t hf q6
    refine r_aload_n C0 (kk := 0) 0 rfl dX3_readWord_12 ?_
    refine r_iconst C0 (v := 1) dX3_readWord_13 rfl ?_
    obtain ⟨r9, M8, hc7, hf⟩ := bd2_e hf
    refine r_callVi C0 (As := [.int 1]) (rest := []) (c_X3_fail l D g tb hT h0 hc7) w4_172 w4_174 wp1_15 w1_17 w4_175 (x_rec3 C0 h0.1) hd_X3_fail rfl ⟨rfl, rfl⟩ ⟨Nat.le_of_ble_eq_true rfl, Nat.le_of_ble_eq_true rfl⟩ (by decide) (by decide) rfl (Nat.le_of_ble_eq_true rfl) dX3_readWord_14 ?_
    refine r_if_eq C0 (tgt := 24) (by decide) dX3_readWord_17 (fun q10 => ?_) (fun q10 => ?_)
    · have hf := ie_t hf q10
      refine r_iconst C0 (v := 0) dX3_readWord_24 rfl ?_
      exact hend (by decide) hf dX3_readWord_25
    · have hf := ie_f hf q10
      refine r_iconst C0 (v := 1) dX3_readWord_20 rfl ?_
      refine r_goto C0 (tgt := 25) (by decide) dX3_readWord_21 ?_
      exact hend (by decide) hf dX3_readWord_25
theorem dX3_readArgument_0 : decode cX3_readArgument 0 = .ok (.aload_n 0, 1) := by decide +kernel
theorem dX3_readArgument_1 : decode cX3_readArgument 1 = .ok (.invokevirtual 74, 3) := by decide +kernel
theorem dX3_readArgument_4 : decode cX3_readArgument 4 = .ok (.iload_n 2, 1) := by decide +kernel
theorem dX3_readArgument_5 : decode cX3_readArgument 5 = .ok (.bipush 108, 2) := by decide +kernel
theorem dX3_readArgument_7 : decode cX3_readArgument 7 = .ok (.if_icmp .eq 9, 3) := by decide +kernel
theorem dX3_readArgument_10 : decode cX3_readArgument 10 = .ok (.iload_n 2, 1) := by decide +kernel
theorem dX3_readArgument_11 : decode cX3_readArgument 11 = .ok (.bipush 116, 2) := by decide +kernel
theorem dX3_readArgument_13 : decode cX3_readArgument 13 = .ok (.if_icmp .ne 49, 3) := by decide +kernel
theorem dX3_readArgument_16 : decode cX3_readArgument 16 = .ok (.iload_n 2, 1) := by decide +kernel
theorem dX3_readArgument_17 : decode cX3_readArgument 17 = .ok (.bipush 108, 2) := by decide +kernel
theorem dX3_readArgument_19 : decode cX3_readArgument 19 = .ok (.if_icmp .ne 10, 3) := by decide +kernel
theorem dX3_readArgument_22 : decode cX3_readArgument 22 = .ok (.aload_n 0, 1) := by decide +kernel
theorem dX3_readArgument_23 : decode cX3_readArgument 23 = .ok (.invokevirtual 130, 3) := by decide +kernel
theorem dX3_readArgument_26 : decode cX3_readArgument 26 = .ok (.goto 7, 3) := by decide +kernel
theorem dX3_readArgument_29 : decode cX3_readArgument 29 = .ok (.aload_n 0, 1) := by decide +kernel
theorem dX3_readArgument_30 : decode cX3_readArgument 30 = .ok (.invokevirtual 133, 3) := by decide +kernel
theorem dX3_readArgument_33 : decode cX3_readArgument 33 = .ok (.istore 4, 2) := by decide +kernel
theorem dX3_readArgument_35 : decode cX3_readArgument 35 = .ok (.aload_n 0, 1) := by decide +kernel
theorem dX3_readArgument_36 : decode cX3_readArgument 36 = .ok (.iload_n 3, 1) := by decide +kernel
theorem dX3_readArgument_37 : decode cX3_readArgument 37 = .ok (.iload 4, 2) := by decide +kernel
theorem dX3_readArgument_39 : decode cX3_readArgument 39 = .ok (.invokevirtual 136, 3) := by decide +kernel
theorem dX3_readArgument_42 : decode cX3_readArgument 42 = .ok (.iload 4, 2) := by decide +kernel
theorem dX3_readArgument_44 : decode cX3_readArgument 44 = .ok (.iconst (-1), 1) := by decide +kernel
theorem dX3_readArgument_45 : decode cX3_readArgument 45 = .ok (.if_icmp .ne 11, 3) := by decide +kernel
theorem dX3_readArgument_48 : decode cX3_readArgument 48 = .ok (.aload_n 0, 1) := by decide +kernel
theorem dX3_readArgument_49 : decode cX3_readArgument 49 = .ok (.iconst 1, 1) := by decide +kernel
theorem dX3_readArgument_50 : decode cX3_readArgument 50 = .ok (.invokevirtual 80, 3) := by decide +kernel
theorem dX3_readArgument_53 : decode cX3_readArgument 53 = .ok (.ifCond .eq 7, 3) := by decide +kernel
theorem dX3_readArgument_56 : decode cX3_readArgument 56 = .ok (.iconst 1, 1) := by decide +kernel
theorem dX3_readArgument_57 : decode cX3_readArgument 57 = .ok (.goto 4, 3) := by decide +kernel
theorem dX3_readArgument_60 : decode cX3_readArgument 60 = .ok (.iconst 0, 1) := by decide +kernel
theorem dX3_readArgument_61 : decode cX3_readArgument 61 = .ok (.ireturn, 1) := by decide +kernel
theorem dX3_readArgument_62 : decode cX3_readArgument 62 = .ok (.aload_n 0, 1) := by decide +kernel
theorem dX3_readArgument_63 : decode cX3_readArgument 63 = .ok (.iload_n 2, 1) := by decide +kernel
theorem dX3_readArgument_64 : decode cX3_readArgument 64 = .ok (.invokestatic 140, 3) := by decide +kernel
theorem dX3_readArgument_67 : decode cX3_readArgument 67 = .ok (.iload_n 2, 1) := by decide +kernel
theorem dX3_readArgument_68 : decode cX3_readArgument 68 = .ok (.aload_n 1, 1) := by decide +kernel
theorem dX3_readArgument_69 : decode cX3_readArgument 69 = .ok (.invokestatic 144, 3) := by decide +kernel
theorem dX3_readArgument_72 : decode cX3_readArgument 72 = .ok (.invokevirtual 148, 3) := by decide +kernel
theorem dX3_readArgument_75 : decode cX3_readArgument 75 = .ok (.ifCond .ne 5, 3) := by decide +kernel
theorem dX3_readArgument_78 : decode cX3_readArgument 78 = .ok (.iconst 0, 1) := by decide +kernel
theorem dX3_readArgument_79 : decode cX3_readArgument 79 = .ok (.ireturn, 1) := by decide +kernel
theorem dX3_readArgument_80 : decode cX3_readArgument 80 = .ok (.aload_n 0, 1) := by decide +kernel
theorem dX3_readArgument_81 : decode cX3_readArgument 81 = .ok (.iload_n 3, 1) := by decide +kernel
theorem dX3_readArgument_82 : decode cX3_readArgument 82 = .ok (.aload_n 0, 1) := by decide +kernel
theorem dX3_readArgument_83 : decode cX3_readArgument 83 = .ok (.getfield 55, 3) := by decide +kernel
theorem dX3_readArgument_86 : decode cX3_readArgument 86 = .ok (.invokevirtual 136, 3) := by decide +kernel
theorem dX3_readArgument_89 : decode cX3_readArgument 89 = .ok (.aload_n 0, 1) := by decide +kernel
theorem dX3_readArgument_90 : decode cX3_readArgument 90 = .ok (.aload_n 1, 1) := by decide +kernel
theorem dX3_readArgument_91 : decode cX3_readArgument 91 = .ok (.iload_n 3, 1) := by decide +kernel
theorem dX3_readArgument_92 : decode cX3_readArgument 92 = .ok (.invokevirtual 151, 3) := by decide +kernel
theorem dX3_readArgument_95 : decode cX3_readArgument 95 = .ok (.ifCond .eq 11, 3) := by decide +kernel
theorem dX3_readArgument_98 : decode cX3_readArgument 98 = .ok (.aload_n 0, 1) := by decide +kernel
theorem dX3_readArgument_99 : decode cX3_readArgument 99 = .ok (.iconst 3, 1) := by decide +kernel
theorem dX3_readArgument_100 : decode cX3_readArgument 100 = .ok (.invokevirtual 80, 3) := by decide +kernel
theorem dX3_readArgument_103 : decode cX3_readArgument 103 = .ok (.ifCond .eq 7, 3) := by decide +kernel
theorem dX3_readArgument_106 : decode cX3_readArgument 106 = .ok (.iconst 1, 1) := by decide +kernel
theorem dX3_readArgument_107 : decode cX3_readArgument 107 = .ok (.goto 4, 3) := by decide +kernel
theorem dX3_readArgument_110 : decode cX3_readArgument 110 = .ok (.iconst 0, 1) := by decide +kernel
theorem dX3_readArgument_111 : decode cX3_readArgument 111 = .ok (.ireturn, 1) := by decide +kernel
theorem hd_X3_readArgument : yX3_readArgument.cls = RX3 ∧ yX3_readArgument.cls ≠ "java/lang/invoke/MethodHandle" ∧ yX3_readArgument.cls ≠ "java/lang/invoke/VarHandle" ∧ (parseMethodDescriptor yX3_readArgument.desc).map (fun d => d.parameters.length) = some 3 := by decide +kernel
set_option maxRecDepth 100000 in
set_option maxHeartbeats 4000000 in
theorem c_X3_readArgument (l : Launch) (D : va_G) (g : xG) (tb : List xQ) (hT : x_T g tb) {a1 : Nat} {a2 : Int32} {a3 : Int32} (h0 : x_rd tb) (h1 : x_mk tb a1) {M : xM} {r : Int32} {M' : xM} (hf : f_X3_readArgument a1 a2 a3 M = some (r, M')) :
    cI l D g tb yX3_readArgument cX3_readArgument 5 .boolean ({ frames := 6, cells := 0, slots := 0, locals := 127 } : Room) [.ref (g.1 3 1777), .ref (g.1 2 a1), .int a2, .int a3] M r M' := by
  refine x_startZ (own := RX3) (by decide +kernel) rfl rfl (Nat.le_of_ble_eq_true rfl) hT ?_
  intro p e s m args below meth c Q C0 hend
  have B33 : ∀ (s0 : Int32)  (M : xM), f_X3_readArgument_c33  a1 a2 a3 s0 M = some (r, M') → WW p l e ({ frames := 6, cells := 0, slots := 0, locals := 127 } : Room) s m args below meth c 0 0 Q 5 D g tb 33 [(0, .ref (g.1 3 1777)), (3, .int a3)] [.int s0] M := by
    intro   s0  M hf
    unfold f_X3_readArgument_c33 at hf
    refine r_istore C0 (lv2 := [(4, .int s0), (0, .ref (g.1 3 1777)), (3, .int a3)]) (by decide) rfl dX3_readArgument_33 ?_
    refine r_aload_n C0 (kk := 0) 1 rfl dX3_readArgument_35 ?_
    refine r_iload_n C0 (kk := 3) 2 rfl dX3_readArgument_36 ?_
    refine r_iload C0 0 rfl dX3_readArgument_37 ?_
    obtain ⟨M33, hc32, hf⟩ := bd_e hf
    refine r_callVv C0 (As := [.int a3, .int s0]) (rest := []) (c_X3_keepArgument l D g tb hT h0 hc32) w5_2 w5_4 wp2_10 w1_17 w5_5 (x_rec3 C0 h0.1) hd_X3_keepArgument rfl ⟨rfl, rfl⟩ ⟨Nat.le_of_ble_eq_true rfl, Nat.le_of_ble_eq_true rfl⟩ (by decide) (by decide) rfl (Nat.le_of_ble_eq_true rfl) dX3_readArgument_39 ?_
    refine r_iload C0 0 rfl dX3_readArgument_42 ?_
    refine r_iconst C0 (v := (-1)) dX3_readArgument_44 rfl ?_
    refine r_icmp_ne C0 (tgt := 56) (by decide) dX3_readArgument_45 (fun q34 => ?_) (fun q34 => ?_)
    · have hf := ie_f hf q34
      refine r_iconst C0 (v := 1) dX3_readArgument_56 rfl ?_
      refine r_goto C0 (tgt := 61) (by decide) dX3_readArgument_57 ?_
      exact hend (by decide) hf dX3_readArgument_61
    · have hf := ie_t hf q34
      refine r_aload_n C0 (kk := 0) 1 rfl dX3_readArgument_48 ?_
      refine r_iconst C0 (v := 1) dX3_readArgument_49 rfl ?_
      obtain ⟨r37, M36, hc35, hf⟩ := bd2_e hf
      refine r_callVi C0 (As := [.int 1]) (rest := []) (c_X3_fail l D g tb hT h0 hc35) w4_172 w4_174 wp1_15 w1_17 w4_175 (x_rec3 C0 h0.1) hd_X3_fail rfl ⟨rfl, rfl⟩ ⟨Nat.le_of_ble_eq_true rfl, Nat.le_of_ble_eq_true rfl⟩ (by decide) (by decide) rfl (Nat.le_of_ble_eq_true rfl) dX3_readArgument_50 ?_
      refine r_if_eq C0 (tgt := 60) (by decide) dX3_readArgument_53 (fun q38 => ?_) (fun q38 => ?_)
      · have hf := ie_t hf q38
        refine r_iconst C0 (v := 0) dX3_readArgument_60 rfl ?_
        exact hend (by decide) hf dX3_readArgument_61
      · have hf := ie_f hf q38
        refine r_iconst C0 (v := 1) dX3_readArgument_56 rfl ?_
        refine r_goto C0 (tgt := 61) (by decide) dX3_readArgument_57 ?_
        exact hend (by decide) hf dX3_readArgument_61
  have B16 : ∀ (M : xM), f_X3_readArgument_c16  a1 a2 a3 M = some (r, M') → WW p l e ({ frames := 6, cells := 0, slots := 0, locals := 127 } : Room) s m args below meth c 0 0 Q 5 D g tb 16 [(0, .ref (g.1 3 1777)), (2, .int a2), (3, .int a3)] [] M := by
    intro     M hf
    unfold f_X3_readArgument_c16 at hf
    refine r_iload_n C0 (kk := 2) 1 rfl dX3_readArgument_16 ?_
    refine r_bipush C0 (v := 108) dX3_readArgument_17 rfl ?_
    refine r_icmp_ne C0 (tgt := 29) (by decide) dX3_readArgument_19 (fun q25 => ?_) (fun q25 => ?_)
    · have hf := ie_f hf q25
      refine r_aload_n C0 (kk := 0) 0 rfl dX3_readArgument_29 ?_
      obtain ⟨r28, M27, hc26, hf⟩ := bd2_e hf
      refine r_callVi C0 (As := []) (rest := []) (c_X3_textureRead l D g tb hT h0 hc26) w4_235 w4_237 wp2_9 w1_17 w4_238 (x_rec3 C0 h0.1) hd_X3_textureRead rfl ⟨rfl, rfl⟩ ⟨Nat.le_of_ble_eq_true rfl, Nat.le_of_ble_eq_true rfl⟩ (by decide) (by decide) rfl (Nat.le_of_ble_eq_true rfl) dX3_readArgument_30 ?_
      refine WW.sub [0, 2] rfl ?_
      exact B33   _   _ hf
    · have hf := ie_t hf q25
      refine r_aload_n C0 (kk := 0) 0 rfl dX3_readArgument_22 ?_
      obtain ⟨r31, M30, hc29, hf⟩ := bd2_e hf
      refine r_callVi C0 (As := []) (rest := []) (c_X3_lanternRead l D g tb hT h0 hc29) w4_227 w4_229 wp2_8 w1_17 w4_230 (x_rec3 C0 h0.1) hd_X3_lanternRead rfl ⟨rfl, rfl⟩ ⟨Nat.le_of_ble_eq_true rfl, Nat.le_of_ble_eq_true rfl⟩ (by decide) (by decide) rfl (Nat.le_of_ble_eq_true rfl) dX3_readArgument_23 ?_
      refine r_goto C0 (tgt := 33) (by decide) dX3_readArgument_26 ?_
      refine WW.sub [0, 2] rfl ?_
      exact B33   _   _ hf
  unfold f_X3_readArgument at hf
  refine r_aload_n C0 (kk := 0) 0 rfl dX3_readArgument_0 ?_
  obtain ⟨M2, hc1, hf⟩ := bd_e hf
  refine r_callVv C0 (As := []) (rest := []) (c_X3_readToken l D g tb hT h0 hc1) w4_149 w4_151 wp1_11 w1_17 w4_152 (x_rec3 C0 h0.1) hd_X3_readToken rfl ⟨rfl, rfl⟩ ⟨Nat.le_of_ble_eq_true rfl, Nat.le_of_ble_eq_true rfl⟩ (by decide) (by decide) rfl (Nat.le_of_ble_eq_true rfl) dX3_readArgument_1 ?_
  refine r_iload_n C0 (kk := 2) 2 rfl dX3_readArgument_4 ?_
  refine r_bipush C0 (v := 108) dX3_readArgument_5 rfl ?_
  refine r_icmp_eq C0 (tgt := 16) (by decide) dX3_readArgument_7 (fun q3 => ?_) (fun q3 => ?_)
  · have hf := ie_t hf q3
    refine WW.sub [0, 2, 3] rfl ?_
    exact B16     _ hf
  · have hf := ie_f hf q3
    refine r_iload_n C0 (kk := 2) 2 rfl dX3_readArgument_10 ?_
    refine r_bipush C0 (v := 116) dX3_readArgument_11 rfl ?_
    refine r_icmp_ne C0 (tgt := 62) (by decide) dX3_readArgument_13 (fun q4 => ?_) (fun q4 => ?_)
    · have hf := ie_f hf q4
      refine r_aload_n C0 (kk := 0) 0 rfl dX3_readArgument_62 ?_
      refine r_iload_n C0 (kk := 2) 2 rfl dX3_readArgument_63 ?_
      obtain ⟨r7, M6, hc5, hf⟩ := bd2_e hf
      refine r_callSi C0 (As := [.int a2]) (rest := [.ref (g.1 3 1777)]) (c_X3_lowest l D g tb hT  hc5) w5_6 w5_7 w1_17 w5_8 hd_X3_lowest rfl ⟨rfl, rfl⟩ ⟨Nat.le_of_ble_eq_true rfl, Nat.le_of_ble_eq_true rfl⟩ (by decide) (by decide) rfl (Nat.le_of_ble_eq_true rfl) dX3_readArgument_64 ?_
      refine r_iload_n C0 (kk := 2) 2 rfl dX3_readArgument_67 ?_
      refine r_aload_n C0 (kk := 1) 1 rfl dX3_readArgument_68 ?_
      obtain ⟨r10, M9, hc8, hf⟩ := bd2_e hf
      refine r_callSi C0 (As := [.int a2, .ref (g.1 2 a1)]) (rest := [.int r7, .ref (g.1 3 1777)]) (c_X3_highest l D g tb hT h1 hc8) w5_9 w5_10 w1_17 w5_11 hd_X3_highest rfl ⟨rfl, rfl⟩ ⟨Nat.le_of_ble_eq_true rfl, Nat.le_of_ble_eq_true rfl⟩ (by decide) (by decide) rfl (Nat.le_of_ble_eq_true rfl) dX3_readArgument_69 ?_
      obtain ⟨r13, M12, hc11, hf⟩ := bd2_e hf
      refine r_callVi C0 (As := [.int r7, .int r10]) (rest := []) (c_X3_isNumberFrom l D g tb hT h0 hc11) w4_180 w4_182 wp2_1 w1_17 w4_183 (x_rec3 C0 h0.1) hd_X3_isNumberFrom rfl ⟨rfl, rfl⟩ ⟨Nat.le_of_ble_eq_true rfl, Nat.le_of_ble_eq_true rfl⟩ (by decide) (by decide) rfl (Nat.le_of_ble_eq_true rfl) dX3_readArgument_72 ?_
      refine r_if_ne C0 (tgt := 80) (by decide) dX3_readArgument_75 (fun q14 => ?_) (fun q14 => ?_)
      · have hf := ie_f hf q14
        refine r_aload_n C0 (kk := 0) 0 rfl dX3_readArgument_80 ?_
        refine r_iload_n C0 (kk := 3) 3 rfl dX3_readArgument_81 ?_
        refine r_aload_n C0 (kk := 0) 0 rfl dX3_readArgument_82 ?_
        refine r_get3 C0 h0.1 9 (by decide) (v := .int (M12 1786)) rfl rfl w4_75 dX3_readArgument_83 ?_
        obtain ⟨M16, hc15, hf⟩ := bd_e hf
        refine r_callVv C0 (As := [.int a3, .int (M12 1786)]) (rest := []) (c_X3_keepArgument l D g tb hT h0 hc15) w5_2 w5_4 wp2_10 w1_17 w5_5 (x_rec3 C0 h0.1) hd_X3_keepArgument rfl ⟨rfl, rfl⟩ ⟨Nat.le_of_ble_eq_true rfl, Nat.le_of_ble_eq_true rfl⟩ (by decide) (by decide) rfl (Nat.le_of_ble_eq_true rfl) dX3_readArgument_86 ?_
        refine r_aload_n C0 (kk := 0) 0 rfl dX3_readArgument_89 ?_
        refine r_aload_n C0 (kk := 1) 1 rfl dX3_readArgument_90 ?_
        refine r_iload_n C0 (kk := 3) 3 rfl dX3_readArgument_91 ?_
        obtain ⟨r19, M18, hc17, hf⟩ := bd2_e hf
        refine r_callVi C0 (As := [.ref (g.1 2 a1), .int a3]) (rest := []) (c_X3_isRefusedBy l D g tb hT h0 h1 hc17) w5_12 w5_14 wp2_11 w1_17 w5_15 (x_rec3 C0 h0.1) hd_X3_isRefusedBy rfl ⟨rfl, rfl⟩ ⟨Nat.le_of_ble_eq_true rfl, Nat.le_of_ble_eq_true rfl⟩ (by decide) (by decide) rfl (Nat.le_of_ble_eq_true rfl) dX3_readArgument_92 ?_
        refine r_if_eq C0 (tgt := 106) (by decide) dX3_readArgument_95 (fun q20 => ?_) (fun q20 => ?_)
        · have hf := ie_t hf q20
          refine r_iconst C0 (v := 1) dX3_readArgument_106 rfl ?_
          refine r_goto C0 (tgt := 111) (by decide) dX3_readArgument_107 ?_
          exact hend (by decide) hf dX3_readArgument_111
        · have hf := ie_f hf q20
          refine r_aload_n C0 (kk := 0) 0 rfl dX3_readArgument_98 ?_
          refine r_iconst C0 (v := 3) dX3_readArgument_99 rfl ?_
          obtain ⟨r23, M22, hc21, hf⟩ := bd2_e hf
          refine r_callVi C0 (As := [.int 3]) (rest := []) (c_X3_fail l D g tb hT h0 hc21) w4_172 w4_174 wp1_15 w1_17 w4_175 (x_rec3 C0 h0.1) hd_X3_fail rfl ⟨rfl, rfl⟩ ⟨Nat.le_of_ble_eq_true rfl, Nat.le_of_ble_eq_true rfl⟩ (by decide) (by decide) rfl (Nat.le_of_ble_eq_true rfl) dX3_readArgument_100 ?_
          refine r_if_eq C0 (tgt := 110) (by decide) dX3_readArgument_103 (fun q24 => ?_) (fun q24 => ?_)
          · have hf := ie_t hf q24
            refine r_iconst C0 (v := 0) dX3_readArgument_110 rfl ?_
            exact hend (by decide) hf dX3_readArgument_111
          · have hf := ie_f hf q24
            refine r_iconst C0 (v := 1) dX3_readArgument_106 rfl ?_
            refine r_goto C0 (tgt := 111) (by decide) dX3_readArgument_107 ?_
            exact hend (by decide) hf dX3_readArgument_111
      · have hf := ie_t hf q14
        refine r_iconst C0 (v := 0) dX3_readArgument_78 rfl ?_
        exact hend (by decide) hf dX3_readArgument_79
    · have hf := ie_t hf q4
      refine WW.sub [0, 2, 3] rfl ?_
      exact B16     _ hf
theorem dX3_readHead_0 : decode cX3_readHead 0 = .ok (.aload_n 0, 1) := by decide +kernel
theorem dX3_readHead_1 : decode cX3_readHead 1 = .ok (.ldc 45, 2) := by decide +kernel
theorem dX3_readHead_3 : decode cX3_readHead 3 = .ok (.invokevirtual 47, 3) := by decide +kernel
theorem dX3_readHead_6 : decode cX3_readHead 6 = .ok (.ifCond .eq 13, 3) := by decide +kernel
theorem dX3_readHead_9 : decode cX3_readHead 9 = .ok (.aload_n 0, 1) := by decide +kernel
theorem dX3_readHead_10 : decode cX3_readHead 10 = .ok (.iconst 1, 1) := by decide +kernel
theorem dX3_readHead_11 : decode cX3_readHead 11 = .ok (.bipush 9, 2) := by decide +kernel
theorem dX3_readHead_13 : decode cX3_readHead 13 = .ok (.invokevirtual 51, 3) := by decide +kernel
theorem dX3_readHead_16 : decode cX3_readHead 16 = .ok (.ifCond .ne 5, 3) := by decide +kernel
theorem dX3_readHead_19 : decode cX3_readHead 19 = .ok (.iconst 0, 1) := by decide +kernel
theorem dX3_readHead_20 : decode cX3_readHead 20 = .ok (.ireturn, 1) := by decide +kernel
theorem dX3_readHead_21 : decode cX3_readHead 21 = .ok (.aload_n 0, 1) := by decide +kernel
theorem dX3_readHead_22 : decode cX3_readHead 22 = .ok (.getfield 55, 3) := by decide +kernel
theorem dX3_readHead_25 : decode cX3_readHead 25 = .ok (.istore_n 2, 1) := by decide +kernel
theorem dX3_readHead_26 : decode cX3_readHead 26 = .ok (.aload_n 0, 1) := by decide +kernel
theorem dX3_readHead_27 : decode cX3_readHead 27 = .ok (.iconst 1, 1) := by decide +kernel
theorem dX3_readHead_28 : decode cX3_readHead 28 = .ok (.bipush 60, 2) := by decide +kernel
theorem dX3_readHead_30 : decode cX3_readHead 30 = .ok (.invokevirtual 51, 3) := by decide +kernel
theorem dX3_readHead_33 : decode cX3_readHead 33 = .ok (.ifCond .ne 5, 3) := by decide +kernel
theorem dX3_readHead_36 : decode cX3_readHead 36 = .ok (.iconst 0, 1) := by decide +kernel
theorem dX3_readHead_37 : decode cX3_readHead 37 = .ok (.ireturn, 1) := by decide +kernel
theorem dX3_readHead_38 : decode cX3_readHead 38 = .ok (.aload_n 0, 1) := by decide +kernel
theorem dX3_readHead_39 : decode cX3_readHead 39 = .ok (.getfield 55, 3) := by decide +kernel
theorem dX3_readHead_42 : decode cX3_readHead 42 = .ok (.istore_n 3, 1) := by decide +kernel
theorem dX3_readHead_43 : decode cX3_readHead 43 = .ok (.aload_n 0, 1) := by decide +kernel
theorem dX3_readHead_44 : decode cX3_readHead 44 = .ok (.iconst 0, 1) := by decide +kernel
theorem dX3_readHead_45 : decode cX3_readHead 45 = .ok (.bipush 99, 2) := by decide +kernel
theorem dX3_readHead_47 : decode cX3_readHead 47 = .ok (.invokevirtual 51, 3) := by decide +kernel
theorem dX3_readHead_50 : decode cX3_readHead 50 = .ok (.ifCond .ne 5, 3) := by decide +kernel
theorem dX3_readHead_53 : decode cX3_readHead 53 = .ok (.iconst 0, 1) := by decide +kernel
theorem dX3_readHead_54 : decode cX3_readHead 54 = .ok (.ireturn, 1) := by decide +kernel
theorem dX3_readHead_55 : decode cX3_readHead 55 = .ok (.aload_n 1, 1) := by decide +kernel
theorem dX3_readHead_56 : decode cX3_readHead 56 = .ok (.iload_n 2, 1) := by decide +kernel
theorem dX3_readHead_57 : decode cX3_readHead 57 = .ok (.iload_n 3, 1) := by decide +kernel
theorem dX3_readHead_58 : decode cX3_readHead 58 = .ok (.aload_n 0, 1) := by decide +kernel
theorem dX3_readHead_59 : decode cX3_readHead 59 = .ok (.getfield 55, 3) := by decide +kernel
theorem dX3_readHead_62 : decode cX3_readHead 62 = .ok (.invokevirtual 58, 3) := by decide +kernel
theorem dX3_readHead_65 : decode cX3_readHead 65 = .ok (.aload_n 0, 1) := by decide +kernel
theorem dX3_readHead_66 : decode cX3_readHead 66 = .ok (.invokevirtual 64, 3) := by decide +kernel
theorem dX3_readHead_69 : decode cX3_readHead 69 = .ok (.ifCond .eq 24, 3) := by decide +kernel
theorem dX3_readHead_72 : decode cX3_readHead 72 = .ok (.aload_n 0, 1) := by decide +kernel
theorem dX3_readHead_73 : decode cX3_readHead 73 = .ok (.ldc 68, 2) := by decide +kernel
theorem dX3_readHead_75 : decode cX3_readHead 75 = .ok (.invokevirtual 47, 3) := by decide +kernel
theorem dX3_readHead_78 : decode cX3_readHead 78 = .ok (.ifCond .eq 15, 3) := by decide +kernel
theorem dX3_readHead_81 : decode cX3_readHead 81 = .ok (.aload_n 0, 1) := by decide +kernel
theorem dX3_readHead_82 : decode cX3_readHead 82 = .ok (.aload_n 1, 1) := by decide +kernel
theorem dX3_readHead_83 : decode cX3_readHead 83 = .ok (.invokevirtual 70, 3) := by decide +kernel
theorem dX3_readHead_86 : decode cX3_readHead 86 = .ok (.ifCond .eq 7, 3) := by decide +kernel
theorem dX3_readHead_89 : decode cX3_readHead 89 = .ok (.iconst 1, 1) := by decide +kernel
theorem dX3_readHead_90 : decode cX3_readHead 90 = .ok (.goto 4, 3) := by decide +kernel
theorem dX3_readHead_93 : decode cX3_readHead 93 = .ok (.iconst 0, 1) := by decide +kernel
theorem dX3_readHead_94 : decode cX3_readHead 94 = .ok (.ireturn, 1) := by decide +kernel
theorem hd_X3_readHead : yX3_readHead.cls = RX3 ∧ yX3_readHead.cls ≠ "java/lang/invoke/MethodHandle" ∧ yX3_readHead.cls ≠ "java/lang/invoke/VarHandle" ∧ (parseMethodDescriptor yX3_readHead.desc).map (fun d => d.parameters.length) = some 1 := by decide +kernel
set_option maxRecDepth 100000 in
set_option maxHeartbeats 4000000 in
theorem c_X3_readHead (l : Launch) (D : va_G) (g : xG) (tb : List xQ) (hT : x_T g tb) {a1 : Nat} (h0 : x_rd tb) (h1 : x_mk tb a1) {M : xM} {r : Int32} {M' : xM} (hf : f_X3_readHead a1 M = some (r, M')) :
    cI l D g tb yX3_readHead cX3_readHead 4 .boolean ({ frames := 6, cells := 0, slots := 0, locals := 128 } : Room) [.ref (g.1 3 1777), .ref (g.1 2 a1)] M r M' := by
  refine x_startZ (own := RX3) (by decide +kernel) rfl rfl (Nat.le_of_ble_eq_true rfl) hT ?_
  intro p e s m args below meth c Q C0 hend
  unfold f_X3_readHead at hf
  refine r_aload_n C0 (kk := 0) 0 rfl dX3_readHead_0 ?_
  refine r_ldcs C0 (si := 1) rfl dX3_readHead_1 ?_
  obtain ⟨r3, M2, hc1, hf⟩ := bd2_e hf
  refine r_callVi C0 (As := [.ref (g.1 20 1)]) (rest := []) (c_X3_readWord l D g tb hT h0 (by decide) hc1) w4_145 w4_147 wp1_10 w1_17 w4_148 (x_rec3 C0 h0.1) hd_X3_readWord rfl ⟨rfl, rfl⟩ ⟨Nat.le_of_ble_eq_true rfl, Nat.le_of_ble_eq_true rfl⟩ (by decide) (by decide) rfl (Nat.le_of_ble_eq_true rfl) dX3_readHead_3 ?_
  refine r_if_eq C0 (tgt := 19) (by decide) dX3_readHead_6 (fun q4 => ?_) (fun q4 => ?_)
  · have hf := ie_t hf q4
    refine r_iconst C0 (v := 0) dX3_readHead_19 rfl ?_
    exact hend (by decide) hf dX3_readHead_20
  · have hf := ie_f hf q4
    refine r_aload_n C0 (kk := 0) 0 rfl dX3_readHead_9 ?_
    refine r_iconst C0 (v := 1) dX3_readHead_10 rfl ?_
    refine r_bipush C0 (v := 9) dX3_readHead_11 rfl ?_
    obtain ⟨r7, M6, hc5, hf⟩ := bd2_e hf
    refine r_callVi C0 (As := [.int 1, .int 9]) (rest := []) (c_X3_readNumber l D g tb hT h0 hc5) w4_176 w4_178 wp2_0 w1_17 w4_179 (x_rec3 C0 h0.1) hd_X3_readNumber rfl ⟨rfl, rfl⟩ ⟨Nat.le_of_ble_eq_true rfl, Nat.le_of_ble_eq_true rfl⟩ (by decide) (by decide) rfl (Nat.le_of_ble_eq_true rfl) dX3_readHead_13 ?_
    refine r_if_ne C0 (tgt := 21) (by decide) dX3_readHead_16 (fun q8 => ?_) (fun q8 => ?_)
    · have hf := ie_f hf q8
      refine r_aload_n C0 (kk := 0) 0 rfl dX3_readHead_21 ?_
      refine r_get3 C0 h0.1 9 (by decide) (v := .int (M6 1786)) rfl rfl w4_75 dX3_readHead_22 ?_
      refine r_istore_n C0 (kk := 2) (lv2 := [(2, .int (M6 1786)), (0, .ref (g.1 3 1777)), (1, .ref (g.1 2 a1))]) (by decide) rfl dX3_readHead_25 ?_
      refine r_aload_n C0 (kk := 0) 1 rfl dX3_readHead_26 ?_
      refine r_iconst C0 (v := 1) dX3_readHead_27 rfl ?_
      refine r_bipush C0 (v := 60) dX3_readHead_28 rfl ?_
      obtain ⟨r11, M10, hc9, hf⟩ := bd2_e hf
      refine r_callVi C0 (As := [.int 1, .int 60]) (rest := []) (c_X3_readNumber l D g tb hT h0 hc9) w4_176 w4_178 wp2_0 w1_17 w4_179 (x_rec3 C0 h0.1) hd_X3_readNumber rfl ⟨rfl, rfl⟩ ⟨Nat.le_of_ble_eq_true rfl, Nat.le_of_ble_eq_true rfl⟩ (by decide) (by decide) rfl (Nat.le_of_ble_eq_true rfl) dX3_readHead_30 ?_
      refine r_if_ne C0 (tgt := 38) (by decide) dX3_readHead_33 (fun q12 => ?_) (fun q12 => ?_)
      · have hf := ie_f hf q12
        refine r_aload_n C0 (kk := 0) 1 rfl dX3_readHead_38 ?_
        refine r_get3 C0 h0.1 9 (by decide) (v := .int (M10 1786)) rfl rfl w4_75 dX3_readHead_39 ?_
        refine r_istore_n C0 (kk := 3) (lv2 := [(3, .int (M10 1786)), (2, .int (M6 1786)), (0, .ref (g.1 3 1777)), (1, .ref (g.1 2 a1))]) (by decide) rfl dX3_readHead_42 ?_
        refine r_aload_n C0 (kk := 0) 2 rfl dX3_readHead_43 ?_
        refine r_iconst C0 (v := 0) dX3_readHead_44 rfl ?_
        refine r_bipush C0 (v := 99) dX3_readHead_45 rfl ?_
        obtain ⟨r15, M14, hc13, hf⟩ := bd2_e hf
        refine r_callVi C0 (As := [.int 0, .int 99]) (rest := []) (c_X3_readNumber l D g tb hT h0 hc13) w4_176 w4_178 wp2_0 w1_17 w4_179 (x_rec3 C0 h0.1) hd_X3_readNumber rfl ⟨rfl, rfl⟩ ⟨Nat.le_of_ble_eq_true rfl, Nat.le_of_ble_eq_true rfl⟩ (by decide) (by decide) rfl (Nat.le_of_ble_eq_true rfl) dX3_readHead_47 ?_
        refine r_if_ne C0 (tgt := 55) (by decide) dX3_readHead_50 (fun q16 => ?_) (fun q16 => ?_)
        · have hf := ie_f hf q16
          refine r_aload_n C0 (kk := 1) 3 rfl dX3_readHead_55 ?_
          refine r_iload_n C0 (kk := 2) 1 rfl dX3_readHead_56 ?_
          refine r_iload_n C0 (kk := 3) 0 rfl dX3_readHead_57 ?_
          refine r_aload_n C0 (kk := 0) 2 rfl dX3_readHead_58 ?_
          refine r_get3 C0 h0.1 9 (by decide) (v := .int (M14 1786)) rfl rfl w4_75 dX3_readHead_59 ?_
          obtain ⟨M18, hc17, hf⟩ := bd_e hf
          refine r_callVv C0 (As := [.int (M6 1786), .int (M10 1786), .int (M14 1786)]) (rest := []) (c_X2_reset l D g tb hT h1 hc17) w4_184 w4_185 w4_186 w1_14 w4_187 (x_rec2 C0 h1.1) hd_X2_reset rfl ⟨rfl, rfl⟩ ⟨Nat.le_of_ble_eq_true rfl, Nat.le_of_ble_eq_true rfl⟩ (by decide) (by decide) rfl (Nat.le_of_ble_eq_true rfl) dX3_readHead_62 ?_
          refine r_aload_n C0 (kk := 0) 2 rfl dX3_readHead_65 ?_
          obtain ⟨r21, M20, hc19, hf⟩ := bd2_e hf
          refine r_callVi C0 (As := []) (rest := []) (c_X3_readSemicolon l D g tb hT h0 hc19) w4_188 w4_190 wp2_2 w1_17 w4_191 (x_rec3 C0 h0.1) hd_X3_readSemicolon rfl ⟨rfl, rfl⟩ ⟨Nat.le_of_ble_eq_true rfl, Nat.le_of_ble_eq_true rfl⟩ (by decide) (by decide) rfl (Nat.le_of_ble_eq_true rfl) dX3_readHead_66 ?_
          refine r_if_eq C0 (tgt := 93) (by decide) dX3_readHead_69 (fun q22 => ?_) (fun q22 => ?_)
          · have hf := ie_t hf q22
            refine r_iconst C0 (v := 0) dX3_readHead_93 rfl ?_
            exact hend (by decide) hf dX3_readHead_94
          · have hf := ie_f hf q22
            refine r_aload_n C0 (kk := 0) 2 rfl dX3_readHead_72 ?_
            refine r_ldcs C0 (si := 2) rfl dX3_readHead_73 ?_
            obtain ⟨r25, M24, hc23, hf⟩ := bd2_e hf
            refine r_callVi C0 (As := [.ref (g.1 20 2)]) (rest := []) (c_X3_readWord l D g tb hT h0 (by decide) hc23) w4_145 w4_147 wp1_10 w1_17 w4_148 (x_rec3 C0 h0.1) hd_X3_readWord rfl ⟨rfl, rfl⟩ ⟨Nat.le_of_ble_eq_true rfl, Nat.le_of_ble_eq_true rfl⟩ (by decide) (by decide) rfl (Nat.le_of_ble_eq_true rfl) dX3_readHead_75 ?_
            refine r_if_eq C0 (tgt := 93) (by decide) dX3_readHead_78 (fun q26 => ?_) (fun q26 => ?_)
            · have hf := ie_t hf q26
              refine r_iconst C0 (v := 0) dX3_readHead_93 rfl ?_
              exact hend (by decide) hf dX3_readHead_94
            · have hf := ie_f hf q26
              refine r_aload_n C0 (kk := 0) 2 rfl dX3_readHead_81 ?_
              refine r_aload_n C0 (kk := 1) 3 rfl dX3_readHead_82 ?_
              obtain ⟨r29, M28, hc27, hf⟩ := bd2_e hf
              refine r_callVi C0 (As := [.ref (g.1 2 a1)]) (rest := []) (c_X3_readFog l D g tb hT h0 h1 hc27) w4_193 w4_195 wp2_3 w1_17 w4_196 (x_rec3 C0 h0.1) hd_X3_readFog rfl ⟨rfl, rfl⟩ ⟨Nat.le_of_ble_eq_true rfl, Nat.le_of_ble_eq_true rfl⟩ (by decide) (by decide) rfl (Nat.le_of_ble_eq_true rfl) dX3_readHead_83 ?_
              refine r_if_eq C0 (tgt := 93) (by decide) dX3_readHead_86 (fun q30 => ?_) (fun q30 => ?_)
              · have hf := ie_t hf q30
                refine r_iconst C0 (v := 0) dX3_readHead_93 rfl ?_
                exact hend (by decide) hf dX3_readHead_94
              · have hf := ie_f hf q30
                refine r_iconst C0 (v := 1) dX3_readHead_89 rfl ?_
                refine r_goto C0 (tgt := 94) (by decide) dX3_readHead_90 ?_
                exact hend (by decide) hf dX3_readHead_94
        · have hf := ie_t hf q16
          refine r_iconst C0 (v := 0) dX3_readHead_53 rfl ?_
          exact hend (by decide) hf dX3_readHead_54
      · have hf := ie_t hf q12
        refine r_iconst C0 (v := 0) dX3_readHead_36 rfl ?_
        exact hend (by decide) hf dX3_readHead_37
    · have hf := ie_t hf q8
      refine r_iconst C0 (v := 0) dX3_readHead_19 rfl ?_
      exact hend (by decide) hf dX3_readHead_20
theorem dX3_readCommand_0 : decode cX3_readCommand 0 = .ok (.aload_n 0, 1) := by decide +kernel
theorem dX3_readCommand_1 : decode cX3_readCommand 1 = .ok (.invokevirtual 74, 3) := by decide +kernel
theorem dX3_readCommand_4 : decode cX3_readCommand 4 = .ok (.aload_n 0, 1) := by decide +kernel
theorem dX3_readCommand_5 : decode cX3_readCommand 5 = .ok (.getfield 77, 3) := by decide +kernel
theorem dX3_readCommand_8 : decode cX3_readCommand 8 = .ok (.ifCond .ne 5, 3) := by decide +kernel
theorem dX3_readCommand_11 : decode cX3_readCommand 11 = .ok (.iconst 0, 1) := by decide +kernel
theorem dX3_readCommand_12 : decode cX3_readCommand 12 = .ok (.ireturn, 1) := by decide +kernel
theorem dX3_readCommand_13 : decode cX3_readCommand 13 = .ok (.aload_n 0, 1) := by decide +kernel
theorem dX3_readCommand_14 : decode cX3_readCommand 14 = .ok (.aload_n 0, 1) := by decide +kernel
theorem dX3_readCommand_15 : decode cX3_readCommand 15 = .ok (.invokevirtual 87, 3) := by decide +kernel
theorem dX3_readCommand_18 : decode cX3_readCommand 18 = .ok (.putfield 91, 3) := by decide +kernel
theorem dX3_readCommand_21 : decode cX3_readCommand 21 = .ok (.aload_n 0, 1) := by decide +kernel
theorem dX3_readCommand_22 : decode cX3_readCommand 22 = .ok (.getfield 91, 3) := by decide +kernel
theorem dX3_readCommand_25 : decode cX3_readCommand 25 = .ok (.ifnonnull 9, 3) := by decide +kernel
theorem dX3_readCommand_28 : decode cX3_readCommand 28 = .ok (.aload_n 0, 1) := by decide +kernel
theorem dX3_readCommand_29 : decode cX3_readCommand 29 = .ok (.iconst 1, 1) := by decide +kernel
theorem dX3_readCommand_30 : decode cX3_readCommand 30 = .ok (.invokevirtual 80, 3) := by decide +kernel
theorem dX3_readCommand_33 : decode cX3_readCommand 33 = .ok (.ireturn, 1) := by decide +kernel
theorem dX3_readCommand_34 : decode cX3_readCommand 34 = .ok (.iload_n 2, 1) := by decide +kernel
theorem dX3_readCommand_35 : decode cX3_readCommand 35 = .ok (.bipush 40, 2) := by decide +kernel
theorem dX3_readCommand_37 : decode cX3_readCommand 37 = .ok (.if_icmp .ge 11, 3) := by decide +kernel
theorem dX3_readCommand_40 : decode cX3_readCommand 40 = .ok (.aload_n 0, 1) := by decide +kernel
theorem dX3_readCommand_41 : decode cX3_readCommand 41 = .ok (.aload_n 1, 1) := by decide +kernel
theorem dX3_readCommand_42 : decode cX3_readCommand 42 = .ok (.invokevirtual 95, 3) := by decide +kernel
theorem dX3_readCommand_45 : decode cX3_readCommand 45 = .ok (.ifCond .eq 9, 3) := by decide +kernel
theorem dX3_readCommand_48 : decode cX3_readCommand 48 = .ok (.aload_n 0, 1) := by decide +kernel
theorem dX3_readCommand_49 : decode cX3_readCommand 49 = .ok (.iconst 4, 1) := by decide +kernel
theorem dX3_readCommand_50 : decode cX3_readCommand 50 = .ok (.invokevirtual 80, 3) := by decide +kernel
theorem dX3_readCommand_53 : decode cX3_readCommand 53 = .ok (.ireturn, 1) := by decide +kernel
theorem dX3_readCommand_54 : decode cX3_readCommand 54 = .ok (.iconst 0, 1) := by decide +kernel
theorem dX3_readCommand_55 : decode cX3_readCommand 55 = .ok (.istore_n 3, 1) := by decide +kernel
theorem dX3_readCommand_56 : decode cX3_readCommand 56 = .ok (.iload_n 3, 1) := by decide +kernel
theorem dX3_readCommand_57 : decode cX3_readCommand 57 = .ok (.aload_n 0, 1) := by decide +kernel
theorem dX3_readCommand_58 : decode cX3_readCommand 58 = .ok (.getfield 91, 3) := by decide +kernel
theorem dX3_readCommand_61 : decode cX3_readCommand 61 = .ok (.getfield 98, 3) := by decide +kernel
theorem dX3_readCommand_64 : decode cX3_readCommand 64 = .ok (.invokevirtual 23, 3) := by decide +kernel
theorem dX3_readCommand_67 : decode cX3_readCommand 67 = .ok (.if_icmp .ge 31, 3) := by decide +kernel
theorem dX3_readCommand_70 : decode cX3_readCommand 70 = .ok (.aload_n 0, 1) := by decide +kernel
theorem dX3_readCommand_71 : decode cX3_readCommand 71 = .ok (.aload_n 1, 1) := by decide +kernel
theorem dX3_readCommand_72 : decode cX3_readCommand 72 = .ok (.aload_n 0, 1) := by decide +kernel
theorem dX3_readCommand_73 : decode cX3_readCommand 73 = .ok (.getfield 91, 3) := by decide +kernel
theorem dX3_readCommand_76 : decode cX3_readCommand 76 = .ok (.getfield 98, 3) := by decide +kernel
theorem dX3_readCommand_79 : decode cX3_readCommand 79 = .ok (.iload_n 3, 1) := by decide +kernel
theorem dX3_readCommand_80 : decode cX3_readCommand 80 = .ok (.invokevirtual 29, 3) := by decide +kernel
theorem dX3_readCommand_83 : decode cX3_readCommand 83 = .ok (.iload_n 3, 1) := by decide +kernel
theorem dX3_readCommand_84 : decode cX3_readCommand 84 = .ok (.invokevirtual 104, 3) := by decide +kernel
theorem dX3_readCommand_87 : decode cX3_readCommand 87 = .ok (.ifCond .ne 5, 3) := by decide +kernel
theorem dX3_readCommand_90 : decode cX3_readCommand 90 = .ok (.iconst 0, 1) := by decide +kernel
theorem dX3_readCommand_91 : decode cX3_readCommand 91 = .ok (.ireturn, 1) := by decide +kernel
theorem dX3_readCommand_92 : decode cX3_readCommand 92 = .ok (.iinc 3 1, 3) := by decide +kernel
theorem dX3_readCommand_95 : decode cX3_readCommand 95 = .ok (.goto (-39), 3) := by decide +kernel
theorem dX3_readCommand_98 : decode cX3_readCommand 98 = .ok (.aload_n 0, 1) := by decide +kernel
theorem dX3_readCommand_99 : decode cX3_readCommand 99 = .ok (.invokevirtual 64, 3) := by decide +kernel
theorem dX3_readCommand_102 : decode cX3_readCommand 102 = .ok (.ireturn, 1) := by decide +kernel
theorem hd_X3_readCommand : yX3_readCommand.cls = RX3 ∧ yX3_readCommand.cls ≠ "java/lang/invoke/MethodHandle" ∧ yX3_readCommand.cls ≠ "java/lang/invoke/VarHandle" ∧ (parseMethodDescriptor yX3_readCommand.desc).map (fun d => d.parameters.length) = some 2 := by decide +kernel
set_option maxRecDepth 100000 in
set_option maxHeartbeats 4000000 in
theorem c_X3_readCommand (l : Launch) (D : va_G) (g : xG) (tb : List xQ) (hT : x_T g tb) {a1 : Nat} {a2 : Int32} (h0 : x_rd tb) (h1 : x_mk tb a1) {M : xM} {r : Int32} {M' : xM} (hf : f_X3_readCommand a1 a2 M = some (r, M')) :
    cI l D g tb yX3_readCommand cX3_readCommand 4 .boolean ({ frames := 7, cells := 0, slots := 0, locals := 151 } : Room) [.ref (g.1 3 1777), .ref (g.1 2 a1), .int a2] M r M' := by
  refine x_startZ (own := RX3) (by decide +kernel) rfl rfl (Nat.le_of_ble_eq_true rfl) hT ?_
  intro p e s m args below meth c Q C0 hend
  have B56 : ∀ (k56 : Int32 → xM → Option (Int32 × xM)) (hk56 : ∀ (v3 : Int32)  (M : xM), k56 v3 M = some (r, M') → WW p l e ({ frames := 7, cells := 0, slots := 0, locals := 151 } : Room) s m args below meth c 0 0 Q 4 D g tb 56 [(0, .ref (g.1 3 1777)), (1, .ref (g.1 2 a1)), (3, .int v3)] [] M), ∀ (v3 : Int32)  (M : xM), fb_X3_readCommand_c56 k56 a1 a2 v3 M = some (r, M') → WW p l e ({ frames := 7, cells := 0, slots := 0, locals := 151 } : Room) s m args below meth c 0 0 Q 4 D g tb 56 [(0, .ref (g.1 3 1777)), (1, .ref (g.1 2 a1)), (3, .int v3)] [] M := by
    intro k56 hk56 v3  M hf
    unfold fb_X3_readCommand_c56 at hf
    refine r_iload_n C0 (kk := 3) 2 rfl dX3_readCommand_56 ?_
    refine r_aload_n C0 (kk := 0) 0 rfl dX3_readCommand_57 ?_
    refine r_get3 C0 h0.1 4 (by decide) (v := va_re g.2.2 (x_en (M 1781))) rfl rfl w4_69 dX3_readCommand_58 ?_
    obtain ⟨q25, hf⟩ := gd_e hf
    refine r_vkinds C0 q25 w5_223 dX3_readCommand_61 ?_
    obtain ⟨r28, M27, hc26, hf⟩ := bd2_e hf
    refine r_callVi C0 (As := []) (rest := [.int v3]) (c_J0_length_8abf5 l D g tb hT (x_vk_lt _) hc26) w4_103 w2_239 w3_0 w1_3 w3_1 (x_rec20 C0 (x_vk_lt _)) hd_J0_length_8abf5 rfl ⟨rfl, rfl⟩ ⟨Nat.le_of_ble_eq_true rfl, Nat.le_of_ble_eq_true rfl⟩ (by decide) (by decide) rfl (Nat.le_of_ble_eq_true rfl) dX3_readCommand_64 ?_
    refine r_icmp_ge C0 (tgt := 98) (by decide) dX3_readCommand_67 (fun q29 => ?_) (fun q29 => ?_)
    · have hf := ie_t hf q29
      refine r_aload_n C0 (kk := 0) 0 rfl dX3_readCommand_98 ?_
      obtain ⟨r32, M31, hc30, hf⟩ := bd2_e hf
      refine r_callVi C0 (As := []) (rest := []) (c_X3_readSemicolon l D g tb hT h0 hc30) w4_188 w4_190 wp2_2 w1_17 w4_191 (x_rec3 C0 h0.1) hd_X3_readSemicolon rfl ⟨rfl, rfl⟩ ⟨Nat.le_of_ble_eq_true rfl, Nat.le_of_ble_eq_true rfl⟩ (by decide) (by decide) rfl (Nat.le_of_ble_eq_true rfl) dX3_readCommand_99 ?_
      obtain ⟨q33, hf⟩ := gd_e hf
      exact hend q33 hf dX3_readCommand_102
    · have hf := ie_f hf q29
      refine r_aload_n C0 (kk := 0) 0 rfl dX3_readCommand_70 ?_
      refine r_aload_n C0 (kk := 1) 1 rfl dX3_readCommand_71 ?_
      refine r_aload_n C0 (kk := 0) 0 rfl dX3_readCommand_72 ?_
      refine r_get3 C0 h0.1 4 (by decide) (v := va_re g.2.2 (x_en (M27 1781))) rfl rfl w4_69 dX3_readCommand_73 ?_
      obtain ⟨q34, hf⟩ := gd_e hf
      refine r_vkinds C0 q34 w5_223 dX3_readCommand_76 ?_
      refine r_iload_n C0 (kk := 3) 2 rfl dX3_readCommand_79 ?_
      obtain ⟨r37, M36, hc35, hf⟩ := bd2_e hf
      refine r_callVi C0 (As := [.int v3]) (rest := [.ref (g.1 2 a1), .ref (g.1 3 1777)]) (c_J0_charAt_5068e l D g tb hT (x_vk_lt _) hc35) w4_104 w4_105 w4_106 w1_3 w4_107 (x_rec20 C0 (x_vk_lt _)) hd_J0_charAt_5068e rfl ⟨rfl, rfl⟩ ⟨Nat.le_of_ble_eq_true rfl, Nat.le_of_ble_eq_true rfl⟩ (by decide) (by decide) rfl (Nat.le_of_ble_eq_true rfl) dX3_readCommand_80 ?_
      refine r_iload_n C0 (kk := 3) 2 rfl dX3_readCommand_83 ?_
      obtain ⟨r40, M39, hc38, hf⟩ := bd2_e hf
      refine r_callVi C0 (As := [.ref (g.1 2 a1), .int r37, .int v3]) (rest := []) (c_X3_readArgument l D g tb hT h0 h1 hc38) w4_223 w4_225 wp2_7 w1_17 w4_226 (x_rec3 C0 h0.1) hd_X3_readArgument rfl ⟨rfl, rfl⟩ ⟨Nat.le_of_ble_eq_true rfl, Nat.le_of_ble_eq_true rfl⟩ (by decide) (by decide) rfl (Nat.le_of_ble_eq_true rfl) dX3_readCommand_84 ?_
      refine r_if_ne C0 (tgt := 92) (by decide) dX3_readCommand_87 (fun q41 => ?_) (fun q41 => ?_)
      · have hf := ie_f hf q41
        refine r_iincc C0 2 rfl (k0 := 1) (by decide) (by decide) (lv2 := [(3, .int (v3 + 1)), (0, .ref (g.1 3 1777)), (1, .ref (g.1 2 a1))]) rfl dX3_readCommand_92 ?_
        refine r_goto C0 (tgt := 56) (by decide) dX3_readCommand_95 ?_
        refine WW.sub [1, 2, 0] rfl ?_
        exact hk56 _   _ hf
      · have hf := ie_t hf q41
        refine r_iconst C0 (v := 0) dX3_readCommand_90 rfl ?_
        exact hend (by decide) hf dX3_readCommand_91
  have L56 : ∀ (v3 : Int32)  (M : xM), f_X3_readCommand_c56  a1 a2 v3 M = some (r, M') → WW p l e ({ frames := 7, cells := 0, slots := 0, locals := 151 } : Room) s m args below meth c 0 0 Q 4 D g tb 56 [(0, .ref (g.1 3 1777)), (1, .ref (g.1 2 a1)), (3, .int v3)] [] M := lp_ind (P := fun f => ∀ (v3 : Int32)  (M : xM), f v3 M = some (r, M') → WW p l e ({ frames := 7, cells := 0, slots := 0, locals := 151 } : Room) s m args below meth c 0 0 Q 4 D g tb 56 [(0, .ref (g.1 3 1777)), (1, .ref (g.1 2 a1)), (3, .int v3)] [] M) (fun _ _ h => none_ne h) (fun f hf => B56 f hf) FU
  unfold f_X3_readCommand at hf
  refine r_aload_n C0 (kk := 0) 0 rfl dX3_readCommand_0 ?_
  obtain ⟨M2, hc1, hf⟩ := bd_e hf
  refine r_callVv C0 (As := []) (rest := []) (c_X3_readToken l D g tb hT h0 hc1) w4_149 w4_151 wp1_11 w1_17 w4_152 (x_rec3 C0 h0.1) hd_X3_readToken rfl ⟨rfl, rfl⟩ ⟨Nat.le_of_ble_eq_true rfl, Nat.le_of_ble_eq_true rfl⟩ (by decide) (by decide) rfl (Nat.le_of_ble_eq_true rfl) dX3_readCommand_1 ?_
  refine r_aload_n C0 (kk := 0) 0 rfl dX3_readCommand_4 ?_
  refine r_get3 C0 h0.1 7 (by decide) (v := .int (M2 1784)) rfl rfl w4_73 dX3_readCommand_5 ?_
  refine r_if_ne C0 (tgt := 13) (by decide) dX3_readCommand_8 (fun q3 => ?_) (fun q3 => ?_)
  · have hf := ie_f hf q3
    refine r_aload_n C0 (kk := 0) 0 rfl dX3_readCommand_13 ?_
    refine r_aload_n C0 (kk := 0) 0 rfl dX3_readCommand_14 ?_
    obtain ⟨r6, M5, hc4, hf⟩ := bd2_e hf
    refine r_callVe C0 (As := []) (rest := [.ref (g.1 3 1777)]) (c_X3_verbRead l D g tb hT h0 hc4) w4_209 w4_211 wp2_5 w1_17 w4_212 (x_rec3 C0 h0.1) hd_X3_verbRead rfl ⟨rfl, rfl⟩ ⟨Nat.le_of_ble_eq_true rfl, Nat.le_of_ble_eq_true rfl⟩ (by decide) (by decide) rfl (Nat.le_of_ble_eq_true rfl) dX3_readCommand_15 ?_
    refine r_putv C0 h0.1 w4_69 dX3_readCommand_18 ?_
    refine r_aload_n C0 (kk := 0) 0 rfl dX3_readCommand_21 ?_
    refine r_get3 C0 h0.1 4 (by decide) (v := va_re g.2.2 (x_en ((upd M5 1781 r6) 1781))) rfl rfl w4_69 dX3_readCommand_22 ?_
    refine r_ifnnv C0 (tgt := 34) (by decide) dX3_readCommand_25 (fun q7 => ?_) (fun q7 => ?_)
    · have hf := ie_f hf q7
      refine r_iload_n C0 (kk := 2) 2 rfl dX3_readCommand_34 ?_
      refine r_bipush C0 (v := 40) dX3_readCommand_35 rfl ?_
      refine r_icmp_ge C0 (tgt := 48) (by decide) dX3_readCommand_37 (fun q8 => ?_) (fun q8 => ?_)
      · have hf := ie_t hf q8
        refine r_aload_n C0 (kk := 0) 0 rfl dX3_readCommand_48 ?_
        refine r_iconst C0 (v := 4) dX3_readCommand_49 rfl ?_
        obtain ⟨r11, M10, hc9, hf⟩ := bd2_e hf
        refine r_callVi C0 (As := [.int 4]) (rest := []) (c_X3_fail l D g tb hT h0 hc9) w4_172 w4_174 wp1_15 w1_17 w4_175 (x_rec3 C0 h0.1) hd_X3_fail rfl ⟨rfl, rfl⟩ ⟨Nat.le_of_ble_eq_true rfl, Nat.le_of_ble_eq_true rfl⟩ (by decide) (by decide) rfl (Nat.le_of_ble_eq_true rfl) dX3_readCommand_50 ?_
        obtain ⟨q12, hf⟩ := gd_e hf
        exact hend q12 hf dX3_readCommand_53
      · have hf := ie_f hf q8
        refine r_aload_n C0 (kk := 0) 0 rfl dX3_readCommand_40 ?_
        refine r_aload_n C0 (kk := 1) 1 rfl dX3_readCommand_41 ?_
        obtain ⟨r15, M14, hc13, hf⟩ := bd2_e hf
        refine r_callVi C0 (As := [.ref (g.1 2 a1)]) (rest := []) (c_X3_hasNoRoom l D g tb hT h0 h1 hc13) w4_215 w4_217 wp2_6 w1_17 w4_218 (x_rec3 C0 h0.1) hd_X3_hasNoRoom rfl ⟨rfl, rfl⟩ ⟨Nat.le_of_ble_eq_true rfl, Nat.le_of_ble_eq_true rfl⟩ (by decide) (by decide) rfl (Nat.le_of_ble_eq_true rfl) dX3_readCommand_42 ?_
        refine r_if_eq C0 (tgt := 54) (by decide) dX3_readCommand_45 (fun q16 => ?_) (fun q16 => ?_)
        · have hf := ie_t hf q16
          refine r_iconst C0 (v := 0) dX3_readCommand_54 rfl ?_
          refine r_istore_n C0 (kk := 3) (lv2 := [(3, .int 0), (0, .ref (g.1 3 1777)), (1, .ref (g.1 2 a1)), (2, .int a2)]) (by decide) rfl dX3_readCommand_55 ?_
          refine WW.sub [1, 2, 0] rfl ?_
          exact L56   _   _ hf
        · have hf := ie_f hf q16
          refine r_aload_n C0 (kk := 0) 0 rfl dX3_readCommand_48 ?_
          refine r_iconst C0 (v := 4) dX3_readCommand_49 rfl ?_
          obtain ⟨r19, M18, hc17, hf⟩ := bd2_e hf
          refine r_callVi C0 (As := [.int 4]) (rest := []) (c_X3_fail l D g tb hT h0 hc17) w4_172 w4_174 wp1_15 w1_17 w4_175 (x_rec3 C0 h0.1) hd_X3_fail rfl ⟨rfl, rfl⟩ ⟨Nat.le_of_ble_eq_true rfl, Nat.le_of_ble_eq_true rfl⟩ (by decide) (by decide) rfl (Nat.le_of_ble_eq_true rfl) dX3_readCommand_50 ?_
          obtain ⟨q20, hf⟩ := gd_e hf
          exact hend q20 hf dX3_readCommand_53
    · have hf := ie_t hf q7
      refine r_aload_n C0 (kk := 0) 0 rfl dX3_readCommand_28 ?_
      refine r_iconst C0 (v := 1) dX3_readCommand_29 rfl ?_
      obtain ⟨r23, M22, hc21, hf⟩ := bd2_e hf
      refine r_callVi C0 (As := [.int 1]) (rest := []) (c_X3_fail l D g tb hT h0 hc21) w4_172 w4_174 wp1_15 w1_17 w4_175 (x_rec3 C0 h0.1) hd_X3_fail rfl ⟨rfl, rfl⟩ ⟨Nat.le_of_ble_eq_true rfl, Nat.le_of_ble_eq_true rfl⟩ (by decide) (by decide) rfl (Nat.le_of_ble_eq_true rfl) dX3_readCommand_30 ?_
      obtain ⟨q24, hf⟩ := gd_e hf
      exact hend q24 hf dX3_readCommand_33
  · have hf := ie_t hf q3
    refine r_iconst C0 (v := 0) dX3_readCommand_11 rfl ?_
    exact hend (by decide) hf dX3_readCommand_12
theorem dX6_readCommands_0 : decode cX6_readCommands 0 = .ok (.iconst 0, 1) := by decide +kernel
theorem dX6_readCommands_1 : decode cX6_readCommands 1 = .ok (.istore_n 1, 1) := by decide +kernel
theorem dX6_readCommands_2 : decode cX6_readCommands 2 = .ok (.iload_n 1, 1) := by decide +kernel
theorem dX6_readCommands_3 : decode cX6_readCommands 3 = .ok (.bipush 40, 2) := by decide +kernel
theorem dX6_readCommands_5 : decode cX6_readCommands 5 = .ok (.if_icmp .gt 51, 3) := by decide +kernel
theorem dX6_readCommands_8 : decode cX6_readCommands 8 = .ok (.aload_n 0, 1) := by decide +kernel
theorem dX6_readCommands_9 : decode cX6_readCommands 9 = .ok (.getfield 25, 3) := by decide +kernel
theorem dX6_readCommands_12 : decode cX6_readCommands 12 = .ok (.aload_n 0, 1) := by decide +kernel
theorem dX6_readCommands_13 : decode cX6_readCommands 13 = .ok (.getfield 16, 3) := by decide +kernel
theorem dX6_readCommands_16 : decode cX6_readCommands 16 = .ok (.iload_n 1, 1) := by decide +kernel
theorem dX6_readCommands_17 : decode cX6_readCommands 17 = .ok (.invokevirtual 99, 3) := by decide +kernel
theorem dX6_readCommands_20 : decode cX6_readCommands 20 = .ok (.ifCond .ne 19, 3) := by decide +kernel
theorem dX6_readCommands_23 : decode cX6_readCommands 23 = .ok (.aload_n 0, 1) := by decide +kernel
theorem dX6_readCommands_24 : decode cX6_readCommands 24 = .ok (.getfield 25, 3) := by decide +kernel
theorem dX6_readCommands_27 : decode cX6_readCommands 27 = .ok (.getfield 86, 3) := by decide +kernel
theorem dX6_readCommands_30 : decode cX6_readCommands 30 = .ok (.ifCond .ne 7, 3) := by decide +kernel
theorem dX6_readCommands_33 : decode cX6_readCommands 33 = .ok (.iload_n 1, 1) := by decide +kernel
theorem dX6_readCommands_34 : decode cX6_readCommands 34 = .ok (.goto 4, 3) := by decide +kernel
theorem dX6_readCommands_37 : decode cX6_readCommands 37 = .ok (.iconst (-1), 1) := by decide +kernel
theorem dX6_readCommands_38 : decode cX6_readCommands 38 = .ok (.ireturn, 1) := by decide +kernel
theorem dX6_readCommands_39 : decode cX6_readCommands 39 = .ok (.aload_n 0, 1) := by decide +kernel
theorem dX6_readCommands_40 : decode cX6_readCommands 40 = .ok (.getfield 16, 3) := by decide +kernel
theorem dX6_readCommands_43 : decode cX6_readCommands 43 = .ok (.aload_n 0, 1) := by decide +kernel
theorem dX6_readCommands_44 : decode cX6_readCommands 44 = .ok (.getfield 25, 3) := by decide +kernel
theorem dX6_readCommands_47 : decode cX6_readCommands 47 = .ok (.invokevirtual 103, 3) := by decide +kernel
theorem dX6_readCommands_50 : decode cX6_readCommands 50 = .ok (.iinc 1 1, 3) := by decide +kernel
theorem dX6_readCommands_53 : decode cX6_readCommands 53 = .ok (.goto (-51), 3) := by decide +kernel
theorem dX6_readCommands_56 : decode cX6_readCommands 56 = .ok (.iconst (-1), 1) := by decide +kernel
theorem dX6_readCommands_57 : decode cX6_readCommands 57 = .ok (.ireturn, 1) := by decide +kernel
theorem hd_X6_readCommands : yX6_readCommands.cls = RX6 ∧ yX6_readCommands.cls ≠ "java/lang/invoke/MethodHandle" ∧ yX6_readCommands.cls ≠ "java/lang/invoke/VarHandle" ∧ (parseMethodDescriptor yX6_readCommands.desc).map (fun d => d.parameters.length) = some 0 := by decide +kernel
set_option maxRecDepth 100000 in
set_option maxHeartbeats 4000000 in
theorem c_X6_readCommands (l : Launch) (D : va_G) (g : xG) (tb : List xQ) (hT : x_T g tb)  (h0 : x_fb tb) {M : xM} {r : Int32} {M' : xM} (hf : f_X6_readCommands  M = some (r, M')) :
    cI l D g tb yX6_readCommands cX6_readCommands 2 .int ({ frames := 8, cells := 0, slots := 0, locals := 174 } : Room) [.ref (g.1 4 1664)] M r M' := by
  refine x_startI (own := RX6) (by decide +kernel) rfl rfl (Nat.le_of_ble_eq_true rfl) hT ?_
  intro p e s m args below meth c Q C0 hend
  have B2 : ∀ (k2 : Int32 → xM → Option (Int32 × xM)) (hk2 : ∀ (v1 : Int32)  (M : xM), k2 v1 M = some (r, M') → WW p l e ({ frames := 8, cells := 0, slots := 0, locals := 174 } : Room) s m args below meth c 0 0 Q 2 D g tb 2 [(0, .ref (g.1 4 1664)), (1, .int v1)] [] M), ∀ (v1 : Int32)  (M : xM), fb_X6_readCommands_c2 k2  v1 M = some (r, M') → WW p l e ({ frames := 8, cells := 0, slots := 0, locals := 174 } : Room) s m args below meth c 0 0 Q 2 D g tb 2 [(0, .ref (g.1 4 1664)), (1, .int v1)] [] M := by
    intro k2 hk2 v1  M hf
    unfold fb_X6_readCommands_c2 at hf
    refine r_iload_n C0 (kk := 1) 1 rfl dX6_readCommands_2 ?_
    refine r_bipush C0 (v := 40) dX6_readCommands_3 rfl ?_
    refine r_icmp_gt C0 (tgt := 56) (by decide) dX6_readCommands_5 (fun q1 => ?_) (fun q1 => ?_)
    · have hf := ie_t hf q1
      refine r_iconst C0 (v := (-1)) dX6_readCommands_56 rfl ?_
      exact hend hf dX6_readCommands_57
    · have hf := ie_f hf q1
      refine r_aload_n C0 (kk := 0) 0 rfl dX6_readCommands_8 ?_
      refine r_get4 C0 h0.1 3 (by decide) (v := .ref (g.1 3 1777)) rfl rfl w5_90 dX6_readCommands_9 ?_
      refine r_aload_n C0 (kk := 0) 0 rfl dX6_readCommands_12 ?_
      refine r_get4 C0 h0.1 1 (by decide) (v := .ref (g.1 2 128)) rfl rfl w5_88 dX6_readCommands_13 ?_
      refine r_iload_n C0 (kk := 1) 1 rfl dX6_readCommands_16 ?_
      obtain ⟨r4, M3, hc2, hf⟩ := bd2_e hf
      refine r_callVi C0 (As := [.ref (g.1 2 128), .int v1]) (rest := []) (c_X3_readCommand l D g tb hT h0.2.2.2.2.1 h0.2.2.1 hc2) w4_205 w4_206 w4_207 w1_17 w4_208 (x_rec3 C0 h0.2.2.2.2.1.1) hd_X3_readCommand rfl ⟨rfl, rfl⟩ ⟨Nat.le_of_ble_eq_true rfl, Nat.le_of_ble_eq_true rfl⟩ (by decide) (by decide) rfl (Nat.le_of_ble_eq_true rfl) dX6_readCommands_17 ?_
      refine r_if_ne C0 (tgt := 39) (by decide) dX6_readCommands_20 (fun q5 => ?_) (fun q5 => ?_)
      · have hf := ie_f hf q5
        refine r_aload_n C0 (kk := 0) 0 rfl dX6_readCommands_39 ?_
        refine r_get4 C0 h0.1 1 (by decide) (v := .ref (g.1 2 128)) rfl rfl w5_88 dX6_readCommands_40 ?_
        refine r_aload_n C0 (kk := 0) 0 rfl dX6_readCommands_43 ?_
        refine r_get4 C0 h0.1 3 (by decide) (v := .ref (g.1 3 1777)) rfl rfl w5_90 dX6_readCommands_44 ?_
        obtain ⟨M7, hc6, hf⟩ := bd_e hf
        refine r_callVv C0 (As := [.ref (g.1 3 1777)]) (rest := []) (c_X2_perform l D g tb hT h0.2.2.1 h0.2.2.2.2.1 hc6) w5_37 w5_38 w5_39 w1_14 w5_40 (x_rec2 C0 h0.2.2.1.1) hd_X2_perform rfl ⟨rfl, rfl⟩ ⟨Nat.le_of_ble_eq_true rfl, Nat.le_of_ble_eq_true rfl⟩ (by decide) (by decide) rfl (Nat.le_of_ble_eq_true rfl) dX6_readCommands_47 ?_
        refine r_iincc C0 1 rfl (k0 := 1) (by decide) (by decide) (lv2 := [(1, .int (v1 + 1)), (0, .ref (g.1 4 1664))]) rfl dX6_readCommands_50 ?_
        refine r_goto C0 (tgt := 2) (by decide) dX6_readCommands_53 ?_
        refine WW.sub [1, 0] rfl ?_
        exact hk2 _   _ hf
      · have hf := ie_t hf q5
        refine r_aload_n C0 (kk := 0) 0 rfl dX6_readCommands_23 ?_
        refine r_get4 C0 h0.1 3 (by decide) (v := .ref (g.1 3 1777)) rfl rfl w5_90 dX6_readCommands_24 ?_
        refine r_get3 C0 h0.2.2.2.2.1.1 2 (by decide) (v := .int (M3 1779)) rfl rfl w4_67 dX6_readCommands_27 ?_
        refine r_if_ne C0 (tgt := 37) (by decide) dX6_readCommands_30 (fun q8 => ?_) (fun q8 => ?_)
        · have hf := ie_f hf q8
          refine r_iconst C0 (v := (-1)) dX6_readCommands_37 rfl ?_
          exact hend hf dX6_readCommands_38
        · have hf := ie_t hf q8
          refine r_iload_n C0 (kk := 1) 1 rfl dX6_readCommands_33 ?_
          refine r_goto C0 (tgt := 38) (by decide) dX6_readCommands_34 ?_
          exact hend hf dX6_readCommands_38
  have L2 : ∀ (v1 : Int32)  (M : xM), f_X6_readCommands_c2   v1 M = some (r, M') → WW p l e ({ frames := 8, cells := 0, slots := 0, locals := 174 } : Room) s m args below meth c 0 0 Q 2 D g tb 2 [(0, .ref (g.1 4 1664)), (1, .int v1)] [] M := lp_ind (P := fun f => ∀ (v1 : Int32)  (M : xM), f v1 M = some (r, M') → WW p l e ({ frames := 8, cells := 0, slots := 0, locals := 174 } : Room) s m args below meth c 0 0 Q 2 D g tb 2 [(0, .ref (g.1 4 1664)), (1, .int v1)] [] M) (fun _ _ h => none_ne h) (fun f hf => B2 f hf) FU
  unfold f_X6_readCommands at hf
  refine r_iconst C0 (v := 0) dX6_readCommands_0 rfl ?_
  refine r_istore_n C0 (kk := 1) (lv2 := [(1, .int 0), (0, .ref (g.1 4 1664))]) (by decide) rfl dX6_readCommands_1 ?_
  refine WW.sub [1, 0] rfl ?_
  exact L2   _   _ hf
theorem dX6_replaceMarket_0 : decode cX6_replaceMarket 0 = .ok (.aload_n 0, 1) := by decide +kernel
theorem dX6_replaceMarket_1 : decode cX6_replaceMarket 1 = .ok (.getfield 25, 3) := by decide +kernel
theorem dX6_replaceMarket_4 : decode cX6_replaceMarket 4 = .ok (.invokevirtual 73, 3) := by decide +kernel
theorem dX6_replaceMarket_7 : decode cX6_replaceMarket 7 = .ok (.aload_n 0, 1) := by decide +kernel
theorem dX6_replaceMarket_8 : decode cX6_replaceMarket 8 = .ok (.getfield 25, 3) := by decide +kernel
theorem dX6_replaceMarket_11 : decode cX6_replaceMarket 11 = .ok (.aload_n 0, 1) := by decide +kernel
theorem dX6_replaceMarket_12 : decode cX6_replaceMarket 12 = .ok (.getfield 16, 3) := by decide +kernel
theorem dX6_replaceMarket_15 : decode cX6_replaceMarket 15 = .ok (.invokevirtual 92, 3) := by decide +kernel
theorem dX6_replaceMarket_18 : decode cX6_replaceMarket 18 = .ok (.ifCond .eq 15, 3) := by decide +kernel
theorem dX6_replaceMarket_21 : decode cX6_replaceMarket 21 = .ok (.aload_n 0, 1) := by decide +kernel
theorem dX6_replaceMarket_22 : decode cX6_replaceMarket 22 = .ok (.invokevirtual 76, 3) := by decide +kernel
theorem dX6_replaceMarket_25 : decode cX6_replaceMarket 25 = .ok (.iconst (-1), 1) := by decide +kernel
theorem dX6_replaceMarket_26 : decode cX6_replaceMarket 26 = .ok (.if_icmp .eq 7, 3) := by decide +kernel
theorem dX6_replaceMarket_29 : decode cX6_replaceMarket 29 = .ok (.iconst 1, 1) := by decide +kernel
theorem dX6_replaceMarket_30 : decode cX6_replaceMarket 30 = .ok (.goto 4, 3) := by decide +kernel
theorem dX6_replaceMarket_33 : decode cX6_replaceMarket 33 = .ok (.iconst 0, 1) := by decide +kernel
theorem dX6_replaceMarket_34 : decode cX6_replaceMarket 34 = .ok (.istore_n 1, 1) := by decide +kernel
theorem dX6_replaceMarket_35 : decode cX6_replaceMarket 35 = .ok (.aload_n 0, 1) := by decide +kernel
theorem dX6_replaceMarket_36 : decode cX6_replaceMarket 36 = .ok (.getfield 25, 3) := by decide +kernel
theorem dX6_replaceMarket_39 : decode cX6_replaceMarket 39 = .ok (.invokevirtual 80, 3) := by decide +kernel
theorem dX6_replaceMarket_42 : decode cX6_replaceMarket 42 = .ok (.iload_n 1, 1) := by decide +kernel
theorem dX6_replaceMarket_43 : decode cX6_replaceMarket 43 = .ok (.ifCond .ne 5, 3) := by decide +kernel
theorem dX6_replaceMarket_46 : decode cX6_replaceMarket 46 = .ok (.iconst 0, 1) := by decide +kernel
theorem dX6_replaceMarket_47 : decode cX6_replaceMarket 47 = .ok (.ireturn, 1) := by decide +kernel
theorem dX6_replaceMarket_48 : decode cX6_replaceMarket 48 = .ok (.aload_n 0, 1) := by decide +kernel
theorem dX6_replaceMarket_49 : decode cX6_replaceMarket 49 = .ok (.getfield 10, 3) := by decide +kernel
theorem dX6_replaceMarket_52 : decode cX6_replaceMarket 52 = .ok (.aload_n 0, 1) := by decide +kernel
theorem dX6_replaceMarket_53 : decode cX6_replaceMarket 53 = .ok (.getfield 16, 3) := by decide +kernel
theorem dX6_replaceMarket_56 : decode cX6_replaceMarket 56 = .ok (.invokevirtual 69, 3) := by decide +kernel
theorem dX6_replaceMarket_59 : decode cX6_replaceMarket 59 = .ok (.aload_n 0, 1) := by decide +kernel
theorem dX6_replaceMarket_60 : decode cX6_replaceMarket 60 = .ok (.invokevirtual 96, 3) := by decide +kernel
theorem dX6_replaceMarket_63 : decode cX6_replaceMarket 63 = .ok (.iconst 0, 1) := by decide +kernel
theorem dX6_replaceMarket_64 : decode cX6_replaceMarket 64 = .ok (.istore_n 2, 1) := by decide +kernel
theorem dX6_replaceMarket_65 : decode cX6_replaceMarket 65 = .ok (.iload_n 2, 1) := by decide +kernel
theorem dX6_replaceMarket_66 : decode cX6_replaceMarket 66 = .ok (.aload_n 0, 1) := by decide +kernel
theorem dX6_replaceMarket_67 : decode cX6_replaceMarket 67 = .ok (.getfield 36, 3) := by decide +kernel
theorem dX6_replaceMarket_70 : decode cX6_replaceMarket 70 = .ok (.arraylength, 1) := by decide +kernel
theorem dX6_replaceMarket_71 : decode cX6_replaceMarket 71 = .ok (.if_icmp .ge 16, 3) := by decide +kernel
theorem dX6_replaceMarket_74 : decode cX6_replaceMarket 74 = .ok (.aload_n 0, 1) := by decide +kernel
theorem dX6_replaceMarket_75 : decode cX6_replaceMarket 75 = .ok (.getfield 36, 3) := by decide +kernel
theorem dX6_replaceMarket_78 : decode cX6_replaceMarket 78 = .ok (.iload_n 2, 1) := by decide +kernel
theorem dX6_replaceMarket_79 : decode cX6_replaceMarket 79 = .ok (.iconst 0, 1) := by decide +kernel
theorem dX6_replaceMarket_80 : decode cX6_replaceMarket 80 = .ok (.bastore, 1) := by decide +kernel
theorem dX6_replaceMarket_81 : decode cX6_replaceMarket 81 = .ok (.iinc 2 1, 3) := by decide +kernel
theorem dX6_replaceMarket_84 : decode cX6_replaceMarket 84 = .ok (.goto (-19), 3) := by decide +kernel
theorem dX6_replaceMarket_87 : decode cX6_replaceMarket 87 = .ok (.iconst 1, 1) := by decide +kernel
theorem dX6_replaceMarket_88 : decode cX6_replaceMarket 88 = .ok (.ireturn, 1) := by decide +kernel
theorem hd_X6_replaceMarket : yX6_replaceMarket.cls = RX6 ∧ yX6_replaceMarket.cls ≠ "java/lang/invoke/MethodHandle" ∧ yX6_replaceMarket.cls ≠ "java/lang/invoke/VarHandle" ∧ (parseMethodDescriptor yX6_replaceMarket.desc).map (fun d => d.parameters.length) = some 0 := by decide +kernel
set_option maxRecDepth 100000 in
set_option maxHeartbeats 4000000 in
theorem c_X6_replaceMarket (l : Launch) (D : va_G) (g : xG) (tb : List xQ) (hT : x_T g tb)  (h0 : x_fb tb) {M : xM} {r : Int32} {M' : xM} (hf : f_X6_replaceMarket  M = some (r, M')) :
    cI l D g tb yX6_replaceMarket cX6_replaceMarket 3 .boolean ({ frames := 9, cells := 0, slots := 0, locals := 195 } : Room) [.ref (g.1 4 1664)] M r M' := by
  refine x_startZ (own := RX6) (by decide +kernel) rfl rfl (Nat.le_of_ble_eq_true rfl) hT ?_
  intro p e s m args below meth c Q C0 hend
  have B65 : ∀ (k65 : Int32 → xM → Option (Int32 × xM)) (hk65 : ∀ (v2 : Int32)  (M : xM), k65 v2 M = some (r, M') → WW p l e ({ frames := 9, cells := 0, slots := 0, locals := 195 } : Room) s m args below meth c 0 0 Q 3 D g tb 65 [(0, .ref (g.1 4 1664)), (2, .int v2)] [] M), ∀ (v2 : Int32)  (M : xM), fb_X6_replaceMarket_c65 k65  v2 M = some (r, M') → WW p l e ({ frames := 9, cells := 0, slots := 0, locals := 195 } : Room) s m args below meth c 0 0 Q 3 D g tb 65 [(0, .ref (g.1 4 1664)), (2, .int v2)] [] M := by
    intro k65 hk65 v2  M hf
    unfold fb_X6_replaceMarket_c65 at hf
    refine r_iload_n C0 (kk := 2) 1 rfl dX6_replaceMarket_65 ?_
    refine r_aload_n C0 (kk := 0) 0 rfl dX6_replaceMarket_66 ?_
    refine r_get4 C0 h0.1 8 (by decide) (v := .ref (g.1 8 1675)) rfl rfl w5_95 dX6_replaceMarket_67 ?_
    refine r_alen8 C0 h0.2.2.2.2.2.2.2.1 (v := 2) rfl dX6_replaceMarket_70 ?_
    refine r_icmp_ge C0 (tgt := 87) (by decide) dX6_replaceMarket_71 (fun q18 => ?_) (fun q18 => ?_)
    · have hf := ie_t hf q18
      refine r_iconst C0 (v := 1) dX6_replaceMarket_87 rfl ?_
      exact hend (by decide) hf dX6_replaceMarket_88
    · have hf := ie_f hf q18
      refine r_aload_n C0 (kk := 0) 0 rfl dX6_replaceMarket_74 ?_
      refine r_get4 C0 h0.1 8 (by decide) (v := .ref (g.1 8 1675)) rfl rfl w5_95 dX6_replaceMarket_75 ?_
      refine r_iload_n C0 (kk := 2) 1 rfl dX6_replaceMarket_78 ?_
      refine r_iconst C0 (v := 0) dX6_replaceMarket_79 rfl ?_
      obtain ⟨q19, hf⟩ := gd_e hf
      refine r_zastc C0 h0.2.2.2.2.2.2.2.1 q19 rfl dX6_replaceMarket_80 ?_
      refine r_iincc C0 1 rfl (k0 := 1) (by decide) (by decide) (lv2 := [(2, .int (v2 + 1)), (0, .ref (g.1 4 1664))]) rfl dX6_replaceMarket_81 ?_
      refine r_goto C0 (tgt := 65) (by decide) dX6_replaceMarket_84 ?_
      refine WW.sub [1, 0] rfl ?_
      exact hk65 _   _ hf
  have L65 : ∀ (v2 : Int32)  (M : xM), f_X6_replaceMarket_c65   v2 M = some (r, M') → WW p l e ({ frames := 9, cells := 0, slots := 0, locals := 195 } : Room) s m args below meth c 0 0 Q 3 D g tb 65 [(0, .ref (g.1 4 1664)), (2, .int v2)] [] M := lp_ind (P := fun f => ∀ (v2 : Int32)  (M : xM), f v2 M = some (r, M') → WW p l e ({ frames := 9, cells := 0, slots := 0, locals := 195 } : Room) s m args below meth c 0 0 Q 3 D g tb 65 [(0, .ref (g.1 4 1664)), (2, .int v2)] [] M) (fun _ _ h => none_ne h) (fun f hf => B65 f hf) FU
  have B34 : ∀ (s0 : Int32)  (M : xM), f_X6_replaceMarket_c34   s0 M = some (r, M') → WW p l e ({ frames := 9, cells := 0, slots := 0, locals := 195 } : Room) s m args below meth c 0 0 Q 3 D g tb 34 [(0, .ref (g.1 4 1664))] [.int s0] M := by
    intro   s0  M hf
    unfold f_X6_replaceMarket_c34 at hf
    refine r_istore_n C0 (kk := 1) (lv2 := [(1, .int s0), (0, .ref (g.1 4 1664))]) (by decide) rfl dX6_replaceMarket_34 ?_
    refine r_aload_n C0 (kk := 0) 1 rfl dX6_replaceMarket_35 ?_
    refine r_get4 C0 h0.1 3 (by decide) (v := .ref (g.1 3 1777)) rfl rfl w5_90 dX6_replaceMarket_36 ?_
    obtain ⟨M12, hc11, hf⟩ := bd_e hf
    refine r_callVv C0 (As := []) (rest := []) (c_X3_clear l D g tb hT h0.2.2.2.2.1 hc11) w5_79 w5_80 w5_81 w1_17 w5_82 (x_rec3 C0 h0.2.2.2.2.1.1) hd_X3_clear rfl ⟨rfl, rfl⟩ ⟨Nat.le_of_ble_eq_true rfl, Nat.le_of_ble_eq_true rfl⟩ (by decide) (by decide) rfl (Nat.le_of_ble_eq_true rfl) dX6_replaceMarket_39 ?_
    refine r_iload_n C0 (kk := 1) 0 rfl dX6_replaceMarket_42 ?_
    refine r_if_ne C0 (tgt := 48) (by decide) dX6_replaceMarket_43 (fun q13 => ?_) (fun q13 => ?_)
    · have hf := ie_f hf q13
      refine r_aload_n C0 (kk := 0) 1 rfl dX6_replaceMarket_48 ?_
      refine r_get4 C0 h0.1 0 (by decide) (v := .ref (g.1 2 0)) rfl rfl w5_87 dX6_replaceMarket_49 ?_
      refine r_aload_n C0 (kk := 0) 1 rfl dX6_replaceMarket_52 ?_
      refine r_get4 C0 h0.1 1 (by decide) (v := .ref (g.1 2 128)) rfl rfl w5_88 dX6_replaceMarket_53 ?_
      obtain ⟨M15, hc14, hf⟩ := bd_e hf
      refine r_callVv C0 (As := [.ref (g.1 2 128)]) (rest := []) (c_X2_copyFrom l D g tb hT h0.2.1 h0.2.2.1 hc14) w2_26 w2_27 w2_28 w1_14 w2_29 (x_rec2 C0 h0.2.1.1) hd_X2_copyFrom rfl ⟨rfl, rfl⟩ ⟨Nat.le_of_ble_eq_true rfl, Nat.le_of_ble_eq_true rfl⟩ (by decide) (by decide) rfl (Nat.le_of_ble_eq_true rfl) dX6_replaceMarket_56 ?_
      refine r_aload_n C0 (kk := 0) 1 rfl dX6_replaceMarket_59 ?_
      obtain ⟨M17, hc16, hf⟩ := bd_e hf
      refine r_callVv C0 (As := []) (rest := []) (c_X6_forgetChanges l D g tb hT h0 hc16) w5_83 w5_85 wp2_12 w1_13 w5_86 (x_rec4 C0 h0.1) hd_X6_forgetChanges rfl ⟨rfl, rfl⟩ ⟨Nat.le_of_ble_eq_true rfl, Nat.le_of_ble_eq_true rfl⟩ (by decide) (by decide) rfl (Nat.le_of_ble_eq_true rfl) dX6_replaceMarket_60 ?_
      refine r_iconst C0 (v := 0) dX6_replaceMarket_63 rfl ?_
      refine r_istore_n C0 (kk := 2) (lv2 := [(2, .int 0), (1, .int s0), (0, .ref (g.1 4 1664))]) (by decide) rfl dX6_replaceMarket_64 ?_
      refine WW.sub [2, 0] rfl ?_
      exact L65   _   _ hf
    · have hf := ie_t hf q13
      refine r_iconst C0 (v := 0) dX6_replaceMarket_46 rfl ?_
      exact hend (by decide) hf dX6_replaceMarket_47
  have B33 : ∀ (M : xM), f_X6_replaceMarket_c33   M = some (r, M') → WW p l e ({ frames := 9, cells := 0, slots := 0, locals := 195 } : Room) s m args below meth c 0 0 Q 3 D g tb 33 [(0, .ref (g.1 4 1664))] [] M := by
    intro     M hf
    unfold f_X6_replaceMarket_c33 at hf
    refine r_iconst C0 (v := 0) dX6_replaceMarket_33 rfl ?_
    exact B34   _   _ hf
  unfold f_X6_replaceMarket at hf
  refine r_aload_n C0 (kk := 0) 0 rfl dX6_replaceMarket_0 ?_
  refine r_get4 C0 h0.1 3 (by decide) (v := .ref (g.1 3 1777)) rfl rfl w5_90 dX6_replaceMarket_1 ?_
  obtain ⟨M2, hc1, hf⟩ := bd_e hf
  refine r_callVv C0 (As := []) (rest := []) (c_X3_begin l D g tb hT h0.2.2.2.2.1 hc1) w4_136 w4_137 w4_138 w1_17 w4_139 (x_rec3 C0 h0.2.2.2.2.1.1) hd_X3_begin rfl ⟨rfl, rfl⟩ ⟨Nat.le_of_ble_eq_true rfl, Nat.le_of_ble_eq_true rfl⟩ (by decide) (by decide) rfl (Nat.le_of_ble_eq_true rfl) dX6_replaceMarket_4 ?_
  refine r_aload_n C0 (kk := 0) 0 rfl dX6_replaceMarket_7 ?_
  refine r_get4 C0 h0.1 3 (by decide) (v := .ref (g.1 3 1777)) rfl rfl w5_90 dX6_replaceMarket_8 ?_
  refine r_aload_n C0 (kk := 0) 0 rfl dX6_replaceMarket_11 ?_
  refine r_get4 C0 h0.1 1 (by decide) (v := .ref (g.1 2 128)) rfl rfl w5_88 dX6_replaceMarket_12 ?_
  obtain ⟨r5, M4, hc3, hf⟩ := bd2_e hf
  refine r_callVi C0 (As := [.ref (g.1 2 128)]) (rest := []) (c_X3_readHead l D g tb hT h0.2.2.2.2.1 h0.2.2.1 hc3) w4_140 w4_141 w4_142 w1_17 w4_143 (x_rec3 C0 h0.2.2.2.2.1.1) hd_X3_readHead rfl ⟨rfl, rfl⟩ ⟨Nat.le_of_ble_eq_true rfl, Nat.le_of_ble_eq_true rfl⟩ (by decide) (by decide) rfl (Nat.le_of_ble_eq_true rfl) dX6_replaceMarket_15 ?_
  refine r_if_eq C0 (tgt := 33) (by decide) dX6_replaceMarket_18 (fun q6 => ?_) (fun q6 => ?_)
  · have hf := ie_t hf q6
    exact B33     _ hf
  · have hf := ie_f hf q6
    refine r_aload_n C0 (kk := 0) 0 rfl dX6_replaceMarket_21 ?_
    obtain ⟨r9, M8, hc7, hf⟩ := bd2_e hf
    refine r_callVi C0 (As := []) (rest := []) (c_X6_readCommands l D g tb hT h0 hc7) w4_201 w4_203 wp2_4 w1_13 w4_204 (x_rec4 C0 h0.1) hd_X6_readCommands rfl ⟨rfl, rfl⟩ ⟨Nat.le_of_ble_eq_true rfl, Nat.le_of_ble_eq_true rfl⟩ (by decide) (by decide) rfl (Nat.le_of_ble_eq_true rfl) dX6_replaceMarket_22 ?_
    refine r_iconst C0 (v := (-1)) dX6_replaceMarket_25 rfl ?_
    refine r_icmp_eq C0 (tgt := 33) (by decide) dX6_replaceMarket_26 (fun q10 => ?_) (fun q10 => ?_)
    · have hf := ie_t hf q10
      exact B33     _ hf
    · have hf := ie_f hf q10
      refine r_iconst C0 (v := 1) dX6_replaceMarket_29 rfl ?_
      refine r_goto C0 (tgt := 34) (by decide) dX6_replaceMarket_30 ?_
      exact B34   _   _ hf
theorem dX6_loadSetup_0 : decode cX6_loadSetup 0 = .ok (.aload_n 0, 1) := by decide +kernel
theorem dX6_loadSetup_1 : decode cX6_loadSetup 1 = .ok (.invokevirtual 50, 3) := by decide +kernel
theorem dX6_loadSetup_4 : decode cX6_loadSetup 4 = .ok (.ifCond .eq 13, 3) := by decide +kernel
theorem dX6_loadSetup_7 : decode cX6_loadSetup 7 = .ok (.aload_n 0, 1) := by decide +kernel
theorem dX6_loadSetup_8 : decode cX6_loadSetup 8 = .ok (.getfield 10, 3) := by decide +kernel
theorem dX6_loadSetup_11 : decode cX6_loadSetup 11 = .ok (.getfield 66, 3) := by decide +kernel
theorem dX6_loadSetup_14 : decode cX6_loadSetup 14 = .ok (.goto 4, 3) := by decide +kernel
theorem dX6_loadSetup_17 : decode cX6_loadSetup 17 = .ok (.iconst (-1), 1) := by decide +kernel
theorem dX6_loadSetup_18 : decode cX6_loadSetup 18 = .ok (.ireturn, 1) := by decide +kernel
theorem hd_X6_loadSetup : yX6_loadSetup.cls = RX6 ∧ yX6_loadSetup.cls ≠ "java/lang/invoke/MethodHandle" ∧ yX6_loadSetup.cls ≠ "java/lang/invoke/VarHandle" ∧ (parseMethodDescriptor yX6_loadSetup.desc).map (fun d => d.parameters.length) = some 0 := by decide +kernel
set_option maxRecDepth 100000 in
set_option maxHeartbeats 4000000 in
theorem c_X6_loadSetup (l : Launch) (D : va_G) (g : xG) (tb : List xQ) (hT : x_T g tb)  (h0 : x_fb tb) {M : xM} {r : Int32} {M' : xM} (hf : f_X6_loadSetup  M = some (r, M')) :
    cI l D g tb yX6_loadSetup cX6_loadSetup 1 .int ({ frames := 10, cells := 0, slots := 0, locals := 217 } : Room) [.ref (g.1 4 1664)] M r M' := by
  refine x_startI (own := RX6) (by decide +kernel) rfl rfl (Nat.le_of_ble_eq_true rfl) hT ?_
  intro p e s m args below meth c Q C0 hend
  unfold f_X6_loadSetup at hf
  refine r_aload_n C0 (kk := 0) 0 rfl dX6_loadSetup_0 ?_
  obtain ⟨r3, M2, hc1, hf⟩ := bd2_e hf
  refine r_callVi C0 (As := []) (rest := []) (c_X6_replaceMarket l D g tb hT h0 hc1) w4_132 w4_134 wp1_9 w1_13 w4_135 (x_rec4 C0 h0.1) hd_X6_replaceMarket rfl ⟨rfl, rfl⟩ ⟨Nat.le_of_ble_eq_true rfl, Nat.le_of_ble_eq_true rfl⟩ (by decide) (by decide) rfl (Nat.le_of_ble_eq_true rfl) dX6_loadSetup_1 ?_
  refine r_if_eq C0 (tgt := 17) (by decide) dX6_loadSetup_4 (fun q4 => ?_) (fun q4 => ?_)
  · have hf := ie_t hf q4
    refine r_iconst C0 (v := (-1)) dX6_loadSetup_17 rfl ?_
    exact hend hf dX6_loadSetup_18
  · have hf := ie_f hf q4
    refine r_aload_n C0 (kk := 0) 0 rfl dX6_loadSetup_7 ?_
    refine r_get4 C0 h0.1 0 (by decide) (v := .ref (g.1 2 0)) rfl rfl w5_87 dX6_loadSetup_8 ?_
    refine r_get2 C0 h0.2.1.1 1 (by decide) (v := .int (M2 9)) rfl rfl w3_239 dX6_loadSetup_11 ?_
    refine r_goto C0 (tgt := 18) (by decide) dX6_loadSetup_14 ?_
    exact hend hf dX6_loadSetup_18
