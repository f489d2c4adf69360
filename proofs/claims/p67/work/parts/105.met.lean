theorem dJ8_newLength_cabcc_0 : decode cJ8_newLength_cabcc 0 = .ok (.iload_n 0, 1) := by decide +kernel
theorem dJ8_newLength_cabcc_1 : decode cJ8_newLength_cabcc 1 = .ok (.iload_n 1, 1) := by decide +kernel
theorem dJ8_newLength_cabcc_2 : decode cJ8_newLength_cabcc 2 = .ok (.iload_n 2, 1) := by decide +kernel
theorem dJ8_newLength_cabcc_3 : decode cJ8_newLength_cabcc 3 = .ok (.invokestatic 194, 3) := by decide +kernel
theorem dJ8_newLength_cabcc_6 : decode cJ8_newLength_cabcc 6 = .ok (.iadd, 1) := by decide +kernel
theorem dJ8_newLength_cabcc_7 : decode cJ8_newLength_cabcc 7 = .ok (.istore_n 3, 1) := by decide +kernel
theorem dJ8_newLength_cabcc_8 : decode cJ8_newLength_cabcc 8 = .ok (.iconst 0, 1) := by decide +kernel
theorem dJ8_newLength_cabcc_9 : decode cJ8_newLength_cabcc 9 = .ok (.iload_n 3, 1) := by decide +kernel
theorem dJ8_newLength_cabcc_10 : decode cJ8_newLength_cabcc 10 = .ok (.if_icmp .ge 11, 3) := by decide +kernel
theorem dJ8_newLength_cabcc_13 : decode cJ8_newLength_cabcc 13 = .ok (.iload_n 3, 1) := by decide +kernel
theorem dJ8_newLength_cabcc_14 : decode cJ8_newLength_cabcc 14 = .ok (.ldc 200, 2) := by decide +kernel
theorem dJ8_newLength_cabcc_16 : decode cJ8_newLength_cabcc 16 = .ok (.if_icmp .gt 5, 3) := by decide +kernel
theorem dJ8_newLength_cabcc_19 : decode cJ8_newLength_cabcc 19 = .ok (.iload_n 3, 1) := by decide +kernel
theorem dJ8_newLength_cabcc_20 : decode cJ8_newLength_cabcc 20 = .ok (.ireturn, 1) := by decide +kernel
theorem dJ8_newLength_cabcc_21 : decode cJ8_newLength_cabcc 21 = .ok (.iload_n 0, 1) := by decide +kernel
theorem dJ8_newLength_cabcc_22 : decode cJ8_newLength_cabcc 22 = .ok (.iload_n 1, 1) := by decide +kernel
theorem dJ8_newLength_cabcc_23 : decode cJ8_newLength_cabcc 23 = .ok (.invokestatic 201, 3) := by decide +kernel
theorem dJ8_newLength_cabcc_26 : decode cJ8_newLength_cabcc 26 = .ok (.ireturn, 1) := by decide +kernel
theorem hd_J8_newLength_cabcc : yJ8_newLength_cabcc.cls ≠ "java/lang/invoke/MethodHandle" ∧ yJ8_newLength_cabcc.cls ≠ "java/lang/invoke/VarHandle" ∧ (parseMethodDescriptor yJ8_newLength_cabcc.desc).map (fun d => d.parameters.length) = some 3 := by decide +kernel
set_option maxRecDepth 100000 in
set_option maxHeartbeats 4000000 in
theorem c_J8_newLength_cabcc (l : Launch) (D : va_G) (g : xG) (tb : List xQ) (hT : x_T g tb) {a0 : Int32} {a1 : Int32} {a2 : Int32}  {M : xM} {r : Int32} {M' : xM} (hf : f_J8_newLength_cabcc a0 a1 a2 M = some (r, M')) :
    cI l D g tb yJ8_newLength_cabcc cJ8_newLength_cabcc 4 .int ({ frames := 1, cells := 0, slots := 0, locals := 21 } : Room) [.int a0, .int a1, .int a2] M r M' := by
  refine x_startI (own := RJ8) (by decide +kernel) rfl rfl (Nat.le_of_ble_eq_true rfl) hT ?_
  intro p e s m args below meth c Q C0 hend
  unfold f_J8_newLength_cabcc at hf
  refine r_iload_n C0 (kk := 0) 0 rfl dJ8_newLength_cabcc_0 ?_
  refine r_iload_n C0 (kk := 1) 1 rfl dJ8_newLength_cabcc_1 ?_
  refine r_iload_n C0 (kk := 2) 2 rfl dJ8_newLength_cabcc_2 ?_
  refine r_max C0 w2_185 w2_186 w1_6 w2_187 (by decide) (Nat.le_of_ble_eq_true rfl) (by decide) (by decide) dJ8_newLength_cabcc_3 ?_
  refine r_iadd C0 dJ8_newLength_cabcc_6 ?_
  refine r_istore_n C0 (kk := 3) (lv2 := [(3, .int (a0 + (imax a1 a2))), (0, .int a0), (1, .int a1), (2, .int a2)]) (by decide) rfl dJ8_newLength_cabcc_7 ?_
  refine r_iconst C0 (v := 0) dJ8_newLength_cabcc_8 rfl ?_
  refine r_iload_n C0 (kk := 3) 0 rfl dJ8_newLength_cabcc_9 ?_
  refine r_icmp_ge C0 (tgt := 21) (by decide) dJ8_newLength_cabcc_10 (fun q1 => ?_) (fun q1 => ?_)
  · have hf := ie_t hf q1
    refine r_iload_n C0 (kk := 0) 1 rfl dJ8_newLength_cabcc_21 ?_
    refine r_iload_n C0 (kk := 1) 2 rfl dJ8_newLength_cabcc_22 ?_
    exact none_ne hf
  · have hf := ie_f hf q1
    refine r_iload_n C0 (kk := 3) 0 rfl dJ8_newLength_cabcc_13 ?_
    refine r_ldc C0 w2_188 dJ8_newLength_cabcc_14 ?_
    refine r_icmp_gt C0 (tgt := 21) (by decide) dJ8_newLength_cabcc_16 (fun q2 => ?_) (fun q2 => ?_)
    · have hf := ie_t hf q2
      refine r_iload_n C0 (kk := 0) 1 rfl dJ8_newLength_cabcc_21 ?_
      refine r_iload_n C0 (kk := 1) 2 rfl dJ8_newLength_cabcc_22 ?_
      exact none_ne hf
    · have hf := ie_f hf q2
      refine r_iload_n C0 (kk := 3) 0 rfl dJ8_newLength_cabcc_19 ?_
      exact hend hf dJ8_newLength_cabcc_20
theorem dJ6_stringSize_0f7a4_0 : decode cJ6_stringSize_0f7a4 0 = .ok (.iconst 1, 1) := by decide +kernel
theorem dJ6_stringSize_0f7a4_1 : decode cJ6_stringSize_0f7a4 1 = .ok (.istore_n 1, 1) := by decide +kernel
theorem dJ6_stringSize_0f7a4_2 : decode cJ6_stringSize_0f7a4 2 = .ok (.iload_n 0, 1) := by decide +kernel
theorem dJ6_stringSize_0f7a4_3 : decode cJ6_stringSize_0f7a4 3 = .ok (.ifCond .lt 8, 3) := by decide +kernel
theorem dJ6_stringSize_0f7a4_6 : decode cJ6_stringSize_0f7a4 6 = .ok (.iconst 0, 1) := by decide +kernel
theorem dJ6_stringSize_0f7a4_7 : decode cJ6_stringSize_0f7a4 7 = .ok (.istore_n 1, 1) := by decide +kernel
theorem dJ6_stringSize_0f7a4_8 : decode cJ6_stringSize_0f7a4 8 = .ok (.iload_n 0, 1) := by decide +kernel
theorem dJ6_stringSize_0f7a4_9 : decode cJ6_stringSize_0f7a4 9 = .ok (.ineg, 1) := by decide +kernel
theorem dJ6_stringSize_0f7a4_10 : decode cJ6_stringSize_0f7a4 10 = .ok (.istore_n 0, 1) := by decide +kernel
theorem dJ6_stringSize_0f7a4_11 : decode cJ6_stringSize_0f7a4 11 = .ok (.bipush (-10), 2) := by decide +kernel
theorem dJ6_stringSize_0f7a4_13 : decode cJ6_stringSize_0f7a4 13 = .ok (.istore_n 2, 1) := by decide +kernel
theorem dJ6_stringSize_0f7a4_14 : decode cJ6_stringSize_0f7a4 14 = .ok (.iconst 1, 1) := by decide +kernel
theorem dJ6_stringSize_0f7a4_15 : decode cJ6_stringSize_0f7a4 15 = .ok (.istore_n 3, 1) := by decide +kernel
theorem dJ6_stringSize_0f7a4_16 : decode cJ6_stringSize_0f7a4 16 = .ok (.iload_n 3, 1) := by decide +kernel
theorem dJ6_stringSize_0f7a4_17 : decode cJ6_stringSize_0f7a4 17 = .ok (.bipush 10, 2) := by decide +kernel
theorem dJ6_stringSize_0f7a4_19 : decode cJ6_stringSize_0f7a4 19 = .ok (.if_icmp .ge 23, 3) := by decide +kernel
theorem dJ6_stringSize_0f7a4_22 : decode cJ6_stringSize_0f7a4 22 = .ok (.iload_n 0, 1) := by decide +kernel
theorem dJ6_stringSize_0f7a4_23 : decode cJ6_stringSize_0f7a4 23 = .ok (.iload_n 2, 1) := by decide +kernel
theorem dJ6_stringSize_0f7a4_24 : decode cJ6_stringSize_0f7a4 24 = .ok (.if_icmp .le 7, 3) := by decide +kernel
theorem dJ6_stringSize_0f7a4_27 : decode cJ6_stringSize_0f7a4 27 = .ok (.iload_n 3, 1) := by decide +kernel
theorem dJ6_stringSize_0f7a4_28 : decode cJ6_stringSize_0f7a4 28 = .ok (.iload_n 1, 1) := by decide +kernel
theorem dJ6_stringSize_0f7a4_29 : decode cJ6_stringSize_0f7a4 29 = .ok (.iadd, 1) := by decide +kernel
theorem dJ6_stringSize_0f7a4_30 : decode cJ6_stringSize_0f7a4 30 = .ok (.ireturn, 1) := by decide +kernel
theorem dJ6_stringSize_0f7a4_31 : decode cJ6_stringSize_0f7a4 31 = .ok (.bipush 10, 2) := by decide +kernel
theorem dJ6_stringSize_0f7a4_33 : decode cJ6_stringSize_0f7a4 33 = .ok (.iload_n 2, 1) := by decide +kernel
theorem dJ6_stringSize_0f7a4_34 : decode cJ6_stringSize_0f7a4 34 = .ok (.imul, 1) := by decide +kernel
theorem dJ6_stringSize_0f7a4_35 : decode cJ6_stringSize_0f7a4 35 = .ok (.istore_n 2, 1) := by decide +kernel
theorem dJ6_stringSize_0f7a4_36 : decode cJ6_stringSize_0f7a4 36 = .ok (.iinc 3 1, 3) := by decide +kernel
theorem dJ6_stringSize_0f7a4_39 : decode cJ6_stringSize_0f7a4 39 = .ok (.goto (-23), 3) := by decide +kernel
theorem dJ6_stringSize_0f7a4_42 : decode cJ6_stringSize_0f7a4 42 = .ok (.bipush 10, 2) := by decide +kernel
theorem dJ6_stringSize_0f7a4_44 : decode cJ6_stringSize_0f7a4 44 = .ok (.iload_n 1, 1) := by decide +kernel
theorem dJ6_stringSize_0f7a4_45 : decode cJ6_stringSize_0f7a4 45 = .ok (.iadd, 1) := by decide +kernel
theorem dJ6_stringSize_0f7a4_46 : decode cJ6_stringSize_0f7a4 46 = .ok (.ireturn, 1) := by decide +kernel
theorem hd_J6_stringSize_0f7a4 : yJ6_stringSize_0f7a4.cls ≠ "java/lang/invoke/MethodHandle" ∧ yJ6_stringSize_0f7a4.cls ≠ "java/lang/invoke/VarHandle" ∧ (parseMethodDescriptor yJ6_stringSize_0f7a4.desc).map (fun d => d.parameters.length) = some 1 := by decide +kernel
set_option maxRecDepth 100000 in
set_option maxHeartbeats 4000000 in
theorem c_J6_stringSize_0f7a4 (l : Launch) (D : va_G) (g : xG) (tb : List xQ) (hT : x_T g tb) {a0 : Int32}  {M : xM} {r : Int32} {M' : xM} (hf : f_J6_stringSize_0f7a4 a0 M = some (r, M')) :
    cI l D g tb yJ6_stringSize_0f7a4 cJ6_stringSize_0f7a4 4 .int ({ frames := 0, cells := 0, slots := 0, locals := 0 } : Room) [.int a0] M r M' := by
  refine x_startI (own := RJ6) (by decide +kernel) rfl rfl (Nat.le_of_ble_eq_true rfl) hT ?_
  intro p e s m args below meth c Q C0 hend
  have B16 : ∀ (k16 : Int32 → Int32 → Int32 → Int32 → xM → Option (Int32 × xM)) (hk16 : ∀ (v0 : Int32) (v1 : Int32) (v2 : Int32) (v3 : Int32)  (M : xM), k16 v0 v1 v2 v3 M = some (r, M') → WW p l e ({ frames := 0, cells := 0, slots := 0, locals := 0 } : Room) s m args below meth c 0 0 Q 4 D g tb 16 [(0, .int v0), (1, .int v1), (2, .int v2), (3, .int v3)] [] M), ∀ (v0 : Int32) (v1 : Int32) (v2 : Int32) (v3 : Int32)  (M : xM), fb_J6_stringSize_0f7a4_c16 k16  v0 v1 v2 v3 M = some (r, M') → WW p l e ({ frames := 0, cells := 0, slots := 0, locals := 0 } : Room) s m args below meth c 0 0 Q 4 D g tb 16 [(0, .int v0), (1, .int v1), (2, .int v2), (3, .int v3)] [] M := by
    intro k16 hk16 v0 v1 v2 v3  M hf
    unfold fb_J6_stringSize_0f7a4_c16 at hf
    refine r_iload_n C0 (kk := 3) 3 rfl dJ6_stringSize_0f7a4_16 ?_
    refine r_bipush C0 (v := 10) dJ6_stringSize_0f7a4_17 rfl ?_
    refine r_icmp_ge C0 (tgt := 42) (by decide) dJ6_stringSize_0f7a4_19 (fun q2 => ?_) (fun q2 => ?_)
    · have hf := ie_t hf q2
      refine r_bipush C0 (v := 10) dJ6_stringSize_0f7a4_42 rfl ?_
      refine r_iload_n C0 (kk := 1) 1 rfl dJ6_stringSize_0f7a4_44 ?_
      refine r_iadd C0 dJ6_stringSize_0f7a4_45 ?_
      exact hend hf dJ6_stringSize_0f7a4_46
    · have hf := ie_f hf q2
      refine r_iload_n C0 (kk := 0) 0 rfl dJ6_stringSize_0f7a4_22 ?_
      refine r_iload_n C0 (kk := 2) 2 rfl dJ6_stringSize_0f7a4_23 ?_
      refine r_icmp_le C0 (tgt := 31) (by decide) dJ6_stringSize_0f7a4_24 (fun q3 => ?_) (fun q3 => ?_)
      · have hf := ie_t hf q3
        refine r_bipush C0 (v := 10) dJ6_stringSize_0f7a4_31 rfl ?_
        refine r_iload_n C0 (kk := 2) 2 rfl dJ6_stringSize_0f7a4_33 ?_
        refine r_imul C0 dJ6_stringSize_0f7a4_34 ?_
        refine r_istore_n C0 (kk := 2) (lv2 := [(2, .int (10 * v2)), (0, .int v0), (1, .int v1), (3, .int v3)]) (by decide) rfl dJ6_stringSize_0f7a4_35 ?_
        refine r_iincc C0 3 rfl (k0 := 1) (by decide) (by decide) (lv2 := [(3, .int (v3 + 1)), (2, .int (10 * v2)), (0, .int v0), (1, .int v1)]) rfl dJ6_stringSize_0f7a4_36 ?_
        refine r_goto C0 (tgt := 16) (by decide) dJ6_stringSize_0f7a4_39 ?_
        refine WW.sub [2, 3, 1, 0] rfl ?_
        exact hk16 _ _ _ _   _ hf
      · have hf := ie_f hf q3
        refine r_iload_n C0 (kk := 3) 3 rfl dJ6_stringSize_0f7a4_27 ?_
        refine r_iload_n C0 (kk := 1) 1 rfl dJ6_stringSize_0f7a4_28 ?_
        refine r_iadd C0 dJ6_stringSize_0f7a4_29 ?_
        exact hend hf dJ6_stringSize_0f7a4_30
  have L16 : ∀ (v0 : Int32) (v1 : Int32) (v2 : Int32) (v3 : Int32)  (M : xM), f_J6_stringSize_0f7a4_c16   v0 v1 v2 v3 M = some (r, M') → WW p l e ({ frames := 0, cells := 0, slots := 0, locals := 0 } : Room) s m args below meth c 0 0 Q 4 D g tb 16 [(0, .int v0), (1, .int v1), (2, .int v2), (3, .int v3)] [] M := lp_ind (P := fun f => ∀ (v0 : Int32) (v1 : Int32) (v2 : Int32) (v3 : Int32)  (M : xM), f v0 v1 v2 v3 M = some (r, M') → WW p l e ({ frames := 0, cells := 0, slots := 0, locals := 0 } : Room) s m args below meth c 0 0 Q 4 D g tb 16 [(0, .int v0), (1, .int v1), (2, .int v2), (3, .int v3)] [] M) (fun _ _ _ _ _ h => none_ne h) (fun f hf => B16 f hf) FU
  have B11 : ∀ (v0 : Int32) (v1 : Int32)  (M : xM), f_J6_stringSize_0f7a4_c11   v0 v1 M = some (r, M') → WW p l e ({ frames := 0, cells := 0, slots := 0, locals := 0 } : Room) s m args below meth c 0 0 Q 4 D g tb 11 [(0, .int v0), (1, .int v1)] [] M := by
    intro   v0 v1  M hf
    unfold f_J6_stringSize_0f7a4_c11 at hf
    refine r_bipush C0 (v := (-10)) dJ6_stringSize_0f7a4_11 rfl ?_
    refine r_istore_n C0 (kk := 2) (lv2 := [(2, .int (-10)), (0, .int v0), (1, .int v1)]) (by decide) rfl dJ6_stringSize_0f7a4_13 ?_
    refine r_iconst C0 (v := 1) dJ6_stringSize_0f7a4_14 rfl ?_
    refine r_istore_n C0 (kk := 3) (lv2 := [(3, .int 1), (2, .int (-10)), (0, .int v0), (1, .int v1)]) (by decide) rfl dJ6_stringSize_0f7a4_15 ?_
    refine WW.sub [2, 3, 1, 0] rfl ?_
    exact L16   _ _ _ _   _ hf
  unfold f_J6_stringSize_0f7a4 at hf
  refine r_iconst C0 (v := 1) dJ6_stringSize_0f7a4_0 rfl ?_
  refine r_istore_n C0 (kk := 1) (lv2 := [(1, .int 1), (0, .int a0)]) (by decide) rfl dJ6_stringSize_0f7a4_1 ?_
  refine r_iload_n C0 (kk := 0) 1 rfl dJ6_stringSize_0f7a4_2 ?_
  refine r_if_lt C0 (tgt := 11) (by decide) dJ6_stringSize_0f7a4_3 (fun q1 => ?_) (fun q1 => ?_)
  · have hf := ie_t hf q1
    refine WW.sub [1, 0] rfl ?_
    exact B11   _ _   _ hf
  · have hf := ie_f hf q1
    refine r_iconst C0 (v := 0) dJ6_stringSize_0f7a4_6 rfl ?_
    refine r_istore_n C0 (kk := 1) (lv2 := [(1, .int 0), (0, .int a0)]) (by decide) rfl dJ6_stringSize_0f7a4_7 ?_
    refine r_iload_n C0 (kk := 0) 1 rfl dJ6_stringSize_0f7a4_8 ?_
    refine r_ineg C0 dJ6_stringSize_0f7a4_9 ?_
    refine r_istore_n C0 (kk := 0) (lv2 := [(0, .int (-a0)), (1, .int 0)]) (by decide) rfl dJ6_stringSize_0f7a4_10 ?_
    exact B11   _ _   _ hf
theorem dJ7_checkLength_df160_0 : decode cJ7_checkLength_df160 0 = .ok (.iload_n 1, 1) := by decide +kernel
theorem dJ7_checkLength_df160_1 : decode cJ7_checkLength_df160 1 = .ok (.iload_n 0, 1) := by decide +kernel
theorem dJ7_checkLength_df160_2 : decode cJ7_checkLength_df160 2 = .ok (.if_icmp .ge 35, 3) := by decide +kernel
theorem dJ7_checkLength_df160_5 : decode cJ7_checkLength_df160 5 = .ok (.new 43, 3) := by decide +kernel
theorem dJ7_checkLength_df160_8 : decode cJ7_checkLength_df160 8 = .ok (.dup, 1) := by decide +kernel
theorem dJ7_checkLength_df160_9 : decode cJ7_checkLength_df160 9 = .ok (.new 45, 3) := by decide +kernel
theorem dJ7_checkLength_df160_12 : decode cJ7_checkLength_df160 12 = .ok (.dup, 1) := by decide +kernel
theorem dJ7_checkLength_df160_13 : decode cJ7_checkLength_df160 13 = .ok (.invokespecial 47, 3) := by decide +kernel
theorem dJ7_checkLength_df160_16 : decode cJ7_checkLength_df160 16 = .ok (.iload_n 0, 1) := by decide +kernel
theorem dJ7_checkLength_df160_17 : decode cJ7_checkLength_df160 17 = .ok (.invokevirtual 54, 3) := by decide +kernel
theorem dJ7_checkLength_df160_20 : decode cJ7_checkLength_df160 20 = .ok (.ldc_w 337, 3) := by decide +kernel
theorem dJ7_checkLength_df160_23 : decode cJ7_checkLength_df160 23 = .ok (.invokevirtual 50, 3) := by decide +kernel
theorem dJ7_checkLength_df160_26 : decode cJ7_checkLength_df160 26 = .ok (.iload_n 1, 1) := by decide +kernel
theorem dJ7_checkLength_df160_27 : decode cJ7_checkLength_df160 27 = .ok (.invokevirtual 54, 3) := by decide +kernel
theorem dJ7_checkLength_df160_30 : decode cJ7_checkLength_df160 30 = .ok (.invokevirtual 61, 3) := by decide +kernel
theorem dJ7_checkLength_df160_33 : decode cJ7_checkLength_df160 33 = .ok (.invokespecial 65, 3) := by decide +kernel
theorem dJ7_checkLength_df160_36 : decode cJ7_checkLength_df160 36 = .ok (.athrow, 1) := by decide +kernel
theorem dJ7_checkLength_df160_37 : decode cJ7_checkLength_df160 37 = .ok (.return_, 1) := by decide +kernel
theorem hd_J7_checkLength_df160 : yJ7_checkLength_df160.cls ≠ "java/lang/invoke/MethodHandle" ∧ yJ7_checkLength_df160.cls ≠ "java/lang/invoke/VarHandle" ∧ (parseMethodDescriptor yJ7_checkLength_df160.desc).map (fun d => d.parameters.length) = some 2 := by decide +kernel
set_option maxRecDepth 100000 in
set_option maxHeartbeats 4000000 in
theorem c_J7_checkLength_df160 (l : Launch) (D : va_G) (g : xG) (tb : List xQ) (hT : x_T g tb) {a0 : Int32} {a1 : Int32}  {M M' : xM} (hf : f_J7_checkLength_df160 a0 a1 M = some M') :
    cV l D g tb yJ7_checkLength_df160 cJ7_checkLength_df160 2 ({ frames := 0, cells := 0, slots := 0, locals := 0 } : Room) [.int a0, .int a1] M M' := by
  refine x_startV (own := RJ7) (by decide +kernel) rfl rfl (Nat.le_of_ble_eq_true rfl) hT ?_
  intro p e s m args below meth c Q C0 hend
  unfold f_J7_checkLength_df160 at hf
  refine r_iload_n C0 (kk := 1) 1 rfl dJ7_checkLength_df160_0 ?_
  refine r_iload_n C0 (kk := 0) 0 rfl dJ7_checkLength_df160_1 ?_
  refine r_icmp_ge C0 (tgt := 37) (by decide) dJ7_checkLength_df160_2 (fun q1 => ?_) (fun q1 => ?_)
  · have hf := ie_t hf q1
    exact hend hf dJ7_checkLength_df160_37
  · have hf := ie_f hf q1
    exact none_ne hf
