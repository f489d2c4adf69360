theorem dX6_readCommands_0 : decode cX6_readCommands 0 = .ok (.iconst 0, 1) := by decide +kernel
theorem dX6_readCommands_1 : decode cX6_readCommands 1 = .ok (.istore_n 1, 1) := by decide +kernel
theorem dX6_readCommands_2 : decode cX6_readCommands 2 = .ok (.iload_n 1, 1) := by decide +kernel
theorem dX6_readCommands_3 : decode cX6_readCommands 3 = .ok (.bipush 40, 2) := by decide +kernel
theorem dX6_readCommands_5 : decode cX6_readCommands 5 = .ok (.if_icmp .gt 51, 3) := by decide +kernel
theorem dX6_readCommands_8 : decode cX6_readCommands 8 = .ok (.aload_n 0, 1) := by decide +kernel
theorem dX6_readCommands_9 : decode cX6_readCommands 9 = .ok (.getfield 25, 3) := by decide +kernel
theorem dX6_readCommands_12 : decode cX6_readCommands 12 = .ok (.aload_n 0, 1) := by decide +kernel
theorem dX6_readCommands_13 : decode cX6_readCommands 13 = .ok (.getfield 16, 3) := by decide +kernel
theorem dX6_readCommands_16 : decode cX6_readCommands 16 = .ok (.iload_n 1, 1) := by decide +kernel
theorem dX6_readCommands_17 : decode cX6_readCommands 17 = .ok (.invokevirtual 99, 3) := by decide +kernel
theorem dX6_readCommands_20 : decode cX6_readCommands 20 = .ok (.ifCond .ne 19, 3) := by decide +kernel
theorem dX6_readCommands_23 : decode cX6_readCommands 23 = .ok (.aload_n 0, 1) := by decide +kernel
theorem dX6_readCommands_24 : decode cX6_readCommands 24 = .ok (.getfield 25, 3) := by decide +kernel
theorem dX6_readCommands_27 : decode cX6_readCommands 27 = .ok (.getfield 86, 3) := by decide +kernel
theorem dX6_readCommands_30 : decode cX6_readCommands 30 = .ok (.ifCond .ne 7, 3) := by decide +kernel
theorem dX6_readCommands_33 : decode cX6_readCommands 33 = .ok (.iload_n 1, 1) := by decide +kernel
theorem dX6_readCommands_34 : decode cX6_readCommands 34 = .ok (.goto 4, 3) := by decide +kernel
theorem dX6_readCommands_37 : decode cX6_readCommands 37 = .ok (.iconst (-1), 1) := by decide +kernel
theorem dX6_readCommands_38 : decode cX6_readCommands 38 = .ok (.ireturn, 1) := by decide +kernel
theorem dX6_readCommands_39 : decode cX6_readCommands 39 = .ok (.aload_n 0, 1) := by decide +kernel
theorem dX6_readCommands_40 : decode cX6_readCommands 40 = .ok (.getfield 16, 3) := by decide +kernel
theorem dX6_readCommands_43 : decode cX6_readCommands 43 = .ok (.aload_n 0, 1) := by decide +kernel
theorem dX6_readCommands_44 : decode cX6_readCommands 44 = .ok (.getfield 25, 3) := by decide +kernel
theorem dX6_readCommands_47 : decode cX6_readCommands 47 = .ok (.invokevirtual 103, 3) := by decide +kernel
theorem dX6_readCommands_50 : decode cX6_readCommands 50 = .ok (.iinc 1 1, 3) := by decide +kernel
theorem dX6_readCommands_53 : decode cX6_readCommands 53 = .ok (.goto (-51), 3) := by decide +kernel
theorem dX6_readCommands_56 : decode cX6_readCommands 56 = .ok (.iconst (-1), 1) := by decide +kernel
theorem dX6_readCommands_57 : decode cX6_readCommands 57 = .ok (.ireturn, 1) := by decide +kernel
theorem hd_X6_readCommands : yX6_readCommands.cls = RX6 ∧ yX6_readCommands.cls ≠ "java/lang/invoke/MethodHandle" ∧ yX6_readCommands.cls ≠ "java/lang/invoke/VarHandle" ∧ (parseMethodDescriptor yX6_readCommands.desc).map (fun d => d.parameters.length) = some 0 := by decide +kernel
set_option maxRecDepth 100000 in
set_option maxHeartbeats 4000000 in
theorem c_X6_readCommands (l : Launch) (D : va_G) (g : xG) (tb : List xQ) (hT : x_T g tb)  (h0 : x_fb tb) {M : xM} {r : Int32} {M' : xM} (hf : f_X6_readCommands  M = some (r, M')) :
    cI l D g tb yX6_readCommands cX6_readCommands 2 .int ({ frames := 8, cells := 0, slots := 0, locals := 174 } : Room) [.ref (g.1 4 1664)] M r M' := by
  refine x_startI (own := RX6) (by decide +kernel) rfl rfl (Nat.le_of_ble_eq_true rfl) hT ?_
  intro p e s m args below meth c Q C0 hend
  have B2 : ∀ (k2 : Int32 → xM → Option (Int32 × xM)) (hk2 : ∀ (v1 : Int32)  (M : xM), k2 v1 M = some (r, M') → WW p l e ({ frames := 8, cells := 0, slots := 0, locals := 174 } : Room) s m args below meth c 0 0 Q 2 D g tb 2 [(0, .ref (g.1 4 1664)), (1, .int v1)] [] M), ∀ (v1 : Int32)  (M : xM), fb_X6_readCommands_c2 k2  v1 M = some (r, M') → WW p l e ({ frames := 8, cells := 0, slots := 0, locals := 174 } : Room) s m args below meth c 0 0 Q 2 D g tb 2 [(0, .ref (g.1 4 1664)), (1, .int v1)] [] M := by
    intro k2 hk2 v1  M hf
    unfold fb_X6_readCommands_c2 at hf
    refine r_iload_n C0 (kk := 1) 1 rfl dX6_readCommands_2 ?_
    refine r_bipush C0 (v := 40) dX6_readCommands_3 rfl ?_
    refine r_icmp_gt C0 (tgt := 56) (by decide) dX6_readCommands_5 (fun q1 => ?_) (fun q1 => ?_)
    · have hf := ie_t hf q1
      refine r_iconst C0 (v := (-1)) dX6_readCommands_56 rfl ?_
      exact hend hf dX6_readCommands_57
    · have hf := ie_f hf q1
      refine r_aload_n C0 (kk := 0) 0 rfl dX6_readCommands_8 ?_
      refine r_get4 C0 h0.1 3 (by decide) (v := .ref (g.1 3 1777)) rfl rfl w3_105 dX6_readCommands_9 ?_
      refine r_aload_n C0 (kk := 0) 0 rfl dX6_readCommands_12 ?_
      refine r_get4 C0 h0.1 1 (by decide) (v := .ref (g.1 2 128)) rfl rfl w3_103 dX6_readCommands_13 ?_
      refine r_iload_n C0 (kk := 1) 1 rfl dX6_readCommands_16 ?_
      obtain ⟨r4, M3, hc2, hf⟩ := bd2_e hf
      refine r_callVi C0 (As := [.ref (g.1 2 128), .int v1]) (rest := []) (c_X3_readCommand l D g tb hT h0.2.2.2.2.1 h0.2.2.1 hc2) w2_130 w2_131 w2_132 w1_5 w2_133 (x_rec3 C0 h0.2.2.2.2.1.1) hd_X3_readCommand rfl ⟨rfl, rfl⟩ ⟨Nat.le_of_ble_eq_true rfl, Nat.le_of_ble_eq_true rfl⟩ (by decide) (by decide) rfl (Nat.le_of_ble_eq_true rfl) dX6_readCommands_17 ?_
      refine r_if_ne C0 (tgt := 39) (by decide) dX6_readCommands_20 (fun q5 => ?_) (fun q5 => ?_)
      · have hf := ie_f hf q5
        refine r_aload_n C0 (kk := 0) 0 rfl dX6_readCommands_39 ?_
        refine r_get4 C0 h0.1 1 (by decide) (v := .ref (g.1 2 128)) rfl rfl w3_103 dX6_readCommands_40 ?_
        refine r_aload_n C0 (kk := 0) 0 rfl dX6_readCommands_43 ?_
        refine r_get4 C0 h0.1 3 (by decide) (v := .ref (g.1 3 1777)) rfl rfl w3_105 dX6_readCommands_44 ?_
        obtain ⟨M7, hc6, hf⟩ := bd_e hf
        refine r_callVv C0 (As := [.ref (g.1 3 1777)]) (rest := []) (c_X2_perform l D g tb hT h0.2.2.1 h0.2.2.2.2.1 hc6) w2_205 w2_206 w2_207 w1_2 w2_208 (x_rec2 C0 h0.2.2.1.1) hd_X2_perform rfl ⟨rfl, rfl⟩ ⟨Nat.le_of_ble_eq_true rfl, Nat.le_of_ble_eq_true rfl⟩ (by decide) (by decide) rfl (Nat.le_of_ble_eq_true rfl) dX6_readCommands_47 ?_
        refine r_iincc C0 1 rfl (k0 := 1) (by decide) (by decide) (lv2 := [(1, .int (v1 + 1)), (0, .ref (g.1 4 1664))]) rfl dX6_readCommands_50 ?_
        refine r_goto C0 (tgt := 2) (by decide) dX6_readCommands_53 ?_
        refine WW.sub [1, 0] rfl ?_
        exact hk2 _   _ hf
      · have hf := ie_t hf q5
        refine r_aload_n C0 (kk := 0) 0 rfl dX6_readCommands_23 ?_
        refine r_get4 C0 h0.1 3 (by decide) (v := .ref (g.1 3 1777)) rfl rfl w3_105 dX6_readCommands_24 ?_
        refine r_get3 C0 h0.2.2.2.2.1.1 2 (by decide) (v := .int (M3 1779)) rfl rfl w1_206 dX6_readCommands_27 ?_
        refine r_if_ne C0 (tgt := 37) (by decide) dX6_readCommands_30 (fun q8 => ?_) (fun q8 => ?_)
        · have hf := ie_f hf q8
          refine r_iconst C0 (v := (-1)) dX6_readCommands_37 rfl ?_
          exact hend hf dX6_readCommands_38
        · have hf := ie_t hf q8
          refine r_iload_n C0 (kk := 1) 1 rfl dX6_readCommands_33 ?_
          refine r_goto C0 (tgt := 38) (by decide) dX6_readCommands_34 ?_
          exact hend hf dX6_readCommands_38
  have L2 : ∀ (v1 : Int32)  (M : xM), f_X6_readCommands_c2   v1 M = some (r, M') → WW p l e ({ frames := 8, cells := 0, slots := 0, locals := 174 } : Room) s m args below meth c 0 0 Q 2 D g tb 2 [(0, .ref (g.1 4 1664)), (1, .int v1)] [] M := lp_ind (P := fun f => ∀ (v1 : Int32)  (M : xM), f v1 M = some (r, M') → WW p l e ({ frames := 8, cells := 0, slots := 0, locals := 174 } : Room) s m args below meth c 0 0 Q 2 D g tb 2 [(0, .ref (g.1 4 1664)), (1, .int v1)] [] M) (fun _ _ h => none_ne h) (fun f hf => B2 f hf) FU
  unfold f_X6_readCommands at hf
  refine r_iconst C0 (v := 0) dX6_readCommands_0 rfl ?_
  refine r_istore_n C0 (kk := 1) (lv2 := [(1, .int 0), (0, .ref (g.1 4 1664))]) (by decide) rfl dX6_readCommands_1 ?_
  refine WW.sub [1, 0] rfl ?_
  exact L2   _   _ hf
theorem dX6_runScript_0 : decode cX6_runScript 0 = .ok (.aload_n 0, 1) := by decide +kernel
theorem dX6_runScript_1 : decode cX6_runScript 1 = .ok (.getfield 16, 3) := by decide +kernel
theorem dX6_runScript_4 : decode cX6_runScript 4 = .ok (.aload_n 0, 1) := by decide +kernel
theorem dX6_runScript_5 : decode cX6_runScript 5 = .ok (.getfield 10, 3) := by decide +kernel
theorem dX6_runScript_8 : decode cX6_runScript 8 = .ok (.invokevirtual 69, 3) := by decide +kernel
theorem dX6_runScript_11 : decode cX6_runScript 11 = .ok (.aload_n 0, 1) := by decide +kernel
theorem dX6_runScript_12 : decode cX6_runScript 12 = .ok (.getfield 25, 3) := by decide +kernel
theorem dX6_runScript_15 : decode cX6_runScript 15 = .ok (.invokevirtual 73, 3) := by decide +kernel
theorem dX6_runScript_18 : decode cX6_runScript 18 = .ok (.aload_n 0, 1) := by decide +kernel
theorem dX6_runScript_19 : decode cX6_runScript 19 = .ok (.invokevirtual 76, 3) := by decide +kernel
theorem dX6_runScript_22 : decode cX6_runScript 22 = .ok (.istore_n 1, 1) := by decide +kernel
theorem dX6_runScript_23 : decode cX6_runScript 23 = .ok (.aload_n 0, 1) := by decide +kernel
theorem dX6_runScript_24 : decode cX6_runScript 24 = .ok (.getfield 25, 3) := by decide +kernel
theorem dX6_runScript_27 : decode cX6_runScript 27 = .ok (.invokevirtual 80, 3) := by decide +kernel
theorem dX6_runScript_30 : decode cX6_runScript 30 = .ok (.iload_n 1, 1) := by decide +kernel
theorem dX6_runScript_31 : decode cX6_runScript 31 = .ok (.iconst (-1), 1) := by decide +kernel
theorem dX6_runScript_32 : decode cX6_runScript 32 = .ok (.if_icmp .ne 5, 3) := by decide +kernel
theorem dX6_runScript_35 : decode cX6_runScript 35 = .ok (.iconst (-1), 1) := by decide +kernel
theorem dX6_runScript_36 : decode cX6_runScript 36 = .ok (.ireturn, 1) := by decide +kernel
theorem dX6_runScript_37 : decode cX6_runScript 37 = .ok (.aload_n 0, 1) := by decide +kernel
theorem dX6_runScript_38 : decode cX6_runScript 38 = .ok (.invokevirtual 83, 3) := by decide +kernel
theorem dX6_runScript_41 : decode cX6_runScript 41 = .ok (.aload_n 0, 1) := by decide +kernel
theorem dX6_runScript_42 : decode cX6_runScript 42 = .ok (.getfield 10, 3) := by decide +kernel
theorem dX6_runScript_45 : decode cX6_runScript 45 = .ok (.aload_n 0, 1) := by decide +kernel
theorem dX6_runScript_46 : decode cX6_runScript 46 = .ok (.getfield 16, 3) := by decide +kernel
theorem dX6_runScript_49 : decode cX6_runScript 49 = .ok (.invokevirtual 69, 3) := by decide +kernel
theorem dX6_runScript_52 : decode cX6_runScript 52 = .ok (.iload_n 1, 1) := by decide +kernel
theorem dX6_runScript_53 : decode cX6_runScript 53 = .ok (.ireturn, 1) := by decide +kernel
theorem hd_X6_runScript : yX6_runScript.cls = RX6 ∧ yX6_runScript.cls ≠ "java/lang/invoke/MethodHandle" ∧ yX6_runScript.cls ≠ "java/lang/invoke/VarHandle" ∧ (parseMethodDescriptor yX6_runScript.desc).map (fun d => d.parameters.length) = some 0 := by decide +kernel
set_option maxRecDepth 100000 in
set_option maxHeartbeats 4000000 in
theorem c_X6_runScript (l : Launch) (D : va_G) (g : xG) (tb : List xQ) (hT : x_T g tb)  (h0 : x_fb tb) {M : xM} {r : Int32} {M' : xM} (hf : f_X6_runScript  M = some (r, M')) :
    cI l D g tb yX6_runScript cX6_runScript 2 .int ({ frames := 9, cells := 0, slots := 0, locals := 195 } : Room) [.ref (g.1 4 1664)] M r M' := by
  refine x_startI (own := RX6) (by decide +kernel) rfl rfl (Nat.le_of_ble_eq_true rfl) hT ?_
  intro p e s m args below meth c Q C0 hend
  unfold f_X6_runScript at hf
  refine r_aload_n C0 (kk := 0) 0 rfl dX6_runScript_0 ?_
  refine r_get4 C0 h0.1 1 (by decide) (v := .ref (g.1 2 128)) rfl rfl w3_103 dX6_runScript_1 ?_
  refine r_aload_n C0 (kk := 0) 0 rfl dX6_runScript_4 ?_
  refine r_get4 C0 h0.1 0 (by decide) (v := .ref (g.1 2 0)) rfl rfl w3_102 dX6_runScript_5 ?_
  obtain ⟨M2, hc1, hf⟩ := bd_e hf
  refine r_callVv C0 (As := [.ref (g.1 2 0)]) (rest := []) (c_X2_copyFrom l D g tb hT h0.2.2.1 h0.2.1 hc1) w3_86 w3_87 w3_88 w1_2 w3_89 (x_rec2 C0 h0.2.2.1.1) hd_X2_copyFrom rfl ⟨rfl, rfl⟩ ⟨Nat.le_of_ble_eq_true rfl, Nat.le_of_ble_eq_true rfl⟩ (by decide) (by decide) rfl (Nat.le_of_ble_eq_true rfl) dX6_runScript_8 ?_
  refine r_aload_n C0 (kk := 0) 0 rfl dX6_runScript_11 ?_
  refine r_get4 C0 h0.1 3 (by decide) (v := .ref (g.1 3 1777)) rfl rfl w3_105 dX6_runScript_12 ?_
  obtain ⟨M4, hc3, hf⟩ := bd_e hf
  refine r_callVv C0 (As := []) (rest := []) (c_X3_begin l D g tb hT h0.2.2.2.2.1 hc3) w2_61 w2_62 w2_63 w1_5 w2_64 (x_rec3 C0 h0.2.2.2.2.1.1) hd_X3_begin rfl ⟨rfl, rfl⟩ ⟨Nat.le_of_ble_eq_true rfl, Nat.le_of_ble_eq_true rfl⟩ (by decide) (by decide) rfl (Nat.le_of_ble_eq_true rfl) dX6_runScript_15 ?_
  refine r_aload_n C0 (kk := 0) 0 rfl dX6_runScript_18 ?_
  obtain ⟨r7, M6, hc5, hf⟩ := bd2_e hf
  refine r_callVi C0 (As := []) (rest := []) (c_X6_readCommands l D g tb hT h0 hc5) w2_126 w2_128 wp1_12 w1_1 w2_129 (x_rec4 C0 h0.1) hd_X6_readCommands rfl ⟨rfl, rfl⟩ ⟨Nat.le_of_ble_eq_true rfl, Nat.le_of_ble_eq_true rfl⟩ (by decide) (by decide) rfl (Nat.le_of_ble_eq_true rfl) dX6_runScript_19 ?_
  refine r_istore_n C0 (kk := 1) (lv2 := [(1, .int r7), (0, .ref (g.1 4 1664))]) (by decide) rfl dX6_runScript_22 ?_
  refine r_aload_n C0 (kk := 0) 1 rfl dX6_runScript_23 ?_
  refine r_get4 C0 h0.1 3 (by decide) (v := .ref (g.1 3 1777)) rfl rfl w3_105 dX6_runScript_24 ?_
  obtain ⟨M9, hc8, hf⟩ := bd_e hf
  refine r_callVv C0 (As := []) (rest := []) (c_X3_clear l D g tb hT h0.2.2.2.2.1 hc8) w3_82 w3_83 w3_84 w1_5 w3_85 (x_rec3 C0 h0.2.2.2.2.1.1) hd_X3_clear rfl ⟨rfl, rfl⟩ ⟨Nat.le_of_ble_eq_true rfl, Nat.le_of_ble_eq_true rfl⟩ (by decide) (by decide) rfl (Nat.le_of_ble_eq_true rfl) dX6_runScript_27 ?_
  refine r_iload_n C0 (kk := 1) 0 rfl dX6_runScript_30 ?_
  refine r_iconst C0 (v := (-1)) dX6_runScript_31 rfl ?_
  refine r_icmp_ne C0 (tgt := 37) (by decide) dX6_runScript_32 (fun q10 => ?_) (fun q10 => ?_)
  · have hf := ie_f hf q10
    refine r_aload_n C0 (kk := 0) 1 rfl dX6_runScript_37 ?_
    obtain ⟨M12, hc11, hf⟩ := bd_e hf
    refine r_callVv C0 (As := []) (rest := []) (c_X6_remember l D g tb hT h0 hc11) w3_156 w3_158 wp2_7 w1_1 w3_159 (x_rec4 C0 h0.1) hd_X6_remember rfl ⟨rfl, rfl⟩ ⟨Nat.le_of_ble_eq_true rfl, Nat.le_of_ble_eq_true rfl⟩ (by decide) (by decide) rfl (Nat.le_of_ble_eq_true rfl) dX6_runScript_38 ?_
    refine r_aload_n C0 (kk := 0) 1 rfl dX6_runScript_41 ?_
    refine r_get4 C0 h0.1 0 (by decide) (v := .ref (g.1 2 0)) rfl rfl w3_102 dX6_runScript_42 ?_
    refine r_aload_n C0 (kk := 0) 1 rfl dX6_runScript_45 ?_
    refine r_get4 C0 h0.1 1 (by decide) (v := .ref (g.1 2 128)) rfl rfl w3_103 dX6_runScript_46 ?_
    obtain ⟨M14, hc13, hf⟩ := bd_e hf
    refine r_callVv C0 (As := [.ref (g.1 2 128)]) (rest := []) (c_X2_copyFrom l D g tb hT h0.2.1 h0.2.2.1 hc13) w3_86 w3_87 w3_88 w1_2 w3_89 (x_rec2 C0 h0.2.1.1) hd_X2_copyFrom rfl ⟨rfl, rfl⟩ ⟨Nat.le_of_ble_eq_true rfl, Nat.le_of_ble_eq_true rfl⟩ (by decide) (by decide) rfl (Nat.le_of_ble_eq_true rfl) dX6_runScript_49 ?_
    refine r_iload_n C0 (kk := 1) 0 rfl dX6_runScript_52 ?_
    exact hend hf dX6_runScript_53
  · have hf := ie_t hf q10
    refine r_iconst C0 (v := (-1)) dX6_runScript_35 rfl ?_
    exact hend hf dX6_runScript_36
theorem dX6_replaceMarket_0 : decode cX6_replaceMarket 0 = .ok (.aload_n 0, 1) := by decide +kernel
theorem dX6_replaceMarket_1 : decode cX6_replaceMarket 1 = .ok (.getfield 25, 3) := by decide +kernel
theorem dX6_replaceMarket_4 : decode cX6_replaceMarket 4 = .ok (.invokevirtual 73, 3) := by decide +kernel
theorem dX6_replaceMarket_7 : decode cX6_replaceMarket 7 = .ok (.aload_n 0, 1) := by decide +kernel
theorem dX6_replaceMarket_8 : decode cX6_replaceMarket 8 = .ok (.getfield 25, 3) := by decide +kernel
theorem dX6_replaceMarket_11 : decode cX6_replaceMarket 11 = .ok (.aload_n 0, 1) := by decide +kernel
theorem dX6_replaceMarket_12 : decode cX6_replaceMarket 12 = .ok (.getfield 16, 3) := by decide +kernel
theorem dX6_replaceMarket_15 : decode cX6_replaceMarket 15 = .ok (.invokevirtual 92, 3) := by decide +kernel
theorem dX6_replaceMarket_18 : decode cX6_replaceMarket 18 = .ok (.ifCond .eq 15, 3) := by decide +kernel
theorem dX6_replaceMarket_21 : decode cX6_replaceMarket 21 = .ok (.aload_n 0, 1) := by decide +kernel
theorem dX6_replaceMarket_22 : decode cX6_replaceMarket 22 = .ok (.invokevirtual 76, 3) := by decide +kernel
theorem dX6_replaceMarket_25 : decode cX6_replaceMarket 25 = .ok (.iconst (-1), 1) := by decide +kernel
theorem dX6_replaceMarket_26 : decode cX6_replaceMarket 26 = .ok (.if_icmp .eq 7, 3) := by decide +kernel
theorem dX6_replaceMarket_29 : decode cX6_replaceMarket 29 = .ok (.iconst 1, 1) := by decide +kernel
theorem dX6_replaceMarket_30 : decode cX6_replaceMarket 30 = .ok (.goto 4, 3) := by decide +kernel
theorem dX6_replaceMarket_33 : decode cX6_replaceMarket 33 = .ok (.iconst 0, 1) := by decide +kernel
theorem dX6_replaceMarket_34 : decode cX6_replaceMarket 34 = .ok (.istore_n 1, 1) := by decide +kernel
theorem dX6_replaceMarket_35 : decode cX6_replaceMarket 35 = .ok (.aload_n 0, 1) := by decide +kernel
theorem dX6_replaceMarket_36 : decode cX6_replaceMarket 36 = .ok (.getfield 25, 3) := by decide +kernel
theorem dX6_replaceMarket_39 : decode cX6_replaceMarket 39 = .ok (.invokevirtual 80, 3) := by decide +kernel
theorem dX6_replaceMarket_42 : decode cX6_replaceMarket 42 = .ok (.iload_n 1, 1) := by decide +kernel
theorem dX6_replaceMarket_43 : decode cX6_replaceMarket 43 = .ok (.ifCond .ne 5, 3) := by decide +kernel
theorem dX6_replaceMarket_46 : decode cX6_replaceMarket 46 = .ok (.iconst 0, 1) := by decide +kernel
theorem dX6_replaceMarket_47 : decode cX6_replaceMarket 47 = .ok (.ireturn, 1) := by decide +kernel
theorem dX6_replaceMarket_48 : decode cX6_replaceMarket 48 = .ok (.aload_n 0, 1) := by decide +kernel
theorem dX6_replaceMarket_49 : decode cX6_replaceMarket 49 = .ok (.getfield 10, 3) := by decide +kernel
theorem dX6_replaceMarket_52 : decode cX6_replaceMarket 52 = .ok (.aload_n 0, 1) := by decide +kernel
theorem dX6_replaceMarket_53 : decode cX6_replaceMarket 53 = .ok (.getfield 16, 3) := by decide +kernel
theorem dX6_replaceMarket_56 : decode cX6_replaceMarket 56 = .ok (.invokevirtual 69, 3) := by decide +kernel
theorem dX6_replaceMarket_59 : decode cX6_replaceMarket 59 = .ok (.aload_n 0, 1) := by decide +kernel
theorem dX6_replaceMarket_60 : decode cX6_replaceMarket 60 = .ok (.invokevirtual 96, 3) := by decide +kernel
theorem dX6_replaceMarket_63 : decode cX6_replaceMarket 63 = .ok (.iconst 0, 1) := by decide +kernel
theorem dX6_replaceMarket_64 : decode cX6_replaceMarket 64 = .ok (.istore_n 2, 1) := by decide +kernel
theorem dX6_replaceMarket_65 : decode cX6_replaceMarket 65 = .ok (.iload_n 2, 1) := by decide +kernel
theorem dX6_replaceMarket_66 : decode cX6_replaceMarket 66 = .ok (.aload_n 0, 1) := by decide +kernel
theorem dX6_replaceMarket_67 : decode cX6_replaceMarket 67 = .ok (.getfield 36, 3) := by decide +kernel
theorem dX6_replaceMarket_70 : decode cX6_replaceMarket 70 = .ok (.arraylength, 1) := by decide +kernel
theorem dX6_replaceMarket_71 : decode cX6_replaceMarket 71 = .ok (.if_icmp .ge 16, 3) := by decide +kernel
theorem dX6_replaceMarket_74 : decode cX6_replaceMarket 74 = .ok (.aload_n 0, 1) := by decide +kernel
theorem dX6_replaceMarket_75 : decode cX6_replaceMarket 75 = .ok (.getfield 36, 3) := by decide +kernel
theorem dX6_replaceMarket_78 : decode cX6_replaceMarket 78 = .ok (.iload_n 2, 1) := by decide +kernel
theorem dX6_replaceMarket_79 : decode cX6_replaceMarket 79 = .ok (.iconst 0, 1) := by decide +kernel
theorem dX6_replaceMarket_80 : decode cX6_replaceMarket 80 = .ok (.bastore, 1) := by decide +kernel
theorem dX6_replaceMarket_81 : decode cX6_replaceMarket 81 = .ok (.iinc 2 1, 3) := by decide +kernel
theorem dX6_replaceMarket_84 : decode cX6_replaceMarket 84 = .ok (.goto (-19), 3) := by decide +kernel
theorem dX6_replaceMarket_87 : decode cX6_replaceMarket 87 = .ok (.iconst 1, 1) := by decide +kernel
theorem dX6_replaceMarket_88 : decode cX6_replaceMarket 88 = .ok (.ireturn, 1) := by decide +kernel
theorem hd_X6_replaceMarket : yX6_replaceMarket.cls = RX6 ∧ yX6_replaceMarket.cls ≠ "java/lang/invoke/MethodHandle" ∧ yX6_replaceMarket.cls ≠ "java/lang/invoke/VarHandle" ∧ (parseMethodDescriptor yX6_replaceMarket.desc).map (fun d => d.parameters.length) = some 0 := by decide +kernel
set_option maxRecDepth 100000 in
set_option maxHeartbeats 4000000 in
theorem c_X6_replaceMarket (l : Launch) (D : va_G) (g : xG) (tb : List xQ) (hT : x_T g tb)  (h0 : x_fb tb) {M : xM} {r : Int32} {M' : xM} (hf : f_X6_replaceMarket  M = some (r, M')) :
    cI l D g tb yX6_replaceMarket cX6_replaceMarket 3 .boolean ({ frames := 9, cells := 0, slots := 0, locals := 195 } : Room) [.ref (g.1 4 1664)] M r M' := by
  refine x_startZ (own := RX6) (by decide +kernel) rfl rfl (Nat.le_of_ble_eq_true rfl) hT ?_
  intro p e s m args below meth c Q C0 hend
  have B65 : ∀ (k65 : Int32 → xM → Option (Int32 × xM)) (hk65 : ∀ (v2 : Int32)  (M : xM), k65 v2 M = some (r, M') → WW p l e ({ frames := 9, cells := 0, slots := 0, locals := 195 } : Room) s m args below meth c 0 0 Q 3 D g tb 65 [(0, .ref (g.1 4 1664)), (2, .int v2)] [] M), ∀ (v2 : Int32)  (M : xM), fb_X6_replaceMarket_c65 k65  v2 M = some (r, M') → WW p l e ({ frames := 9, cells := 0, slots := 0, locals := 195 } : Room) s m args below meth c 0 0 Q 3 D g tb 65 [(0, .ref (g.1 4 1664)), (2, .int v2)] [] M := by
    intro k65 hk65 v2  M hf
    unfold fb_X6_replaceMarket_c65 at hf
    refine r_iload_n C0 (kk := 2) 1 rfl dX6_replaceMarket_65 ?_
    refine r_aload_n C0 (kk := 0) 0 rfl dX6_replaceMarket_66 ?_
    refine r_get4 C0 h0.1 8 (by decide) (v := .ref (g.1 8 1675)) rfl rfl w3_110 dX6_replaceMarket_67 ?_
    refine r_alen8 C0 h0.2.2.2.2.2.2.2.1 (v := 2) rfl dX6_replaceMarket_70 ?_
    refine r_icmp_ge C0 (tgt := 87) (by decide) dX6_replaceMarket_71 (fun q18 => ?_) (fun q18 => ?_)
    · have hf := ie_t hf q18
      refine r_iconst C0 (v := 1) dX6_replaceMarket_87 rfl ?_
      exact hend (by decide) hf dX6_replaceMarket_88
    · have hf := ie_f hf q18
      refine r_aload_n C0 (kk := 0) 0 rfl dX6_replaceMarket_74 ?_
      refine r_get4 C0 h0.1 8 (by decide) (v := .ref (g.1 8 1675)) rfl rfl w3_110 dX6_replaceMarket_75 ?_
      refine r_iload_n C0 (kk := 2) 1 rfl dX6_replaceMarket_78 ?_
      refine r_iconst C0 (v := 0) dX6_replaceMarket_79 rfl ?_
      obtain ⟨q19, hf⟩ := gd_e hf
      refine r_zastc C0 h0.2.2.2.2.2.2.2.1 q19 rfl dX6_replaceMarket_80 ?_
      refine r_iincc C0 1 rfl (k0 := 1) (by decide) (by decide) (lv2 := [(2, .int (v2 + 1)), (0, .ref (g.1 4 1664))]) rfl dX6_replaceMarket_81 ?_
      refine r_goto C0 (tgt := 65) (by decide) dX6_replaceMarket_84 ?_
      refine WW.sub [1, 0] rfl ?_
      exact hk65 _   _ hf
  have L65 : ∀ (v2 : Int32)  (M : xM), f_X6_replaceMarket_c65   v2 M = some (r, M') → WW p l e ({ frames := 9, cells := 0, slots := 0, locals := 195 } : Room) s m args below meth c 0 0 Q 3 D g tb 65 [(0, .ref (g.1 4 1664)), (2, .int v2)] [] M := lp_ind (P := fun f => ∀ (v2 : Int32)  (M : xM), f v2 M = some (r, M') → WW p l e ({ frames := 9, cells := 0, slots := 0, locals := 195 } : Room) s m args below meth c 0 0 Q 3 D g tb 65 [(0, .ref (g.1 4 1664)), (2, .int v2)] [] M) (fun _ _ h => none_ne h) (fun f hf => B65 f hf) FU
  have B34 : ∀ (s0 : Int32)  (M : xM), f_X6_replaceMarket_c34   s0 M = some (r, M') → WW p l e ({ frames := 9, cells := 0, slots := 0, locals := 195 } : Room) s m args below meth c 0 0 Q 3 D g tb 34 [(0, .ref (g.1 4 1664))] [.int s0] M := by
    intro   s0  M hf
    unfold f_X6_replaceMarket_c34 at hf
    refine r_istore_n C0 (kk := 1) (lv2 := [(1, .int s0), (0, .ref (g.1 4 1664))]) (by decide) rfl dX6_replaceMarket_34 ?_
    refine r_aload_n C0 (kk := 0) 1 rfl dX6_replaceMarket_35 ?_
    refine r_get4 C0 h0.1 3 (by decide) (v := .ref (g.1 3 1777)) rfl rfl w3_105 dX6_replaceMarket_36 ?_
    obtain ⟨M12, hc11, hf⟩ := bd_e hf
    refine r_callVv C0 (As := []) (rest := []) (c_X3_clear l D g tb hT h0.2.2.2.2.1 hc11) w3_82 w3_83 w3_84 w1_5 w3_85 (x_rec3 C0 h0.2.2.2.2.1.1) hd_X3_clear rfl ⟨rfl, rfl⟩ ⟨Nat.le_of_ble_eq_true rfl, Nat.le_of_ble_eq_true rfl⟩ (by decide) (by decide) rfl (Nat.le_of_ble_eq_true rfl) dX6_replaceMarket_39 ?_
    refine r_iload_n C0 (kk := 1) 0 rfl dX6_replaceMarket_42 ?_
    refine r_if_ne C0 (tgt := 48) (by decide) dX6_replaceMarket_43 (fun q13 => ?_) (fun q13 => ?_)
    · have hf := ie_f hf q13
      refine r_aload_n C0 (kk := 0) 1 rfl dX6_replaceMarket_48 ?_
      refine r_get4 C0 h0.1 0 (by decide) (v := .ref (g.1 2 0)) rfl rfl w3_102 dX6_replaceMarket_49 ?_
      refine r_aload_n C0 (kk := 0) 1 rfl dX6_replaceMarket_52 ?_
      refine r_get4 C0 h0.1 1 (by decide) (v := .ref (g.1 2 128)) rfl rfl w3_103 dX6_replaceMarket_53 ?_
      obtain ⟨M15, hc14, hf⟩ := bd_e hf
      refine r_callVv C0 (As := [.ref (g.1 2 128)]) (rest := []) (c_X2_copyFrom l D g tb hT h0.2.1 h0.2.2.1 hc14) w3_86 w3_87 w3_88 w1_2 w3_89 (x_rec2 C0 h0.2.1.1) hd_X2_copyFrom rfl ⟨rfl, rfl⟩ ⟨Nat.le_of_ble_eq_true rfl, Nat.le_of_ble_eq_true rfl⟩ (by decide) (by decide) rfl (Nat.le_of_ble_eq_true rfl) dX6_replaceMarket_56 ?_
      refine r_aload_n C0 (kk := 0) 1 rfl dX6_replaceMarket_59 ?_
      obtain ⟨M17, hc16, hf⟩ := bd_e hf
      refine r_callVv C0 (As := []) (rest := []) (c_X6_forgetChanges l D g tb hT h0 hc16) w3_98 w3_100 wp2_6 w1_1 w3_101 (x_rec4 C0 h0.1) hd_X6_forgetChanges rfl ⟨rfl, rfl⟩ ⟨Nat.le_of_ble_eq_true rfl, Nat.le_of_ble_eq_true rfl⟩ (by decide) (by decide) rfl (Nat.le_of_ble_eq_true rfl) dX6_replaceMarket_60 ?_
      refine r_iconst C0 (v := 0) dX6_replaceMarket_63 rfl ?_
      refine r_istore_n C0 (kk := 2) (lv2 := [(2, .int 0), (1, .int s0), (0, .ref (g.1 4 1664))]) (by decide) rfl dX6_replaceMarket_64 ?_
      refine WW.sub [2, 0] rfl ?_
      exact L65   _   _ hf
    · have hf := ie_t hf q13
      refine r_iconst C0 (v := 0) dX6_replaceMarket_46 rfl ?_
      exact hend (by decide) hf dX6_replaceMarket_47
  have B33 : ∀ (M : xM), f_X6_replaceMarket_c33   M = some (r, M') → WW p l e ({ frames := 9, cells := 0, slots := 0, locals := 195 } : Room) s m args below meth c 0 0 Q 3 D g tb 33 [(0, .ref (g.1 4 1664))] [] M := by
    intro     M hf
    unfold f_X6_replaceMarket_c33 at hf
    refine r_iconst C0 (v := 0) dX6_replaceMarket_33 rfl ?_
    exact B34   _   _ hf
  unfold f_X6_replaceMarket at hf
  refine r_aload_n C0 (kk := 0) 0 rfl dX6_replaceMarket_0 ?_
  refine r_get4 C0 h0.1 3 (by decide) (v := .ref (g.1 3 1777)) rfl rfl w3_105 dX6_replaceMarket_1 ?_
  obtain ⟨M2, hc1, hf⟩ := bd_e hf
  refine r_callVv C0 (As := []) (rest := []) (c_X3_begin l D g tb hT h0.2.2.2.2.1 hc1) w2_61 w2_62 w2_63 w1_5 w2_64 (x_rec3 C0 h0.2.2.2.2.1.1) hd_X3_begin rfl ⟨rfl, rfl⟩ ⟨Nat.le_of_ble_eq_true rfl, Nat.le_of_ble_eq_true rfl⟩ (by decide) (by decide) rfl (Nat.le_of_ble_eq_true rfl) dX6_replaceMarket_4 ?_
  refine r_aload_n C0 (kk := 0) 0 rfl dX6_replaceMarket_7 ?_
  refine r_get4 C0 h0.1 3 (by decide) (v := .ref (g.1 3 1777)) rfl rfl w3_105 dX6_replaceMarket_8 ?_
  refine r_aload_n C0 (kk := 0) 0 rfl dX6_replaceMarket_11 ?_
  refine r_get4 C0 h0.1 1 (by decide) (v := .ref (g.1 2 128)) rfl rfl w3_103 dX6_replaceMarket_12 ?_
  obtain ⟨r5, M4, hc3, hf⟩ := bd2_e hf
  refine r_callVi C0 (As := [.ref (g.1 2 128)]) (rest := []) (c_X3_readHead l D g tb hT h0.2.2.2.2.1 h0.2.2.1 hc3) w2_65 w2_66 w2_67 w1_5 w2_68 (x_rec3 C0 h0.2.2.2.2.1.1) hd_X3_readHead rfl ⟨rfl, rfl⟩ ⟨Nat.le_of_ble_eq_true rfl, Nat.le_of_ble_eq_true rfl⟩ (by decide) (by decide) rfl (Nat.le_of_ble_eq_true rfl) dX6_replaceMarket_15 ?_
  refine r_if_eq C0 (tgt := 33) (by decide) dX6_replaceMarket_18 (fun q6 => ?_) (fun q6 => ?_)
  · have hf := ie_t hf q6
    exact B33     _ hf
  · have hf := ie_f hf q6
    refine r_aload_n C0 (kk := 0) 0 rfl dX6_replaceMarket_21 ?_
    obtain ⟨r9, M8, hc7, hf⟩ := bd2_e hf
    refine r_callVi C0 (As := []) (rest := []) (c_X6_readCommands l D g tb hT h0 hc7) w2_126 w2_128 wp1_12 w1_1 w2_129 (x_rec4 C0 h0.1) hd_X6_readCommands rfl ⟨rfl, rfl⟩ ⟨Nat.le_of_ble_eq_true rfl, Nat.le_of_ble_eq_true rfl⟩ (by decide) (by decide) rfl (Nat.le_of_ble_eq_true rfl) dX6_replaceMarket_22 ?_
    refine r_iconst C0 (v := (-1)) dX6_replaceMarket_25 rfl ?_
    refine r_icmp_eq C0 (tgt := 33) (by decide) dX6_replaceMarket_26 (fun q10 => ?_) (fun q10 => ?_)
    · have hf := ie_t hf q10
      exact B33     _ hf
    · have hf := ie_f hf q10
      refine r_iconst C0 (v := 1) dX6_replaceMarket_29 rfl ?_
      refine r_goto C0 (tgt := 34) (by decide) dX6_replaceMarket_30 ?_
      exact B34   _   _ hf
theorem dX6_loadSetup_0 : decode cX6_loadSetup 0 = .ok (.aload_n 0, 1) := by decide +kernel
theorem dX6_loadSetup_1 : decode cX6_loadSetup 1 = .ok (.invokevirtual 50, 3) := by decide +kernel
theorem dX6_loadSetup_4 : decode cX6_loadSetup 4 = .ok (.ifCond .eq 13, 3) := by decide +kernel
theorem dX6_loadSetup_7 : decode cX6_loadSetup 7 = .ok (.aload_n 0, 1) := by decide +kernel
theorem dX6_loadSetup_8 : decode cX6_loadSetup 8 = .ok (.getfield 10, 3) := by decide +kernel
theorem dX6_loadSetup_11 : decode cX6_loadSetup 11 = .ok (.getfield 66, 3) := by decide +kernel
theorem dX6_loadSetup_14 : decode cX6_loadSetup 14 = .ok (.goto 4, 3) := by decide +kernel
theorem dX6_loadSetup_17 : decode cX6_loadSetup 17 = .ok (.iconst (-1), 1) := by decide +kernel
theorem dX6_loadSetup_18 : decode cX6_loadSetup 18 = .ok (.ireturn, 1) := by decide +kernel
theorem hd_X6_loadSetup : yX6_loadSetup.cls = RX6 ∧ yX6_loadSetup.cls ≠ "java/lang/invoke/MethodHandle" ∧ yX6_loadSetup.cls ≠ "java/lang/invoke/VarHandle" ∧ (parseMethodDescriptor yX6_loadSetup.desc).map (fun d => d.parameters.length) = some 0 := by decide +kernel
set_option maxRecDepth 100000 in
set_option maxHeartbeats 4000000 in
theorem c_X6_loadSetup (l : Launch) (D : va_G) (g : xG) (tb : List xQ) (hT : x_T g tb)  (h0 : x_fb tb) {M : xM} {r : Int32} {M' : xM} (hf : f_X6_loadSetup  M = some (r, M')) :
    cI l D g tb yX6_loadSetup cX6_loadSetup 1 .int ({ frames := 10, cells := 0, slots := 0, locals := 217 } : Room) [.ref (g.1 4 1664)] M r M' := by
  refine x_startI (own := RX6) (by decide +kernel) rfl rfl (Nat.le_of_ble_eq_true rfl) hT ?_
  intro p e s m args below meth c Q C0 hend
  unfold f_X6_loadSetup at hf
  refine r_aload_n C0 (kk := 0) 0 rfl dX6_loadSetup_0 ?_
  obtain ⟨r3, M2, hc1, hf⟩ := bd2_e hf
  refine r_callVi C0 (As := []) (rest := []) (c_X6_replaceMarket l D g tb hT h0 hc1) w2_57 w2_59 wp1_1 w1_1 w2_60 (x_rec4 C0 h0.1) hd_X6_replaceMarket rfl ⟨rfl, rfl⟩ ⟨Nat.le_of_ble_eq_true rfl, Nat.le_of_ble_eq_true rfl⟩ (by decide) (by decide) rfl (Nat.le_of_ble_eq_true rfl) dX6_loadSetup_1 ?_
  refine r_if_eq C0 (tgt := 17) (by decide) dX6_loadSetup_4 (fun q4 => ?_) (fun q4 => ?_)
  · have hf := ie_t hf q4
    refine r_iconst C0 (v := (-1)) dX6_loadSetup_17 rfl ?_
    exact hend hf dX6_loadSetup_18
  · have hf := ie_f hf q4
    refine r_aload_n C0 (kk := 0) 0 rfl dX6_loadSetup_7 ?_
    refine r_get4 C0 h0.1 0 (by decide) (v := .ref (g.1 2 0)) rfl rfl w3_102 dX6_loadSetup_8 ?_
    refine r_get2 C0 h0.2.1.1 1 (by decide) (v := .int (M2 9)) rfl rfl w1_139 dX6_loadSetup_11 ?_
    refine r_goto C0 (tgt := 18) (by decide) dX6_loadSetup_14 ?_
    exact hend hf dX6_loadSetup_18
theorem dX7_commandText_0 : decode cX7_commandText 0 = .ok (.aload_n 0, 1) := by decide +kernel
theorem dX7_commandText_1 : decode cX7_commandText 1 = .ok (.invokevirtual 180, 3) := by decide +kernel
theorem dX7_commandText_4 : decode cX7_commandText 4 = .ok (.aload_n 0, 1) := by decide +kernel
theorem dX7_commandText_5 : decode cX7_commandText 5 = .ok (.iload_n 1, 1) := by decide +kernel
theorem dX7_commandText_6 : decode cX7_commandText 6 = .ok (.invokevirtual 257, 3) := by decide +kernel
theorem dX7_commandText_9 : decode cX7_commandText 9 = .ok (.ifCond .eq 10, 3) := by decide +kernel
theorem dX7_commandText_12 : decode cX7_commandText 12 = .ok (.aload_n 0, 1) := by decide +kernel
theorem dX7_commandText_13 : decode cX7_commandText 13 = .ok (.invokevirtual 183, 3) := by decide +kernel
theorem dX7_commandText_16 : decode cX7_commandText 16 = .ok (.ifCond .ne 5, 3) := by decide +kernel
theorem dX7_commandText_19 : decode cX7_commandText 19 = .ok (.iconst 0, 1) := by decide +kernel
theorem dX7_commandText_20 : decode cX7_commandText 20 = .ok (.ireturn, 1) := by decide +kernel
theorem dX7_commandText_21 : decode cX7_commandText 21 = .ok (.aload_n 0, 1) := by decide +kernel
theorem dX7_commandText_22 : decode cX7_commandText 22 = .ok (.iload_n 1, 1) := by decide +kernel
theorem dX7_commandText_23 : decode cX7_commandText 23 = .ok (.invokevirtual 260, 3) := by decide +kernel
theorem dX7_commandText_26 : decode cX7_commandText 26 = .ok (.istore_n 2, 1) := by decide +kernel
theorem dX7_commandText_27 : decode cX7_commandText 27 = .ok (.iconst 1, 1) := by decide +kernel
theorem dX7_commandText_28 : decode cX7_commandText 28 = .ok (.ireturn, 1) := by decide +kernel
theorem hd_X7_commandText : yX7_commandText.cls = RX7 ∧ yX7_commandText.cls ≠ "java/lang/invoke/MethodHandle" ∧ yX7_commandText.cls ≠ "java/lang/invoke/VarHandle" ∧ (parseMethodDescriptor yX7_commandText.desc).map (fun d => d.parameters.length) = some 1 := by decide +kernel
set_option maxRecDepth 100000 in
set_option maxHeartbeats 4000000 in
theorem c_X7_commandText (l : Launch) (D : va_G) (g : xG) (tb : List xQ) (hT : x_T g tb) {a1 : Int32} (h0 : x_md tb) {M : xM} {r : Int32} {M' : xM} (hf : f_X7_commandText a1 M = some (r, M')) :
    cI l D g tb yX7_commandText cX7_commandText 3 .boolean ({ frames := 7, cells := 0, slots := 0, locals := 162 } : Room) [.ref (g.1 5 2500), .int a1] M r M' := by
  refine x_startZ (own := RX7) (by decide +kernel) rfl rfl (Nat.le_of_ble_eq_true rfl) hT ?_
  intro p e s m args below meth c Q C0 hend
  unfold f_X7_commandText at hf
  refine r_aload_n C0 (kk := 0) 0 rfl dX7_commandText_0 ?_
  obtain ⟨M2, hc1, hf⟩ := bd_e hf
  refine r_callVv C0 (As := []) (rest := []) (c_X7_next l D g tb hT h0 hc1) w6_5 w6_7 wp3_0 w1_14 w6_8 (x_rec5 C0 h0.1) hd_X7_next rfl ⟨rfl, rfl⟩ ⟨Nat.le_of_ble_eq_true rfl, Nat.le_of_ble_eq_true rfl⟩ (by decide) (by decide) rfl (Nat.le_of_ble_eq_true rfl) dX7_commandText_1 ?_
  refine r_aload_n C0 (kk := 0) 0 rfl dX7_commandText_4 ?_
  refine r_iload_n C0 (kk := 1) 1 rfl dX7_commandText_5 ?_
  obtain ⟨r5, M4, hc3, hf⟩ := bd2_e hf
  refine r_callVi C0 (As := [.int a1]) (rest := []) (c_X7_argumentsText l D g tb hT h0 hc3) w6_76 w6_78 wp3_12 w1_14 w6_79 (x_rec5 C0 h0.1) hd_X7_argumentsText rfl ⟨rfl, rfl⟩ ⟨Nat.le_of_ble_eq_true rfl, Nat.le_of_ble_eq_true rfl⟩ (by decide) (by decide) rfl (Nat.le_of_ble_eq_true rfl) dX7_commandText_6 ?_
  refine r_if_eq C0 (tgt := 19) (by decide) dX7_commandText_9 (fun q6 => ?_) (fun q6 => ?_)
  · have hf := ie_t hf q6
    refine r_iconst C0 (v := 0) dX7_commandText_19 rfl ?_
    exact hend (by decide) hf dX7_commandText_20
  · have hf := ie_f hf q6
    refine r_aload_n C0 (kk := 0) 0 rfl dX7_commandText_12 ?_
    obtain ⟨r9, M8, hc7, hf⟩ := bd2_e hf
    refine r_callVi C0 (As := []) (rest := []) (c_X7_isEnd l D g tb hT h0 hc7) w6_51 w6_53 wp3_8 w1_14 w6_54 (x_rec5 C0 h0.1) hd_X7_isEnd rfl ⟨rfl, rfl⟩ ⟨Nat.le_of_ble_eq_true rfl, Nat.le_of_ble_eq_true rfl⟩ (by decide) (by decide) rfl (Nat.le_of_ble_eq_true rfl) dX7_commandText_13 ?_
    refine r_if_ne C0 (tgt := 21) (by decide) dX7_commandText_16 (fun q10 => ?_) (fun q10 => ?_)
    · have hf := ie_f hf q10
      refine r_aload_n C0 (kk := 0) 0 rfl dX7_commandText_21 ?_
      refine r_iload_n C0 (kk := 1) 1 rfl dX7_commandText_22 ?_
      obtain ⟨r13, M12, hc11, hf⟩ := bd2_e hf
      refine r_callVi C0 (As := [.int a1]) (rest := []) (c_X7_does l D g tb hT h0 hc11) w6_115 w6_117 wp4_4 w1_14 w6_118 (x_rec5 C0 h0.1) hd_X7_does rfl ⟨rfl, rfl⟩ ⟨Nat.le_of_ble_eq_true rfl, Nat.le_of_ble_eq_true rfl⟩ (by decide) (by decide) rfl (Nat.le_of_ble_eq_true rfl) dX7_commandText_23 ?_
      refine r_istore_n C0 (kk := 2) (lv2 := [(2, .int r13), (0, .ref (g.1 5 2500)), (1, .int a1)]) (by decide) rfl dX7_commandText_26 ?_
      refine r_iconst C0 (v := 1) dX7_commandText_27 rfl ?_
      exact hend (by decide) hf dX7_commandText_28
    · have hf := ie_t hf q10
      refine r_iconst C0 (v := 0) dX7_commandText_19 rfl ?_
      exact hend (by decide) hf dX7_commandText_20
theorem dX7_commandsText_0 : decode cX7_commandsText 0 = .ok (.iconst 0, 1) := by decide +kernel
theorem dX7_commandsText_1 : decode cX7_commandsText 1 = .ok (.istore_n 1, 1) := by decide +kernel
theorem dX7_commandsText_2 : decode cX7_commandsText 2 = .ok (.aload_n 0, 1) := by decide +kernel
theorem dX7_commandsText_3 : decode cX7_commandsText 3 = .ok (.getfield 156, 3) := by decide +kernel
theorem dX7_commandsText_6 : decode cX7_commandsText 6 = .ok (.iconst 4, 1) := by decide +kernel
theorem dX7_commandsText_7 : decode cX7_commandsText 7 = .ok (.if_icmp .eq 105, 3) := by decide +kernel
theorem dX7_commandsText_10 : decode cX7_commandsText 10 = .ok (.aload_n 0, 1) := by decide +kernel
theorem dX7_commandsText_11 : decode cX7_commandsText 11 = .ok (.invokevirtual 239, 3) := by decide +kernel
theorem dX7_commandsText_14 : decode cX7_commandsText 14 = .ok (.istore_n 2, 1) := by decide +kernel
theorem dX7_commandsText_15 : decode cX7_commandsText 15 = .ok (.iload_n 2, 1) := by decide +kernel
theorem dX7_commandsText_16 : decode cX7_commandsText 16 = .ok (.ifCond .ne 15, 3) := by decide +kernel
theorem dX7_commandsText_19 : decode cX7_commandsText 19 = .ok (.aload_n 0, 1) := by decide +kernel
theorem dX7_commandsText_20 : decode cX7_commandsText 20 = .ok (.getfield 17, 3) := by decide +kernel
theorem dX7_commandsText_23 : decode cX7_commandsText 23 = .ok (.bipush 9, 2) := by decide +kernel
theorem dX7_commandsText_25 : decode cX7_commandsText 25 = .ok (.iaload, 1) := by decide +kernel
theorem dX7_commandsText_26 : decode cX7_commandsText 26 = .ok (.bipush 6, 2) := by decide +kernel
theorem dX7_commandsText_28 : decode cX7_commandsText 28 = .ok (.if_icmp .eq 20, 3) := by decide +kernel
theorem dX7_commandsText_31 : decode cX7_commandsText 31 = .ok (.iload_n 2, 1) := by decide +kernel
theorem dX7_commandsText_32 : decode cX7_commandsText 32 = .ok (.iconst 1, 1) := by decide +kernel
theorem dX7_commandsText_33 : decode cX7_commandsText 33 = .ok (.if_icmp .ne 19, 3) := by decide +kernel
theorem dX7_commandsText_36 : decode cX7_commandsText 36 = .ok (.aload_n 0, 1) := by decide +kernel
theorem dX7_commandsText_37 : decode cX7_commandsText 37 = .ok (.getfield 17, 3) := by decide +kernel
theorem dX7_commandsText_40 : decode cX7_commandsText 40 = .ok (.bipush 10, 2) := by decide +kernel
theorem dX7_commandsText_42 : decode cX7_commandsText 42 = .ok (.iaload, 1) := by decide +kernel
theorem dX7_commandsText_43 : decode cX7_commandsText 43 = .ok (.bipush 6, 2) := by decide +kernel
theorem dX7_commandsText_45 : decode cX7_commandsText 45 = .ok (.if_icmp .ne 7, 3) := by decide +kernel
theorem dX7_commandsText_48 : decode cX7_commandsText 48 = .ok (.iconst 1, 1) := by decide +kernel
theorem dX7_commandsText_49 : decode cX7_commandsText 49 = .ok (.goto 4, 3) := by decide +kernel
theorem dX7_commandsText_52 : decode cX7_commandsText 52 = .ok (.iconst 0, 1) := by decide +kernel
theorem dX7_commandsText_53 : decode cX7_commandsText 53 = .ok (.istore_n 3, 1) := by decide +kernel
theorem dX7_commandsText_54 : decode cX7_commandsText 54 = .ok (.iload_n 2, 1) := by decide +kernel
theorem dX7_commandsText_55 : decode cX7_commandsText 55 = .ok (.iconst (-1), 1) := by decide +kernel
theorem dX7_commandsText_56 : decode cX7_commandsText 56 = .ok (.if_icmp .ne 11, 3) := by decide +kernel
theorem dX7_commandsText_59 : decode cX7_commandsText 59 = .ok (.aload_n 0, 1) := by decide +kernel
theorem dX7_commandsText_60 : decode cX7_commandsText 60 = .ok (.iconst 1, 1) := by decide +kernel
theorem dX7_commandsText_61 : decode cX7_commandsText 61 = .ok (.invokevirtual 177, 3) := by decide +kernel
theorem dX7_commandsText_64 : decode cX7_commandsText 64 = .ok (.goto 26, 3) := by decide +kernel
theorem dX7_commandsText_67 : decode cX7_commandsText 67 = .ok (.iload_n 3, 1) := by decide +kernel
theorem dX7_commandsText_68 : decode cX7_commandsText 68 = .ok (.ifCond .ne 9, 3) := by decide +kernel
theorem dX7_commandsText_71 : decode cX7_commandsText 71 = .ok (.iload_n 1, 1) := by decide +kernel
theorem dX7_commandsText_72 : decode cX7_commandsText 72 = .ok (.bipush 40, 2) := by decide +kernel
theorem dX7_commandsText_74 : decode cX7_commandsText 74 = .ok (.if_icmp .ne 11, 3) := by decide +kernel
theorem dX7_commandsText_77 : decode cX7_commandsText 77 = .ok (.aload_n 0, 1) := by decide +kernel
theorem dX7_commandsText_78 : decode cX7_commandsText 78 = .ok (.iconst 4, 1) := by decide +kernel
theorem dX7_commandsText_79 : decode cX7_commandsText 79 = .ok (.invokevirtual 177, 3) := by decide +kernel
theorem dX7_commandsText_82 : decode cX7_commandsText 82 = .ok (.goto 8, 3) := by decide +kernel
theorem dX7_commandsText_85 : decode cX7_commandsText 85 = .ok (.aload_n 0, 1) := by decide +kernel
theorem dX7_commandsText_86 : decode cX7_commandsText 86 = .ok (.iload_n 2, 1) := by decide +kernel
theorem dX7_commandsText_87 : decode cX7_commandsText 87 = .ok (.invokevirtual 242, 3) := by decide +kernel
theorem dX7_commandsText_90 : decode cX7_commandsText 90 = .ok (.istore 4, 2) := by decide +kernel
theorem dX7_commandsText_92 : decode cX7_commandsText 92 = .ok (.iload 4, 2) := by decide +kernel
theorem dX7_commandsText_94 : decode cX7_commandsText 94 = .ok (.ifCond .eq 10, 3) := by decide +kernel
theorem dX7_commandsText_97 : decode cX7_commandsText 97 = .ok (.aload_n 0, 1) := by decide +kernel
theorem dX7_commandsText_98 : decode cX7_commandsText 98 = .ok (.invokevirtual 215, 3) := by decide +kernel
theorem dX7_commandsText_101 : decode cX7_commandsText 101 = .ok (.ifCond .ne 5, 3) := by decide +kernel
theorem dX7_commandsText_104 : decode cX7_commandsText 104 = .ok (.iconst (-1), 1) := by decide +kernel
theorem dX7_commandsText_105 : decode cX7_commandsText 105 = .ok (.ireturn, 1) := by decide +kernel
theorem dX7_commandsText_106 : decode cX7_commandsText 106 = .ok (.iinc 1 1, 3) := by decide +kernel
theorem dX7_commandsText_109 : decode cX7_commandsText 109 = .ok (.goto (-107), 3) := by decide +kernel
theorem dX7_commandsText_112 : decode cX7_commandsText 112 = .ok (.iload_n 1, 1) := by decide +kernel
theorem dX7_commandsText_113 : decode cX7_commandsText 113 = .ok (.ireturn, 1) := by decide +kernel
theorem hd_X7_commandsText : yX7_commandsText.cls = RX7 ∧ yX7_commandsText.cls ≠ "java/lang/invoke/MethodHandle" ∧ yX7_commandsText.cls ≠ "java/lang/invoke/VarHandle" ∧ (parseMethodDescriptor yX7_commandsText.desc).map (fun d => d.parameters.length) = some 0 := by decide +kernel
set_option maxRecDepth 100000 in
set_option maxHeartbeats 4000000 in
theorem c_X7_commandsText (l : Launch) (D : va_G) (g : xG) (tb : List xQ) (hT : x_T g tb)  (h0 : x_md tb) {M : xM} {r : Int32} {M' : xM} (hf : f_X7_commandsText  M = some (r, M')) :
    cI l D g tb yX7_commandsText cX7_commandsText 5 .int ({ frames := 8, cells := 0, slots := 0, locals := 184 } : Room) [.ref (g.1 5 2500)] M r M' := by
  refine x_startI (own := RX7) (by decide +kernel) rfl rfl (Nat.le_of_ble_eq_true rfl) hT ?_
  intro p e s m args below meth c Q C0 hend
  have B90 : ∀ (k2 : Int32 → xM → Option (Int32 × xM)) (hk2 : ∀ (v1 : Int32)  (M : xM), k2 v1 M = some (r, M') → WW p l e ({ frames := 8, cells := 0, slots := 0, locals := 184 } : Room) s m args below meth c 0 0 Q 5 D g tb 2 [(0, .ref (g.1 5 2500)), (1, .int v1)] [] M), ∀ (v1 : Int32) (s0 : Int32)  (M : xM), f_X7_commandsText_c90 k2  v1 s0 M = some (r, M') → WW p l e ({ frames := 8, cells := 0, slots := 0, locals := 184 } : Room) s m args below meth c 0 0 Q 5 D g tb 90 [(0, .ref (g.1 5 2500)), (1, .int v1)] [.int s0] M := by
    intro k2 hk2 v1 s0  M hf
    unfold f_X7_commandsText_c90 at hf
    refine r_istore C0 (lv2 := [(4, .int s0), (0, .ref (g.1 5 2500)), (1, .int v1)]) (by decide) rfl dX7_commandsText_90 ?_
    refine r_iload C0 0 rfl dX7_commandsText_92 ?_
    refine r_if_eq C0 (tgt := 104) (by decide) dX7_commandsText_94 (fun q21 => ?_) (fun q21 => ?_)
    · have hf := ie_t hf q21
      refine r_iconst C0 (v := (-1)) dX7_commandsText_104 rfl ?_
      exact hend hf dX7_commandsText_105
    · have hf := ie_f hf q21
      refine r_aload_n C0 (kk := 0) 1 rfl dX7_commandsText_97 ?_
      obtain ⟨r24, M23, hc22, hf⟩ := bd2_e hf
      refine r_callVi C0 (As := []) (rest := []) (c_X7_semicolon l D g tb hT h0 hc22) w6_47 w6_49 wp3_7 w1_14 w6_50 (x_rec5 C0 h0.1) hd_X7_semicolon rfl ⟨rfl, rfl⟩ ⟨Nat.le_of_ble_eq_true rfl, Nat.le_of_ble_eq_true rfl⟩ (by decide) (by decide) rfl (Nat.le_of_ble_eq_true rfl) dX7_commandsText_98 ?_
      refine r_if_ne C0 (tgt := 106) (by decide) dX7_commandsText_101 (fun q25 => ?_) (fun q25 => ?_)
      · have hf := ie_f hf q25
        refine r_iincc C0 2 rfl (k0 := 1) (by decide) (by decide) (lv2 := [(1, .int (v1 + 1)), (4, .int s0), (0, .ref (g.1 5 2500))]) rfl dX7_commandsText_106 ?_
        refine r_goto C0 (tgt := 2) (by decide) dX7_commandsText_109 ?_
        refine WW.sub [2, 0] rfl ?_
        exact hk2 _   _ hf
      · have hf := ie_t hf q25
        refine r_iconst C0 (v := (-1)) dX7_commandsText_104 rfl ?_
        exact hend hf dX7_commandsText_105
  have B77 : ∀ (k2 : Int32 → xM → Option (Int32 × xM)) (hk2 : ∀ (v1 : Int32)  (M : xM), k2 v1 M = some (r, M') → WW p l e ({ frames := 8, cells := 0, slots := 0, locals := 184 } : Room) s m args below meth c 0 0 Q 5 D g tb 2 [(0, .ref (g.1 5 2500)), (1, .int v1)] [] M), ∀ (v1 : Int32)  (M : xM), f_X7_commandsText_c77 k2  v1 M = some (r, M') → WW p l e ({ frames := 8, cells := 0, slots := 0, locals := 184 } : Room) s m args below meth c 0 0 Q 5 D g tb 77 [(0, .ref (g.1 5 2500)), (1, .int v1)] [] M := by
    intro k2 hk2 v1  M hf
    unfold f_X7_commandsText_c77 at hf
    refine r_aload_n C0 (kk := 0) 0 rfl dX7_commandsText_77 ?_
    refine r_iconst C0 (v := 4) dX7_commandsText_78 rfl ?_
    obtain ⟨r20, M19, hc18, hf⟩ := bd2_e hf
    refine r_callVi C0 (As := [.int 4]) (rest := []) (c_X7_wrong l D g tb hT h0 hc18) w6_35 w6_37 wp3_4 w1_14 w6_38 (x_rec5 C0 h0.1) hd_X7_wrong rfl ⟨rfl, rfl⟩ ⟨Nat.le_of_ble_eq_true rfl, Nat.le_of_ble_eq_true rfl⟩ (by decide) (by decide) rfl (Nat.le_of_ble_eq_true rfl) dX7_commandsText_79 ?_
    refine r_goto C0 (tgt := 90) (by decide) dX7_commandsText_82 ?_
    exact B90 k2 hk2 _ _   _ hf
  have B53 : ∀ (k2 : Int32 → xM → Option (Int32 × xM)) (hk2 : ∀ (v1 : Int32)  (M : xM), k2 v1 M = some (r, M') → WW p l e ({ frames := 8, cells := 0, slots := 0, locals := 184 } : Room) s m args below meth c 0 0 Q 5 D g tb 2 [(0, .ref (g.1 5 2500)), (1, .int v1)] [] M), ∀ (v1 : Int32) (v2 : Int32) (s0 : Int32)  (M : xM), f_X7_commandsText_c53 k2  v1 v2 s0 M = some (r, M') → WW p l e ({ frames := 8, cells := 0, slots := 0, locals := 184 } : Room) s m args below meth c 0 0 Q 5 D g tb 53 [(0, .ref (g.1 5 2500)), (1, .int v1), (2, .int v2)] [.int s0] M := by
    intro k2 hk2 v1 v2 s0  M hf
    unfold f_X7_commandsText_c53 at hf
    refine r_istore_n C0 (kk := 3) (lv2 := [(3, .int s0), (0, .ref (g.1 5 2500)), (1, .int v1), (2, .int v2)]) (by decide) rfl dX7_commandsText_53 ?_
    refine r_iload_n C0 (kk := 2) 3 rfl dX7_commandsText_54 ?_
    refine r_iconst C0 (v := (-1)) dX7_commandsText_55 rfl ?_
    refine r_icmp_ne C0 (tgt := 67) (by decide) dX7_commandsText_56 (fun q9 => ?_) (fun q9 => ?_)
    · have hf := ie_f hf q9
      refine r_iload_n C0 (kk := 3) 0 rfl dX7_commandsText_67 ?_
      refine r_if_ne C0 (tgt := 77) (by decide) dX7_commandsText_68 (fun q10 => ?_) (fun q10 => ?_)
      · have hf := ie_f hf q10
        refine WW.sub [1, 2] rfl ?_
        exact B77 k2 hk2 _   _ hf
      · have hf := ie_t hf q10
        refine r_iload_n C0 (kk := 1) 2 rfl dX7_commandsText_71 ?_
        refine r_bipush C0 (v := 40) dX7_commandsText_72 rfl ?_
        refine r_icmp_ne C0 (tgt := 85) (by decide) dX7_commandsText_74 (fun q11 => ?_) (fun q11 => ?_)
        · have hf := ie_f hf q11
          refine r_aload_n C0 (kk := 0) 1 rfl dX7_commandsText_85 ?_
          refine r_iload_n C0 (kk := 2) 3 rfl dX7_commandsText_86 ?_
          obtain ⟨r14, M13, hc12, hf⟩ := bd2_e hf
          refine r_callVi C0 (As := [.int v2]) (rest := []) (c_X7_commandText l D g tb hT h0 hc12) w6_72 w6_74 wp3_11 w1_14 w6_75 (x_rec5 C0 h0.1) hd_X7_commandText rfl ⟨rfl, rfl⟩ ⟨Nat.le_of_ble_eq_true rfl, Nat.le_of_ble_eq_true rfl⟩ (by decide) (by decide) rfl (Nat.le_of_ble_eq_true rfl) dX7_commandsText_87 ?_
          refine WW.sub [1, 2] rfl ?_
          exact B90 k2 hk2 _ _   _ hf
        · have hf := ie_t hf q11
          refine WW.sub [1, 2] rfl ?_
          exact B77 k2 hk2 _   _ hf
    · have hf := ie_t hf q9
      refine r_aload_n C0 (kk := 0) 1 rfl dX7_commandsText_59 ?_
      refine r_iconst C0 (v := 1) dX7_commandsText_60 rfl ?_
      obtain ⟨r17, M16, hc15, hf⟩ := bd2_e hf
      refine r_callVi C0 (As := [.int 1]) (rest := []) (c_X7_wrong l D g tb hT h0 hc15) w6_35 w6_37 wp3_4 w1_14 w6_38 (x_rec5 C0 h0.1) hd_X7_wrong rfl ⟨rfl, rfl⟩ ⟨Nat.le_of_ble_eq_true rfl, Nat.le_of_ble_eq_true rfl⟩ (by decide) (by decide) rfl (Nat.le_of_ble_eq_true rfl) dX7_commandsText_61 ?_
      refine r_goto C0 (tgt := 90) (by decide) dX7_commandsText_64 ?_
      refine WW.sub [1, 2] rfl ?_
      exact B90 k2 hk2 _ _   _ hf
  have B48 : ∀ (k2 : Int32 → xM → Option (Int32 × xM)) (hk2 : ∀ (v1 : Int32)  (M : xM), k2 v1 M = some (r, M') → WW p l e ({ frames := 8, cells := 0, slots := 0, locals := 184 } : Room) s m args below meth c 0 0 Q 5 D g tb 2 [(0, .ref (g.1 5 2500)), (1, .int v1)] [] M), ∀ (v1 : Int32) (v2 : Int32)  (M : xM), f_X7_commandsText_c48 k2  v1 v2 M = some (r, M') → WW p l e ({ frames := 8, cells := 0, slots := 0, locals := 184 } : Room) s m args below meth c 0 0 Q 5 D g tb 48 [(0, .ref (g.1 5 2500)), (1, .int v1), (2, .int v2)] [] M := by
    intro k2 hk2 v1 v2  M hf
    unfold f_X7_commandsText_c48 at hf
    refine r_iconst C0 (v := 1) dX7_commandsText_48 rfl ?_
    refine r_goto C0 (tgt := 53) (by decide) dX7_commandsText_49 ?_
    exact B53 k2 hk2 _ _ _   _ hf
  have B52 : ∀ (k2 : Int32 → xM → Option (Int32 × xM)) (hk2 : ∀ (v1 : Int32)  (M : xM), k2 v1 M = some (r, M') → WW p l e ({ frames := 8, cells := 0, slots := 0, locals := 184 } : Room) s m args below meth c 0 0 Q 5 D g tb 2 [(0, .ref (g.1 5 2500)), (1, .int v1)] [] M), ∀ (v1 : Int32) (v2 : Int32)  (M : xM), f_X7_commandsText_c52 k2  v1 v2 M = some (r, M') → WW p l e ({ frames := 8, cells := 0, slots := 0, locals := 184 } : Room) s m args below meth c 0 0 Q 5 D g tb 52 [(0, .ref (g.1 5 2500)), (1, .int v1), (2, .int v2)] [] M := by
    intro k2 hk2 v1 v2  M hf
    unfold f_X7_commandsText_c52 at hf
    refine r_iconst C0 (v := 0) dX7_commandsText_52 rfl ?_
    exact B53 k2 hk2 _ _ _   _ hf
  have B31 : ∀ (k2 : Int32 → xM → Option (Int32 × xM)) (hk2 : ∀ (v1 : Int32)  (M : xM), k2 v1 M = some (r, M') → WW p l e ({ frames := 8, cells := 0, slots := 0, locals := 184 } : Room) s m args below meth c 0 0 Q 5 D g tb 2 [(0, .ref (g.1 5 2500)), (1, .int v1)] [] M), ∀ (v1 : Int32) (v2 : Int32)  (M : xM), f_X7_commandsText_c31 k2  v1 v2 M = some (r, M') → WW p l e ({ frames := 8, cells := 0, slots := 0, locals := 184 } : Room) s m args below meth c 0 0 Q 5 D g tb 31 [(0, .ref (g.1 5 2500)), (1, .int v1), (2, .int v2)] [] M := by
    intro k2 hk2 v1 v2  M hf
    unfold f_X7_commandsText_c31 at hf
    refine r_iload_n C0 (kk := 2) 2 rfl dX7_commandsText_31 ?_
    refine r_iconst C0 (v := 1) dX7_commandsText_32 rfl ?_
    refine r_icmp_ne C0 (tgt := 52) (by decide) dX7_commandsText_33 (fun q7 => ?_) (fun q7 => ?_)
    · have hf := ie_f hf q7
      exact B52 k2 hk2 _ _   _ hf
    · have hf := ie_t hf q7
      refine r_aload_n C0 (kk := 0) 0 rfl dX7_commandsText_36 ?_
      refine r_get5 C0 h0.1 5 (by decide) (v := .ref (g.1 6 2520)) rfl rfl w6_221 dX7_commandsText_37 ?_
      refine r_bipush C0 (v := 10) dX7_commandsText_40 rfl ?_
      refine r_ialdc C0 h0.2.1 (z := 2530) (by decide) (by decide) dX7_commandsText_42 ?_
      refine r_bipush C0 (v := 6) dX7_commandsText_43 rfl ?_
      refine r_icmp_ne C0 (tgt := 52) (by decide) dX7_commandsText_45 (fun q8 => ?_) (fun q8 => ?_)
      · have hf := ie_f hf q8
        exact B52 k2 hk2 _ _   _ hf
      · have hf := ie_t hf q8
        exact B48 k2 hk2 _ _   _ hf
  have B2 : ∀ (k2 : Int32 → xM → Option (Int32 × xM)) (hk2 : ∀ (v1 : Int32)  (M : xM), k2 v1 M = some (r, M') → WW p l e ({ frames := 8, cells := 0, slots := 0, locals := 184 } : Room) s m args below meth c 0 0 Q 5 D g tb 2 [(0, .ref (g.1 5 2500)), (1, .int v1)] [] M), ∀ (v1 : Int32)  (M : xM), fb_X7_commandsText_c2 k2  v1 M = some (r, M') → WW p l e ({ frames := 8, cells := 0, slots := 0, locals := 184 } : Room) s m args below meth c 0 0 Q 5 D g tb 2 [(0, .ref (g.1 5 2500)), (1, .int v1)] [] M := by
    intro k2 hk2 v1  M hf
    unfold fb_X7_commandsText_c2 at hf
    refine r_aload_n C0 (kk := 0) 0 rfl dX7_commandsText_2 ?_
    refine r_get5 C0 h0.1 16 (by decide) (v := .int (M 2516)) rfl rfl w6_232 dX7_commandsText_3 ?_
    refine r_iconst C0 (v := 4) dX7_commandsText_6 rfl ?_
    refine r_icmp_eq C0 (tgt := 112) (by decide) dX7_commandsText_7 (fun q1 => ?_) (fun q1 => ?_)
    · have hf := ie_t hf q1
      refine r_iload_n C0 (kk := 1) 1 rfl dX7_commandsText_112 ?_
      exact hend hf dX7_commandsText_113
    · have hf := ie_f hf q1
      refine r_aload_n C0 (kk := 0) 0 rfl dX7_commandsText_10 ?_
      obtain ⟨r4, M3, hc2, hf⟩ := bd2_e hf
      refine r_callVi C0 (As := []) (rest := []) (c_X7_commandHere l D g tb hT h0 hc2) w6_60 w6_62 wp3_10 w1_14 w6_63 (x_rec5 C0 h0.1) hd_X7_commandHere rfl ⟨rfl, rfl⟩ ⟨Nat.le_of_ble_eq_true rfl, Nat.le_of_ble_eq_true rfl⟩ (by decide) (by decide) rfl (Nat.le_of_ble_eq_true rfl) dX7_commandsText_11 ?_
      refine r_istore_n C0 (kk := 2) (lv2 := [(2, .int r4), (0, .ref (g.1 5 2500)), (1, .int v1)]) (by decide) rfl dX7_commandsText_14 ?_
      refine r_iload_n C0 (kk := 2) 0 rfl dX7_commandsText_15 ?_
      refine r_if_ne C0 (tgt := 31) (by decide) dX7_commandsText_16 (fun q5 => ?_) (fun q5 => ?_)
      · have hf := ie_f hf q5
        refine WW.sub [1, 2, 0] rfl ?_
        exact B31 k2 hk2 _ _   _ hf
      · have hf := ie_t hf q5
        refine r_aload_n C0 (kk := 0) 1 rfl dX7_commandsText_19 ?_
        refine r_get5 C0 h0.1 5 (by decide) (v := .ref (g.1 6 2520)) rfl rfl w6_221 dX7_commandsText_20 ?_
        refine r_bipush C0 (v := 9) dX7_commandsText_23 rfl ?_
        refine r_ialdc C0 h0.2.1 (z := 2529) (by decide) (by decide) dX7_commandsText_25 ?_
        refine r_bipush C0 (v := 6) dX7_commandsText_26 rfl ?_
        refine r_icmp_eq C0 (tgt := 48) (by decide) dX7_commandsText_28 (fun q6 => ?_) (fun q6 => ?_)
        · have hf := ie_t hf q6
          refine WW.sub [1, 2, 0] rfl ?_
          exact B48 k2 hk2 _ _   _ hf
        · have hf := ie_f hf q6
          refine WW.sub [1, 2, 0] rfl ?_
          exact B31 k2 hk2 _ _   _ hf
  have L2 : ∀ (v1 : Int32)  (M : xM), f_X7_commandsText_c2   v1 M = some (r, M') → WW p l e ({ frames := 8, cells := 0, slots := 0, locals := 184 } : Room) s m args below meth c 0 0 Q 5 D g tb 2 [(0, .ref (g.1 5 2500)), (1, .int v1)] [] M := lp_ind (P := fun f => ∀ (v1 : Int32)  (M : xM), f v1 M = some (r, M') → WW p l e ({ frames := 8, cells := 0, slots := 0, locals := 184 } : Room) s m args below meth c 0 0 Q 5 D g tb 2 [(0, .ref (g.1 5 2500)), (1, .int v1)] [] M) (fun _ _ h => none_ne h) (fun f hf => B2 f hf) FU
  unfold f_X7_commandsText at hf
  refine r_iconst C0 (v := 0) dX7_commandsText_0 rfl ?_
  refine r_istore_n C0 (kk := 1) (lv2 := [(1, .int 0), (0, .ref (g.1 5 2500))]) (by decide) rfl dX7_commandsText_1 ?_
  refine WW.sub [1, 0] rfl ?_
  exact L2   _   _ hf
theorem dX7_runScript_0 : decode cX7_runScript 0 = .ok (.aload_n 0, 1) := by decide +kernel
theorem dX7_runScript_1 : decode cX7_runScript 1 = .ok (.iconst 0, 1) := by decide +kernel
theorem dX7_runScript_2 : decode cX7_runScript 2 = .ok (.putfield 60, 3) := by decide +kernel
theorem dX7_runScript_5 : decode cX7_runScript 5 = .ok (.aload_n 0, 1) := by decide +kernel
theorem dX7_runScript_6 : decode cX7_runScript 6 = .ok (.invokevirtual 283, 3) := by decide +kernel
theorem dX7_runScript_9 : decode cX7_runScript 9 = .ok (.aload_n 0, 1) := by decide +kernel
theorem dX7_runScript_10 : decode cX7_runScript 10 = .ok (.invokevirtual 286, 3) := by decide +kernel
theorem dX7_runScript_13 : decode cX7_runScript 13 = .ok (.aload_n 0, 1) := by decide +kernel
theorem dX7_runScript_14 : decode cX7_runScript 14 = .ok (.invokevirtual 220, 3) := by decide +kernel
theorem dX7_runScript_17 : decode cX7_runScript 17 = .ok (.istore_n 1, 1) := by decide +kernel
theorem dX7_runScript_18 : decode cX7_runScript 18 = .ok (.aload_n 0, 1) := by decide +kernel
theorem dX7_runScript_19 : decode cX7_runScript 19 = .ok (.iconst 0, 1) := by decide +kernel
theorem dX7_runScript_20 : decode cX7_runScript 20 = .ok (.putfield 54, 3) := by decide +kernel
theorem dX7_runScript_23 : decode cX7_runScript 23 = .ok (.iload_n 1, 1) := by decide +kernel
theorem dX7_runScript_24 : decode cX7_runScript 24 = .ok (.ifCond .ge 9, 3) := by decide +kernel
theorem dX7_runScript_27 : decode cX7_runScript 27 = .ok (.aload_n 0, 1) := by decide +kernel
theorem dX7_runScript_28 : decode cX7_runScript 28 = .ok (.iconst (-1), 1) := by decide +kernel
theorem dX7_runScript_29 : decode cX7_runScript 29 = .ok (.invokevirtual 292, 3) := by decide +kernel
theorem dX7_runScript_32 : decode cX7_runScript 32 = .ok (.ireturn, 1) := by decide +kernel
theorem dX7_runScript_33 : decode cX7_runScript 33 = .ok (.iconst 0, 1) := by decide +kernel
theorem dX7_runScript_34 : decode cX7_runScript 34 = .ok (.istore_n 2, 1) := by decide +kernel
theorem dX7_runScript_35 : decode cX7_runScript 35 = .ok (.iload_n 2, 1) := by decide +kernel
theorem dX7_runScript_36 : decode cX7_runScript 36 = .ok (.bipush 125, 2) := by decide +kernel
theorem dX7_runScript_38 : decode cX7_runScript 38 = .ok (.if_icmp .ge 21, 3) := by decide +kernel
theorem dX7_runScript_41 : decode cX7_runScript 41 = .ok (.aload_n 0, 1) := by decide +kernel
theorem dX7_runScript_42 : decode cX7_runScript 42 = .ok (.getfield 20, 3) := by decide +kernel
theorem dX7_runScript_45 : decode cX7_runScript 45 = .ok (.iload_n 2, 1) := by decide +kernel
theorem dX7_runScript_46 : decode cX7_runScript 46 = .ok (.aload_n 0, 1) := by decide +kernel
theorem dX7_runScript_47 : decode cX7_runScript 47 = .ok (.getfield 23, 3) := by decide +kernel
theorem dX7_runScript_50 : decode cX7_runScript 50 = .ok (.iload_n 2, 1) := by decide +kernel
theorem dX7_runScript_51 : decode cX7_runScript 51 = .ok (.iaload, 1) := by decide +kernel
theorem dX7_runScript_52 : decode cX7_runScript 52 = .ok (.iastore, 1) := by decide +kernel
theorem dX7_runScript_53 : decode cX7_runScript 53 = .ok (.iinc 2 1, 3) := by decide +kernel
theorem dX7_runScript_56 : decode cX7_runScript 56 = .ok (.goto (-21), 3) := by decide +kernel
theorem dX7_runScript_59 : decode cX7_runScript 59 = .ok (.aload_n 0, 1) := by decide +kernel
theorem dX7_runScript_60 : decode cX7_runScript 60 = .ok (.invokevirtual 298, 3) := by decide +kernel
theorem dX7_runScript_63 : decode cX7_runScript 63 = .ok (.iload_n 1, 1) := by decide +kernel
theorem dX7_runScript_64 : decode cX7_runScript 64 = .ok (.ireturn, 1) := by decide +kernel
theorem hd_X7_runScript : yX7_runScript.cls = RX7 ∧ yX7_runScript.cls ≠ "java/lang/invoke/MethodHandle" ∧ yX7_runScript.cls ≠ "java/lang/invoke/VarHandle" ∧ (parseMethodDescriptor yX7_runScript.desc).map (fun d => d.parameters.length) = some 0 := by decide +kernel
set_option maxRecDepth 100000 in
set_option maxHeartbeats 4000000 in
theorem c_X7_runScript (l : Launch) (D : va_G) (g : xG) (tb : List xQ) (hT : x_T g tb)  (h0 : x_md tb) {M : xM} {r : Int32} {M' : xM} (hf : f_X7_runScript  M = some (r, M')) :
    cI l D g tb yX7_runScript cX7_runScript 3 .int ({ frames := 9, cells := 0, slots := 0, locals := 208 } : Room) [.ref (g.1 5 2500)] M r M' := by
  refine x_startI (own := RX7) (by decide +kernel) rfl rfl (Nat.le_of_ble_eq_true rfl) hT ?_
  intro p e s m args below meth c Q C0 hend
  have B35 : ∀ (k35 : Int32 → Int32 → xM → Option (Int32 × xM)) (hk35 : ∀ (v1 : Int32) (v2 : Int32)  (M : xM), k35 v1 v2 M = some (r, M') → WW p l e ({ frames := 9, cells := 0, slots := 0, locals := 208 } : Room) s m args below meth c 0 0 Q 3 D g tb 35 [(0, .ref (g.1 5 2500)), (1, .int v1), (2, .int v2)] [] M), ∀ (v1 : Int32) (v2 : Int32)  (M : xM), fb_X7_runScript_c35 k35  v1 v2 M = some (r, M') → WW p l e ({ frames := 9, cells := 0, slots := 0, locals := 208 } : Room) s m args below meth c 0 0 Q 3 D g tb 35 [(0, .ref (g.1 5 2500)), (1, .int v1), (2, .int v2)] [] M := by
    intro k35 hk35 v1 v2  M hf
    unfold fb_X7_runScript_c35 at hf
    refine r_iload_n C0 (kk := 2) 2 rfl dX7_runScript_35 ?_
    refine r_bipush C0 (v := 125) dX7_runScript_36 rfl ?_
    refine r_icmp_ge C0 (tgt := 59) (by decide) dX7_runScript_38 (fun q12 => ?_) (fun q12 => ?_)
    · have hf := ie_t hf q12
      refine r_aload_n C0 (kk := 0) 0 rfl dX7_runScript_59 ?_
      obtain ⟨M14, hc13, hf⟩ := bd_e hf
      refine r_callVv C0 (As := []) (rest := []) (c_X7_pushAside l D g tb hT h0 hc13) w7_53 w7_55 wp5_10 w1_14 w7_56 (x_rec5 C0 h0.1) hd_X7_pushAside rfl ⟨rfl, rfl⟩ ⟨Nat.le_of_ble_eq_true rfl, Nat.le_of_ble_eq_true rfl⟩ (by decide) (by decide) rfl (Nat.le_of_ble_eq_true rfl) dX7_runScript_60 ?_
      refine r_iload_n C0 (kk := 1) 1 rfl dX7_runScript_63 ?_
      exact hend hf dX7_runScript_64
    · have hf := ie_f hf q12
      refine r_aload_n C0 (kk := 0) 0 rfl dX7_runScript_41 ?_
      refine r_get5 C0 h0.1 6 (by decide) (v := .ref (g.1 6 2645)) rfl rfl w6_222 dX7_runScript_42 ?_
      refine r_iload_n C0 (kk := 2) 2 rfl dX7_runScript_45 ?_
      refine r_aload_n C0 (kk := 0) 0 rfl dX7_runScript_46 ?_
      refine r_get5 C0 h0.1 7 (by decide) (v := .ref (g.1 6 2770)) rfl rfl w6_223 dX7_runScript_47 ?_
      refine r_iload_n C0 (kk := 2) 2 rfl dX7_runScript_50 ?_
      obtain ⟨q15, hf⟩ := gd_e hf
      refine r_ialdc C0 h0.2.2.2.1 q15 rfl dX7_runScript_51 ?_
      obtain ⟨q16, hf⟩ := gd_e hf
      refine r_iastc C0 h0.2.2.1 q16 rfl dX7_runScript_52 ?_
      refine r_iincc C0 2 rfl (k0 := 1) (by decide) (by decide) (lv2 := [(2, .int (v2 + 1)), (0, .ref (g.1 5 2500)), (1, .int v1)]) rfl dX7_runScript_53 ?_
      refine r_goto C0 (tgt := 35) (by decide) dX7_runScript_56 ?_
      refine WW.sub [1, 2, 0] rfl ?_
      exact hk35 _ _   _ hf
  have L35 : ∀ (v1 : Int32) (v2 : Int32)  (M : xM), f_X7_runScript_c35   v1 v2 M = some (r, M') → WW p l e ({ frames := 9, cells := 0, slots := 0, locals := 208 } : Room) s m args below meth c 0 0 Q 3 D g tb 35 [(0, .ref (g.1 5 2500)), (1, .int v1), (2, .int v2)] [] M := lp_ind (P := fun f => ∀ (v1 : Int32) (v2 : Int32)  (M : xM), f v1 v2 M = some (r, M') → WW p l e ({ frames := 9, cells := 0, slots := 0, locals := 208 } : Room) s m args below meth c 0 0 Q 3 D g tb 35 [(0, .ref (g.1 5 2500)), (1, .int v1), (2, .int v2)] [] M) (fun _ _ _ h => none_ne h) (fun f hf => B35 f hf) FU
  unfold f_X7_runScript at hf
  refine r_aload_n C0 (kk := 0) 0 rfl dX7_runScript_0 ?_
  refine r_iconst C0 (v := 0) dX7_runScript_1 rfl ?_
  refine r_put5 C0 h0.1 4 rfl rfl w6_220 rfl rfl rfl dX7_runScript_2 ?_
  refine r_aload_n C0 (kk := 0) 0 rfl dX7_runScript_5 ?_
  obtain ⟨M2, hc1, hf⟩ := bd_e hf
  refine r_callVv C0 (As := []) (rest := []) (c_X7_startTrial l D g tb hT h0 hc1) w5_237 w5_239 wp2_14 w1_14 w6_0 (x_rec5 C0 h0.1) hd_X7_startTrial rfl ⟨rfl, rfl⟩ ⟨Nat.le_of_ble_eq_true rfl, Nat.le_of_ble_eq_true rfl⟩ (by decide) (by decide) rfl (Nat.le_of_ble_eq_true rfl) dX7_runScript_6 ?_
  refine r_aload_n C0 (kk := 0) 0 rfl dX7_runScript_9 ?_
  obtain ⟨M4, hc3, hf⟩ := bd_e hf
  refine r_callVv C0 (As := []) (rest := []) (c_X7_startText l D g tb hT h0 hc3) w6_1 w6_3 wp2_15 w1_14 w6_4 (x_rec5 C0 h0.1) hd_X7_startText rfl ⟨rfl, rfl⟩ ⟨Nat.le_of_ble_eq_true rfl, Nat.le_of_ble_eq_true rfl⟩ (by decide) (by decide) rfl (Nat.le_of_ble_eq_true rfl) dX7_runScript_10 ?_
  refine r_aload_n C0 (kk := 0) 0 rfl dX7_runScript_13 ?_
  obtain ⟨r7, M6, hc5, hf⟩ := bd2_e hf
  refine r_callVi C0 (As := []) (rest := []) (c_X7_commandsText l D g tb hT h0 hc5) w6_56 w6_58 wp3_9 w1_14 w6_59 (x_rec5 C0 h0.1) hd_X7_commandsText rfl ⟨rfl, rfl⟩ ⟨Nat.le_of_ble_eq_true rfl, Nat.le_of_ble_eq_true rfl⟩ (by decide) (by decide) rfl (Nat.le_of_ble_eq_true rfl) dX7_runScript_14 ?_
  refine r_istore_n C0 (kk := 1) (lv2 := [(1, .int r7), (0, .ref (g.1 5 2500))]) (by decide) rfl dX7_runScript_17 ?_
  refine r_aload_n C0 (kk := 0) 1 rfl dX7_runScript_18 ?_
  refine r_iconst C0 (v := 0) dX7_runScript_19 rfl ?_
  refine r_put5 C0 h0.1 1 rfl rfl w6_217 rfl rfl rfl dX7_runScript_20 ?_
  refine r_iload_n C0 (kk := 1) 0 rfl dX7_runScript_23 ?_
  refine r_if_ge C0 (tgt := 33) (by decide) dX7_runScript_24 (fun q8 => ?_) (fun q8 => ?_)
  · have hf := ie_t hf q8
    refine r_iconst C0 (v := 0) dX7_runScript_33 rfl ?_
    refine r_istore_n C0 (kk := 2) (lv2 := [(2, .int 0), (1, .int r7), (0, .ref (g.1 5 2500))]) (by decide) rfl dX7_runScript_34 ?_
    refine WW.sub [2, 1, 0] rfl ?_
    exact L35   _ _   _ hf
  · have hf := ie_f hf q8
    refine r_aload_n C0 (kk := 0) 1 rfl dX7_runScript_27 ?_
    refine r_iconst C0 (v := (-1)) dX7_runScript_28 rfl ?_
    obtain ⟨r11, M10, hc9, hf⟩ := bd2_e hf
    refine r_callVi C0 (As := [.int (-1)]) (rest := []) (c_X7_leaveTrial l D g tb hT h0 hc9) w6_212 w6_214 wp5_9 w1_14 w6_215 (x_rec5 C0 h0.1) hd_X7_leaveTrial rfl ⟨rfl, rfl⟩ ⟨Nat.le_of_ble_eq_true rfl, Nat.le_of_ble_eq_true rfl⟩ (by decide) (by decide) rfl (Nat.le_of_ble_eq_true rfl) dX7_runScript_29 ?_
    exact hend hf dX7_runScript_32
theorem dX7_setupText_0 : decode cX7_setupText 0 = .ok (.aload_n 0, 1) := by decide +kernel
theorem dX7_setupText_1 : decode cX7_setupText 1 = .ok (.ldc 207, 2) := by decide +kernel
theorem dX7_setupText_3 : decode cX7_setupText 3 = .ok (.invokevirtual 209, 3) := by decide +kernel
theorem dX7_setupText_6 : decode cX7_setupText 6 = .ok (.ifCond .eq 43, 3) := by decide +kernel
theorem dX7_setupText_9 : decode cX7_setupText 9 = .ok (.aload_n 0, 1) := by decide +kernel
theorem dX7_setupText_10 : decode cX7_setupText 10 = .ok (.iconst 0, 1) := by decide +kernel
theorem dX7_setupText_11 : decode cX7_setupText 11 = .ok (.iconst 1, 1) := by decide +kernel
theorem dX7_setupText_12 : decode cX7_setupText 12 = .ok (.bipush 9, 2) := by decide +kernel
theorem dX7_setupText_14 : decode cX7_setupText 14 = .ok (.invokevirtual 212, 3) := by decide +kernel
theorem dX7_setupText_17 : decode cX7_setupText 17 = .ok (.ifCond .eq 32, 3) := by decide +kernel
theorem dX7_setupText_20 : decode cX7_setupText 20 = .ok (.aload_n 0, 1) := by decide +kernel
theorem dX7_setupText_21 : decode cX7_setupText 21 = .ok (.iconst 1, 1) := by decide +kernel
theorem dX7_setupText_22 : decode cX7_setupText 22 = .ok (.iconst 1, 1) := by decide +kernel
theorem dX7_setupText_23 : decode cX7_setupText 23 = .ok (.bipush 60, 2) := by decide +kernel
theorem dX7_setupText_25 : decode cX7_setupText 25 = .ok (.invokevirtual 212, 3) := by decide +kernel
theorem dX7_setupText_28 : decode cX7_setupText 28 = .ok (.ifCond .eq 21, 3) := by decide +kernel
theorem dX7_setupText_31 : decode cX7_setupText 31 = .ok (.aload_n 0, 1) := by decide +kernel
theorem dX7_setupText_32 : decode cX7_setupText 32 = .ok (.iconst 2, 1) := by decide +kernel
theorem dX7_setupText_33 : decode cX7_setupText 33 = .ok (.iconst 0, 1) := by decide +kernel
theorem dX7_setupText_34 : decode cX7_setupText 34 = .ok (.bipush 99, 2) := by decide +kernel
theorem dX7_setupText_36 : decode cX7_setupText 36 = .ok (.invokevirtual 212, 3) := by decide +kernel
theorem dX7_setupText_39 : decode cX7_setupText 39 = .ok (.ifCond .eq 10, 3) := by decide +kernel
theorem dX7_setupText_42 : decode cX7_setupText 42 = .ok (.aload_n 0, 1) := by decide +kernel
theorem dX7_setupText_43 : decode cX7_setupText 43 = .ok (.invokevirtual 215, 3) := by decide +kernel
theorem dX7_setupText_46 : decode cX7_setupText 46 = .ok (.ifCond .ne 5, 3) := by decide +kernel
theorem dX7_setupText_49 : decode cX7_setupText 49 = .ok (.iconst 0, 1) := by decide +kernel
theorem dX7_setupText_50 : decode cX7_setupText 50 = .ok (.ireturn, 1) := by decide +kernel
theorem dX7_setupText_51 : decode cX7_setupText 51 = .ok (.aload_n 0, 1) := by decide +kernel
theorem dX7_setupText_52 : decode cX7_setupText 52 = .ok (.getfield 17, 3) := by decide +kernel
theorem dX7_setupText_55 : decode cX7_setupText 55 = .ok (.iconst 5, 1) := by decide +kernel
theorem dX7_setupText_56 : decode cX7_setupText 56 = .ok (.aload_n 0, 1) := by decide +kernel
theorem dX7_setupText_57 : decode cX7_setupText 57 = .ok (.getfield 36, 3) := by decide +kernel
theorem dX7_setupText_60 : decode cX7_setupText 60 = .ok (.iconst 0, 1) := by decide +kernel
theorem dX7_setupText_61 : decode cX7_setupText 61 = .ok (.iaload, 1) := by decide +kernel
theorem dX7_setupText_62 : decode cX7_setupText 62 = .ok (.iastore, 1) := by decide +kernel
theorem dX7_setupText_63 : decode cX7_setupText 63 = .ok (.aload_n 0, 1) := by decide +kernel
theorem dX7_setupText_64 : decode cX7_setupText 64 = .ok (.getfield 17, 3) := by decide +kernel
theorem dX7_setupText_67 : decode cX7_setupText 67 = .ok (.bipush 6, 2) := by decide +kernel
theorem dX7_setupText_69 : decode cX7_setupText 69 = .ok (.aload_n 0, 1) := by decide +kernel
theorem dX7_setupText_70 : decode cX7_setupText 70 = .ok (.getfield 36, 3) := by decide +kernel
theorem dX7_setupText_73 : decode cX7_setupText 73 = .ok (.iconst 1, 1) := by decide +kernel
theorem dX7_setupText_74 : decode cX7_setupText 74 = .ok (.iaload, 1) := by decide +kernel
theorem dX7_setupText_75 : decode cX7_setupText 75 = .ok (.iastore, 1) := by decide +kernel
theorem dX7_setupText_76 : decode cX7_setupText 76 = .ok (.aload_n 0, 1) := by decide +kernel
theorem dX7_setupText_77 : decode cX7_setupText 77 = .ok (.getfield 17, 3) := by decide +kernel
theorem dX7_setupText_80 : decode cX7_setupText 80 = .ok (.bipush 7, 2) := by decide +kernel
theorem dX7_setupText_82 : decode cX7_setupText 82 = .ok (.aload_n 0, 1) := by decide +kernel
theorem dX7_setupText_83 : decode cX7_setupText 83 = .ok (.getfield 36, 3) := by decide +kernel
theorem dX7_setupText_86 : decode cX7_setupText 86 = .ok (.iconst 2, 1) := by decide +kernel
theorem dX7_setupText_87 : decode cX7_setupText 87 = .ok (.iaload, 1) := by decide +kernel
theorem dX7_setupText_88 : decode cX7_setupText 88 = .ok (.iastore, 1) := by decide +kernel
theorem dX7_setupText_89 : decode cX7_setupText 89 = .ok (.aload_n 0, 1) := by decide +kernel
theorem dX7_setupText_90 : decode cX7_setupText 90 = .ok (.getfield 17, 3) := by decide +kernel
theorem dX7_setupText_93 : decode cX7_setupText 93 = .ok (.iconst 2, 1) := by decide +kernel
theorem dX7_setupText_94 : decode cX7_setupText 94 = .ok (.iconst 1, 1) := by decide +kernel
theorem dX7_setupText_95 : decode cX7_setupText 95 = .ok (.iastore, 1) := by decide +kernel
theorem dX7_setupText_96 : decode cX7_setupText 96 = .ok (.aload_n 0, 1) := by decide +kernel
theorem dX7_setupText_97 : decode cX7_setupText 97 = .ok (.ldc 218, 2) := by decide +kernel
theorem dX7_setupText_99 : decode cX7_setupText 99 = .ok (.invokevirtual 209, 3) := by decide +kernel
theorem dX7_setupText_102 : decode cX7_setupText 102 = .ok (.ifCond .ne 5, 3) := by decide +kernel
theorem dX7_setupText_105 : decode cX7_setupText 105 = .ok (.iconst 0, 1) := by decide +kernel
theorem dX7_setupText_106 : decode cX7_setupText 106 = .ok (.ireturn, 1) := by decide +kernel
theorem dX7_setupText_107 : decode cX7_setupText 107 = .ok (.aload_n 0, 1) := by decide +kernel
theorem dX7_setupText_108 : decode cX7_setupText 108 = .ok (.getfield 17, 3) := by decide +kernel
theorem dX7_setupText_111 : decode cX7_setupText 111 = .ok (.bipush 8, 2) := by decide +kernel
theorem dX7_setupText_113 : decode cX7_setupText 113 = .ok (.iaload, 1) := by decide +kernel
theorem dX7_setupText_114 : decode cX7_setupText 114 = .ok (.ifCond .eq 11, 3) := by decide +kernel
theorem dX7_setupText_117 : decode cX7_setupText 117 = .ok (.aload_n 0, 1) := by decide +kernel
theorem dX7_setupText_118 : decode cX7_setupText 118 = .ok (.getfield 156, 3) := by decide +kernel
theorem dX7_setupText_121 : decode cX7_setupText 121 = .ok (.iconst 2, 1) := by decide +kernel
theorem dX7_setupText_122 : decode cX7_setupText 122 = .ok (.if_icmp .eq 70, 3) := by decide +kernel
theorem dX7_setupText_125 : decode cX7_setupText 125 = .ok (.aload_n 0, 1) := by decide +kernel
theorem dX7_setupText_126 : decode cX7_setupText 126 = .ok (.iconst 0, 1) := by decide +kernel
theorem dX7_setupText_127 : decode cX7_setupText 127 = .ok (.bipush 9, 2) := by decide +kernel
theorem dX7_setupText_129 : decode cX7_setupText 129 = .ok (.invokevirtual 187, 3) := by decide +kernel
theorem dX7_setupText_132 : decode cX7_setupText 132 = .ok (.ifCond .ne 5, 3) := by decide +kernel
theorem dX7_setupText_135 : decode cX7_setupText 135 = .ok (.iconst 0, 1) := by decide +kernel
theorem dX7_setupText_136 : decode cX7_setupText 136 = .ok (.ireturn, 1) := by decide +kernel
theorem dX7_setupText_137 : decode cX7_setupText 137 = .ok (.aload_n 0, 1) := by decide +kernel
theorem dX7_setupText_138 : decode cX7_setupText 138 = .ok (.getfield 17, 3) := by decide +kernel
theorem dX7_setupText_141 : decode cX7_setupText 141 = .ok (.bipush 8, 2) := by decide +kernel
theorem dX7_setupText_143 : decode cX7_setupText 143 = .ok (.iaload, 1) := by decide +kernel
theorem dX7_setupText_144 : decode cX7_setupText 144 = .ok (.bipush 12, 2) := by decide +kernel
theorem dX7_setupText_146 : decode cX7_setupText 146 = .ok (.if_icmp .ne 9, 3) := by decide +kernel
theorem dX7_setupText_149 : decode cX7_setupText 149 = .ok (.aload_n 0, 1) := by decide +kernel
theorem dX7_setupText_150 : decode cX7_setupText 150 = .ok (.iconst 4, 1) := by decide +kernel
theorem dX7_setupText_151 : decode cX7_setupText 151 = .ok (.invokevirtual 177, 3) := by decide +kernel
theorem dX7_setupText_154 : decode cX7_setupText 154 = .ok (.ireturn, 1) := by decide +kernel
theorem dX7_setupText_155 : decode cX7_setupText 155 = .ok (.aload_n 0, 1) := by decide +kernel
theorem dX7_setupText_156 : decode cX7_setupText 156 = .ok (.getfield 17, 3) := by decide +kernel
theorem dX7_setupText_159 : decode cX7_setupText 159 = .ok (.bipush 11, 2) := by decide +kernel
theorem dX7_setupText_161 : decode cX7_setupText 161 = .ok (.aload_n 0, 1) := by decide +kernel
theorem dX7_setupText_162 : decode cX7_setupText 162 = .ok (.getfield 17, 3) := by decide +kernel
theorem dX7_setupText_165 : decode cX7_setupText 165 = .ok (.bipush 8, 2) := by decide +kernel
theorem dX7_setupText_167 : decode cX7_setupText 167 = .ok (.iaload, 1) := by decide +kernel
theorem dX7_setupText_168 : decode cX7_setupText 168 = .ok (.iadd, 1) := by decide +kernel
theorem dX7_setupText_169 : decode cX7_setupText 169 = .ok (.aload_n 0, 1) := by decide +kernel
theorem dX7_setupText_170 : decode cX7_setupText 170 = .ok (.getfield 166, 3) := by decide +kernel
theorem dX7_setupText_173 : decode cX7_setupText 173 = .ok (.iastore, 1) := by decide +kernel
theorem dX7_setupText_174 : decode cX7_setupText 174 = .ok (.aload_n 0, 1) := by decide +kernel
theorem dX7_setupText_175 : decode cX7_setupText 175 = .ok (.getfield 17, 3) := by decide +kernel
theorem dX7_setupText_178 : decode cX7_setupText 178 = .ok (.bipush 8, 2) := by decide +kernel
theorem dX7_setupText_180 : decode cX7_setupText 180 = .ok (.dup2, 1) := by decide +kernel
theorem dX7_setupText_181 : decode cX7_setupText 181 = .ok (.iaload, 1) := by decide +kernel
theorem dX7_setupText_182 : decode cX7_setupText 182 = .ok (.iconst 1, 1) := by decide +kernel
theorem dX7_setupText_183 : decode cX7_setupText 183 = .ok (.iadd, 1) := by decide +kernel
theorem dX7_setupText_184 : decode cX7_setupText 184 = .ok (.iastore, 1) := by decide +kernel
theorem dX7_setupText_185 : decode cX7_setupText 185 = .ok (.aload_n 0, 1) := by decide +kernel
theorem dX7_setupText_186 : decode cX7_setupText 186 = .ok (.invokevirtual 180, 3) := by decide +kernel
theorem dX7_setupText_189 : decode cX7_setupText 189 = .ok (.goto (-82), 3) := by decide +kernel
theorem dX7_setupText_192 : decode cX7_setupText 192 = .ok (.aload_n 0, 1) := by decide +kernel
theorem dX7_setupText_193 : decode cX7_setupText 193 = .ok (.invokevirtual 180, 3) := by decide +kernel
theorem dX7_setupText_196 : decode cX7_setupText 196 = .ok (.aload_n 0, 1) := by decide +kernel
theorem dX7_setupText_197 : decode cX7_setupText 197 = .ok (.invokevirtual 220, 3) := by decide +kernel
theorem dX7_setupText_200 : decode cX7_setupText 200 = .ok (.ifCond .lt 7, 3) := by decide +kernel
theorem dX7_setupText_203 : decode cX7_setupText 203 = .ok (.iconst 1, 1) := by decide +kernel
theorem dX7_setupText_204 : decode cX7_setupText 204 = .ok (.goto 4, 3) := by decide +kernel
theorem dX7_setupText_207 : decode cX7_setupText 207 = .ok (.iconst 0, 1) := by decide +kernel
theorem dX7_setupText_208 : decode cX7_setupText 208 = .ok (.ireturn, 1) := by decide +kernel
theorem hd_X7_setupText : yX7_setupText.cls = RX7 ∧ yX7_setupText.cls ≠ "java/lang/invoke/MethodHandle" ∧ yX7_setupText.cls ≠ "java/lang/invoke/VarHandle" ∧ (parseMethodDescriptor yX7_setupText.desc).map (fun d => d.parameters.length) = some 0 := by decide +kernel
set_option maxRecDepth 100000 in
set_option maxHeartbeats 4000000 in
theorem c_X7_setupText (l : Launch) (D : va_G) (g : xG) (tb : List xQ) (hT : x_T g tb)  (h0 : x_md tb) {M : xM} {r : Int32} {M' : xM} (hf : f_X7_setupText  M = some (r, M')) :
    cI l D g tb yX7_setupText cX7_setupText 1 .boolean ({ frames := 9, cells := 0, slots := 0, locals := 208 } : Room) [.ref (g.1 5 2500)] M r M' := by
  refine x_startZ (own := RX7) (by decide +kernel) rfl rfl (Nat.le_of_ble_eq_true rfl) hT ?_
  intro p e s m args below meth c Q C0 hend
  have B125 : ∀ (k107 : xM → Option (Int32 × xM)) (hk107 : ∀ (M : xM), k107 M = some (r, M') → WW p l e ({ frames := 9, cells := 0, slots := 0, locals := 208 } : Room) s m args below meth c 0 0 Q 1 D g tb 107 [(0, .ref (g.1 5 2500))] [] M), ∀ (M : xM), f_X7_setupText_c125 k107  M = some (r, M') → WW p l e ({ frames := 9, cells := 0, slots := 0, locals := 208 } : Room) s m args below meth c 0 0 Q 1 D g tb 125 [(0, .ref (g.1 5 2500))] [] M := by
    intro k107 hk107   M hf
    unfold f_X7_setupText_c125 at hf
    refine r_aload_n C0 (kk := 0) 0 rfl dX7_setupText_125 ?_
    refine r_iconst C0 (v := 0) dX7_setupText_126 rfl ?_
    refine r_bipush C0 (v := 9) dX7_setupText_127 rfl ?_
    obtain ⟨r35, M34, hc33, hf⟩ := bd2_e hf
    refine r_callVi C0 (As := [.int 0, .int 9]) (rest := []) (c_X7_numberIn l D g tb hT h0 hc33) w6_43 w6_45 wp3_6 w1_14 w6_46 (x_rec5 C0 h0.1) hd_X7_numberIn rfl ⟨rfl, rfl⟩ ⟨Nat.le_of_ble_eq_true rfl, Nat.le_of_ble_eq_true rfl⟩ (by decide) (by decide) rfl (Nat.le_of_ble_eq_true rfl) dX7_setupText_129 ?_
    refine r_if_ne C0 (tgt := 137) (by decide) dX7_setupText_132 (fun q36 => ?_) (fun q36 => ?_)
    · have hf := ie_f hf q36
      refine r_aload_n C0 (kk := 0) 0 rfl dX7_setupText_137 ?_
      refine r_get5 C0 h0.1 5 (by decide) (v := .ref (g.1 6 2520)) rfl rfl w6_221 dX7_setupText_138 ?_
      refine r_bipush C0 (v := 8) dX7_setupText_141 rfl ?_
      refine r_ialdc C0 h0.2.1 (z := 2528) (by decide) (by decide) dX7_setupText_143 ?_
      refine r_bipush C0 (v := 12) dX7_setupText_144 rfl ?_
      refine r_icmp_ne C0 (tgt := 155) (by decide) dX7_setupText_146 (fun q37 => ?_) (fun q37 => ?_)
      · have hf := ie_f hf q37
        refine r_aload_n C0 (kk := 0) 0 rfl dX7_setupText_155 ?_
        refine r_get5 C0 h0.1 5 (by decide) (v := .ref (g.1 6 2520)) rfl rfl w6_221 dX7_setupText_156 ?_
        refine r_bipush C0 (v := 11) dX7_setupText_159 rfl ?_
        refine r_aload_n C0 (kk := 0) 0 rfl dX7_setupText_161 ?_
        refine r_get5 C0 h0.1 5 (by decide) (v := .ref (g.1 6 2520)) rfl rfl w6_221 dX7_setupText_162 ?_
        refine r_bipush C0 (v := 8) dX7_setupText_165 rfl ?_
        refine r_ialdc C0 h0.2.1 (z := 2528) (by decide) (by decide) dX7_setupText_167 ?_
        refine r_iadd C0 dX7_setupText_168 ?_
        refine r_aload_n C0 (kk := 0) 0 rfl dX7_setupText_169 ?_
        refine r_get5 C0 h0.1 18 (by decide) (v := .int (M34 2518)) rfl rfl w6_234 dX7_setupText_170 ?_
        obtain ⟨q38, hf⟩ := gd_e hf
        refine r_iastc C0 h0.2.1 q38 rfl dX7_setupText_173 ?_
        refine r_aload_n C0 (kk := 0) 0 rfl dX7_setupText_174 ?_
        refine r_get5 C0 h0.1 5 (by decide) (v := .ref (g.1 6 2520)) rfl rfl w6_221 dX7_setupText_175 ?_
        refine r_bipush C0 (v := 8) dX7_setupText_178 rfl ?_
        refine r_dup2 C0 rfl rfl dX7_setupText_180 ?_
        refine r_ialdc C0 h0.2.1 (z := 2528) (by decide) (by decide) dX7_setupText_181 ?_
        refine r_iconst C0 (v := 1) dX7_setupText_182 rfl ?_
        refine r_iadd C0 dX7_setupText_183 ?_
        refine r_iastc C0 h0.2.1 (z := 2528) (by decide) (by decide) dX7_setupText_184 ?_
        refine r_aload_n C0 (kk := 0) 0 rfl dX7_setupText_185 ?_
        obtain ⟨M40, hc39, hf⟩ := bd_e hf
        refine r_callVv C0 (As := []) (rest := []) (c_X7_next l D g tb hT h0 hc39) w6_5 w6_7 wp3_0 w1_14 w6_8 (x_rec5 C0 h0.1) hd_X7_next rfl ⟨rfl, rfl⟩ ⟨Nat.le_of_ble_eq_true rfl, Nat.le_of_ble_eq_true rfl⟩ (by decide) (by decide) rfl (Nat.le_of_ble_eq_true rfl) dX7_setupText_186 ?_
        refine r_goto C0 (tgt := 107) (by decide) dX7_setupText_189 ?_
        exact hk107   _ hf
      · have hf := ie_t hf q37
        refine r_aload_n C0 (kk := 0) 0 rfl dX7_setupText_149 ?_
        refine r_iconst C0 (v := 4) dX7_setupText_150 rfl ?_
        obtain ⟨r43, M42, hc41, hf⟩ := bd2_e hf
        refine r_callVi C0 (As := [.int 4]) (rest := []) (c_X7_wrong l D g tb hT h0 hc41) w6_35 w6_37 wp3_4 w1_14 w6_38 (x_rec5 C0 h0.1) hd_X7_wrong rfl ⟨rfl, rfl⟩ ⟨Nat.le_of_ble_eq_true rfl, Nat.le_of_ble_eq_true rfl⟩ (by decide) (by decide) rfl (Nat.le_of_ble_eq_true rfl) dX7_setupText_151 ?_
        obtain ⟨q44, hf⟩ := gd_e hf
        exact hend q44 hf dX7_setupText_154
    · have hf := ie_t hf q36
      refine r_iconst C0 (v := 0) dX7_setupText_135 rfl ?_
      exact hend (by decide) hf dX7_setupText_136
  have B107 : ∀ (k107 : xM → Option (Int32 × xM)) (hk107 : ∀ (M : xM), k107 M = some (r, M') → WW p l e ({ frames := 9, cells := 0, slots := 0, locals := 208 } : Room) s m args below meth c 0 0 Q 1 D g tb 107 [(0, .ref (g.1 5 2500))] [] M), ∀ (M : xM), fb_X7_setupText_c107 k107  M = some (r, M') → WW p l e ({ frames := 9, cells := 0, slots := 0, locals := 208 } : Room) s m args below meth c 0 0 Q 1 D g tb 107 [(0, .ref (g.1 5 2500))] [] M := by
    intro k107 hk107   M hf
    unfold fb_X7_setupText_c107 at hf
    refine r_aload_n C0 (kk := 0) 0 rfl dX7_setupText_107 ?_
    refine r_get5 C0 h0.1 5 (by decide) (v := .ref (g.1 6 2520)) rfl rfl w6_221 dX7_setupText_108 ?_
    refine r_bipush C0 (v := 8) dX7_setupText_111 rfl ?_
    refine r_ialdc C0 h0.2.1 (z := 2528) (by decide) (by decide) dX7_setupText_113 ?_
    refine r_if_eq C0 (tgt := 125) (by decide) dX7_setupText_114 (fun q25 => ?_) (fun q25 => ?_)
    · have hf := ie_t hf q25
      exact B125 k107 hk107   _ hf
    · have hf := ie_f hf q25
      refine r_aload_n C0 (kk := 0) 0 rfl dX7_setupText_117 ?_
      refine r_get5 C0 h0.1 16 (by decide) (v := .int (M 2516)) rfl rfl w6_232 dX7_setupText_118 ?_
      refine r_iconst C0 (v := 2) dX7_setupText_121 rfl ?_
      refine r_icmp_eq C0 (tgt := 192) (by decide) dX7_setupText_122 (fun q26 => ?_) (fun q26 => ?_)
      · have hf := ie_t hf q26
        refine r_aload_n C0 (kk := 0) 0 rfl dX7_setupText_192 ?_
        obtain ⟨M28, hc27, hf⟩ := bd_e hf
        refine r_callVv C0 (As := []) (rest := []) (c_X7_next l D g tb hT h0 hc27) w6_5 w6_7 wp3_0 w1_14 w6_8 (x_rec5 C0 h0.1) hd_X7_next rfl ⟨rfl, rfl⟩ ⟨Nat.le_of_ble_eq_true rfl, Nat.le_of_ble_eq_true rfl⟩ (by decide) (by decide) rfl (Nat.le_of_ble_eq_true rfl) dX7_setupText_193 ?_
        refine r_aload_n C0 (kk := 0) 0 rfl dX7_setupText_196 ?_
        obtain ⟨r31, M30, hc29, hf⟩ := bd2_e hf
        refine r_callVi C0 (As := []) (rest := []) (c_X7_commandsText l D g tb hT h0 hc29) w6_56 w6_58 wp3_9 w1_14 w6_59 (x_rec5 C0 h0.1) hd_X7_commandsText rfl ⟨rfl, rfl⟩ ⟨Nat.le_of_ble_eq_true rfl, Nat.le_of_ble_eq_true rfl⟩ (by decide) (by decide) rfl (Nat.le_of_ble_eq_true rfl) dX7_setupText_197 ?_
        refine r_if_lt C0 (tgt := 207) (by decide) dX7_setupText_200 (fun q32 => ?_) (fun q32 => ?_)
        · have hf := ie_t hf q32
          refine r_iconst C0 (v := 0) dX7_setupText_207 rfl ?_
          exact hend (by decide) hf dX7_setupText_208
        · have hf := ie_f hf q32
          refine r_iconst C0 (v := 1) dX7_setupText_203 rfl ?_
          refine r_goto C0 (tgt := 208) (by decide) dX7_setupText_204 ?_
          exact hend (by decide) hf dX7_setupText_208
      · have hf := ie_f hf q26
        exact B125 k107 hk107   _ hf
  have L107 : ∀ (M : xM), f_X7_setupText_c107   M = some (r, M') → WW p l e ({ frames := 9, cells := 0, slots := 0, locals := 208 } : Room) s m args below meth c 0 0 Q 1 D g tb 107 [(0, .ref (g.1 5 2500))] [] M := lp_ind (P := fun f => ∀ (M : xM), f M = some (r, M') → WW p l e ({ frames := 9, cells := 0, slots := 0, locals := 208 } : Room) s m args below meth c 0 0 Q 1 D g tb 107 [(0, .ref (g.1 5 2500))] [] M) (fun  _ h => none_ne h) (fun f hf => B107 f hf) FU
  unfold f_X7_setupText at hf
  refine r_aload_n C0 (kk := 0) 0 rfl dX7_setupText_0 ?_
  refine r_ldcs C0 (si := 21) rfl dX7_setupText_1 ?_
  obtain ⟨r3, M2, hc1, hf⟩ := bd2_e hf
  refine r_callVi C0 (As := [.ref (g.1 20 21)]) (rest := []) (c_X7_expects l D g tb hT h0 (by decide) hc1) w6_24 w6_26 wp3_2 w1_14 w6_27 (x_rec5 C0 h0.1) hd_X7_expects rfl ⟨rfl, rfl⟩ ⟨Nat.le_of_ble_eq_true rfl, Nat.le_of_ble_eq_true rfl⟩ (by decide) (by decide) rfl (Nat.le_of_ble_eq_true rfl) dX7_setupText_3 ?_
  refine r_if_eq C0 (tgt := 49) (by decide) dX7_setupText_6 (fun q4 => ?_) (fun q4 => ?_)
  · have hf := ie_t hf q4
    refine r_iconst C0 (v := 0) dX7_setupText_49 rfl ?_
    exact hend (by decide) hf dX7_setupText_50
  · have hf := ie_f hf q4
    refine r_aload_n C0 (kk := 0) 0 rfl dX7_setupText_9 ?_
    refine r_iconst C0 (v := 0) dX7_setupText_10 rfl ?_
    refine r_iconst C0 (v := 1) dX7_setupText_11 rfl ?_
    refine r_bipush C0 (v := 9) dX7_setupText_12 rfl ?_
    obtain ⟨r7, M6, hc5, hf⟩ := bd2_e hf
    refine r_callVi C0 (As := [.int 0, .int 1, .int 9]) (rest := []) (c_X7_into l D g tb hT h0 hc5) w6_39 w6_41 wp3_5 w1_14 w6_42 (x_rec5 C0 h0.1) hd_X7_into rfl ⟨rfl, rfl⟩ ⟨Nat.le_of_ble_eq_true rfl, Nat.le_of_ble_eq_true rfl⟩ (by decide) (by decide) rfl (Nat.le_of_ble_eq_true rfl) dX7_setupText_14 ?_
    refine r_if_eq C0 (tgt := 49) (by decide) dX7_setupText_17 (fun q8 => ?_) (fun q8 => ?_)
    · have hf := ie_t hf q8
      refine r_iconst C0 (v := 0) dX7_setupText_49 rfl ?_
      exact hend (by decide) hf dX7_setupText_50
    · have hf := ie_f hf q8
      refine r_aload_n C0 (kk := 0) 0 rfl dX7_setupText_20 ?_
      refine r_iconst C0 (v := 1) dX7_setupText_21 rfl ?_
      refine r_iconst C0 (v := 1) dX7_setupText_22 rfl ?_
      refine r_bipush C0 (v := 60) dX7_setupText_23 rfl ?_
      obtain ⟨r11, M10, hc9, hf⟩ := bd2_e hf
      refine r_callVi C0 (As := [.int 1, .int 1, .int 60]) (rest := []) (c_X7_into l D g tb hT h0 hc9) w6_39 w6_41 wp3_5 w1_14 w6_42 (x_rec5 C0 h0.1) hd_X7_into rfl ⟨rfl, rfl⟩ ⟨Nat.le_of_ble_eq_true rfl, Nat.le_of_ble_eq_true rfl⟩ (by decide) (by decide) rfl (Nat.le_of_ble_eq_true rfl) dX7_setupText_25 ?_
      refine r_if_eq C0 (tgt := 49) (by decide) dX7_setupText_28 (fun q12 => ?_) (fun q12 => ?_)
      · have hf := ie_t hf q12
        refine r_iconst C0 (v := 0) dX7_setupText_49 rfl ?_
        exact hend (by decide) hf dX7_setupText_50
      · have hf := ie_f hf q12
        refine r_aload_n C0 (kk := 0) 0 rfl dX7_setupText_31 ?_
        refine r_iconst C0 (v := 2) dX7_setupText_32 rfl ?_
        refine r_iconst C0 (v := 0) dX7_setupText_33 rfl ?_
        refine r_bipush C0 (v := 99) dX7_setupText_34 rfl ?_
        obtain ⟨r15, M14, hc13, hf⟩ := bd2_e hf
        refine r_callVi C0 (As := [.int 2, .int 0, .int 99]) (rest := []) (c_X7_into l D g tb hT h0 hc13) w6_39 w6_41 wp3_5 w1_14 w6_42 (x_rec5 C0 h0.1) hd_X7_into rfl ⟨rfl, rfl⟩ ⟨Nat.le_of_ble_eq_true rfl, Nat.le_of_ble_eq_true rfl⟩ (by decide) (by decide) rfl (Nat.le_of_ble_eq_true rfl) dX7_setupText_36 ?_
        refine r_if_eq C0 (tgt := 49) (by decide) dX7_setupText_39 (fun q16 => ?_) (fun q16 => ?_)
        · have hf := ie_t hf q16
          refine r_iconst C0 (v := 0) dX7_setupText_49 rfl ?_
          exact hend (by decide) hf dX7_setupText_50
        · have hf := ie_f hf q16
          refine r_aload_n C0 (kk := 0) 0 rfl dX7_setupText_42 ?_
          obtain ⟨r19, M18, hc17, hf⟩ := bd2_e hf
          refine r_callVi C0 (As := []) (rest := []) (c_X7_semicolon l D g tb hT h0 hc17) w6_47 w6_49 wp3_7 w1_14 w6_50 (x_rec5 C0 h0.1) hd_X7_semicolon rfl ⟨rfl, rfl⟩ ⟨Nat.le_of_ble_eq_true rfl, Nat.le_of_ble_eq_true rfl⟩ (by decide) (by decide) rfl (Nat.le_of_ble_eq_true rfl) dX7_setupText_43 ?_
          refine r_if_ne C0 (tgt := 51) (by decide) dX7_setupText_46 (fun q20 => ?_) (fun q20 => ?_)
          · have hf := ie_f hf q20
            refine r_aload_n C0 (kk := 0) 0 rfl dX7_setupText_51 ?_
            refine r_get5 C0 h0.1 5 (by decide) (v := .ref (g.1 6 2520)) rfl rfl w6_221 dX7_setupText_52 ?_
            refine r_iconst C0 (v := 5) dX7_setupText_55 rfl ?_
            refine r_aload_n C0 (kk := 0) 0 rfl dX7_setupText_56 ?_
            refine r_get5 C0 h0.1 13 (by decide) (v := .ref (g.1 6 4147)) rfl rfl w6_229 dX7_setupText_57 ?_
            refine r_iconst C0 (v := 0) dX7_setupText_60 rfl ?_
            refine r_ialdc C0 h0.2.2.2.2.2.2.2.1 (z := 4147) (by decide) (by decide) dX7_setupText_61 ?_
            refine r_iastc C0 h0.2.1 (z := 2525) (by decide) (by decide) dX7_setupText_62 ?_
            refine r_aload_n C0 (kk := 0) 0 rfl dX7_setupText_63 ?_
            refine r_get5 C0 h0.1 5 (by decide) (v := .ref (g.1 6 2520)) rfl rfl w6_221 dX7_setupText_64 ?_
            refine r_bipush C0 (v := 6) dX7_setupText_67 rfl ?_
            refine r_aload_n C0 (kk := 0) 0 rfl dX7_setupText_69 ?_
            refine r_get5 C0 h0.1 13 (by decide) (v := .ref (g.1 6 4147)) rfl rfl w6_229 dX7_setupText_70 ?_
            refine r_iconst C0 (v := 1) dX7_setupText_73 rfl ?_
            refine r_ialdc C0 h0.2.2.2.2.2.2.2.1 (z := 4148) (by decide) (by decide) dX7_setupText_74 ?_
            refine r_iastc C0 h0.2.1 (z := 2526) (by decide) (by decide) dX7_setupText_75 ?_
            refine r_aload_n C0 (kk := 0) 0 rfl dX7_setupText_76 ?_
            refine r_get5 C0 h0.1 5 (by decide) (v := .ref (g.1 6 2520)) rfl rfl w6_221 dX7_setupText_77 ?_
            refine r_bipush C0 (v := 7) dX7_setupText_80 rfl ?_
            refine r_aload_n C0 (kk := 0) 0 rfl dX7_setupText_82 ?_
            refine r_get5 C0 h0.1 13 (by decide) (v := .ref (g.1 6 4147)) rfl rfl w6_229 dX7_setupText_83 ?_
            refine r_iconst C0 (v := 2) dX7_setupText_86 rfl ?_
            refine r_ialdc C0 h0.2.2.2.2.2.2.2.1 (z := 4149) (by decide) (by decide) dX7_setupText_87 ?_
            refine r_iastc C0 h0.2.1 (z := 2527) (by decide) (by decide) dX7_setupText_88 ?_
            refine r_aload_n C0 (kk := 0) 0 rfl dX7_setupText_89 ?_
            refine r_get5 C0 h0.1 5 (by decide) (v := .ref (g.1 6 2520)) rfl rfl w6_221 dX7_setupText_90 ?_
            refine r_iconst C0 (v := 2) dX7_setupText_93 rfl ?_
            refine r_iconst C0 (v := 1) dX7_setupText_94 rfl ?_
            refine r_iastc C0 h0.2.1 (z := 2522) (by decide) (by decide) dX7_setupText_95 ?_
            refine r_aload_n C0 (kk := 0) 0 rfl dX7_setupText_96 ?_
            refine r_ldcs C0 (si := 22) rfl dX7_setupText_97 ?_
            obtain ⟨r23, M22, hc21, hf⟩ := bd2_e hf
            refine r_callVi C0 (As := [.ref (g.1 20 22)]) (rest := []) (c_X7_expects l D g tb hT h0 (by decide) hc21) w6_24 w6_26 wp3_2 w1_14 w6_27 (x_rec5 C0 h0.1) hd_X7_expects rfl ⟨rfl, rfl⟩ ⟨Nat.le_of_ble_eq_true rfl, Nat.le_of_ble_eq_true rfl⟩ (by decide) (by decide) rfl (Nat.le_of_ble_eq_true rfl) dX7_setupText_99 ?_
            refine r_if_ne C0 (tgt := 107) (by decide) dX7_setupText_102 (fun q24 => ?_) (fun q24 => ?_)
            · have hf := ie_f hf q24
              exact L107     _ hf
            · have hf := ie_t hf q24
              refine r_iconst C0 (v := 0) dX7_setupText_105 rfl ?_
              exact hend (by decide) hf dX7_setupText_106
          · have hf := ie_t hf q20
            refine r_iconst C0 (v := 0) dX7_setupText_49 rfl ?_
            exact hend (by decide) hf dX7_setupText_50
theorem dX7_loadSetup_0 : decode cX7_loadSetup 0 = .ok (.aload_n 0, 1) := by decide +kernel
theorem dX7_loadSetup_1 : decode cX7_loadSetup 1 = .ok (.iconst 0, 1) := by decide +kernel
theorem dX7_loadSetup_2 : decode cX7_loadSetup 2 = .ok (.putfield 60, 3) := by decide +kernel
theorem dX7_loadSetup_5 : decode cX7_loadSetup 5 = .ok (.aload_n 0, 1) := by decide +kernel
theorem dX7_loadSetup_6 : decode cX7_loadSetup 6 = .ok (.invokevirtual 283, 3) := by decide +kernel
theorem dX7_loadSetup_9 : decode cX7_loadSetup 9 = .ok (.iconst 0, 1) := by decide +kernel
theorem dX7_loadSetup_10 : decode cX7_loadSetup 10 = .ok (.istore_n 1, 1) := by decide +kernel
theorem dX7_loadSetup_11 : decode cX7_loadSetup 11 = .ok (.iload_n 1, 1) := by decide +kernel
theorem dX7_loadSetup_12 : decode cX7_loadSetup 12 = .ok (.bipush 125, 2) := by decide +kernel
theorem dX7_loadSetup_14 : decode cX7_loadSetup 14 = .ok (.if_icmp .ge 16, 3) := by decide +kernel
theorem dX7_loadSetup_17 : decode cX7_loadSetup 17 = .ok (.aload_n 0, 1) := by decide +kernel
theorem dX7_loadSetup_18 : decode cX7_loadSetup 18 = .ok (.getfield 17, 3) := by decide +kernel
theorem dX7_loadSetup_21 : decode cX7_loadSetup 21 = .ok (.iload_n 1, 1) := by decide +kernel
theorem dX7_loadSetup_22 : decode cX7_loadSetup 22 = .ok (.iconst 0, 1) := by decide +kernel
theorem dX7_loadSetup_23 : decode cX7_loadSetup 23 = .ok (.iastore, 1) := by decide +kernel
theorem dX7_loadSetup_24 : decode cX7_loadSetup 24 = .ok (.iinc 1 1, 3) := by decide +kernel
theorem dX7_loadSetup_27 : decode cX7_loadSetup 27 = .ok (.goto (-16), 3) := by decide +kernel
theorem dX7_loadSetup_30 : decode cX7_loadSetup 30 = .ok (.aload_n 0, 1) := by decide +kernel
theorem dX7_loadSetup_31 : decode cX7_loadSetup 31 = .ok (.invokevirtual 286, 3) := by decide +kernel
theorem dX7_loadSetup_34 : decode cX7_loadSetup 34 = .ok (.aload_n 0, 1) := by decide +kernel
theorem dX7_loadSetup_35 : decode cX7_loadSetup 35 = .ok (.invokevirtual 289, 3) := by decide +kernel
theorem dX7_loadSetup_38 : decode cX7_loadSetup 38 = .ok (.istore_n 1, 1) := by decide +kernel
theorem dX7_loadSetup_39 : decode cX7_loadSetup 39 = .ok (.aload_n 0, 1) := by decide +kernel
theorem dX7_loadSetup_40 : decode cX7_loadSetup 40 = .ok (.iconst 0, 1) := by decide +kernel
theorem dX7_loadSetup_41 : decode cX7_loadSetup 41 = .ok (.putfield 54, 3) := by decide +kernel
theorem dX7_loadSetup_44 : decode cX7_loadSetup 44 = .ok (.iload_n 1, 1) := by decide +kernel
theorem dX7_loadSetup_45 : decode cX7_loadSetup 45 = .ok (.ifCond .ne 9, 3) := by decide +kernel
theorem dX7_loadSetup_48 : decode cX7_loadSetup 48 = .ok (.aload_n 0, 1) := by decide +kernel
theorem dX7_loadSetup_49 : decode cX7_loadSetup 49 = .ok (.iconst (-1), 1) := by decide +kernel
theorem dX7_loadSetup_50 : decode cX7_loadSetup 50 = .ok (.invokevirtual 292, 3) := by decide +kernel
theorem dX7_loadSetup_53 : decode cX7_loadSetup 53 = .ok (.ireturn, 1) := by decide +kernel
theorem dX7_loadSetup_54 : decode cX7_loadSetup 54 = .ok (.aload_n 0, 1) := by decide +kernel
theorem dX7_loadSetup_55 : decode cX7_loadSetup 55 = .ok (.iconst 0, 1) := by decide +kernel
theorem dX7_loadSetup_56 : decode cX7_loadSetup 56 = .ok (.putfield 295, 3) := by decide +kernel
theorem dX7_loadSetup_59 : decode cX7_loadSetup 59 = .ok (.aload_n 0, 1) := by decide +kernel
theorem dX7_loadSetup_60 : decode cX7_loadSetup 60 = .ok (.getfield 32, 3) := by decide +kernel
theorem dX7_loadSetup_63 : decode cX7_loadSetup 63 = .ok (.iconst 0, 1) := by decide +kernel
theorem dX7_loadSetup_64 : decode cX7_loadSetup 64 = .ok (.iconst 0, 1) := by decide +kernel
theorem dX7_loadSetup_65 : decode cX7_loadSetup 65 = .ok (.bastore, 1) := by decide +kernel
theorem dX7_loadSetup_66 : decode cX7_loadSetup 66 = .ok (.aload_n 0, 1) := by decide +kernel
theorem dX7_loadSetup_67 : decode cX7_loadSetup 67 = .ok (.getfield 32, 3) := by decide +kernel
theorem dX7_loadSetup_70 : decode cX7_loadSetup 70 = .ok (.iconst 1, 1) := by decide +kernel
theorem dX7_loadSetup_71 : decode cX7_loadSetup 71 = .ok (.iconst 0, 1) := by decide +kernel
theorem dX7_loadSetup_72 : decode cX7_loadSetup 72 = .ok (.bastore, 1) := by decide +kernel
theorem dX7_loadSetup_73 : decode cX7_loadSetup 73 = .ok (.aload_n 0, 1) := by decide +kernel
theorem dX7_loadSetup_74 : decode cX7_loadSetup 74 = .ok (.getfield 17, 3) := by decide +kernel
theorem dX7_loadSetup_77 : decode cX7_loadSetup 77 = .ok (.bipush 9, 2) := by decide +kernel
theorem dX7_loadSetup_79 : decode cX7_loadSetup 79 = .ok (.iaload, 1) := by decide +kernel
theorem dX7_loadSetup_80 : decode cX7_loadSetup 80 = .ok (.ireturn, 1) := by decide +kernel
theorem hd_X7_loadSetup : yX7_loadSetup.cls = RX7 ∧ yX7_loadSetup.cls ≠ "java/lang/invoke/MethodHandle" ∧ yX7_loadSetup.cls ≠ "java/lang/invoke/VarHandle" ∧ (parseMethodDescriptor yX7_loadSetup.desc).map (fun d => d.parameters.length) = some 0 := by decide +kernel
set_option maxRecDepth 100000 in
set_option maxHeartbeats 4000000 in
theorem c_X7_loadSetup (l : Launch) (D : va_G) (g : xG) (tb : List xQ) (hT : x_T g tb)  (h0 : x_md tb) {M : xM} {r : Int32} {M' : xM} (hf : f_X7_loadSetup  M = some (r, M')) :
    cI l D g tb yX7_loadSetup cX7_loadSetup 2 .int ({ frames := 10, cells := 0, slots := 0, locals := 228 } : Room) [.ref (g.1 5 2500)] M r M' := by
  refine x_startI (own := RX7) (by decide +kernel) rfl rfl (Nat.le_of_ble_eq_true rfl) hT ?_
  intro p e s m args below meth c Q C0 hend
  have B11 : ∀ (k11 : Int32 → xM → Option (Int32 × xM)) (hk11 : ∀ (v1 : Int32)  (M : xM), k11 v1 M = some (r, M') → WW p l e ({ frames := 10, cells := 0, slots := 0, locals := 228 } : Room) s m args below meth c 0 0 Q 2 D g tb 11 [(0, .ref (g.1 5 2500)), (1, .int v1)] [] M), ∀ (v1 : Int32)  (M : xM), fb_X7_loadSetup_c11 k11  v1 M = some (r, M') → WW p l e ({ frames := 10, cells := 0, slots := 0, locals := 228 } : Room) s m args below meth c 0 0 Q 2 D g tb 11 [(0, .ref (g.1 5 2500)), (1, .int v1)] [] M := by
    intro k11 hk11 v1  M hf
    unfold fb_X7_loadSetup_c11 at hf
    refine r_iload_n C0 (kk := 1) 1 rfl dX7_loadSetup_11 ?_
    refine r_bipush C0 (v := 125) dX7_loadSetup_12 rfl ?_
    refine r_icmp_ge C0 (tgt := 30) (by decide) dX7_loadSetup_14 (fun q3 => ?_) (fun q3 => ?_)
    · have hf := ie_t hf q3
      refine r_aload_n C0 (kk := 0) 0 rfl dX7_loadSetup_30 ?_
      obtain ⟨M5, hc4, hf⟩ := bd_e hf
      refine r_callVv C0 (As := []) (rest := []) (c_X7_startText l D g tb hT h0 hc4) w6_1 w6_3 wp2_15 w1_14 w6_4 (x_rec5 C0 h0.1) hd_X7_startText rfl ⟨rfl, rfl⟩ ⟨Nat.le_of_ble_eq_true rfl, Nat.le_of_ble_eq_true rfl⟩ (by decide) (by decide) rfl (Nat.le_of_ble_eq_true rfl) dX7_loadSetup_31 ?_
      refine r_aload_n C0 (kk := 0) 0 rfl dX7_loadSetup_34 ?_
      obtain ⟨r8, M7, hc6, hf⟩ := bd2_e hf
      refine r_callVi C0 (As := []) (rest := []) (c_X7_setupText l D g tb hT h0 hc6) w6_19 w6_21 wp3_1 w1_14 w6_22 (x_rec5 C0 h0.1) hd_X7_setupText rfl ⟨rfl, rfl⟩ ⟨Nat.le_of_ble_eq_true rfl, Nat.le_of_ble_eq_true rfl⟩ (by decide) (by decide) rfl (Nat.le_of_ble_eq_true rfl) dX7_loadSetup_35 ?_
      refine r_istore_n C0 (kk := 1) (lv2 := [(1, .int r8), (0, .ref (g.1 5 2500))]) (by decide) rfl dX7_loadSetup_38 ?_
      refine r_aload_n C0 (kk := 0) 1 rfl dX7_loadSetup_39 ?_
      refine r_iconst C0 (v := 0) dX7_loadSetup_40 rfl ?_
      refine r_put5 C0 h0.1 1 rfl rfl w6_217 rfl rfl rfl dX7_loadSetup_41 ?_
      refine r_iload_n C0 (kk := 1) 0 rfl dX7_loadSetup_44 ?_
      refine r_if_ne C0 (tgt := 54) (by decide) dX7_loadSetup_45 (fun q9 => ?_) (fun q9 => ?_)
      · have hf := ie_f hf q9
        refine r_aload_n C0 (kk := 0) 1 rfl dX7_loadSetup_54 ?_
        refine r_iconst C0 (v := 0) dX7_loadSetup_55 rfl ?_
        refine r_put5 C0 h0.1 9 rfl rfl w6_225 rfl rfl rfl dX7_loadSetup_56 ?_
        refine r_aload_n C0 (kk := 0) 1 rfl dX7_loadSetup_59 ?_
        refine r_get5 C0 h0.1 11 (by decide) (v := .ref (g.1 8 4145)) rfl rfl w6_227 dX7_loadSetup_60 ?_
        refine r_iconst C0 (v := 0) dX7_loadSetup_63 rfl ?_
        refine r_iconst C0 (v := 0) dX7_loadSetup_64 rfl ?_
        refine r_zastc C0 h0.2.2.2.2.2.2.1 (z := 4145) (by decide) (by decide) dX7_loadSetup_65 ?_
        refine r_aload_n C0 (kk := 0) 1 rfl dX7_loadSetup_66 ?_
        refine r_get5 C0 h0.1 11 (by decide) (v := .ref (g.1 8 4145)) rfl rfl w6_227 dX7_loadSetup_67 ?_
        refine r_iconst C0 (v := 1) dX7_loadSetup_70 rfl ?_
        refine r_iconst C0 (v := 0) dX7_loadSetup_71 rfl ?_
        refine r_zastc C0 h0.2.2.2.2.2.2.1 (z := 4146) (by decide) (by decide) dX7_loadSetup_72 ?_
        refine r_aload_n C0 (kk := 0) 1 rfl dX7_loadSetup_73 ?_
        refine r_get5 C0 h0.1 5 (by decide) (v := .ref (g.1 6 2520)) rfl rfl w6_221 dX7_loadSetup_74 ?_
        refine r_bipush C0 (v := 9) dX7_loadSetup_77 rfl ?_
        refine r_ialdc C0 h0.2.1 (z := 2529) (by decide) (by decide) dX7_loadSetup_79 ?_
        exact hend hf dX7_loadSetup_80
      · have hf := ie_t hf q9
        refine r_aload_n C0 (kk := 0) 1 rfl dX7_loadSetup_48 ?_
        refine r_iconst C0 (v := (-1)) dX7_loadSetup_49 rfl ?_
        obtain ⟨r12, M11, hc10, hf⟩ := bd2_e hf
        refine r_callVi C0 (As := [.int (-1)]) (rest := []) (c_X7_leaveTrial l D g tb hT h0 hc10) w6_212 w6_214 wp5_9 w1_14 w6_215 (x_rec5 C0 h0.1) hd_X7_leaveTrial rfl ⟨rfl, rfl⟩ ⟨Nat.le_of_ble_eq_true rfl, Nat.le_of_ble_eq_true rfl⟩ (by decide) (by decide) rfl (Nat.le_of_ble_eq_true rfl) dX7_loadSetup_50 ?_
        exact hend hf dX7_loadSetup_53
    · have hf := ie_f hf q3
      refine r_aload_n C0 (kk := 0) 0 rfl dX7_loadSetup_17 ?_
      refine r_get5 C0 h0.1 5 (by decide) (v := .ref (g.1 6 2520)) rfl rfl w6_221 dX7_loadSetup_18 ?_
      refine r_iload_n C0 (kk := 1) 1 rfl dX7_loadSetup_21 ?_
      refine r_iconst C0 (v := 0) dX7_loadSetup_22 rfl ?_
      obtain ⟨q13, hf⟩ := gd_e hf
      refine r_iastc C0 h0.2.1 q13 rfl dX7_loadSetup_23 ?_
      refine r_iincc C0 1 rfl (k0 := 1) (by decide) (by decide) (lv2 := [(1, .int (v1 + 1)), (0, .ref (g.1 5 2500))]) rfl dX7_loadSetup_24 ?_
      refine r_goto C0 (tgt := 11) (by decide) dX7_loadSetup_27 ?_
      refine WW.sub [1, 0] rfl ?_
      exact hk11 _   _ hf
  have L11 : ∀ (v1 : Int32)  (M : xM), f_X7_loadSetup_c11   v1 M = some (r, M') → WW p l e ({ frames := 10, cells := 0, slots := 0, locals := 228 } : Room) s m args below meth c 0 0 Q 2 D g tb 11 [(0, .ref (g.1 5 2500)), (1, .int v1)] [] M := lp_ind (P := fun f => ∀ (v1 : Int32)  (M : xM), f v1 M = some (r, M') → WW p l e ({ frames := 10, cells := 0, slots := 0, locals := 228 } : Room) s m args below meth c 0 0 Q 2 D g tb 11 [(0, .ref (g.1 5 2500)), (1, .int v1)] [] M) (fun _ _ h => none_ne h) (fun f hf => B11 f hf) FU
  unfold f_X7_loadSetup at hf
  refine r_aload_n C0 (kk := 0) 0 rfl dX7_loadSetup_0 ?_
  refine r_iconst C0 (v := 0) dX7_loadSetup_1 rfl ?_
  refine r_put5 C0 h0.1 4 rfl rfl w6_220 rfl rfl rfl dX7_loadSetup_2 ?_
  refine r_aload_n C0 (kk := 0) 0 rfl dX7_loadSetup_5 ?_
  obtain ⟨M2, hc1, hf⟩ := bd_e hf
  refine r_callVv C0 (As := []) (rest := []) (c_X7_startTrial l D g tb hT h0 hc1) w5_237 w5_239 wp2_14 w1_14 w6_0 (x_rec5 C0 h0.1) hd_X7_startTrial rfl ⟨rfl, rfl⟩ ⟨Nat.le_of_ble_eq_true rfl, Nat.le_of_ble_eq_true rfl⟩ (by decide) (by decide) rfl (Nat.le_of_ble_eq_true rfl) dX7_loadSetup_6 ?_
  refine r_iconst C0 (v := 0) dX7_loadSetup_9 rfl ?_
  refine r_istore_n C0 (kk := 1) (lv2 := [(1, .int 0), (0, .ref (g.1 5 2500))]) (by decide) rfl dX7_loadSetup_10 ?_
  refine WW.sub [1, 0] rfl ?_
  exact L11   _   _ hf
