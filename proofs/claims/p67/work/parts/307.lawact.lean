/-! the law's calls between the minutes -/
def f_L_act_c209  (a1 : Int32)  (M : xM) : Option xM :=
  (bd2 (f_L_in (a1 >>> (10 &&& 31)) 25 M) (fun r69 M68 => (bd2 (f_X6_passMinutes (1 + r69) M68) (fun r72 M71 => (some M71)))))
def f_L_act (a1 : Int32) (M : xM) : Option xM :=
  (bd2 (f_X6_stallCount  M) (fun r3 M2 => (bd2 (f_L_in (a1 >>> (4 &&& 31)) r3 M2) (fun r6 M5 => (bd2 (f_X6_buyerCount  M5) (fun r9 M8 => (bd2 (f_L_in (a1 >>> (7 &&& 31)) r9 M8) (fun r12 M11 => (bd2 (f_L_in a1 10 M11) (fun r15 M14 => (if r15 = 0 then (bd2 (f_L_in (a1 >>> (10 &&& 31)) 80 M14) (fun r19 M18 => (bd2 (f_X6_setPrice r6 (1 + r19) M18) (fun r22 M21 => (some M21))))) else if r15 = 1 then (bd2 (f_L_in (a1 >>> (10 &&& 31)) 12 M14) (fun r26 M25 => (bd2 (f_X6_stockOf r6 M25) (fun r29 M28 => (if 100 ≤ (r29 + r26) then (some M28) else (bd2 (f_X6_addStock r6 r26 M28) (fun r33 M32 => (some M32)))))))) else if r15 = 2 then (bd2 (f_L_in (a1 >>> (10 &&& 31)) 4 M14) (fun r37 M36 => (bd2 (f_X6_setLantern r6 r37 M36) (fun r40 M39 => (some M39))))) else if r15 = 3 then (bd2 (f_L_in (a1 >>> (10 &&& 31)) 10 M14) (fun r44 M43 => (bd2 (f_X6_setFog 0 r44 M43) (fun r47 M46 => (some M46))))) else if r15 = 4 then (bd2 (f_X6_heldFrom r12 M14) (fun r51 M50 => (if r51 < 0 then (some M50) else (bd2 (f_X6_putBack r12 M50) (fun r55 M54 => (some M54)))))) else if r15 = 5 then (f_L_act_c209  a1  M14) else if r15 = 6 then (f_L_act_c209  a1  M14) else if r15 = 7 then (f_L_act_c209  a1  M14) else if r15 = 8 then (f_L_act_c209  a1  M14) else if r15 = 9 then (bd2 (f_L_in (a1 >>> (10 &&& 31)) 100 M14) (fun r63 M62 => (bd2 (f_X6_moveStall r6 r63 M62) (fun r66 M65 => (some M65))))) else (f_L_act_c209  a1  M14))))))))))))
theorem dL_act_0 : decode cL_act 0 = .ok (.iload_n 1, 1) := by decide +kernel
theorem dL_act_1 : decode cL_act 1 = .ok (.iconst 4, 1) := by decide +kernel
theorem dL_act_2 : decode cL_act 2 = .ok (.ishr, 1) := by decide +kernel
theorem dL_act_3 : decode cL_act 3 = .ok (.aload_n 0, 1) := by decide +kernel
theorem dL_act_4 : decode cL_act 4 = .ok (.invokevirtual 71, 3) := by decide +kernel
theorem dL_act_7 : decode cL_act 7 = .ok (.invokestatic 43, 3) := by decide +kernel
theorem dL_act_10 : decode cL_act 10 = .ok (.istore_n 2, 1) := by decide +kernel
theorem dL_act_11 : decode cL_act 11 = .ok (.iload_n 1, 1) := by decide +kernel
theorem dL_act_12 : decode cL_act 12 = .ok (.bipush 7, 2) := by decide +kernel
theorem dL_act_14 : decode cL_act 14 = .ok (.ishr, 1) := by decide +kernel
theorem dL_act_15 : decode cL_act 15 = .ok (.aload_n 0, 1) := by decide +kernel
theorem dL_act_16 : decode cL_act 16 = .ok (.invokevirtual 74, 3) := by decide +kernel
theorem dL_act_19 : decode cL_act 19 = .ok (.invokestatic 43, 3) := by decide +kernel
theorem dL_act_22 : decode cL_act 22 = .ok (.istore_n 3, 1) := by decide +kernel
theorem dL_act_23 : decode cL_act 23 = .ok (.iload_n 1, 1) := by decide +kernel
theorem dL_act_24 : decode cL_act 24 = .ok (.bipush 10, 2) := by decide +kernel
theorem dL_act_26 : decode cL_act 26 = .ok (.invokestatic 43, 3) := by decide +kernel
theorem dL_act_29 : decode cL_act 29 = .ok (.tableswitch 180 0 9 #[73, 93, 128, 145, 163, 180, 180, 180, 180, 55], 55) := by decide +kernel
theorem dL_act_84 : decode cL_act 84 = .ok (.aload_n 0, 1) := by decide +kernel
theorem dL_act_85 : decode cL_act 85 = .ok (.iload_n 2, 1) := by decide +kernel
theorem dL_act_86 : decode cL_act 86 = .ok (.iload_n 1, 1) := by decide +kernel
theorem dL_act_87 : decode cL_act 87 = .ok (.bipush 10, 2) := by decide +kernel
theorem dL_act_89 : decode cL_act 89 = .ok (.ishr, 1) := by decide +kernel
theorem dL_act_90 : decode cL_act 90 = .ok (.bipush 100, 2) := by decide +kernel
theorem dL_act_92 : decode cL_act 92 = .ok (.invokestatic 43, 3) := by decide +kernel
theorem dL_act_95 : decode cL_act 95 = .ok (.invokevirtual 77, 3) := by decide +kernel
theorem dL_act_98 : decode cL_act 98 = .ok (.pop, 1) := by decide +kernel
theorem dL_act_99 : decode cL_act 99 = .ok (.goto 126, 3) := by decide +kernel
theorem dL_act_102 : decode cL_act 102 = .ok (.aload_n 0, 1) := by decide +kernel
theorem dL_act_103 : decode cL_act 103 = .ok (.iload_n 2, 1) := by decide +kernel
theorem dL_act_104 : decode cL_act 104 = .ok (.iconst 1, 1) := by decide +kernel
theorem dL_act_105 : decode cL_act 105 = .ok (.iload_n 1, 1) := by decide +kernel
theorem dL_act_106 : decode cL_act 106 = .ok (.bipush 10, 2) := by decide +kernel
theorem dL_act_108 : decode cL_act 108 = .ok (.ishr, 1) := by decide +kernel
theorem dL_act_109 : decode cL_act 109 = .ok (.bipush 80, 2) := by decide +kernel
theorem dL_act_111 : decode cL_act 111 = .ok (.invokestatic 43, 3) := by decide +kernel
theorem dL_act_114 : decode cL_act 114 = .ok (.iadd, 1) := by decide +kernel
theorem dL_act_115 : decode cL_act 115 = .ok (.invokevirtual 80, 3) := by decide +kernel
theorem dL_act_118 : decode cL_act 118 = .ok (.pop, 1) := by decide +kernel
theorem dL_act_119 : decode cL_act 119 = .ok (.goto 106, 3) := by decide +kernel
theorem dL_act_122 : decode cL_act 122 = .ok (.iload_n 1, 1) := by decide +kernel
theorem dL_act_123 : decode cL_act 123 = .ok (.bipush 10, 2) := by decide +kernel
theorem dL_act_125 : decode cL_act 125 = .ok (.ishr, 1) := by decide +kernel
theorem dL_act_126 : decode cL_act 126 = .ok (.bipush 12, 2) := by decide +kernel
theorem dL_act_128 : decode cL_act 128 = .ok (.invokestatic 43, 3) := by decide +kernel
theorem dL_act_131 : decode cL_act 131 = .ok (.istore 4, 2) := by decide +kernel
theorem dL_act_133 : decode cL_act 133 = .ok (.aload_n 0, 1) := by decide +kernel
theorem dL_act_134 : decode cL_act 134 = .ok (.iload_n 2, 1) := by decide +kernel
theorem dL_act_135 : decode cL_act 135 = .ok (.invokevirtual 83, 3) := by decide +kernel
theorem dL_act_138 : decode cL_act 138 = .ok (.iload 4, 2) := by decide +kernel
theorem dL_act_140 : decode cL_act 140 = .ok (.iadd, 1) := by decide +kernel
theorem dL_act_141 : decode cL_act 141 = .ok (.bipush 100, 2) := by decide +kernel
theorem dL_act_143 : decode cL_act 143 = .ok (.if_icmp .ge 82, 3) := by decide +kernel
theorem dL_act_146 : decode cL_act 146 = .ok (.aload_n 0, 1) := by decide +kernel
theorem dL_act_147 : decode cL_act 147 = .ok (.iload_n 2, 1) := by decide +kernel
theorem dL_act_148 : decode cL_act 148 = .ok (.iload 4, 2) := by decide +kernel
theorem dL_act_150 : decode cL_act 150 = .ok (.invokevirtual 87, 3) := by decide +kernel
theorem dL_act_153 : decode cL_act 153 = .ok (.pop, 1) := by decide +kernel
theorem dL_act_154 : decode cL_act 154 = .ok (.goto 71, 3) := by decide +kernel
theorem dL_act_157 : decode cL_act 157 = .ok (.aload_n 0, 1) := by decide +kernel
theorem dL_act_158 : decode cL_act 158 = .ok (.iload_n 2, 1) := by decide +kernel
theorem dL_act_159 : decode cL_act 159 = .ok (.iload_n 1, 1) := by decide +kernel
theorem dL_act_160 : decode cL_act 160 = .ok (.bipush 10, 2) := by decide +kernel
theorem dL_act_162 : decode cL_act 162 = .ok (.ishr, 1) := by decide +kernel
theorem dL_act_163 : decode cL_act 163 = .ok (.iconst 4, 1) := by decide +kernel
theorem dL_act_164 : decode cL_act 164 = .ok (.invokestatic 43, 3) := by decide +kernel
theorem dL_act_167 : decode cL_act 167 = .ok (.invokevirtual 90, 3) := by decide +kernel
theorem dL_act_170 : decode cL_act 170 = .ok (.pop, 1) := by decide +kernel
theorem dL_act_171 : decode cL_act 171 = .ok (.goto 54, 3) := by decide +kernel
theorem dL_act_174 : decode cL_act 174 = .ok (.aload_n 0, 1) := by decide +kernel
theorem dL_act_175 : decode cL_act 175 = .ok (.iconst 0, 1) := by decide +kernel
theorem dL_act_176 : decode cL_act 176 = .ok (.iload_n 1, 1) := by decide +kernel
theorem dL_act_177 : decode cL_act 177 = .ok (.bipush 10, 2) := by decide +kernel
theorem dL_act_179 : decode cL_act 179 = .ok (.ishr, 1) := by decide +kernel
theorem dL_act_180 : decode cL_act 180 = .ok (.bipush 10, 2) := by decide +kernel
theorem dL_act_182 : decode cL_act 182 = .ok (.invokestatic 43, 3) := by decide +kernel
theorem dL_act_185 : decode cL_act 185 = .ok (.invokevirtual 93, 3) := by decide +kernel
theorem dL_act_188 : decode cL_act 188 = .ok (.pop, 1) := by decide +kernel
theorem dL_act_189 : decode cL_act 189 = .ok (.goto 36, 3) := by decide +kernel
theorem dL_act_192 : decode cL_act 192 = .ok (.aload_n 0, 1) := by decide +kernel
theorem dL_act_193 : decode cL_act 193 = .ok (.iload_n 3, 1) := by decide +kernel
theorem dL_act_194 : decode cL_act 194 = .ok (.invokevirtual 96, 3) := by decide +kernel
theorem dL_act_197 : decode cL_act 197 = .ok (.ifCond .lt 28, 3) := by decide +kernel
theorem dL_act_200 : decode cL_act 200 = .ok (.aload_n 0, 1) := by decide +kernel
theorem dL_act_201 : decode cL_act 201 = .ok (.iload_n 3, 1) := by decide +kernel
theorem dL_act_202 : decode cL_act 202 = .ok (.invokevirtual 99, 3) := by decide +kernel
theorem dL_act_205 : decode cL_act 205 = .ok (.pop, 1) := by decide +kernel
theorem dL_act_206 : decode cL_act 206 = .ok (.goto 19, 3) := by decide +kernel
theorem dL_act_209 : decode cL_act 209 = .ok (.aload_n 0, 1) := by decide +kernel
theorem dL_act_210 : decode cL_act 210 = .ok (.iconst 1, 1) := by decide +kernel
theorem dL_act_211 : decode cL_act 211 = .ok (.iload_n 1, 1) := by decide +kernel
theorem dL_act_212 : decode cL_act 212 = .ok (.bipush 10, 2) := by decide +kernel
theorem dL_act_214 : decode cL_act 214 = .ok (.ishr, 1) := by decide +kernel
theorem dL_act_215 : decode cL_act 215 = .ok (.bipush 25, 2) := by decide +kernel
theorem dL_act_217 : decode cL_act 217 = .ok (.invokestatic 43, 3) := by decide +kernel
theorem dL_act_220 : decode cL_act 220 = .ok (.iadd, 1) := by decide +kernel
theorem dL_act_221 : decode cL_act 221 = .ok (.invokevirtual 102, 3) := by decide +kernel
theorem dL_act_224 : decode cL_act 224 = .ok (.pop, 1) := by decide +kernel
theorem dL_act_225 : decode cL_act 225 = .ok (.return_, 1) := by decide +kernel
theorem hd_L_act : yL_act.cls ≠ "java/lang/invoke/MethodHandle" ∧ yL_act.cls ≠ "java/lang/invoke/VarHandle" ∧ (parseMethodDescriptor yL_act.desc).map (fun d => d.parameters.length) = some 2 := by decide +kernel
set_option maxRecDepth 100000 in
set_option maxHeartbeats 4000000 in
theorem c_L_act (l : Launch) (D : va_G) (g : xG) (tb : List xQ) (hT : x_T g tb) {a1 : Int32} (h0 : x_fb tb) {M M' : xM} (hf : f_L_act a1 M = some M') :
    cV l D g tb yL_act cL_act 5 ({ frames := 5, cells := 0, slots := 0, locals := 118 } : Room) [.ref (g.1 4 1664), .int a1] M M' := by
  refine x_startV (own := RL) (by decide +kernel) rfl rfl (Nat.le_of_ble_eq_true rfl) hT ?_
  intro p e s m args below meth c Q C0 hend
  have B209 : ∀ (M : xM), f_L_act_c209  a1 M = some M' → WW p l e ({ frames := 5, cells := 0, slots := 0, locals := 118 } : Room) s m args below meth c 0 0 Q 5 D g tb 209 [(0, .ref (g.1 4 1664)), (1, .int a1)] [] M := by
    intro     M hf
    unfold f_L_act_c209 at hf
    refine r_aload_n C0 (kk := 0) 0 rfl dL_act_209 ?_
    refine r_iconst C0 (v := 1) dL_act_210 rfl ?_
    refine r_iload_n C0 (kk := 1) 1 rfl dL_act_211 ?_
    refine r_bipush C0 (v := 10) dL_act_212 rfl ?_
    refine r_ishr C0 dL_act_214 ?_
    refine r_bipush C0 (v := 25) dL_act_215 rfl ?_
    obtain ⟨r69, M68, hc67, hf⟩ := bd2_e hf
    refine r_callSi C0 (As := [.int (a1 >>> (10 &&& 31)), .int 25]) (rest := [.int 1, .ref (g.1 4 1664)]) (c_L_in l D g tb hT  hc67) w2_127 w2_128 w1_0 w2_129 hd_L_in rfl ⟨rfl, rfl⟩ ⟨Nat.le_of_ble_eq_true rfl, Nat.le_of_ble_eq_true rfl⟩ (by decide) (by decide) rfl (Nat.le_of_ble_eq_true rfl) dL_act_217 ?_
    refine r_iadd C0 dL_act_220 ?_
    obtain ⟨r72, M71, hc70, hf⟩ := bd2_e hf
    refine r_callVi C0 (As := [.int (1 + r69)]) (rest := []) (c_X6_passMinutes l D g tb hT h0 hc70) w2_18 w2_19 w2_20 w1_13 w2_21 (x_rec4 C0 h0.1) hd_X6_passMinutes rfl ⟨rfl, rfl⟩ ⟨Nat.le_of_ble_eq_true rfl, Nat.le_of_ble_eq_true rfl⟩ (by decide) (by decide) rfl (Nat.le_of_ble_eq_true rfl) dL_act_221 ?_
    refine r_pop C0 rfl dL_act_224 ?_
    exact hend hf dL_act_225
  unfold f_L_act at hf
  refine r_iload_n C0 (kk := 1) 1 rfl dL_act_0 ?_
  refine r_iconst C0 (v := 4) dL_act_1 rfl ?_
  refine r_ishr C0 dL_act_2 ?_
  refine r_aload_n C0 (kk := 0) 0 rfl dL_act_3 ?_
  obtain ⟨r3, M2, hc1, hf⟩ := bd2_e hf
  refine r_callVi C0 (As := []) (rest := [.int (a1 >>> (4 &&& 31))]) (c_X6_stallCount l D g tb hT h0 hc1) w1_141 w1_142 w1_143 w1_13 w1_144 (x_rec4 C0 h0.1) hd_X6_stallCount rfl ⟨rfl, rfl⟩ ⟨Nat.le_of_ble_eq_true rfl, Nat.le_of_ble_eq_true rfl⟩ (by decide) (by decide) rfl (Nat.le_of_ble_eq_true rfl) dL_act_4 ?_
  obtain ⟨r6, M5, hc4, hf⟩ := bd2_e hf
  refine r_callSi C0 (As := [.int (a1 >>> (4 &&& 31)), .int r3]) (rest := []) (c_L_in l D g tb hT  hc4) w2_127 w2_128 w1_0 w2_129 hd_L_in rfl ⟨rfl, rfl⟩ ⟨Nat.le_of_ble_eq_true rfl, Nat.le_of_ble_eq_true rfl⟩ (by decide) (by decide) rfl (Nat.le_of_ble_eq_true rfl) dL_act_7 ?_
  refine r_istore_n C0 (kk := 2) (lv2 := [(2, .int r6), (0, .ref (g.1 4 1664)), (1, .int a1)]) (by decide) rfl dL_act_10 ?_
  refine r_iload_n C0 (kk := 1) 2 rfl dL_act_11 ?_
  refine r_bipush C0 (v := 7) dL_act_12 rfl ?_
  refine r_ishr C0 dL_act_14 ?_
  refine r_aload_n C0 (kk := 0) 1 rfl dL_act_15 ?_
  obtain ⟨r9, M8, hc7, hf⟩ := bd2_e hf
  refine r_callVi C0 (As := []) (rest := [.int (a1 >>> (7 &&& 31))]) (c_X6_buyerCount l D g tb hT h0 hc7) w1_202 w1_203 w1_204 w1_13 w1_205 (x_rec4 C0 h0.1) hd_X6_buyerCount rfl ⟨rfl, rfl⟩ ⟨Nat.le_of_ble_eq_true rfl, Nat.le_of_ble_eq_true rfl⟩ (by decide) (by decide) rfl (Nat.le_of_ble_eq_true rfl) dL_act_16 ?_
  obtain ⟨r12, M11, hc10, hf⟩ := bd2_e hf
  refine r_callSi C0 (As := [.int (a1 >>> (7 &&& 31)), .int r9]) (rest := []) (c_L_in l D g tb hT  hc10) w2_127 w2_128 w1_0 w2_129 hd_L_in rfl ⟨rfl, rfl⟩ ⟨Nat.le_of_ble_eq_true rfl, Nat.le_of_ble_eq_true rfl⟩ (by decide) (by decide) rfl (Nat.le_of_ble_eq_true rfl) dL_act_19 ?_
  refine r_istore_n C0 (kk := 3) (lv2 := [(3, .int r12), (2, .int r6), (0, .ref (g.1 4 1664)), (1, .int a1)]) (by decide) rfl dL_act_22 ?_
  refine r_iload_n C0 (kk := 1) 3 rfl dL_act_23 ?_
  refine r_bipush C0 (v := 10) dL_act_24 rfl ?_
  obtain ⟨r15, M14, hc13, hf⟩ := bd2_e hf
  refine r_callSi C0 (As := [.int a1, .int 10]) (rest := []) (c_L_in l D g tb hT  hc13) w2_127 w2_128 w1_0 w2_129 hd_L_in rfl ⟨rfl, rfl⟩ ⟨Nat.le_of_ble_eq_true rfl, Nat.le_of_ble_eq_true rfl⟩ (by decide) (by decide) rfl (Nat.le_of_ble_eq_true rfl) dL_act_26 ?_
  rcases Decidable.em (r15 = 0) with q16 | q16
  · have hf := ie_t hf q16
    refine r_tsc C0 (cst := 0) q16 (by decide) (by decide) rfl (tgt := 102) (by decide) dL_act_29 ?_
    refine r_aload_n C0 (kk := 0) 2 rfl dL_act_102 ?_
    refine r_iload_n C0 (kk := 2) 1 rfl dL_act_103 ?_
    refine r_iconst C0 (v := 1) dL_act_104 rfl ?_
    refine r_iload_n C0 (kk := 1) 3 rfl dL_act_105 ?_
    refine r_bipush C0 (v := 10) dL_act_106 rfl ?_
    refine r_ishr C0 dL_act_108 ?_
    refine r_bipush C0 (v := 80) dL_act_109 rfl ?_
    obtain ⟨r19, M18, hc17, hf⟩ := bd2_e hf
    refine r_callSi C0 (As := [.int (a1 >>> (10 &&& 31)), .int 80]) (rest := [.int 1, .int r6, .ref (g.1 4 1664)]) (c_L_in l D g tb hT  hc17) w2_127 w2_128 w1_0 w2_129 hd_L_in rfl ⟨rfl, rfl⟩ ⟨Nat.le_of_ble_eq_true rfl, Nat.le_of_ble_eq_true rfl⟩ (by decide) (by decide) rfl (Nat.le_of_ble_eq_true rfl) dL_act_111 ?_
    refine r_iadd C0 dL_act_114 ?_
    obtain ⟨r22, M21, hc20, hf⟩ := bd2_e hf
    refine r_callVi C0 (As := [.int r6, .int (1 + r19)]) (rest := []) (c_X6_setPrice l D g tb hT h0 hc20) w5_176 w5_177 w5_178 w1_13 w5_179 (x_rec4 C0 h0.1) hd_X6_setPrice rfl ⟨rfl, rfl⟩ ⟨Nat.le_of_ble_eq_true rfl, Nat.le_of_ble_eq_true rfl⟩ (by decide) (by decide) rfl (Nat.le_of_ble_eq_true rfl) dL_act_115 ?_
    refine r_pop C0 rfl dL_act_118 ?_
    refine r_goto C0 (tgt := 225) (by decide) dL_act_119 ?_
    exact hend hf dL_act_225
  have hf := ie_f hf q16
  have nq16 : Int32.toInt r15 ≠ 0 := fun h => q16 (Int32.toInt_inj.mp h)
  rcases Decidable.em (r15 = 1) with q23 | q23
  · have hf := ie_t hf q23
    refine r_tsc C0 (cst := 1) q23 (by decide) (by decide) rfl (tgt := 122) (by decide) dL_act_29 ?_
    refine r_iload_n C0 (kk := 1) 3 rfl dL_act_122 ?_
    refine r_bipush C0 (v := 10) dL_act_123 rfl ?_
    refine r_ishr C0 dL_act_125 ?_
    refine r_bipush C0 (v := 12) dL_act_126 rfl ?_
    obtain ⟨r26, M25, hc24, hf⟩ := bd2_e hf
    refine r_callSi C0 (As := [.int (a1 >>> (10 &&& 31)), .int 12]) (rest := []) (c_L_in l D g tb hT  hc24) w2_127 w2_128 w1_0 w2_129 hd_L_in rfl ⟨rfl, rfl⟩ ⟨Nat.le_of_ble_eq_true rfl, Nat.le_of_ble_eq_true rfl⟩ (by decide) (by decide) rfl (Nat.le_of_ble_eq_true rfl) dL_act_128 ?_
    refine r_istore C0 (lv2 := [(4, .int r26), (3, .int r12), (2, .int r6), (0, .ref (g.1 4 1664)), (1, .int a1)]) (by decide) rfl dL_act_131 ?_
    refine r_aload_n C0 (kk := 0) 3 rfl dL_act_133 ?_
    refine r_iload_n C0 (kk := 2) 2 rfl dL_act_134 ?_
    obtain ⟨r29, M28, hc27, hf⟩ := bd2_e hf
    refine r_callVi C0 (As := [.int r6]) (rest := []) (c_X6_stockOf l D g tb hT h0 hc27) w1_186 w1_187 w1_188 w1_13 w1_189 (x_rec4 C0 h0.1) hd_X6_stockOf rfl ⟨rfl, rfl⟩ ⟨Nat.le_of_ble_eq_true rfl, Nat.le_of_ble_eq_true rfl⟩ (by decide) (by decide) rfl (Nat.le_of_ble_eq_true rfl) dL_act_135 ?_
    refine r_iload C0 0 rfl dL_act_138 ?_
    refine r_iadd C0 dL_act_140 ?_
    refine r_bipush C0 (v := 100) dL_act_141 rfl ?_
    refine r_icmp_ge C0 (tgt := 225) (by decide) dL_act_143 (fun q30 => ?_) (fun q30 => ?_)
    · have hf := ie_t hf q30
      exact hend hf dL_act_225
    · have hf := ie_f hf q30
      refine r_aload_n C0 (kk := 0) 3 rfl dL_act_146 ?_
      refine r_iload_n C0 (kk := 2) 2 rfl dL_act_147 ?_
      refine r_iload C0 0 rfl dL_act_148 ?_
      obtain ⟨r33, M32, hc31, hf⟩ := bd2_e hf
      refine r_callVi C0 (As := [.int r6, .int r26]) (rest := []) (c_X6_addStock l D g tb hT h0 hc31) w5_180 w5_181 w5_182 w1_13 w5_183 (x_rec4 C0 h0.1) hd_X6_addStock rfl ⟨rfl, rfl⟩ ⟨Nat.le_of_ble_eq_true rfl, Nat.le_of_ble_eq_true rfl⟩ (by decide) (by decide) rfl (Nat.le_of_ble_eq_true rfl) dL_act_150 ?_
      refine r_pop C0 rfl dL_act_153 ?_
      refine r_goto C0 (tgt := 225) (by decide) dL_act_154 ?_
      exact hend hf dL_act_225
  have hf := ie_f hf q23
  have nq23 : Int32.toInt r15 ≠ 1 := fun h => q23 (Int32.toInt_inj.mp h)
  rcases Decidable.em (r15 = 2) with q34 | q34
  · have hf := ie_t hf q34
    refine r_tsc C0 (cst := 2) q34 (by decide) (by decide) rfl (tgt := 157) (by decide) dL_act_29 ?_
    refine r_aload_n C0 (kk := 0) 2 rfl dL_act_157 ?_
    refine r_iload_n C0 (kk := 2) 1 rfl dL_act_158 ?_
    refine r_iload_n C0 (kk := 1) 3 rfl dL_act_159 ?_
    refine r_bipush C0 (v := 10) dL_act_160 rfl ?_
    refine r_ishr C0 dL_act_162 ?_
    refine r_iconst C0 (v := 4) dL_act_163 rfl ?_
    obtain ⟨r37, M36, hc35, hf⟩ := bd2_e hf
    refine r_callSi C0 (As := [.int (a1 >>> (10 &&& 31)), .int 4]) (rest := [.int r6, .ref (g.1 4 1664)]) (c_L_in l D g tb hT  hc35) w2_127 w2_128 w1_0 w2_129 hd_L_in rfl ⟨rfl, rfl⟩ ⟨Nat.le_of_ble_eq_true rfl, Nat.le_of_ble_eq_true rfl⟩ (by decide) (by decide) rfl (Nat.le_of_ble_eq_true rfl) dL_act_164 ?_
    obtain ⟨r40, M39, hc38, hf⟩ := bd2_e hf
    refine r_callVi C0 (As := [.int r6, .int r37]) (rest := []) (c_X6_setLantern l D g tb hT h0 hc38) w5_187 w5_188 w5_189 w1_13 w5_190 (x_rec4 C0 h0.1) hd_X6_setLantern rfl ⟨rfl, rfl⟩ ⟨Nat.le_of_ble_eq_true rfl, Nat.le_of_ble_eq_true rfl⟩ (by decide) (by decide) rfl (Nat.le_of_ble_eq_true rfl) dL_act_167 ?_
    refine r_pop C0 rfl dL_act_170 ?_
    refine r_goto C0 (tgt := 225) (by decide) dL_act_171 ?_
    exact hend hf dL_act_225
  have hf := ie_f hf q34
  have nq34 : Int32.toInt r15 ≠ 2 := fun h => q34 (Int32.toInt_inj.mp h)
  rcases Decidable.em (r15 = 3) with q41 | q41
  · have hf := ie_t hf q41
    refine r_tsc C0 (cst := 3) q41 (by decide) (by decide) rfl (tgt := 174) (by decide) dL_act_29 ?_
    refine r_aload_n C0 (kk := 0) 2 rfl dL_act_174 ?_
    refine r_iconst C0 (v := 0) dL_act_175 rfl ?_
    refine r_iload_n C0 (kk := 1) 3 rfl dL_act_176 ?_
    refine r_bipush C0 (v := 10) dL_act_177 rfl ?_
    refine r_ishr C0 dL_act_179 ?_
    refine r_bipush C0 (v := 10) dL_act_180 rfl ?_
    obtain ⟨r44, M43, hc42, hf⟩ := bd2_e hf
    refine r_callSi C0 (As := [.int (a1 >>> (10 &&& 31)), .int 10]) (rest := [.int 0, .ref (g.1 4 1664)]) (c_L_in l D g tb hT  hc42) w2_127 w2_128 w1_0 w2_129 hd_L_in rfl ⟨rfl, rfl⟩ ⟨Nat.le_of_ble_eq_true rfl, Nat.le_of_ble_eq_true rfl⟩ (by decide) (by decide) rfl (Nat.le_of_ble_eq_true rfl) dL_act_182 ?_
    obtain ⟨r47, M46, hc45, hf⟩ := bd2_e hf
    refine r_callVi C0 (As := [.int 0, .int r44]) (rest := []) (c_X6_setFog l D g tb hT h0 hc45) w5_191 w5_192 w5_193 w1_13 w5_194 (x_rec4 C0 h0.1) hd_X6_setFog rfl ⟨rfl, rfl⟩ ⟨Nat.le_of_ble_eq_true rfl, Nat.le_of_ble_eq_true rfl⟩ (by decide) (by decide) rfl (Nat.le_of_ble_eq_true rfl) dL_act_185 ?_
    refine r_pop C0 rfl dL_act_188 ?_
    refine r_goto C0 (tgt := 225) (by decide) dL_act_189 ?_
    exact hend hf dL_act_225
  have hf := ie_f hf q41
  have nq41 : Int32.toInt r15 ≠ 3 := fun h => q41 (Int32.toInt_inj.mp h)
  rcases Decidable.em (r15 = 4) with q48 | q48
  · have hf := ie_t hf q48
    refine r_tsc C0 (cst := 4) q48 (by decide) (by decide) rfl (tgt := 192) (by decide) dL_act_29 ?_
    refine r_aload_n C0 (kk := 0) 2 rfl dL_act_192 ?_
    refine r_iload_n C0 (kk := 3) 0 rfl dL_act_193 ?_
    obtain ⟨r51, M50, hc49, hf⟩ := bd2_e hf
    refine r_callVi C0 (As := [.int r12]) (rest := []) (c_X6_heldFrom l D g tb hT h0 hc49) w1_231 w1_232 w1_233 w1_13 w1_234 (x_rec4 C0 h0.1) hd_X6_heldFrom rfl ⟨rfl, rfl⟩ ⟨Nat.le_of_ble_eq_true rfl, Nat.le_of_ble_eq_true rfl⟩ (by decide) (by decide) rfl (Nat.le_of_ble_eq_true rfl) dL_act_194 ?_
    refine r_if_lt C0 (tgt := 225) (by decide) dL_act_197 (fun q52 => ?_) (fun q52 => ?_)
    · have hf := ie_t hf q52
      exact hend hf dL_act_225
    · have hf := ie_f hf q52
      refine r_aload_n C0 (kk := 0) 2 rfl dL_act_200 ?_
      refine r_iload_n C0 (kk := 3) 0 rfl dL_act_201 ?_
      obtain ⟨r55, M54, hc53, hf⟩ := bd2_e hf
      refine r_callVi C0 (As := [.int r12]) (rest := []) (c_X6_putBack l D g tb hT h0 hc53) w5_196 w5_197 w5_198 w1_13 w5_199 (x_rec4 C0 h0.1) hd_X6_putBack rfl ⟨rfl, rfl⟩ ⟨Nat.le_of_ble_eq_true rfl, Nat.le_of_ble_eq_true rfl⟩ (by decide) (by decide) rfl (Nat.le_of_ble_eq_true rfl) dL_act_202 ?_
      refine r_pop C0 rfl dL_act_205 ?_
      refine r_goto C0 (tgt := 225) (by decide) dL_act_206 ?_
      exact hend hf dL_act_225
  have hf := ie_f hf q48
  have nq48 : Int32.toInt r15 ≠ 4 := fun h => q48 (Int32.toInt_inj.mp h)
  rcases Decidable.em (r15 = 5) with q56 | q56
  · have hf := ie_t hf q56
    refine r_tsc C0 (cst := 5) q56 (by decide) (by decide) rfl (tgt := 209) (by decide) dL_act_29 ?_
    refine WW.sub [2, 3] rfl ?_
    exact B209     _ hf
  have hf := ie_f hf q56
  have nq56 : Int32.toInt r15 ≠ 5 := fun h => q56 (Int32.toInt_inj.mp h)
  rcases Decidable.em (r15 = 6) with q57 | q57
  · have hf := ie_t hf q57
    refine r_tsc C0 (cst := 6) q57 (by decide) (by decide) rfl (tgt := 209) (by decide) dL_act_29 ?_
    refine WW.sub [2, 3] rfl ?_
    exact B209     _ hf
  have hf := ie_f hf q57
  have nq57 : Int32.toInt r15 ≠ 6 := fun h => q57 (Int32.toInt_inj.mp h)
  rcases Decidable.em (r15 = 7) with q58 | q58
  · have hf := ie_t hf q58
    refine r_tsc C0 (cst := 7) q58 (by decide) (by decide) rfl (tgt := 209) (by decide) dL_act_29 ?_
    refine WW.sub [2, 3] rfl ?_
    exact B209     _ hf
  have hf := ie_f hf q58
  have nq58 : Int32.toInt r15 ≠ 7 := fun h => q58 (Int32.toInt_inj.mp h)
  rcases Decidable.em (r15 = 8) with q59 | q59
  · have hf := ie_t hf q59
    refine r_tsc C0 (cst := 8) q59 (by decide) (by decide) rfl (tgt := 209) (by decide) dL_act_29 ?_
    refine WW.sub [2, 3] rfl ?_
    exact B209     _ hf
  have hf := ie_f hf q59
  have nq59 : Int32.toInt r15 ≠ 8 := fun h => q59 (Int32.toInt_inj.mp h)
  rcases Decidable.em (r15 = 9) with q60 | q60
  · have hf := ie_t hf q60
    refine r_tsc C0 (cst := 9) q60 (by decide) (by decide) rfl (tgt := 84) (by decide) dL_act_29 ?_
    refine r_aload_n C0 (kk := 0) 2 rfl dL_act_84 ?_
    refine r_iload_n C0 (kk := 2) 1 rfl dL_act_85 ?_
    refine r_iload_n C0 (kk := 1) 3 rfl dL_act_86 ?_
    refine r_bipush C0 (v := 10) dL_act_87 rfl ?_
    refine r_ishr C0 dL_act_89 ?_
    refine r_bipush C0 (v := 100) dL_act_90 rfl ?_
    obtain ⟨r63, M62, hc61, hf⟩ := bd2_e hf
    refine r_callSi C0 (As := [.int (a1 >>> (10 &&& 31)), .int 100]) (rest := [.int r6, .ref (g.1 4 1664)]) (c_L_in l D g tb hT  hc61) w2_127 w2_128 w1_0 w2_129 hd_L_in rfl ⟨rfl, rfl⟩ ⟨Nat.le_of_ble_eq_true rfl, Nat.le_of_ble_eq_true rfl⟩ (by decide) (by decide) rfl (Nat.le_of_ble_eq_true rfl) dL_act_92 ?_
    obtain ⟨r66, M65, hc64, hf⟩ := bd2_e hf
    refine r_callVi C0 (As := [.int r6, .int r63]) (rest := []) (c_X6_moveStall l D g tb hT h0 hc64) w5_172 w5_173 w5_174 w1_13 w5_175 (x_rec4 C0 h0.1) hd_X6_moveStall rfl ⟨rfl, rfl⟩ ⟨Nat.le_of_ble_eq_true rfl, Nat.le_of_ble_eq_true rfl⟩ (by decide) (by decide) rfl (Nat.le_of_ble_eq_true rfl) dL_act_95 ?_
    refine r_pop C0 rfl dL_act_98 ?_
    refine r_goto C0 (tgt := 225) (by decide) dL_act_99 ?_
    exact hend hf dL_act_225
  have hf := ie_f hf q60
  have nq60 : Int32.toInt r15 ≠ 9 := fun h => q60 (Int32.toInt_inj.mp h)
  refine r_tsd C0 (by omega) (tgt := 209) (by decide) dL_act_29 ?_
  refine WW.sub [2, 3] rfl ?_
  exact B209     _ hf
