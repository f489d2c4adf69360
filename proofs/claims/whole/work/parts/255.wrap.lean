/-! the law's wrappers -/
theorem dL_fogIn_0 : decode cL_fogIn 0 = .ok (.aload_n 2, 1) := by decide +kernel
theorem dL_fogIn_1 : decode cL_fogIn 1 = .ok (.iconst 0, 1) := by decide +kernel
theorem dL_fogIn_2 : decode cL_fogIn 2 = .ok (.aload_n 0, 1) := by decide +kernel
theorem dL_fogIn_3 : decode cL_fogIn 3 = .ok (.iload_n 1, 1) := by decide +kernel
theorem dL_fogIn_4 : decode cL_fogIn 4 = .ok (.invokevirtual 7, 3) := by decide +kernel
theorem dL_fogIn_7 : decode cL_fogIn 7 = .ok (.i2l, 1) := by decide +kernel
theorem dL_fogIn_8 : decode cL_fogIn 8 = .ok (.lastore, 1) := by decide +kernel
theorem dL_fogIn_9 : decode cL_fogIn 9 = .ok (.goto 6, 3) := by decide +kernel
theorem dL_fogIn_12 : decode cL_fogIn 12 = .ok (.astore_n 3, 1) := by decide +kernel
theorem dL_fogIn_13 : decode cL_fogIn 13 = .ok (.iconst 1, 1) := by decide +kernel
theorem dL_fogIn_14 : decode cL_fogIn 14 = .ok (.ireturn, 1) := by decide +kernel
theorem dL_fogIn_15 : decode cL_fogIn 15 = .ok (.iconst 0, 1) := by decide +kernel
theorem dL_fogIn_16 : decode cL_fogIn 16 = .ok (.ireturn, 1) := by decide +kernel
theorem hd_L_fogIn : yL_fogIn.cls ≠ "java/lang/invoke/MethodHandle" ∧ yL_fogIn.cls ≠ "java/lang/invoke/VarHandle" ∧ (parseMethodDescriptor yL_fogIn.desc).map (fun d => d.parameters.length) = some 3 := by decide +kernel
set_option maxRecDepth 100000 in
set_option maxHeartbeats 4000000 in
theorem c_L_fogIn (l : Launch) (D : va_G) (g : xG) (tb : List xQ) (hT : x_T g tb) (hlst : l.stackTraces = false) {a1 : Int32} (h0 : x_fb tb) (ho : ((9, 5000, 1) : xQ) ∈ tb) {M : xM} {k : Nat} {r : Int32} {M1 : xM} (hf : f_X6_fogIn a1 M = some (k, r, M1)) {res : Int32} {M2 : xM} (hk : (k = 0 ∧ res = 0 ∧ M2 = upd M1 5000 r) ∨ ∃ i : Nat, ([1] : List Nat)[i]? = some k ∧ 0 < k ∧ res = nI (i + 1) ∧ M2 = M1) :
    cL l D g tb yL_fogIn cL_fogIn 4 [(0, 9, 12, 13)] ({ frames := 8, cells := 1, slots := 6, locals := 125 } : Room) 1 [.ref (g.1 4 1664), .int a1, .ref (g.1 9 5000)] M res M2 := by
  refine x_startH (own := RL) (by decide +kernel) rfl rfl (Nat.le_of_ble_eq_true rfl) hT ?_
  intro p e s m args below meth c Q C0 htab hend
  refine r_aload_n C0 (kk := 2) 2 rfl dL_fogIn_0 ?_
  refine r_iconst C0 (v := 0) dL_fogIn_1 rfl ?_
  refine r_aload_n C0 (kk := 0) 0 rfl dL_fogIn_2 ?_
  refine r_iload_n C0 (kk := 1) 1 rfl dL_fogIn_3 ?_
  refine r_tcallVi C0 (As := [.int a1]) (rest := [.int 0, .ref (g.1 9 5000)]) (c_X6_fogIn l D g tb hT hlst h0 hf) w4_40 w4_41 w4_42 w1_1 w4_43 (x_rec4 C0 h0.1) hd_X6_fogIn rfl ⟨rfl, rfl⟩ ⟨Nat.le_of_ble_eq_true rfl, Nat.le_of_ble_eq_true rfl⟩ (by decide) (by decide) rfl (Nat.le_of_ble_eq_true rfl) dL_fogIn_4 (fun H1 locs1 ls E ce q hk1 hE hH hS hl h1 h2 h3 => ?_) (fun hk1 => ?_)
  · rcases hk with ⟨q0, -, -⟩ | ⟨i, hi, hpos, rfl, rfl⟩
    · exact absurd q0 hk1
    · match i, hi with
      | 0, hi =>
        cases hi
        refine r_catch C0 (k := 1) (by decide) (by decide) hE [] ⟨0, 9, 12, 13⟩ [] (by rw [htab]; rfl) (fun z hz => absurd hz List.not_mem_nil) (by decide) (by decide) w4_39 hH hS hl h1 h2 h3 ?_
        refine r_astore_n C0 (kk := 3) (lv2 := [(3, .ref q), (0, .ref (g.1 4 1664)), (1, .int a1), (2, .ref (g.1 9 5000))]) (by decide) rfl dL_fogIn_12 ?_
        refine r_iconst C0 (v := 1) dL_fogIn_13 rfl ?_
        exact hend ⟨rfl, rfl⟩ dL_fogIn_14
      | n + 1, hi => exact absurd hi (by simp)
  · rcases hk with ⟨-, rfl, rfl⟩ | ⟨i, hi, hpos, -, -⟩
    · refine r_i2l C0 dL_fogIn_7 ?_
      refine r_last C0 ho (inb_in (i := 0) (n := 1) (by decide)) dL_fogIn_8 ?_
      refine r_goto C0 (tgt := 15) (by decide) dL_fogIn_9 ?_
      refine r_iconst C0 (v := 0) dL_fogIn_15 rfl ?_
      exact hend ⟨rfl, rfl⟩ dL_fogIn_16
    · exact absurd hk1 (by omega)
theorem dL_positionOf_0 : decode cL_positionOf 0 = .ok (.aload_n 2, 1) := by decide +kernel
theorem dL_positionOf_1 : decode cL_positionOf 1 = .ok (.iconst 0, 1) := by decide +kernel
theorem dL_positionOf_2 : decode cL_positionOf 2 = .ok (.aload_n 0, 1) := by decide +kernel
theorem dL_positionOf_3 : decode cL_positionOf 3 = .ok (.iload_n 1, 1) := by decide +kernel
theorem dL_positionOf_4 : decode cL_positionOf 4 = .ok (.invokevirtual 15, 3) := by decide +kernel
theorem dL_positionOf_7 : decode cL_positionOf 7 = .ok (.i2l, 1) := by decide +kernel
theorem dL_positionOf_8 : decode cL_positionOf 8 = .ok (.lastore, 1) := by decide +kernel
theorem dL_positionOf_9 : decode cL_positionOf 9 = .ok (.goto 6, 3) := by decide +kernel
theorem dL_positionOf_12 : decode cL_positionOf 12 = .ok (.astore_n 3, 1) := by decide +kernel
theorem dL_positionOf_13 : decode cL_positionOf 13 = .ok (.iconst 1, 1) := by decide +kernel
theorem dL_positionOf_14 : decode cL_positionOf 14 = .ok (.ireturn, 1) := by decide +kernel
theorem dL_positionOf_15 : decode cL_positionOf 15 = .ok (.iconst 0, 1) := by decide +kernel
theorem dL_positionOf_16 : decode cL_positionOf 16 = .ok (.ireturn, 1) := by decide +kernel
theorem hd_L_positionOf : yL_positionOf.cls ≠ "java/lang/invoke/MethodHandle" ∧ yL_positionOf.cls ≠ "java/lang/invoke/VarHandle" ∧ (parseMethodDescriptor yL_positionOf.desc).map (fun d => d.parameters.length) = some 3 := by decide +kernel
set_option maxRecDepth 100000 in
set_option maxHeartbeats 4000000 in
theorem c_L_positionOf (l : Launch) (D : va_G) (g : xG) (tb : List xQ) (hT : x_T g tb) (hlst : l.stackTraces = false) {a1 : Int32} (h0 : x_fb tb) (ho : ((9, 5000, 1) : xQ) ∈ tb) {M : xM} {k : Nat} {r : Int32} {M1 : xM} (hf : f_X6_positionOf a1 M = some (k, r, M1)) {res : Int32} {M2 : xM} (hk : (k = 0 ∧ res = 0 ∧ M2 = upd M1 5000 r) ∨ ∃ i : Nat, ([2] : List Nat)[i]? = some k ∧ 0 < k ∧ res = nI (i + 1) ∧ M2 = M1) :
    cL l D g tb yL_positionOf cL_positionOf 4 [(0, 9, 12, 18)] ({ frames := 9, cells := 1, slots := 6, locals := 145 } : Room) 1 [.ref (g.1 4 1664), .int a1, .ref (g.1 9 5000)] M res M2 := by
  refine x_startH (own := RL) (by decide +kernel) rfl rfl (Nat.le_of_ble_eq_true rfl) hT ?_
  intro p e s m args below meth c Q C0 htab hend
  refine r_aload_n C0 (kk := 2) 2 rfl dL_positionOf_0 ?_
  refine r_iconst C0 (v := 0) dL_positionOf_1 rfl ?_
  refine r_aload_n C0 (kk := 0) 0 rfl dL_positionOf_2 ?_
  refine r_iload_n C0 (kk := 1) 1 rfl dL_positionOf_3 ?_
  refine r_tcallVi C0 (As := [.int a1]) (rest := [.int 0, .ref (g.1 9 5000)]) (c_X6_positionOf l D g tb hT hlst h0 hf) w4_121 w4_122 w4_123 w1_1 w4_124 (x_rec4 C0 h0.1) hd_X6_positionOf rfl ⟨rfl, rfl⟩ ⟨Nat.le_of_ble_eq_true rfl, Nat.le_of_ble_eq_true rfl⟩ (by decide) (by decide) rfl (Nat.le_of_ble_eq_true rfl) dL_positionOf_4 (fun H1 locs1 ls E ce q hk1 hE hH hS hl h1 h2 h3 => ?_) (fun hk1 => ?_)
  · rcases hk with ⟨q0, -, -⟩ | ⟨i, hi, hpos, rfl, rfl⟩
    · exact absurd q0 hk1
    · match i, hi with
      | 0, hi =>
        cases hi
        refine r_catch C0 (k := 2) (by decide) (by decide) hE [] ⟨0, 9, 12, 18⟩ [] (by rw [htab]; rfl) (fun z hz => absurd hz List.not_mem_nil) (by decide) (by decide) w4_120 hH hS hl h1 h2 h3 ?_
        refine r_astore_n C0 (kk := 3) (lv2 := [(3, .ref q), (0, .ref (g.1 4 1664)), (1, .int a1), (2, .ref (g.1 9 5000))]) (by decide) rfl dL_positionOf_12 ?_
        refine r_iconst C0 (v := 1) dL_positionOf_13 rfl ?_
        exact hend ⟨rfl, rfl⟩ dL_positionOf_14
      | n + 1, hi => exact absurd hi (by simp)
  · rcases hk with ⟨-, rfl, rfl⟩ | ⟨i, hi, hpos, -, -⟩
    · refine r_i2l C0 dL_positionOf_7 ?_
      refine r_last C0 ho (inb_in (i := 0) (n := 1) (by decide)) dL_positionOf_8 ?_
      refine r_goto C0 (tgt := 15) (by decide) dL_positionOf_9 ?_
      refine r_iconst C0 (v := 0) dL_positionOf_15 rfl ?_
      exact hend ⟨rfl, rfl⟩ dL_positionOf_16
    · exact absurd hk1 (by omega)
theorem dL_lanternOf_0 : decode cL_lanternOf 0 = .ok (.aload_n 2, 1) := by decide +kernel
theorem dL_lanternOf_1 : decode cL_lanternOf 1 = .ok (.iconst 0, 1) := by decide +kernel
theorem dL_lanternOf_2 : decode cL_lanternOf 2 = .ok (.aload_n 0, 1) := by decide +kernel
theorem dL_lanternOf_3 : decode cL_lanternOf 3 = .ok (.iload_n 1, 1) := by decide +kernel
theorem dL_lanternOf_4 : decode cL_lanternOf 4 = .ok (.invokevirtual 20, 3) := by decide +kernel
theorem dL_lanternOf_7 : decode cL_lanternOf 7 = .ok (.i2l, 1) := by decide +kernel
theorem dL_lanternOf_8 : decode cL_lanternOf 8 = .ok (.lastore, 1) := by decide +kernel
theorem dL_lanternOf_9 : decode cL_lanternOf 9 = .ok (.goto 6, 3) := by decide +kernel
theorem dL_lanternOf_12 : decode cL_lanternOf 12 = .ok (.astore_n 3, 1) := by decide +kernel
theorem dL_lanternOf_13 : decode cL_lanternOf 13 = .ok (.iconst 1, 1) := by decide +kernel
theorem dL_lanternOf_14 : decode cL_lanternOf 14 = .ok (.ireturn, 1) := by decide +kernel
theorem dL_lanternOf_15 : decode cL_lanternOf 15 = .ok (.iconst 0, 1) := by decide +kernel
theorem dL_lanternOf_16 : decode cL_lanternOf 16 = .ok (.ireturn, 1) := by decide +kernel
theorem hd_L_lanternOf : yL_lanternOf.cls ≠ "java/lang/invoke/MethodHandle" ∧ yL_lanternOf.cls ≠ "java/lang/invoke/VarHandle" ∧ (parseMethodDescriptor yL_lanternOf.desc).map (fun d => d.parameters.length) = some 3 := by decide +kernel
set_option maxRecDepth 100000 in
set_option maxHeartbeats 4000000 in
theorem c_L_lanternOf (l : Launch) (D : va_G) (g : xG) (tb : List xQ) (hT : x_T g tb) (hlst : l.stackTraces = false) {a1 : Int32} (h0 : x_fb tb) (ho : ((9, 5000, 1) : xQ) ∈ tb) {M : xM} {k : Nat} {r : Int32} {M1 : xM} (hf : f_X6_lanternOf a1 M = some (k, r, M1)) {res : Int32} {M2 : xM} (hk : (k = 0 ∧ res = 0 ∧ M2 = upd M1 5000 r) ∨ ∃ i : Nat, ([2] : List Nat)[i]? = some k ∧ 0 < k ∧ res = nI (i + 1) ∧ M2 = M1) :
    cL l D g tb yL_lanternOf cL_lanternOf 4 [(0, 9, 12, 18)] ({ frames := 9, cells := 1, slots := 6, locals := 145 } : Room) 1 [.ref (g.1 4 1664), .int a1, .ref (g.1 9 5000)] M res M2 := by
  refine x_startH (own := RL) (by decide +kernel) rfl rfl (Nat.le_of_ble_eq_true rfl) hT ?_
  intro p e s m args below meth c Q C0 htab hend
  refine r_aload_n C0 (kk := 2) 2 rfl dL_lanternOf_0 ?_
  refine r_iconst C0 (v := 0) dL_lanternOf_1 rfl ?_
  refine r_aload_n C0 (kk := 0) 0 rfl dL_lanternOf_2 ?_
  refine r_iload_n C0 (kk := 1) 1 rfl dL_lanternOf_3 ?_
  refine r_tcallVi C0 (As := [.int a1]) (rest := [.int 0, .ref (g.1 9 5000)]) (c_X6_lanternOf l D g tb hT hlst h0 hf) w4_152 w4_153 w4_154 w1_1 w4_155 (x_rec4 C0 h0.1) hd_X6_lanternOf rfl ⟨rfl, rfl⟩ ⟨Nat.le_of_ble_eq_true rfl, Nat.le_of_ble_eq_true rfl⟩ (by decide) (by decide) rfl (Nat.le_of_ble_eq_true rfl) dL_lanternOf_4 (fun H1 locs1 ls E ce q hk1 hE hH hS hl h1 h2 h3 => ?_) (fun hk1 => ?_)
  · rcases hk with ⟨q0, -, -⟩ | ⟨i, hi, hpos, rfl, rfl⟩
    · exact absurd q0 hk1
    · match i, hi with
      | 0, hi =>
        cases hi
        refine r_catch C0 (k := 2) (by decide) (by decide) hE [] ⟨0, 9, 12, 18⟩ [] (by rw [htab]; rfl) (fun z hz => absurd hz List.not_mem_nil) (by decide) (by decide) w4_120 hH hS hl h1 h2 h3 ?_
        refine r_astore_n C0 (kk := 3) (lv2 := [(3, .ref q), (0, .ref (g.1 4 1664)), (1, .int a1), (2, .ref (g.1 9 5000))]) (by decide) rfl dL_lanternOf_12 ?_
        refine r_iconst C0 (v := 1) dL_lanternOf_13 rfl ?_
        exact hend ⟨rfl, rfl⟩ dL_lanternOf_14
      | n + 1, hi => exact absurd hi (by simp)
  · rcases hk with ⟨-, rfl, rfl⟩ | ⟨i, hi, hpos, -, -⟩
    · refine r_i2l C0 dL_lanternOf_7 ?_
      refine r_last C0 ho (inb_in (i := 0) (n := 1) (by decide)) dL_lanternOf_8 ?_
      refine r_goto C0 (tgt := 15) (by decide) dL_lanternOf_9 ?_
      refine r_iconst C0 (v := 0) dL_lanternOf_15 rfl ?_
      exact hend ⟨rfl, rfl⟩ dL_lanternOf_16
    · exact absurd hk1 (by omega)
theorem dL_textureOf_0 : decode cL_textureOf 0 = .ok (.aload_n 2, 1) := by decide +kernel
theorem dL_textureOf_1 : decode cL_textureOf 1 = .ok (.iconst 0, 1) := by decide +kernel
theorem dL_textureOf_2 : decode cL_textureOf 2 = .ok (.aload_n 0, 1) := by decide +kernel
theorem dL_textureOf_3 : decode cL_textureOf 3 = .ok (.iload_n 1, 1) := by decide +kernel
theorem dL_textureOf_4 : decode cL_textureOf 4 = .ok (.invokevirtual 23, 3) := by decide +kernel
theorem dL_textureOf_7 : decode cL_textureOf 7 = .ok (.i2l, 1) := by decide +kernel
theorem dL_textureOf_8 : decode cL_textureOf 8 = .ok (.lastore, 1) := by decide +kernel
theorem dL_textureOf_9 : decode cL_textureOf 9 = .ok (.goto 6, 3) := by decide +kernel
theorem dL_textureOf_12 : decode cL_textureOf 12 = .ok (.astore_n 3, 1) := by decide +kernel
theorem dL_textureOf_13 : decode cL_textureOf 13 = .ok (.iconst 1, 1) := by decide +kernel
theorem dL_textureOf_14 : decode cL_textureOf 14 = .ok (.ireturn, 1) := by decide +kernel
theorem dL_textureOf_15 : decode cL_textureOf 15 = .ok (.iconst 0, 1) := by decide +kernel
theorem dL_textureOf_16 : decode cL_textureOf 16 = .ok (.ireturn, 1) := by decide +kernel
theorem hd_L_textureOf : yL_textureOf.cls ≠ "java/lang/invoke/MethodHandle" ∧ yL_textureOf.cls ≠ "java/lang/invoke/VarHandle" ∧ (parseMethodDescriptor yL_textureOf.desc).map (fun d => d.parameters.length) = some 3 := by decide +kernel
set_option maxRecDepth 100000 in
set_option maxHeartbeats 4000000 in
theorem c_L_textureOf (l : Launch) (D : va_G) (g : xG) (tb : List xQ) (hT : x_T g tb) (hlst : l.stackTraces = false) {a1 : Int32} (h0 : x_fb tb) (ho : ((9, 5000, 1) : xQ) ∈ tb) {M : xM} {k : Nat} {r : Int32} {M1 : xM} (hf : f_X6_textureOf a1 M = some (k, r, M1)) {res : Int32} {M2 : xM} (hk : (k = 0 ∧ res = 0 ∧ M2 = upd M1 5000 r) ∨ ∃ i : Nat, ([2] : List Nat)[i]? = some k ∧ 0 < k ∧ res = nI (i + 1) ∧ M2 = M1) :
    cL l D g tb yL_textureOf cL_textureOf 4 [(0, 9, 12, 18)] ({ frames := 9, cells := 1, slots := 6, locals := 145 } : Room) 1 [.ref (g.1 4 1664), .int a1, .ref (g.1 9 5000)] M res M2 := by
  refine x_startH (own := RL) (by decide +kernel) rfl rfl (Nat.le_of_ble_eq_true rfl) hT ?_
  intro p e s m args below meth c Q C0 htab hend
  refine r_aload_n C0 (kk := 2) 2 rfl dL_textureOf_0 ?_
  refine r_iconst C0 (v := 0) dL_textureOf_1 rfl ?_
  refine r_aload_n C0 (kk := 0) 0 rfl dL_textureOf_2 ?_
  refine r_iload_n C0 (kk := 1) 1 rfl dL_textureOf_3 ?_
  refine r_tcallVi C0 (As := [.int a1]) (rest := [.int 0, .ref (g.1 9 5000)]) (c_X6_textureOf l D g tb hT hlst h0 hf) w4_159 w4_160 w4_161 w1_1 w4_162 (x_rec4 C0 h0.1) hd_X6_textureOf rfl ⟨rfl, rfl⟩ ⟨Nat.le_of_ble_eq_true rfl, Nat.le_of_ble_eq_true rfl⟩ (by decide) (by decide) rfl (Nat.le_of_ble_eq_true rfl) dL_textureOf_4 (fun H1 locs1 ls E ce q hk1 hE hH hS hl h1 h2 h3 => ?_) (fun hk1 => ?_)
  · rcases hk with ⟨q0, -, -⟩ | ⟨i, hi, hpos, rfl, rfl⟩
    · exact absurd q0 hk1
    · match i, hi with
      | 0, hi =>
        cases hi
        refine r_catch C0 (k := 2) (by decide) (by decide) hE [] ⟨0, 9, 12, 18⟩ [] (by rw [htab]; rfl) (fun z hz => absurd hz List.not_mem_nil) (by decide) (by decide) w4_120 hH hS hl h1 h2 h3 ?_
        refine r_astore_n C0 (kk := 3) (lv2 := [(3, .ref q), (0, .ref (g.1 4 1664)), (1, .int a1), (2, .ref (g.1 9 5000))]) (by decide) rfl dL_textureOf_12 ?_
        refine r_iconst C0 (v := 1) dL_textureOf_13 rfl ?_
        exact hend ⟨rfl, rfl⟩ dL_textureOf_14
      | n + 1, hi => exact absurd hi (by simp)
  · rcases hk with ⟨-, rfl, rfl⟩ | ⟨i, hi, hpos, -, -⟩
    · refine r_i2l C0 dL_textureOf_7 ?_
      refine r_last C0 ho (inb_in (i := 0) (n := 1) (by decide)) dL_textureOf_8 ?_
      refine r_goto C0 (tgt := 15) (by decide) dL_textureOf_9 ?_
      refine r_iconst C0 (v := 0) dL_textureOf_15 rfl ?_
      exact hend ⟨rfl, rfl⟩ dL_textureOf_16
    · exact absurd hk1 (by omega)
theorem dL_priceOf_0 : decode cL_priceOf 0 = .ok (.aload_n 2, 1) := by decide +kernel
theorem dL_priceOf_1 : decode cL_priceOf 1 = .ok (.iconst 0, 1) := by decide +kernel
theorem dL_priceOf_2 : decode cL_priceOf 2 = .ok (.aload_n 0, 1) := by decide +kernel
theorem dL_priceOf_3 : decode cL_priceOf 3 = .ok (.iload_n 1, 1) := by decide +kernel
theorem dL_priceOf_4 : decode cL_priceOf 4 = .ok (.invokevirtual 26, 3) := by decide +kernel
theorem dL_priceOf_7 : decode cL_priceOf 7 = .ok (.i2l, 1) := by decide +kernel
theorem dL_priceOf_8 : decode cL_priceOf 8 = .ok (.lastore, 1) := by decide +kernel
theorem dL_priceOf_9 : decode cL_priceOf 9 = .ok (.goto 6, 3) := by decide +kernel
theorem dL_priceOf_12 : decode cL_priceOf 12 = .ok (.astore_n 3, 1) := by decide +kernel
theorem dL_priceOf_13 : decode cL_priceOf 13 = .ok (.iconst 1, 1) := by decide +kernel
theorem dL_priceOf_14 : decode cL_priceOf 14 = .ok (.ireturn, 1) := by decide +kernel
theorem dL_priceOf_15 : decode cL_priceOf 15 = .ok (.iconst 0, 1) := by decide +kernel
theorem dL_priceOf_16 : decode cL_priceOf 16 = .ok (.ireturn, 1) := by decide +kernel
theorem hd_L_priceOf : yL_priceOf.cls ≠ "java/lang/invoke/MethodHandle" ∧ yL_priceOf.cls ≠ "java/lang/invoke/VarHandle" ∧ (parseMethodDescriptor yL_priceOf.desc).map (fun d => d.parameters.length) = some 3 := by decide +kernel
set_option maxRecDepth 100000 in
set_option maxHeartbeats 4000000 in
theorem c_L_priceOf (l : Launch) (D : va_G) (g : xG) (tb : List xQ) (hT : x_T g tb) (hlst : l.stackTraces = false) {a1 : Int32} (h0 : x_fb tb) (ho : ((9, 5000, 1) : xQ) ∈ tb) {M : xM} {k : Nat} {r : Int32} {M1 : xM} (hf : f_X6_priceOf a1 M = some (k, r, M1)) {res : Int32} {M2 : xM} (hk : (k = 0 ∧ res = 0 ∧ M2 = upd M1 5000 r) ∨ ∃ i : Nat, ([2] : List Nat)[i]? = some k ∧ 0 < k ∧ res = nI (i + 1) ∧ M2 = M1) :
    cL l D g tb yL_priceOf cL_priceOf 4 [(0, 9, 12, 18)] ({ frames := 9, cells := 1, slots := 6, locals := 145 } : Room) 1 [.ref (g.1 4 1664), .int a1, .ref (g.1 9 5000)] M res M2 := by
  refine x_startH (own := RL) (by decide +kernel) rfl rfl (Nat.le_of_ble_eq_true rfl) hT ?_
  intro p e s m args below meth c Q C0 htab hend
  refine r_aload_n C0 (kk := 2) 2 rfl dL_priceOf_0 ?_
  refine r_iconst C0 (v := 0) dL_priceOf_1 rfl ?_
  refine r_aload_n C0 (kk := 0) 0 rfl dL_priceOf_2 ?_
  refine r_iload_n C0 (kk := 1) 1 rfl dL_priceOf_3 ?_
  refine r_tcallVi C0 (As := [.int a1]) (rest := [.int 0, .ref (g.1 9 5000)]) (c_X6_priceOf l D g tb hT hlst h0 hf) w4_166 w4_167 w4_168 w1_1 w4_169 (x_rec4 C0 h0.1) hd_X6_priceOf rfl ⟨rfl, rfl⟩ ⟨Nat.le_of_ble_eq_true rfl, Nat.le_of_ble_eq_true rfl⟩ (by decide) (by decide) rfl (Nat.le_of_ble_eq_true rfl) dL_priceOf_4 (fun H1 locs1 ls E ce q hk1 hE hH hS hl h1 h2 h3 => ?_) (fun hk1 => ?_)
  · rcases hk with ⟨q0, -, -⟩ | ⟨i, hi, hpos, rfl, rfl⟩
    · exact absurd q0 hk1
    · match i, hi with
      | 0, hi =>
        cases hi
        refine r_catch C0 (k := 2) (by decide) (by decide) hE [] ⟨0, 9, 12, 18⟩ [] (by rw [htab]; rfl) (fun z hz => absurd hz List.not_mem_nil) (by decide) (by decide) w4_120 hH hS hl h1 h2 h3 ?_
        refine r_astore_n C0 (kk := 3) (lv2 := [(3, .ref q), (0, .ref (g.1 4 1664)), (1, .int a1), (2, .ref (g.1 9 5000))]) (by decide) rfl dL_priceOf_12 ?_
        refine r_iconst C0 (v := 1) dL_priceOf_13 rfl ?_
        exact hend ⟨rfl, rfl⟩ dL_priceOf_14
      | n + 1, hi => exact absurd hi (by simp)
  · rcases hk with ⟨-, rfl, rfl⟩ | ⟨i, hi, hpos, -, -⟩
    · refine r_i2l C0 dL_priceOf_7 ?_
      refine r_last C0 ho (inb_in (i := 0) (n := 1) (by decide)) dL_priceOf_8 ?_
      refine r_goto C0 (tgt := 15) (by decide) dL_priceOf_9 ?_
      refine r_iconst C0 (v := 0) dL_priceOf_15 rfl ?_
      exact hend ⟨rfl, rfl⟩ dL_priceOf_16
    · exact absurd hk1 (by omega)
theorem dL_stockOf_0 : decode cL_stockOf 0 = .ok (.aload_n 2, 1) := by decide +kernel
theorem dL_stockOf_1 : decode cL_stockOf 1 = .ok (.iconst 0, 1) := by decide +kernel
theorem dL_stockOf_2 : decode cL_stockOf 2 = .ok (.aload_n 0, 1) := by decide +kernel
theorem dL_stockOf_3 : decode cL_stockOf 3 = .ok (.iload_n 1, 1) := by decide +kernel
theorem dL_stockOf_4 : decode cL_stockOf 4 = .ok (.invokevirtual 29, 3) := by decide +kernel
theorem dL_stockOf_7 : decode cL_stockOf 7 = .ok (.i2l, 1) := by decide +kernel
theorem dL_stockOf_8 : decode cL_stockOf 8 = .ok (.lastore, 1) := by decide +kernel
theorem dL_stockOf_9 : decode cL_stockOf 9 = .ok (.goto 6, 3) := by decide +kernel
theorem dL_stockOf_12 : decode cL_stockOf 12 = .ok (.astore_n 3, 1) := by decide +kernel
theorem dL_stockOf_13 : decode cL_stockOf 13 = .ok (.iconst 1, 1) := by decide +kernel
theorem dL_stockOf_14 : decode cL_stockOf 14 = .ok (.ireturn, 1) := by decide +kernel
theorem dL_stockOf_15 : decode cL_stockOf 15 = .ok (.iconst 0, 1) := by decide +kernel
theorem dL_stockOf_16 : decode cL_stockOf 16 = .ok (.ireturn, 1) := by decide +kernel
theorem hd_L_stockOf : yL_stockOf.cls ≠ "java/lang/invoke/MethodHandle" ∧ yL_stockOf.cls ≠ "java/lang/invoke/VarHandle" ∧ (parseMethodDescriptor yL_stockOf.desc).map (fun d => d.parameters.length) = some 3 := by decide +kernel
set_option maxRecDepth 100000 in
set_option maxHeartbeats 4000000 in
theorem c_L_stockOf (l : Launch) (D : va_G) (g : xG) (tb : List xQ) (hT : x_T g tb) (hlst : l.stackTraces = false) {a1 : Int32} (h0 : x_fb tb) (ho : ((9, 5000, 1) : xQ) ∈ tb) {M : xM} {k : Nat} {r : Int32} {M1 : xM} (hf : f_X6_stockOf a1 M = some (k, r, M1)) {res : Int32} {M2 : xM} (hk : (k = 0 ∧ res = 0 ∧ M2 = upd M1 5000 r) ∨ ∃ i : Nat, ([2] : List Nat)[i]? = some k ∧ 0 < k ∧ res = nI (i + 1) ∧ M2 = M1) :
    cL l D g tb yL_stockOf cL_stockOf 4 [(0, 9, 12, 18)] ({ frames := 9, cells := 1, slots := 6, locals := 145 } : Room) 1 [.ref (g.1 4 1664), .int a1, .ref (g.1 9 5000)] M res M2 := by
  refine x_startH (own := RL) (by decide +kernel) rfl rfl (Nat.le_of_ble_eq_true rfl) hT ?_
  intro p e s m args below meth c Q C0 htab hend
  refine r_aload_n C0 (kk := 2) 2 rfl dL_stockOf_0 ?_
  refine r_iconst C0 (v := 0) dL_stockOf_1 rfl ?_
  refine r_aload_n C0 (kk := 0) 0 rfl dL_stockOf_2 ?_
  refine r_iload_n C0 (kk := 1) 1 rfl dL_stockOf_3 ?_
  refine r_tcallVi C0 (As := [.int a1]) (rest := [.int 0, .ref (g.1 9 5000)]) (c_X6_stockOf l D g tb hT hlst h0 hf) w4_173 w4_174 w4_175 w1_1 w4_176 (x_rec4 C0 h0.1) hd_X6_stockOf rfl ⟨rfl, rfl⟩ ⟨Nat.le_of_ble_eq_true rfl, Nat.le_of_ble_eq_true rfl⟩ (by decide) (by decide) rfl (Nat.le_of_ble_eq_true rfl) dL_stockOf_4 (fun H1 locs1 ls E ce q hk1 hE hH hS hl h1 h2 h3 => ?_) (fun hk1 => ?_)
  · rcases hk with ⟨q0, -, -⟩ | ⟨i, hi, hpos, rfl, rfl⟩
    · exact absurd q0 hk1
    · match i, hi with
      | 0, hi =>
        cases hi
        refine r_catch C0 (k := 2) (by decide) (by decide) hE [] ⟨0, 9, 12, 18⟩ [] (by rw [htab]; rfl) (fun z hz => absurd hz List.not_mem_nil) (by decide) (by decide) w4_120 hH hS hl h1 h2 h3 ?_
        refine r_astore_n C0 (kk := 3) (lv2 := [(3, .ref q), (0, .ref (g.1 4 1664)), (1, .int a1), (2, .ref (g.1 9 5000))]) (by decide) rfl dL_stockOf_12 ?_
        refine r_iconst C0 (v := 1) dL_stockOf_13 rfl ?_
        exact hend ⟨rfl, rfl⟩ dL_stockOf_14
      | n + 1, hi => exact absurd hi (by simp)
  · rcases hk with ⟨-, rfl, rfl⟩ | ⟨i, hi, hpos, -, -⟩
    · refine r_i2l C0 dL_stockOf_7 ?_
      refine r_last C0 ho (inb_in (i := 0) (n := 1) (by decide)) dL_stockOf_8 ?_
      refine r_goto C0 (tgt := 15) (by decide) dL_stockOf_9 ?_
      refine r_iconst C0 (v := 0) dL_stockOf_15 rfl ?_
      exact hend ⟨rfl, rfl⟩ dL_stockOf_16
    · exact absurd hk1 (by omega)
theorem dL_heldOf_0 : decode cL_heldOf 0 = .ok (.aload_n 2, 1) := by decide +kernel
theorem dL_heldOf_1 : decode cL_heldOf 1 = .ok (.iconst 0, 1) := by decide +kernel
theorem dL_heldOf_2 : decode cL_heldOf 2 = .ok (.aload_n 0, 1) := by decide +kernel
theorem dL_heldOf_3 : decode cL_heldOf 3 = .ok (.iload_n 1, 1) := by decide +kernel
theorem dL_heldOf_4 : decode cL_heldOf 4 = .ok (.invokevirtual 32, 3) := by decide +kernel
theorem dL_heldOf_7 : decode cL_heldOf 7 = .ok (.i2l, 1) := by decide +kernel
theorem dL_heldOf_8 : decode cL_heldOf 8 = .ok (.lastore, 1) := by decide +kernel
theorem dL_heldOf_9 : decode cL_heldOf 9 = .ok (.goto 6, 3) := by decide +kernel
theorem dL_heldOf_12 : decode cL_heldOf 12 = .ok (.astore_n 3, 1) := by decide +kernel
theorem dL_heldOf_13 : decode cL_heldOf 13 = .ok (.iconst 1, 1) := by decide +kernel
theorem dL_heldOf_14 : decode cL_heldOf 14 = .ok (.ireturn, 1) := by decide +kernel
theorem dL_heldOf_15 : decode cL_heldOf 15 = .ok (.iconst 0, 1) := by decide +kernel
theorem dL_heldOf_16 : decode cL_heldOf 16 = .ok (.ireturn, 1) := by decide +kernel
theorem hd_L_heldOf : yL_heldOf.cls ≠ "java/lang/invoke/MethodHandle" ∧ yL_heldOf.cls ≠ "java/lang/invoke/VarHandle" ∧ (parseMethodDescriptor yL_heldOf.desc).map (fun d => d.parameters.length) = some 3 := by decide +kernel
set_option maxRecDepth 100000 in
set_option maxHeartbeats 4000000 in
theorem c_L_heldOf (l : Launch) (D : va_G) (g : xG) (tb : List xQ) (hT : x_T g tb) (hlst : l.stackTraces = false) {a1 : Int32} (h0 : x_fb tb) (ho : ((9, 5000, 1) : xQ) ∈ tb) {M : xM} {k : Nat} {r : Int32} {M1 : xM} (hf : f_X6_heldOf a1 M = some (k, r, M1)) {res : Int32} {M2 : xM} (hk : (k = 0 ∧ res = 0 ∧ M2 = upd M1 5000 r) ∨ ∃ i : Nat, ([2] : List Nat)[i]? = some k ∧ 0 < k ∧ res = nI (i + 1) ∧ M2 = M1) :
    cL l D g tb yL_heldOf cL_heldOf 4 [(0, 9, 12, 18)] ({ frames := 8, cells := 1, slots := 6, locals := 124 } : Room) 1 [.ref (g.1 4 1664), .int a1, .ref (g.1 9 5000)] M res M2 := by
  refine x_startH (own := RL) (by decide +kernel) rfl rfl (Nat.le_of_ble_eq_true rfl) hT ?_
  intro p e s m args below meth c Q C0 htab hend
  refine r_aload_n C0 (kk := 2) 2 rfl dL_heldOf_0 ?_
  refine r_iconst C0 (v := 0) dL_heldOf_1 rfl ?_
  refine r_aload_n C0 (kk := 0) 0 rfl dL_heldOf_2 ?_
  refine r_iload_n C0 (kk := 1) 1 rfl dL_heldOf_3 ?_
  refine r_tcallVi C0 (As := [.int a1]) (rest := [.int 0, .ref (g.1 9 5000)]) (c_X6_heldOf l D g tb hT hlst h0 hf) w4_180 w4_181 w4_182 w1_1 w4_183 (x_rec4 C0 h0.1) hd_X6_heldOf rfl ⟨rfl, rfl⟩ ⟨Nat.le_of_ble_eq_true rfl, Nat.le_of_ble_eq_true rfl⟩ (by decide) (by decide) rfl (Nat.le_of_ble_eq_true rfl) dL_heldOf_4 (fun H1 locs1 ls E ce q hk1 hE hH hS hl h1 h2 h3 => ?_) (fun hk1 => ?_)
  · rcases hk with ⟨q0, -, -⟩ | ⟨i, hi, hpos, rfl, rfl⟩
    · exact absurd q0 hk1
    · match i, hi with
      | 0, hi =>
        cases hi
        refine r_catch C0 (k := 2) (by decide) (by decide) hE [] ⟨0, 9, 12, 18⟩ [] (by rw [htab]; rfl) (fun z hz => absurd hz List.not_mem_nil) (by decide) (by decide) w4_120 hH hS hl h1 h2 h3 ?_
        refine r_astore_n C0 (kk := 3) (lv2 := [(3, .ref q), (0, .ref (g.1 4 1664)), (1, .int a1), (2, .ref (g.1 9 5000))]) (by decide) rfl dL_heldOf_12 ?_
        refine r_iconst C0 (v := 1) dL_heldOf_13 rfl ?_
        exact hend ⟨rfl, rfl⟩ dL_heldOf_14
      | n + 1, hi => exact absurd hi (by simp)
  · rcases hk with ⟨-, rfl, rfl⟩ | ⟨i, hi, hpos, -, -⟩
    · refine r_i2l C0 dL_heldOf_7 ?_
      refine r_last C0 ho (inb_in (i := 0) (n := 1) (by decide)) dL_heldOf_8 ?_
      refine r_goto C0 (tgt := 15) (by decide) dL_heldOf_9 ?_
      refine r_iconst C0 (v := 0) dL_heldOf_15 rfl ?_
      exact hend ⟨rfl, rfl⟩ dL_heldOf_16
    · exact absurd hk1 (by omega)
theorem dL_soldOf_0 : decode cL_soldOf 0 = .ok (.aload_n 2, 1) := by decide +kernel
theorem dL_soldOf_1 : decode cL_soldOf 1 = .ok (.iconst 0, 1) := by decide +kernel
theorem dL_soldOf_2 : decode cL_soldOf 2 = .ok (.aload_n 0, 1) := by decide +kernel
theorem dL_soldOf_3 : decode cL_soldOf 3 = .ok (.iload_n 1, 1) := by decide +kernel
theorem dL_soldOf_4 : decode cL_soldOf 4 = .ok (.invokevirtual 35, 3) := by decide +kernel
theorem dL_soldOf_7 : decode cL_soldOf 7 = .ok (.i2l, 1) := by decide +kernel
theorem dL_soldOf_8 : decode cL_soldOf 8 = .ok (.lastore, 1) := by decide +kernel
theorem dL_soldOf_9 : decode cL_soldOf 9 = .ok (.goto 6, 3) := by decide +kernel
theorem dL_soldOf_12 : decode cL_soldOf 12 = .ok (.astore_n 3, 1) := by decide +kernel
theorem dL_soldOf_13 : decode cL_soldOf 13 = .ok (.iconst 1, 1) := by decide +kernel
theorem dL_soldOf_14 : decode cL_soldOf 14 = .ok (.ireturn, 1) := by decide +kernel
theorem dL_soldOf_15 : decode cL_soldOf 15 = .ok (.iconst 0, 1) := by decide +kernel
theorem dL_soldOf_16 : decode cL_soldOf 16 = .ok (.ireturn, 1) := by decide +kernel
theorem hd_L_soldOf : yL_soldOf.cls ≠ "java/lang/invoke/MethodHandle" ∧ yL_soldOf.cls ≠ "java/lang/invoke/VarHandle" ∧ (parseMethodDescriptor yL_soldOf.desc).map (fun d => d.parameters.length) = some 3 := by decide +kernel
set_option maxRecDepth 100000 in
set_option maxHeartbeats 4000000 in
theorem c_L_soldOf (l : Launch) (D : va_G) (g : xG) (tb : List xQ) (hT : x_T g tb) (hlst : l.stackTraces = false) {a1 : Int32} (h0 : x_fb tb) (ho : ((9, 5000, 1) : xQ) ∈ tb) {M : xM} {k : Nat} {r : Int32} {M1 : xM} (hf : f_X6_soldOf a1 M = some (k, r, M1)) {res : Int32} {M2 : xM} (hk : (k = 0 ∧ res = 0 ∧ M2 = upd M1 5000 r) ∨ ∃ i : Nat, ([2] : List Nat)[i]? = some k ∧ 0 < k ∧ res = nI (i + 1) ∧ M2 = M1) :
    cL l D g tb yL_soldOf cL_soldOf 4 [(0, 9, 12, 18)] ({ frames := 9, cells := 1, slots := 6, locals := 145 } : Room) 1 [.ref (g.1 4 1664), .int a1, .ref (g.1 9 5000)] M res M2 := by
  refine x_startH (own := RL) (by decide +kernel) rfl rfl (Nat.le_of_ble_eq_true rfl) hT ?_
  intro p e s m args below meth c Q C0 htab hend
  refine r_aload_n C0 (kk := 2) 2 rfl dL_soldOf_0 ?_
  refine r_iconst C0 (v := 0) dL_soldOf_1 rfl ?_
  refine r_aload_n C0 (kk := 0) 0 rfl dL_soldOf_2 ?_
  refine r_iload_n C0 (kk := 1) 1 rfl dL_soldOf_3 ?_
  refine r_tcallVi C0 (As := [.int a1]) (rest := [.int 0, .ref (g.1 9 5000)]) (c_X6_soldOf l D g tb hT hlst h0 hf) w4_187 w4_188 w4_189 w1_1 w4_190 (x_rec4 C0 h0.1) hd_X6_soldOf rfl ⟨rfl, rfl⟩ ⟨Nat.le_of_ble_eq_true rfl, Nat.le_of_ble_eq_true rfl⟩ (by decide) (by decide) rfl (Nat.le_of_ble_eq_true rfl) dL_soldOf_4 (fun H1 locs1 ls E ce q hk1 hE hH hS hl h1 h2 h3 => ?_) (fun hk1 => ?_)
  · rcases hk with ⟨q0, -, -⟩ | ⟨i, hi, hpos, rfl, rfl⟩
    · exact absurd q0 hk1
    · match i, hi with
      | 0, hi =>
        cases hi
        refine r_catch C0 (k := 2) (by decide) (by decide) hE [] ⟨0, 9, 12, 18⟩ [] (by rw [htab]; rfl) (fun z hz => absurd hz List.not_mem_nil) (by decide) (by decide) w4_120 hH hS hl h1 h2 h3 ?_
        refine r_astore_n C0 (kk := 3) (lv2 := [(3, .ref q), (0, .ref (g.1 4 1664)), (1, .int a1), (2, .ref (g.1 9 5000))]) (by decide) rfl dL_soldOf_12 ?_
        refine r_iconst C0 (v := 1) dL_soldOf_13 rfl ?_
        exact hend ⟨rfl, rfl⟩ dL_soldOf_14
      | n + 1, hi => exact absurd hi (by simp)
  · rcases hk with ⟨-, rfl, rfl⟩ | ⟨i, hi, hpos, -, -⟩
    · refine r_i2l C0 dL_soldOf_7 ?_
      refine r_last C0 ho (inb_in (i := 0) (n := 1) (by decide)) dL_soldOf_8 ?_
      refine r_goto C0 (tgt := 15) (by decide) dL_soldOf_9 ?_
      refine r_iconst C0 (v := 0) dL_soldOf_15 rfl ?_
      exact hend ⟨rfl, rfl⟩ dL_soldOf_16
    · exact absurd hk1 (by omega)
theorem dL_lostOf_0 : decode cL_lostOf 0 = .ok (.aload_n 2, 1) := by decide +kernel
theorem dL_lostOf_1 : decode cL_lostOf 1 = .ok (.iconst 0, 1) := by decide +kernel
theorem dL_lostOf_2 : decode cL_lostOf 2 = .ok (.aload_n 0, 1) := by decide +kernel
theorem dL_lostOf_3 : decode cL_lostOf 3 = .ok (.iload_n 1, 1) := by decide +kernel
theorem dL_lostOf_4 : decode cL_lostOf 4 = .ok (.invokevirtual 38, 3) := by decide +kernel
theorem dL_lostOf_7 : decode cL_lostOf 7 = .ok (.i2l, 1) := by decide +kernel
theorem dL_lostOf_8 : decode cL_lostOf 8 = .ok (.lastore, 1) := by decide +kernel
theorem dL_lostOf_9 : decode cL_lostOf 9 = .ok (.goto 6, 3) := by decide +kernel
theorem dL_lostOf_12 : decode cL_lostOf 12 = .ok (.astore_n 3, 1) := by decide +kernel
theorem dL_lostOf_13 : decode cL_lostOf 13 = .ok (.iconst 1, 1) := by decide +kernel
theorem dL_lostOf_14 : decode cL_lostOf 14 = .ok (.ireturn, 1) := by decide +kernel
theorem dL_lostOf_15 : decode cL_lostOf 15 = .ok (.iconst 0, 1) := by decide +kernel
theorem dL_lostOf_16 : decode cL_lostOf 16 = .ok (.ireturn, 1) := by decide +kernel
theorem hd_L_lostOf : yL_lostOf.cls ≠ "java/lang/invoke/MethodHandle" ∧ yL_lostOf.cls ≠ "java/lang/invoke/VarHandle" ∧ (parseMethodDescriptor yL_lostOf.desc).map (fun d => d.parameters.length) = some 3 := by decide +kernel
set_option maxRecDepth 100000 in
set_option maxHeartbeats 4000000 in
theorem c_L_lostOf (l : Launch) (D : va_G) (g : xG) (tb : List xQ) (hT : x_T g tb) (hlst : l.stackTraces = false) {a1 : Int32} (h0 : x_fb tb) (ho : ((9, 5000, 1) : xQ) ∈ tb) {M : xM} {k : Nat} {r : Int32} {M1 : xM} (hf : f_X6_lostOf a1 M = some (k, r, M1)) {res : Int32} {M2 : xM} (hk : (k = 0 ∧ res = 0 ∧ M2 = upd M1 5000 r) ∨ ∃ i : Nat, ([2] : List Nat)[i]? = some k ∧ 0 < k ∧ res = nI (i + 1) ∧ M2 = M1) :
    cL l D g tb yL_lostOf cL_lostOf 4 [(0, 9, 12, 18)] ({ frames := 9, cells := 1, slots := 6, locals := 145 } : Room) 1 [.ref (g.1 4 1664), .int a1, .ref (g.1 9 5000)] M res M2 := by
  refine x_startH (own := RL) (by decide +kernel) rfl rfl (Nat.le_of_ble_eq_true rfl) hT ?_
  intro p e s m args below meth c Q C0 htab hend
  refine r_aload_n C0 (kk := 2) 2 rfl dL_lostOf_0 ?_
  refine r_iconst C0 (v := 0) dL_lostOf_1 rfl ?_
  refine r_aload_n C0 (kk := 0) 0 rfl dL_lostOf_2 ?_
  refine r_iload_n C0 (kk := 1) 1 rfl dL_lostOf_3 ?_
  refine r_tcallVi C0 (As := [.int a1]) (rest := [.int 0, .ref (g.1 9 5000)]) (c_X6_lostOf l D g tb hT hlst h0 hf) w4_194 w4_195 w4_196 w1_1 w4_197 (x_rec4 C0 h0.1) hd_X6_lostOf rfl ⟨rfl, rfl⟩ ⟨Nat.le_of_ble_eq_true rfl, Nat.le_of_ble_eq_true rfl⟩ (by decide) (by decide) rfl (Nat.le_of_ble_eq_true rfl) dL_lostOf_4 (fun H1 locs1 ls E ce q hk1 hE hH hS hl h1 h2 h3 => ?_) (fun hk1 => ?_)
  · rcases hk with ⟨q0, -, -⟩ | ⟨i, hi, hpos, rfl, rfl⟩
    · exact absurd q0 hk1
    · match i, hi with
      | 0, hi =>
        cases hi
        refine r_catch C0 (k := 2) (by decide) (by decide) hE [] ⟨0, 9, 12, 18⟩ [] (by rw [htab]; rfl) (fun z hz => absurd hz List.not_mem_nil) (by decide) (by decide) w4_120 hH hS hl h1 h2 h3 ?_
        refine r_astore_n C0 (kk := 3) (lv2 := [(3, .ref q), (0, .ref (g.1 4 1664)), (1, .int a1), (2, .ref (g.1 9 5000))]) (by decide) rfl dL_lostOf_12 ?_
        refine r_iconst C0 (v := 1) dL_lostOf_13 rfl ?_
        exact hend ⟨rfl, rfl⟩ dL_lostOf_14
      | n + 1, hi => exact absurd hi (by simp)
  · rcases hk with ⟨-, rfl, rfl⟩ | ⟨i, hi, hpos, -, -⟩
    · refine r_i2l C0 dL_lostOf_7 ?_
      refine r_last C0 ho (inb_in (i := 0) (n := 1) (by decide)) dL_lostOf_8 ?_
      refine r_goto C0 (tgt := 15) (by decide) dL_lostOf_9 ?_
      refine r_iconst C0 (v := 0) dL_lostOf_15 rfl ?_
      exact hend ⟨rfl, rfl⟩ dL_lostOf_16
    · exact absurd hk1 (by omega)
theorem dL_earnings_0 : decode cL_earnings 0 = .ok (.aload_n 2, 1) := by decide +kernel
theorem dL_earnings_1 : decode cL_earnings 1 = .ok (.iconst 0, 1) := by decide +kernel
theorem dL_earnings_2 : decode cL_earnings 2 = .ok (.aload_n 0, 1) := by decide +kernel
theorem dL_earnings_3 : decode cL_earnings 3 = .ok (.iload_n 1, 1) := by decide +kernel
theorem dL_earnings_4 : decode cL_earnings 4 = .ok (.invokevirtual 41, 3) := by decide +kernel
theorem dL_earnings_7 : decode cL_earnings 7 = .ok (.i2l, 1) := by decide +kernel
theorem dL_earnings_8 : decode cL_earnings 8 = .ok (.lastore, 1) := by decide +kernel
theorem dL_earnings_9 : decode cL_earnings 9 = .ok (.goto 6, 3) := by decide +kernel
theorem dL_earnings_12 : decode cL_earnings 12 = .ok (.astore_n 3, 1) := by decide +kernel
theorem dL_earnings_13 : decode cL_earnings 13 = .ok (.iconst 1, 1) := by decide +kernel
theorem dL_earnings_14 : decode cL_earnings 14 = .ok (.ireturn, 1) := by decide +kernel
theorem dL_earnings_15 : decode cL_earnings 15 = .ok (.iconst 0, 1) := by decide +kernel
theorem dL_earnings_16 : decode cL_earnings 16 = .ok (.ireturn, 1) := by decide +kernel
theorem hd_L_earnings : yL_earnings.cls ≠ "java/lang/invoke/MethodHandle" ∧ yL_earnings.cls ≠ "java/lang/invoke/VarHandle" ∧ (parseMethodDescriptor yL_earnings.desc).map (fun d => d.parameters.length) = some 3 := by decide +kernel
set_option maxRecDepth 100000 in
set_option maxHeartbeats 4000000 in
theorem c_L_earnings (l : Launch) (D : va_G) (g : xG) (tb : List xQ) (hT : x_T g tb) (hlst : l.stackTraces = false) {a1 : Int32} (h0 : x_fb tb) (ho : ((9, 5000, 1) : xQ) ∈ tb) {M : xM} {k : Nat} {r : Int32} {M1 : xM} (hf : f_X6_earnings a1 M = some (k, r, M1)) {res : Int32} {M2 : xM} (hk : (k = 0 ∧ res = 0 ∧ M2 = upd M1 5000 r) ∨ ∃ i : Nat, ([2] : List Nat)[i]? = some k ∧ 0 < k ∧ res = nI (i + 1) ∧ M2 = M1) :
    cL l D g tb yL_earnings cL_earnings 4 [(0, 9, 12, 18)] ({ frames := 9, cells := 1, slots := 6, locals := 145 } : Room) 1 [.ref (g.1 4 1664), .int a1, .ref (g.1 9 5000)] M res M2 := by
  refine x_startH (own := RL) (by decide +kernel) rfl rfl (Nat.le_of_ble_eq_true rfl) hT ?_
  intro p e s m args below meth c Q C0 htab hend
  refine r_aload_n C0 (kk := 2) 2 rfl dL_earnings_0 ?_
  refine r_iconst C0 (v := 0) dL_earnings_1 rfl ?_
  refine r_aload_n C0 (kk := 0) 0 rfl dL_earnings_2 ?_
  refine r_iload_n C0 (kk := 1) 1 rfl dL_earnings_3 ?_
  refine r_tcallVi C0 (As := [.int a1]) (rest := [.int 0, .ref (g.1 9 5000)]) (c_X6_earnings l D g tb hT hlst h0 hf) w4_201 w4_202 w4_203 w1_1 w4_204 (x_rec4 C0 h0.1) hd_X6_earnings rfl ⟨rfl, rfl⟩ ⟨Nat.le_of_ble_eq_true rfl, Nat.le_of_ble_eq_true rfl⟩ (by decide) (by decide) rfl (Nat.le_of_ble_eq_true rfl) dL_earnings_4 (fun H1 locs1 ls E ce q hk1 hE hH hS hl h1 h2 h3 => ?_) (fun hk1 => ?_)
  · rcases hk with ⟨q0, -, -⟩ | ⟨i, hi, hpos, rfl, rfl⟩
    · exact absurd q0 hk1
    · match i, hi with
      | 0, hi =>
        cases hi
        refine r_catch C0 (k := 2) (by decide) (by decide) hE [] ⟨0, 9, 12, 18⟩ [] (by rw [htab]; rfl) (fun z hz => absurd hz List.not_mem_nil) (by decide) (by decide) w4_120 hH hS hl h1 h2 h3 ?_
        refine r_astore_n C0 (kk := 3) (lv2 := [(3, .ref q), (0, .ref (g.1 4 1664)), (1, .int a1), (2, .ref (g.1 9 5000))]) (by decide) rfl dL_earnings_12 ?_
        refine r_iconst C0 (v := 1) dL_earnings_13 rfl ?_
        exact hend ⟨rfl, rfl⟩ dL_earnings_14
      | n + 1, hi => exact absurd hi (by simp)
  · rcases hk with ⟨-, rfl, rfl⟩ | ⟨i, hi, hpos, -, -⟩
    · refine r_i2l C0 dL_earnings_7 ?_
      refine r_last C0 ho (inb_in (i := 0) (n := 1) (by decide)) dL_earnings_8 ?_
      refine r_goto C0 (tgt := 15) (by decide) dL_earnings_9 ?_
      refine r_iconst C0 (v := 0) dL_earnings_15 rfl ?_
      exact hend ⟨rfl, rfl⟩ dL_earnings_16
    · exact absurd hk1 (by omega)
theorem dL_reach_0 : decode cL_reach 0 = .ok (.aload_n 3, 1) := by decide +kernel
theorem dL_reach_1 : decode cL_reach 1 = .ok (.iconst 0, 1) := by decide +kernel
theorem dL_reach_2 : decode cL_reach 2 = .ok (.aload_n 0, 1) := by decide +kernel
theorem dL_reach_3 : decode cL_reach 3 = .ok (.iload_n 1, 1) := by decide +kernel
theorem dL_reach_4 : decode cL_reach 4 = .ok (.iload_n 2, 1) := by decide +kernel
theorem dL_reach_5 : decode cL_reach 5 = .ok (.invokevirtual 44, 3) := by decide +kernel
theorem dL_reach_8 : decode cL_reach 8 = .ok (.i2l, 1) := by decide +kernel
theorem dL_reach_9 : decode cL_reach 9 = .ok (.lastore, 1) := by decide +kernel
theorem dL_reach_10 : decode cL_reach 10 = .ok (.goto 7, 3) := by decide +kernel
theorem dL_reach_13 : decode cL_reach 13 = .ok (.astore 4, 2) := by decide +kernel
theorem dL_reach_15 : decode cL_reach 15 = .ok (.iconst 1, 1) := by decide +kernel
theorem dL_reach_16 : decode cL_reach 16 = .ok (.ireturn, 1) := by decide +kernel
theorem dL_reach_17 : decode cL_reach 17 = .ok (.iconst 0, 1) := by decide +kernel
theorem dL_reach_18 : decode cL_reach 18 = .ok (.ireturn, 1) := by decide +kernel
theorem hd_L_reach : yL_reach.cls ≠ "java/lang/invoke/MethodHandle" ∧ yL_reach.cls ≠ "java/lang/invoke/VarHandle" ∧ (parseMethodDescriptor yL_reach.desc).map (fun d => d.parameters.length) = some 4 := by decide +kernel
set_option maxRecDepth 100000 in
set_option maxHeartbeats 4000000 in
theorem c_L_reach (l : Launch) (D : va_G) (g : xG) (tb : List xQ) (hT : x_T g tb) (hlst : l.stackTraces = false) {a1 : Int32} {a2 : Int32} (h0 : x_fb tb) (ho : ((9, 5000, 1) : xQ) ∈ tb) {M : xM} {k : Nat} {r : Int32} {M1 : xM} (hf : f_X6_reach a1 a2 M = some (k, r, M1)) {res : Int32} {M2 : xM} (hk : (k = 0 ∧ res = 0 ∧ M2 = upd M1 5000 r) ∨ ∃ i : Nat, ([1] : List Nat)[i]? = some k ∧ 0 < k ∧ res = nI (i + 1) ∧ M2 = M1) :
    cL l D g tb yL_reach cL_reach 5 [(0, 10, 13, 13)] ({ frames := 8, cells := 2, slots := 12, locals := 126 } : Room) 2 [.ref (g.1 4 1664), .int a1, .int a2, .ref (g.1 9 5000)] M res M2 := by
  refine x_startH (own := RL) (by decide +kernel) rfl rfl (Nat.le_of_ble_eq_true rfl) hT ?_
  intro p e s m args below meth c Q C0 htab hend
  refine r_aload_n C0 (kk := 3) 3 rfl dL_reach_0 ?_
  refine r_iconst C0 (v := 0) dL_reach_1 rfl ?_
  refine r_aload_n C0 (kk := 0) 0 rfl dL_reach_2 ?_
  refine r_iload_n C0 (kk := 1) 1 rfl dL_reach_3 ?_
  refine r_iload_n C0 (kk := 2) 2 rfl dL_reach_4 ?_
  refine r_tcallVi C0 (As := [.int a1, .int a2]) (rest := [.int 0, .ref (g.1 9 5000)]) (c_X6_reach l D g tb hT hlst h0 hf) w4_208 w4_209 w4_210 w1_1 w4_211 (x_rec4 C0 h0.1) hd_X6_reach rfl ⟨rfl, rfl⟩ ⟨Nat.le_of_ble_eq_true rfl, Nat.le_of_ble_eq_true rfl⟩ (by decide) (by decide) rfl (Nat.le_of_ble_eq_true rfl) dL_reach_5 (fun H1 locs1 ls E ce q hk1 hE hH hS hl h1 h2 h3 => ?_) (fun hk1 => ?_)
  · rcases hk with ⟨q0, -, -⟩ | ⟨i, hi, hpos, rfl, rfl⟩
    · exact absurd q0 hk1
    · match i, hi with
      | 0, hi =>
        cases hi
        refine r_catch C0 (k := 1) (by decide) (by decide) hE [] ⟨0, 10, 13, 13⟩ [] (by rw [htab]; rfl) (fun z hz => absurd hz List.not_mem_nil) (by decide) (by decide) w4_39 hH hS hl h1 h2 h3 ?_
        refine r_astore C0 (lv2 := [(4, .ref q), (0, .ref (g.1 4 1664)), (1, .int a1), (2, .int a2), (3, .ref (g.1 9 5000))]) (by decide) rfl dL_reach_13 ?_
        refine r_iconst C0 (v := 1) dL_reach_15 rfl ?_
        exact hend ⟨rfl, rfl⟩ dL_reach_16
      | n + 1, hi => exact absurd hi (by simp)
  · rcases hk with ⟨-, rfl, rfl⟩ | ⟨i, hi, hpos, -, -⟩
    · refine r_i2l C0 dL_reach_8 ?_
      refine r_last C0 ho (inb_in (i := 0) (n := 1) (by decide)) dL_reach_9 ?_
      refine r_goto C0 (tgt := 17) (by decide) dL_reach_10 ?_
      refine r_iconst C0 (v := 0) dL_reach_17 rfl ?_
      exact hend ⟨rfl, rfl⟩ dL_reach_18
    · exact absurd hk1 (by omega)
theorem dL_seenFrom_0 : decode cL_seenFrom 0 = .ok (.aload_n 2, 1) := by decide +kernel
theorem dL_seenFrom_1 : decode cL_seenFrom 1 = .ok (.iconst 0, 1) := by decide +kernel
theorem dL_seenFrom_2 : decode cL_seenFrom 2 = .ok (.aload_n 0, 1) := by decide +kernel
theorem dL_seenFrom_3 : decode cL_seenFrom 3 = .ok (.iload_n 1, 1) := by decide +kernel
theorem dL_seenFrom_4 : decode cL_seenFrom 4 = .ok (.invokevirtual 48, 3) := by decide +kernel
theorem dL_seenFrom_7 : decode cL_seenFrom 7 = .ok (.i2l, 1) := by decide +kernel
theorem dL_seenFrom_8 : decode cL_seenFrom 8 = .ok (.lastore, 1) := by decide +kernel
theorem dL_seenFrom_9 : decode cL_seenFrom 9 = .ok (.goto 6, 3) := by decide +kernel
theorem dL_seenFrom_12 : decode cL_seenFrom 12 = .ok (.astore_n 3, 1) := by decide +kernel
theorem dL_seenFrom_13 : decode cL_seenFrom 13 = .ok (.iconst 1, 1) := by decide +kernel
theorem dL_seenFrom_14 : decode cL_seenFrom 14 = .ok (.ireturn, 1) := by decide +kernel
theorem dL_seenFrom_15 : decode cL_seenFrom 15 = .ok (.iconst 0, 1) := by decide +kernel
theorem dL_seenFrom_16 : decode cL_seenFrom 16 = .ok (.ireturn, 1) := by decide +kernel
theorem hd_L_seenFrom : yL_seenFrom.cls ≠ "java/lang/invoke/MethodHandle" ∧ yL_seenFrom.cls ≠ "java/lang/invoke/VarHandle" ∧ (parseMethodDescriptor yL_seenFrom.desc).map (fun d => d.parameters.length) = some 3 := by decide +kernel
set_option maxRecDepth 100000 in
set_option maxHeartbeats 4000000 in
theorem c_L_seenFrom (l : Launch) (D : va_G) (g : xG) (tb : List xQ) (hT : x_T g tb) (hlst : l.stackTraces = false) {a1 : Int32} (h0 : x_fb tb) (ho : ((9, 5000, 1) : xQ) ∈ tb) {M : xM} {k : Nat} {r : Int32} {M1 : xM} (hf : f_X6_seenFrom a1 M = some (k, r, M1)) {res : Int32} {M2 : xM} (hk : (k = 0 ∧ res = 0 ∧ M2 = upd M1 5000 r) ∨ ∃ i : Nat, ([1] : List Nat)[i]? = some k ∧ 0 < k ∧ res = nI (i + 1) ∧ M2 = M1) :
    cL l D g tb yL_seenFrom cL_seenFrom 4 [(0, 9, 12, 13)] ({ frames := 8, cells := 1, slots := 6, locals := 128 } : Room) 1 [.ref (g.1 4 1664), .int a1, .ref (g.1 9 5000)] M res M2 := by
  refine x_startH (own := RL) (by decide +kernel) rfl rfl (Nat.le_of_ble_eq_true rfl) hT ?_
  intro p e s m args below meth c Q C0 htab hend
  refine r_aload_n C0 (kk := 2) 2 rfl dL_seenFrom_0 ?_
  refine r_iconst C0 (v := 0) dL_seenFrom_1 rfl ?_
  refine r_aload_n C0 (kk := 0) 0 rfl dL_seenFrom_2 ?_
  refine r_iload_n C0 (kk := 1) 1 rfl dL_seenFrom_3 ?_
  refine r_tcallVi C0 (As := [.int a1]) (rest := [.int 0, .ref (g.1 9 5000)]) (c_X6_seenFrom l D g tb hT hlst h0 hf) w4_216 w4_217 w4_218 w1_1 w4_219 (x_rec4 C0 h0.1) hd_X6_seenFrom rfl ⟨rfl, rfl⟩ ⟨Nat.le_of_ble_eq_true rfl, Nat.le_of_ble_eq_true rfl⟩ (by decide) (by decide) rfl (Nat.le_of_ble_eq_true rfl) dL_seenFrom_4 (fun H1 locs1 ls E ce q hk1 hE hH hS hl h1 h2 h3 => ?_) (fun hk1 => ?_)
  · rcases hk with ⟨q0, -, -⟩ | ⟨i, hi, hpos, rfl, rfl⟩
    · exact absurd q0 hk1
    · match i, hi with
      | 0, hi =>
        cases hi
        refine r_catch C0 (k := 1) (by decide) (by decide) hE [] ⟨0, 9, 12, 13⟩ [] (by rw [htab]; rfl) (fun z hz => absurd hz List.not_mem_nil) (by decide) (by decide) w4_39 hH hS hl h1 h2 h3 ?_
        refine r_astore_n C0 (kk := 3) (lv2 := [(3, .ref q), (0, .ref (g.1 4 1664)), (1, .int a1), (2, .ref (g.1 9 5000))]) (by decide) rfl dL_seenFrom_12 ?_
        refine r_iconst C0 (v := 1) dL_seenFrom_13 rfl ?_
        exact hend ⟨rfl, rfl⟩ dL_seenFrom_14
      | n + 1, hi => exact absurd hi (by simp)
  · rcases hk with ⟨-, rfl, rfl⟩ | ⟨i, hi, hpos, -, -⟩
    · refine r_i2l C0 dL_seenFrom_7 ?_
      refine r_last C0 ho (inb_in (i := 0) (n := 1) (by decide)) dL_seenFrom_8 ?_
      refine r_goto C0 (tgt := 15) (by decide) dL_seenFrom_9 ?_
      refine r_iconst C0 (v := 0) dL_seenFrom_15 rfl ?_
      exact hend ⟨rfl, rfl⟩ dL_seenFrom_16
    · exact absurd hk1 (by omega)
theorem dL_placeOf_0 : decode cL_placeOf 0 = .ok (.aload_n 2, 1) := by decide +kernel
theorem dL_placeOf_1 : decode cL_placeOf 1 = .ok (.iconst 0, 1) := by decide +kernel
theorem dL_placeOf_2 : decode cL_placeOf 2 = .ok (.aload_n 0, 1) := by decide +kernel
theorem dL_placeOf_3 : decode cL_placeOf 3 = .ok (.iload_n 1, 1) := by decide +kernel
theorem dL_placeOf_4 : decode cL_placeOf 4 = .ok (.invokevirtual 51, 3) := by decide +kernel
theorem dL_placeOf_7 : decode cL_placeOf 7 = .ok (.i2l, 1) := by decide +kernel
theorem dL_placeOf_8 : decode cL_placeOf 8 = .ok (.lastore, 1) := by decide +kernel
theorem dL_placeOf_9 : decode cL_placeOf 9 = .ok (.goto 6, 3) := by decide +kernel
theorem dL_placeOf_12 : decode cL_placeOf 12 = .ok (.astore_n 3, 1) := by decide +kernel
theorem dL_placeOf_13 : decode cL_placeOf 13 = .ok (.iconst 1, 1) := by decide +kernel
theorem dL_placeOf_14 : decode cL_placeOf 14 = .ok (.ireturn, 1) := by decide +kernel
theorem dL_placeOf_15 : decode cL_placeOf 15 = .ok (.iconst 0, 1) := by decide +kernel
theorem dL_placeOf_16 : decode cL_placeOf 16 = .ok (.ireturn, 1) := by decide +kernel
theorem hd_L_placeOf : yL_placeOf.cls ≠ "java/lang/invoke/MethodHandle" ∧ yL_placeOf.cls ≠ "java/lang/invoke/VarHandle" ∧ (parseMethodDescriptor yL_placeOf.desc).map (fun d => d.parameters.length) = some 3 := by decide +kernel
set_option maxRecDepth 100000 in
set_option maxHeartbeats 4000000 in
theorem c_L_placeOf (l : Launch) (D : va_G) (g : xG) (tb : List xQ) (hT : x_T g tb) (hlst : l.stackTraces = false) {a1 : Int32} (h0 : x_fb tb) (ho : ((9, 5000, 1) : xQ) ∈ tb) {M : xM} {k : Nat} {r : Int32} {M1 : xM} (hf : f_X6_placeOf a1 M = some (k, r, M1)) {res : Int32} {M2 : xM} (hk : (k = 0 ∧ res = 0 ∧ M2 = upd M1 5000 r) ∨ ∃ i : Nat, ([2] : List Nat)[i]? = some k ∧ 0 < k ∧ res = nI (i + 1) ∧ M2 = M1) :
    cL l D g tb yL_placeOf cL_placeOf 4 [(0, 9, 12, 18)] ({ frames := 9, cells := 1, slots := 6, locals := 145 } : Room) 1 [.ref (g.1 4 1664), .int a1, .ref (g.1 9 5000)] M res M2 := by
  refine x_startH (own := RL) (by decide +kernel) rfl rfl (Nat.le_of_ble_eq_true rfl) hT ?_
  intro p e s m args below meth c Q C0 htab hend
  refine r_aload_n C0 (kk := 2) 2 rfl dL_placeOf_0 ?_
  refine r_iconst C0 (v := 0) dL_placeOf_1 rfl ?_
  refine r_aload_n C0 (kk := 0) 0 rfl dL_placeOf_2 ?_
  refine r_iload_n C0 (kk := 1) 1 rfl dL_placeOf_3 ?_
  refine r_tcallVi C0 (As := [.int a1]) (rest := [.int 0, .ref (g.1 9 5000)]) (c_X6_placeOf l D g tb hT hlst h0 hf) w4_229 w4_230 w4_231 w1_1 w4_232 (x_rec4 C0 h0.1) hd_X6_placeOf rfl ⟨rfl, rfl⟩ ⟨Nat.le_of_ble_eq_true rfl, Nat.le_of_ble_eq_true rfl⟩ (by decide) (by decide) rfl (Nat.le_of_ble_eq_true rfl) dL_placeOf_4 (fun H1 locs1 ls E ce q hk1 hE hH hS hl h1 h2 h3 => ?_) (fun hk1 => ?_)
  · rcases hk with ⟨q0, -, -⟩ | ⟨i, hi, hpos, rfl, rfl⟩
    · exact absurd q0 hk1
    · match i, hi with
      | 0, hi =>
        cases hi
        refine r_catch C0 (k := 2) (by decide) (by decide) hE [] ⟨0, 9, 12, 18⟩ [] (by rw [htab]; rfl) (fun z hz => absurd hz List.not_mem_nil) (by decide) (by decide) w4_120 hH hS hl h1 h2 h3 ?_
        refine r_astore_n C0 (kk := 3) (lv2 := [(3, .ref q), (0, .ref (g.1 4 1664)), (1, .int a1), (2, .ref (g.1 9 5000))]) (by decide) rfl dL_placeOf_12 ?_
        refine r_iconst C0 (v := 1) dL_placeOf_13 rfl ?_
        exact hend ⟨rfl, rfl⟩ dL_placeOf_14
      | n + 1, hi => exact absurd hi (by simp)
  · rcases hk with ⟨-, rfl, rfl⟩ | ⟨i, hi, hpos, -, -⟩
    · refine r_i2l C0 dL_placeOf_7 ?_
      refine r_last C0 ho (inb_in (i := 0) (n := 1) (by decide)) dL_placeOf_8 ?_
      refine r_goto C0 (tgt := 15) (by decide) dL_placeOf_9 ?_
      refine r_iconst C0 (v := 0) dL_placeOf_15 rfl ?_
      exact hend ⟨rfl, rfl⟩ dL_placeOf_16
    · exact absurd hk1 (by omega)
theorem dL_coinsOf_0 : decode cL_coinsOf 0 = .ok (.aload_n 2, 1) := by decide +kernel
theorem dL_coinsOf_1 : decode cL_coinsOf 1 = .ok (.iconst 0, 1) := by decide +kernel
theorem dL_coinsOf_2 : decode cL_coinsOf 2 = .ok (.aload_n 0, 1) := by decide +kernel
theorem dL_coinsOf_3 : decode cL_coinsOf 3 = .ok (.iload_n 1, 1) := by decide +kernel
theorem dL_coinsOf_4 : decode cL_coinsOf 4 = .ok (.invokevirtual 54, 3) := by decide +kernel
theorem dL_coinsOf_7 : decode cL_coinsOf 7 = .ok (.i2l, 1) := by decide +kernel
theorem dL_coinsOf_8 : decode cL_coinsOf 8 = .ok (.lastore, 1) := by decide +kernel
theorem dL_coinsOf_9 : decode cL_coinsOf 9 = .ok (.goto 6, 3) := by decide +kernel
theorem dL_coinsOf_12 : decode cL_coinsOf 12 = .ok (.astore_n 3, 1) := by decide +kernel
theorem dL_coinsOf_13 : decode cL_coinsOf 13 = .ok (.iconst 1, 1) := by decide +kernel
theorem dL_coinsOf_14 : decode cL_coinsOf 14 = .ok (.ireturn, 1) := by decide +kernel
theorem dL_coinsOf_15 : decode cL_coinsOf 15 = .ok (.iconst 0, 1) := by decide +kernel
theorem dL_coinsOf_16 : decode cL_coinsOf 16 = .ok (.ireturn, 1) := by decide +kernel
theorem hd_L_coinsOf : yL_coinsOf.cls ≠ "java/lang/invoke/MethodHandle" ∧ yL_coinsOf.cls ≠ "java/lang/invoke/VarHandle" ∧ (parseMethodDescriptor yL_coinsOf.desc).map (fun d => d.parameters.length) = some 3 := by decide +kernel
set_option maxRecDepth 100000 in
set_option maxHeartbeats 4000000 in
theorem c_L_coinsOf (l : Launch) (D : va_G) (g : xG) (tb : List xQ) (hT : x_T g tb) (hlst : l.stackTraces = false) {a1 : Int32} (h0 : x_fb tb) (ho : ((9, 5000, 1) : xQ) ∈ tb) {M : xM} {k : Nat} {r : Int32} {M1 : xM} (hf : f_X6_coinsOf a1 M = some (k, r, M1)) {res : Int32} {M2 : xM} (hk : (k = 0 ∧ res = 0 ∧ M2 = upd M1 5000 r) ∨ ∃ i : Nat, ([2] : List Nat)[i]? = some k ∧ 0 < k ∧ res = nI (i + 1) ∧ M2 = M1) :
    cL l D g tb yL_coinsOf cL_coinsOf 4 [(0, 9, 12, 18)] ({ frames := 9, cells := 1, slots := 6, locals := 145 } : Room) 1 [.ref (g.1 4 1664), .int a1, .ref (g.1 9 5000)] M res M2 := by
  refine x_startH (own := RL) (by decide +kernel) rfl rfl (Nat.le_of_ble_eq_true rfl) hT ?_
  intro p e s m args below meth c Q C0 htab hend
  refine r_aload_n C0 (kk := 2) 2 rfl dL_coinsOf_0 ?_
  refine r_iconst C0 (v := 0) dL_coinsOf_1 rfl ?_
  refine r_aload_n C0 (kk := 0) 0 rfl dL_coinsOf_2 ?_
  refine r_iload_n C0 (kk := 1) 1 rfl dL_coinsOf_3 ?_
  refine r_tcallVi C0 (As := [.int a1]) (rest := [.int 0, .ref (g.1 9 5000)]) (c_X6_coinsOf l D g tb hT hlst h0 hf) w5_5 w5_6 w5_7 w1_1 w5_8 (x_rec4 C0 h0.1) hd_X6_coinsOf rfl ⟨rfl, rfl⟩ ⟨Nat.le_of_ble_eq_true rfl, Nat.le_of_ble_eq_true rfl⟩ (by decide) (by decide) rfl (Nat.le_of_ble_eq_true rfl) dL_coinsOf_4 (fun H1 locs1 ls E ce q hk1 hE hH hS hl h1 h2 h3 => ?_) (fun hk1 => ?_)
  · rcases hk with ⟨q0, -, -⟩ | ⟨i, hi, hpos, rfl, rfl⟩
    · exact absurd q0 hk1
    · match i, hi with
      | 0, hi =>
        cases hi
        refine r_catch C0 (k := 2) (by decide) (by decide) hE [] ⟨0, 9, 12, 18⟩ [] (by rw [htab]; rfl) (fun z hz => absurd hz List.not_mem_nil) (by decide) (by decide) w4_120 hH hS hl h1 h2 h3 ?_
        refine r_astore_n C0 (kk := 3) (lv2 := [(3, .ref q), (0, .ref (g.1 4 1664)), (1, .int a1), (2, .ref (g.1 9 5000))]) (by decide) rfl dL_coinsOf_12 ?_
        refine r_iconst C0 (v := 1) dL_coinsOf_13 rfl ?_
        exact hend ⟨rfl, rfl⟩ dL_coinsOf_14
      | n + 1, hi => exact absurd hi (by simp)
  · rcases hk with ⟨-, rfl, rfl⟩ | ⟨i, hi, hpos, -, -⟩
    · refine r_i2l C0 dL_coinsOf_7 ?_
      refine r_last C0 ho (inb_in (i := 0) (n := 1) (by decide)) dL_coinsOf_8 ?_
      refine r_goto C0 (tgt := 15) (by decide) dL_coinsOf_9 ?_
      refine r_iconst C0 (v := 0) dL_coinsOf_15 rfl ?_
      exact hend ⟨rfl, rfl⟩ dL_coinsOf_16
    · exact absurd hk1 (by omega)
theorem dL_wantedTexture_0 : decode cL_wantedTexture 0 = .ok (.aload_n 2, 1) := by decide +kernel
theorem dL_wantedTexture_1 : decode cL_wantedTexture 1 = .ok (.iconst 0, 1) := by decide +kernel
theorem dL_wantedTexture_2 : decode cL_wantedTexture 2 = .ok (.aload_n 0, 1) := by decide +kernel
theorem dL_wantedTexture_3 : decode cL_wantedTexture 3 = .ok (.iload_n 1, 1) := by decide +kernel
theorem dL_wantedTexture_4 : decode cL_wantedTexture 4 = .ok (.invokevirtual 57, 3) := by decide +kernel
theorem dL_wantedTexture_7 : decode cL_wantedTexture 7 = .ok (.i2l, 1) := by decide +kernel
theorem dL_wantedTexture_8 : decode cL_wantedTexture 8 = .ok (.lastore, 1) := by decide +kernel
theorem dL_wantedTexture_9 : decode cL_wantedTexture 9 = .ok (.goto 6, 3) := by decide +kernel
theorem dL_wantedTexture_12 : decode cL_wantedTexture 12 = .ok (.astore_n 3, 1) := by decide +kernel
theorem dL_wantedTexture_13 : decode cL_wantedTexture 13 = .ok (.iconst 1, 1) := by decide +kernel
theorem dL_wantedTexture_14 : decode cL_wantedTexture 14 = .ok (.ireturn, 1) := by decide +kernel
theorem dL_wantedTexture_15 : decode cL_wantedTexture 15 = .ok (.iconst 0, 1) := by decide +kernel
theorem dL_wantedTexture_16 : decode cL_wantedTexture 16 = .ok (.ireturn, 1) := by decide +kernel
theorem hd_L_wantedTexture : yL_wantedTexture.cls ≠ "java/lang/invoke/MethodHandle" ∧ yL_wantedTexture.cls ≠ "java/lang/invoke/VarHandle" ∧ (parseMethodDescriptor yL_wantedTexture.desc).map (fun d => d.parameters.length) = some 3 := by decide +kernel
set_option maxRecDepth 100000 in
set_option maxHeartbeats 4000000 in
theorem c_L_wantedTexture (l : Launch) (D : va_G) (g : xG) (tb : List xQ) (hT : x_T g tb) (hlst : l.stackTraces = false) {a1 : Int32} (h0 : x_fb tb) (ho : ((9, 5000, 1) : xQ) ∈ tb) {M : xM} {k : Nat} {r : Int32} {M1 : xM} (hf : f_X6_wantedTexture a1 M = some (k, r, M1)) {res : Int32} {M2 : xM} (hk : (k = 0 ∧ res = 0 ∧ M2 = upd M1 5000 r) ∨ ∃ i : Nat, ([2] : List Nat)[i]? = some k ∧ 0 < k ∧ res = nI (i + 1) ∧ M2 = M1) :
    cL l D g tb yL_wantedTexture cL_wantedTexture 4 [(0, 9, 12, 18)] ({ frames := 9, cells := 1, slots := 6, locals := 145 } : Room) 1 [.ref (g.1 4 1664), .int a1, .ref (g.1 9 5000)] M res M2 := by
  refine x_startH (own := RL) (by decide +kernel) rfl rfl (Nat.le_of_ble_eq_true rfl) hT ?_
  intro p e s m args below meth c Q C0 htab hend
  refine r_aload_n C0 (kk := 2) 2 rfl dL_wantedTexture_0 ?_
  refine r_iconst C0 (v := 0) dL_wantedTexture_1 rfl ?_
  refine r_aload_n C0 (kk := 0) 0 rfl dL_wantedTexture_2 ?_
  refine r_iload_n C0 (kk := 1) 1 rfl dL_wantedTexture_3 ?_
  refine r_tcallVi C0 (As := [.int a1]) (rest := [.int 0, .ref (g.1 9 5000)]) (c_X6_wantedTexture l D g tb hT hlst h0 hf) w5_12 w5_13 w5_14 w1_1 w5_15 (x_rec4 C0 h0.1) hd_X6_wantedTexture rfl ⟨rfl, rfl⟩ ⟨Nat.le_of_ble_eq_true rfl, Nat.le_of_ble_eq_true rfl⟩ (by decide) (by decide) rfl (Nat.le_of_ble_eq_true rfl) dL_wantedTexture_4 (fun H1 locs1 ls E ce q hk1 hE hH hS hl h1 h2 h3 => ?_) (fun hk1 => ?_)
  · rcases hk with ⟨q0, -, -⟩ | ⟨i, hi, hpos, rfl, rfl⟩
    · exact absurd q0 hk1
    · match i, hi with
      | 0, hi =>
        cases hi
        refine r_catch C0 (k := 2) (by decide) (by decide) hE [] ⟨0, 9, 12, 18⟩ [] (by rw [htab]; rfl) (fun z hz => absurd hz List.not_mem_nil) (by decide) (by decide) w4_120 hH hS hl h1 h2 h3 ?_
        refine r_astore_n C0 (kk := 3) (lv2 := [(3, .ref q), (0, .ref (g.1 4 1664)), (1, .int a1), (2, .ref (g.1 9 5000))]) (by decide) rfl dL_wantedTexture_12 ?_
        refine r_iconst C0 (v := 1) dL_wantedTexture_13 rfl ?_
        exact hend ⟨rfl, rfl⟩ dL_wantedTexture_14
      | n + 1, hi => exact absurd hi (by simp)
  · rcases hk with ⟨-, rfl, rfl⟩ | ⟨i, hi, hpos, -, -⟩
    · refine r_i2l C0 dL_wantedTexture_7 ?_
      refine r_last C0 ho (inb_in (i := 0) (n := 1) (by decide)) dL_wantedTexture_8 ?_
      refine r_goto C0 (tgt := 15) (by decide) dL_wantedTexture_9 ?_
      refine r_iconst C0 (v := 0) dL_wantedTexture_15 rfl ?_
      exact hend ⟨rfl, rfl⟩ dL_wantedTexture_16
    · exact absurd hk1 (by omega)
theorem dL_speedOf_0 : decode cL_speedOf 0 = .ok (.aload_n 2, 1) := by decide +kernel
theorem dL_speedOf_1 : decode cL_speedOf 1 = .ok (.iconst 0, 1) := by decide +kernel
theorem dL_speedOf_2 : decode cL_speedOf 2 = .ok (.aload_n 0, 1) := by decide +kernel
theorem dL_speedOf_3 : decode cL_speedOf 3 = .ok (.iload_n 1, 1) := by decide +kernel
theorem dL_speedOf_4 : decode cL_speedOf 4 = .ok (.invokevirtual 60, 3) := by decide +kernel
theorem dL_speedOf_7 : decode cL_speedOf 7 = .ok (.i2l, 1) := by decide +kernel
theorem dL_speedOf_8 : decode cL_speedOf 8 = .ok (.lastore, 1) := by decide +kernel
theorem dL_speedOf_9 : decode cL_speedOf 9 = .ok (.goto 6, 3) := by decide +kernel
theorem dL_speedOf_12 : decode cL_speedOf 12 = .ok (.astore_n 3, 1) := by decide +kernel
theorem dL_speedOf_13 : decode cL_speedOf 13 = .ok (.iconst 1, 1) := by decide +kernel
theorem dL_speedOf_14 : decode cL_speedOf 14 = .ok (.ireturn, 1) := by decide +kernel
theorem dL_speedOf_15 : decode cL_speedOf 15 = .ok (.iconst 0, 1) := by decide +kernel
theorem dL_speedOf_16 : decode cL_speedOf 16 = .ok (.ireturn, 1) := by decide +kernel
theorem hd_L_speedOf : yL_speedOf.cls ≠ "java/lang/invoke/MethodHandle" ∧ yL_speedOf.cls ≠ "java/lang/invoke/VarHandle" ∧ (parseMethodDescriptor yL_speedOf.desc).map (fun d => d.parameters.length) = some 3 := by decide +kernel
set_option maxRecDepth 100000 in
set_option maxHeartbeats 4000000 in
theorem c_L_speedOf (l : Launch) (D : va_G) (g : xG) (tb : List xQ) (hT : x_T g tb) (hlst : l.stackTraces = false) {a1 : Int32} (h0 : x_fb tb) (ho : ((9, 5000, 1) : xQ) ∈ tb) {M : xM} {k : Nat} {r : Int32} {M1 : xM} (hf : f_X6_speedOf a1 M = some (k, r, M1)) {res : Int32} {M2 : xM} (hk : (k = 0 ∧ res = 0 ∧ M2 = upd M1 5000 r) ∨ ∃ i : Nat, ([2] : List Nat)[i]? = some k ∧ 0 < k ∧ res = nI (i + 1) ∧ M2 = M1) :
    cL l D g tb yL_speedOf cL_speedOf 4 [(0, 9, 12, 18)] ({ frames := 9, cells := 1, slots := 6, locals := 145 } : Room) 1 [.ref (g.1 4 1664), .int a1, .ref (g.1 9 5000)] M res M2 := by
  refine x_startH (own := RL) (by decide +kernel) rfl rfl (Nat.le_of_ble_eq_true rfl) hT ?_
  intro p e s m args below meth c Q C0 htab hend
  refine r_aload_n C0 (kk := 2) 2 rfl dL_speedOf_0 ?_
  refine r_iconst C0 (v := 0) dL_speedOf_1 rfl ?_
  refine r_aload_n C0 (kk := 0) 0 rfl dL_speedOf_2 ?_
  refine r_iload_n C0 (kk := 1) 1 rfl dL_speedOf_3 ?_
  refine r_tcallVi C0 (As := [.int a1]) (rest := [.int 0, .ref (g.1 9 5000)]) (c_X6_speedOf l D g tb hT hlst h0 hf) w5_19 w5_20 w5_21 w1_1 w5_22 (x_rec4 C0 h0.1) hd_X6_speedOf rfl ⟨rfl, rfl⟩ ⟨Nat.le_of_ble_eq_true rfl, Nat.le_of_ble_eq_true rfl⟩ (by decide) (by decide) rfl (Nat.le_of_ble_eq_true rfl) dL_speedOf_4 (fun H1 locs1 ls E ce q hk1 hE hH hS hl h1 h2 h3 => ?_) (fun hk1 => ?_)
  · rcases hk with ⟨q0, -, -⟩ | ⟨i, hi, hpos, rfl, rfl⟩
    · exact absurd q0 hk1
    · match i, hi with
      | 0, hi =>
        cases hi
        refine r_catch C0 (k := 2) (by decide) (by decide) hE [] ⟨0, 9, 12, 18⟩ [] (by rw [htab]; rfl) (fun z hz => absurd hz List.not_mem_nil) (by decide) (by decide) w4_120 hH hS hl h1 h2 h3 ?_
        refine r_astore_n C0 (kk := 3) (lv2 := [(3, .ref q), (0, .ref (g.1 4 1664)), (1, .int a1), (2, .ref (g.1 9 5000))]) (by decide) rfl dL_speedOf_12 ?_
        refine r_iconst C0 (v := 1) dL_speedOf_13 rfl ?_
        exact hend ⟨rfl, rfl⟩ dL_speedOf_14
      | n + 1, hi => exact absurd hi (by simp)
  · rcases hk with ⟨-, rfl, rfl⟩ | ⟨i, hi, hpos, -, -⟩
    · refine r_i2l C0 dL_speedOf_7 ?_
      refine r_last C0 ho (inb_in (i := 0) (n := 1) (by decide)) dL_speedOf_8 ?_
      refine r_goto C0 (tgt := 15) (by decide) dL_speedOf_9 ?_
      refine r_iconst C0 (v := 0) dL_speedOf_15 rfl ?_
      exact hend ⟨rfl, rfl⟩ dL_speedOf_16
    · exact absurd hk1 (by omega)
theorem dL_heldFrom_0 : decode cL_heldFrom 0 = .ok (.aload_n 2, 1) := by decide +kernel
theorem dL_heldFrom_1 : decode cL_heldFrom 1 = .ok (.iconst 0, 1) := by decide +kernel
theorem dL_heldFrom_2 : decode cL_heldFrom 2 = .ok (.aload_n 0, 1) := by decide +kernel
theorem dL_heldFrom_3 : decode cL_heldFrom 3 = .ok (.iload_n 1, 1) := by decide +kernel
theorem dL_heldFrom_4 : decode cL_heldFrom 4 = .ok (.invokevirtual 63, 3) := by decide +kernel
theorem dL_heldFrom_7 : decode cL_heldFrom 7 = .ok (.i2l, 1) := by decide +kernel
theorem dL_heldFrom_8 : decode cL_heldFrom 8 = .ok (.lastore, 1) := by decide +kernel
theorem dL_heldFrom_9 : decode cL_heldFrom 9 = .ok (.goto 6, 3) := by decide +kernel
theorem dL_heldFrom_12 : decode cL_heldFrom 12 = .ok (.astore_n 3, 1) := by decide +kernel
theorem dL_heldFrom_13 : decode cL_heldFrom 13 = .ok (.iconst 1, 1) := by decide +kernel
theorem dL_heldFrom_14 : decode cL_heldFrom 14 = .ok (.ireturn, 1) := by decide +kernel
theorem dL_heldFrom_15 : decode cL_heldFrom 15 = .ok (.iconst 0, 1) := by decide +kernel
theorem dL_heldFrom_16 : decode cL_heldFrom 16 = .ok (.ireturn, 1) := by decide +kernel
theorem hd_L_heldFrom : yL_heldFrom.cls ≠ "java/lang/invoke/MethodHandle" ∧ yL_heldFrom.cls ≠ "java/lang/invoke/VarHandle" ∧ (parseMethodDescriptor yL_heldFrom.desc).map (fun d => d.parameters.length) = some 3 := by decide +kernel
set_option maxRecDepth 100000 in
set_option maxHeartbeats 4000000 in
theorem c_L_heldFrom (l : Launch) (D : va_G) (g : xG) (tb : List xQ) (hT : x_T g tb) (hlst : l.stackTraces = false) {a1 : Int32} (h0 : x_fb tb) (ho : ((9, 5000, 1) : xQ) ∈ tb) {M : xM} {k : Nat} {r : Int32} {M1 : xM} (hf : f_X6_heldFrom a1 M = some (k, r, M1)) {res : Int32} {M2 : xM} (hk : (k = 0 ∧ res = 0 ∧ M2 = upd M1 5000 r) ∨ ∃ i : Nat, ([2] : List Nat)[i]? = some k ∧ 0 < k ∧ res = nI (i + 1) ∧ M2 = M1) :
    cL l D g tb yL_heldFrom cL_heldFrom 4 [(0, 9, 12, 18)] ({ frames := 9, cells := 1, slots := 6, locals := 145 } : Room) 1 [.ref (g.1 4 1664), .int a1, .ref (g.1 9 5000)] M res M2 := by
  refine x_startH (own := RL) (by decide +kernel) rfl rfl (Nat.le_of_ble_eq_true rfl) hT ?_
  intro p e s m args below meth c Q C0 htab hend
  refine r_aload_n C0 (kk := 2) 2 rfl dL_heldFrom_0 ?_
  refine r_iconst C0 (v := 0) dL_heldFrom_1 rfl ?_
  refine r_aload_n C0 (kk := 0) 0 rfl dL_heldFrom_2 ?_
  refine r_iload_n C0 (kk := 1) 1 rfl dL_heldFrom_3 ?_
  refine r_tcallVi C0 (As := [.int a1]) (rest := [.int 0, .ref (g.1 9 5000)]) (c_X6_heldFrom l D g tb hT hlst h0 hf) w5_26 w5_27 w5_28 w1_1 w5_29 (x_rec4 C0 h0.1) hd_X6_heldFrom rfl ⟨rfl, rfl⟩ ⟨Nat.le_of_ble_eq_true rfl, Nat.le_of_ble_eq_true rfl⟩ (by decide) (by decide) rfl (Nat.le_of_ble_eq_true rfl) dL_heldFrom_4 (fun H1 locs1 ls E ce q hk1 hE hH hS hl h1 h2 h3 => ?_) (fun hk1 => ?_)
  · rcases hk with ⟨q0, -, -⟩ | ⟨i, hi, hpos, rfl, rfl⟩
    · exact absurd q0 hk1
    · match i, hi with
      | 0, hi =>
        cases hi
        refine r_catch C0 (k := 2) (by decide) (by decide) hE [] ⟨0, 9, 12, 18⟩ [] (by rw [htab]; rfl) (fun z hz => absurd hz List.not_mem_nil) (by decide) (by decide) w4_120 hH hS hl h1 h2 h3 ?_
        refine r_astore_n C0 (kk := 3) (lv2 := [(3, .ref q), (0, .ref (g.1 4 1664)), (1, .int a1), (2, .ref (g.1 9 5000))]) (by decide) rfl dL_heldFrom_12 ?_
        refine r_iconst C0 (v := 1) dL_heldFrom_13 rfl ?_
        exact hend ⟨rfl, rfl⟩ dL_heldFrom_14
      | n + 1, hi => exact absurd hi (by simp)
  · rcases hk with ⟨-, rfl, rfl⟩ | ⟨i, hi, hpos, -, -⟩
    · refine r_i2l C0 dL_heldFrom_7 ?_
      refine r_last C0 ho (inb_in (i := 0) (n := 1) (by decide)) dL_heldFrom_8 ?_
      refine r_goto C0 (tgt := 15) (by decide) dL_heldFrom_9 ?_
      refine r_iconst C0 (v := 0) dL_heldFrom_15 rfl ?_
      exact hend ⟨rfl, rfl⟩ dL_heldFrom_16
    · exact absurd hk1 (by omega)
theorem dL_debtOf_0 : decode cL_debtOf 0 = .ok (.aload_n 2, 1) := by decide +kernel
theorem dL_debtOf_1 : decode cL_debtOf 1 = .ok (.iconst 0, 1) := by decide +kernel
theorem dL_debtOf_2 : decode cL_debtOf 2 = .ok (.aload_n 0, 1) := by decide +kernel
theorem dL_debtOf_3 : decode cL_debtOf 3 = .ok (.iload_n 1, 1) := by decide +kernel
theorem dL_debtOf_4 : decode cL_debtOf 4 = .ok (.invokevirtual 66, 3) := by decide +kernel
theorem dL_debtOf_7 : decode cL_debtOf 7 = .ok (.i2l, 1) := by decide +kernel
theorem dL_debtOf_8 : decode cL_debtOf 8 = .ok (.lastore, 1) := by decide +kernel
theorem dL_debtOf_9 : decode cL_debtOf 9 = .ok (.goto 6, 3) := by decide +kernel
theorem dL_debtOf_12 : decode cL_debtOf 12 = .ok (.astore_n 3, 1) := by decide +kernel
theorem dL_debtOf_13 : decode cL_debtOf 13 = .ok (.iconst 1, 1) := by decide +kernel
theorem dL_debtOf_14 : decode cL_debtOf 14 = .ok (.ireturn, 1) := by decide +kernel
theorem dL_debtOf_15 : decode cL_debtOf 15 = .ok (.iconst 0, 1) := by decide +kernel
theorem dL_debtOf_16 : decode cL_debtOf 16 = .ok (.ireturn, 1) := by decide +kernel
theorem hd_L_debtOf : yL_debtOf.cls ≠ "java/lang/invoke/MethodHandle" ∧ yL_debtOf.cls ≠ "java/lang/invoke/VarHandle" ∧ (parseMethodDescriptor yL_debtOf.desc).map (fun d => d.parameters.length) = some 3 := by decide +kernel
set_option maxRecDepth 100000 in
set_option maxHeartbeats 4000000 in
theorem c_L_debtOf (l : Launch) (D : va_G) (g : xG) (tb : List xQ) (hT : x_T g tb) (hlst : l.stackTraces = false) {a1 : Int32} (h0 : x_fb tb) (ho : ((9, 5000, 1) : xQ) ∈ tb) {M : xM} {k : Nat} {r : Int32} {M1 : xM} (hf : f_X6_debtOf a1 M = some (k, r, M1)) {res : Int32} {M2 : xM} (hk : (k = 0 ∧ res = 0 ∧ M2 = upd M1 5000 r) ∨ ∃ i : Nat, ([2] : List Nat)[i]? = some k ∧ 0 < k ∧ res = nI (i + 1) ∧ M2 = M1) :
    cL l D g tb yL_debtOf cL_debtOf 4 [(0, 9, 12, 18)] ({ frames := 9, cells := 1, slots := 6, locals := 145 } : Room) 1 [.ref (g.1 4 1664), .int a1, .ref (g.1 9 5000)] M res M2 := by
  refine x_startH (own := RL) (by decide +kernel) rfl rfl (Nat.le_of_ble_eq_true rfl) hT ?_
  intro p e s m args below meth c Q C0 htab hend
  refine r_aload_n C0 (kk := 2) 2 rfl dL_debtOf_0 ?_
  refine r_iconst C0 (v := 0) dL_debtOf_1 rfl ?_
  refine r_aload_n C0 (kk := 0) 0 rfl dL_debtOf_2 ?_
  refine r_iload_n C0 (kk := 1) 1 rfl dL_debtOf_3 ?_
  refine r_tcallVi C0 (As := [.int a1]) (rest := [.int 0, .ref (g.1 9 5000)]) (c_X6_debtOf l D g tb hT hlst h0 hf) w5_33 w5_34 w5_35 w1_1 w5_36 (x_rec4 C0 h0.1) hd_X6_debtOf rfl ⟨rfl, rfl⟩ ⟨Nat.le_of_ble_eq_true rfl, Nat.le_of_ble_eq_true rfl⟩ (by decide) (by decide) rfl (Nat.le_of_ble_eq_true rfl) dL_debtOf_4 (fun H1 locs1 ls E ce q hk1 hE hH hS hl h1 h2 h3 => ?_) (fun hk1 => ?_)
  · rcases hk with ⟨q0, -, -⟩ | ⟨i, hi, hpos, rfl, rfl⟩
    · exact absurd q0 hk1
    · match i, hi with
      | 0, hi =>
        cases hi
        refine r_catch C0 (k := 2) (by decide) (by decide) hE [] ⟨0, 9, 12, 18⟩ [] (by rw [htab]; rfl) (fun z hz => absurd hz List.not_mem_nil) (by decide) (by decide) w4_120 hH hS hl h1 h2 h3 ?_
        refine r_astore_n C0 (kk := 3) (lv2 := [(3, .ref q), (0, .ref (g.1 4 1664)), (1, .int a1), (2, .ref (g.1 9 5000))]) (by decide) rfl dL_debtOf_12 ?_
        refine r_iconst C0 (v := 1) dL_debtOf_13 rfl ?_
        exact hend ⟨rfl, rfl⟩ dL_debtOf_14
      | n + 1, hi => exact absurd hi (by simp)
  · rcases hk with ⟨-, rfl, rfl⟩ | ⟨i, hi, hpos, -, -⟩
    · refine r_i2l C0 dL_debtOf_7 ?_
      refine r_last C0 ho (inb_in (i := 0) (n := 1) (by decide)) dL_debtOf_8 ?_
      refine r_goto C0 (tgt := 15) (by decide) dL_debtOf_9 ?_
      refine r_iconst C0 (v := 0) dL_debtOf_15 rfl ?_
      exact hend ⟨rfl, rfl⟩ dL_debtOf_16
    · exact absurd hk1 (by omega)
theorem dL_avoidedBy_0 : decode cL_avoidedBy 0 = .ok (.aload_n 2, 1) := by decide +kernel
theorem dL_avoidedBy_1 : decode cL_avoidedBy 1 = .ok (.iconst 0, 1) := by decide +kernel
theorem dL_avoidedBy_2 : decode cL_avoidedBy 2 = .ok (.aload_n 0, 1) := by decide +kernel
theorem dL_avoidedBy_3 : decode cL_avoidedBy 3 = .ok (.iload_n 1, 1) := by decide +kernel
theorem dL_avoidedBy_4 : decode cL_avoidedBy 4 = .ok (.invokevirtual 69, 3) := by decide +kernel
theorem dL_avoidedBy_7 : decode cL_avoidedBy 7 = .ok (.i2l, 1) := by decide +kernel
theorem dL_avoidedBy_8 : decode cL_avoidedBy 8 = .ok (.lastore, 1) := by decide +kernel
theorem dL_avoidedBy_9 : decode cL_avoidedBy 9 = .ok (.goto 6, 3) := by decide +kernel
theorem dL_avoidedBy_12 : decode cL_avoidedBy 12 = .ok (.astore_n 3, 1) := by decide +kernel
theorem dL_avoidedBy_13 : decode cL_avoidedBy 13 = .ok (.iconst 1, 1) := by decide +kernel
theorem dL_avoidedBy_14 : decode cL_avoidedBy 14 = .ok (.ireturn, 1) := by decide +kernel
theorem dL_avoidedBy_15 : decode cL_avoidedBy 15 = .ok (.iconst 0, 1) := by decide +kernel
theorem dL_avoidedBy_16 : decode cL_avoidedBy 16 = .ok (.ireturn, 1) := by decide +kernel
theorem hd_L_avoidedBy : yL_avoidedBy.cls ≠ "java/lang/invoke/MethodHandle" ∧ yL_avoidedBy.cls ≠ "java/lang/invoke/VarHandle" ∧ (parseMethodDescriptor yL_avoidedBy.desc).map (fun d => d.parameters.length) = some 3 := by decide +kernel
set_option maxRecDepth 100000 in
set_option maxHeartbeats 4000000 in
theorem c_L_avoidedBy (l : Launch) (D : va_G) (g : xG) (tb : List xQ) (hT : x_T g tb) (hlst : l.stackTraces = false) {a1 : Int32} (h0 : x_fb tb) (ho : ((9, 5000, 1) : xQ) ∈ tb) {M : xM} {k : Nat} {r : Int32} {M1 : xM} (hf : f_X6_avoidedBy a1 M = some (k, r, M1)) {res : Int32} {M2 : xM} (hk : (k = 0 ∧ res = 0 ∧ M2 = upd M1 5000 r) ∨ ∃ i : Nat, ([2] : List Nat)[i]? = some k ∧ 0 < k ∧ res = nI (i + 1) ∧ M2 = M1) :
    cL l D g tb yL_avoidedBy cL_avoidedBy 4 [(0, 9, 12, 18)] ({ frames := 9, cells := 1, slots := 6, locals := 145 } : Room) 1 [.ref (g.1 4 1664), .int a1, .ref (g.1 9 5000)] M res M2 := by
  refine x_startH (own := RL) (by decide +kernel) rfl rfl (Nat.le_of_ble_eq_true rfl) hT ?_
  intro p e s m args below meth c Q C0 htab hend
  refine r_aload_n C0 (kk := 2) 2 rfl dL_avoidedBy_0 ?_
  refine r_iconst C0 (v := 0) dL_avoidedBy_1 rfl ?_
  refine r_aload_n C0 (kk := 0) 0 rfl dL_avoidedBy_2 ?_
  refine r_iload_n C0 (kk := 1) 1 rfl dL_avoidedBy_3 ?_
  refine r_tcallVi C0 (As := [.int a1]) (rest := [.int 0, .ref (g.1 9 5000)]) (c_X6_avoidedBy l D g tb hT hlst h0 hf) w5_40 w5_41 w5_42 w1_1 w5_43 (x_rec4 C0 h0.1) hd_X6_avoidedBy rfl ⟨rfl, rfl⟩ ⟨Nat.le_of_ble_eq_true rfl, Nat.le_of_ble_eq_true rfl⟩ (by decide) (by decide) rfl (Nat.le_of_ble_eq_true rfl) dL_avoidedBy_4 (fun H1 locs1 ls E ce q hk1 hE hH hS hl h1 h2 h3 => ?_) (fun hk1 => ?_)
  · rcases hk with ⟨q0, -, -⟩ | ⟨i, hi, hpos, rfl, rfl⟩
    · exact absurd q0 hk1
    · match i, hi with
      | 0, hi =>
        cases hi
        refine r_catch C0 (k := 2) (by decide) (by decide) hE [] ⟨0, 9, 12, 18⟩ [] (by rw [htab]; rfl) (fun z hz => absurd hz List.not_mem_nil) (by decide) (by decide) w4_120 hH hS hl h1 h2 h3 ?_
        refine r_astore_n C0 (kk := 3) (lv2 := [(3, .ref q), (0, .ref (g.1 4 1664)), (1, .int a1), (2, .ref (g.1 9 5000))]) (by decide) rfl dL_avoidedBy_12 ?_
        refine r_iconst C0 (v := 1) dL_avoidedBy_13 rfl ?_
        exact hend ⟨rfl, rfl⟩ dL_avoidedBy_14
      | n + 1, hi => exact absurd hi (by simp)
  · rcases hk with ⟨-, rfl, rfl⟩ | ⟨i, hi, hpos, -, -⟩
    · refine r_i2l C0 dL_avoidedBy_7 ?_
      refine r_last C0 ho (inb_in (i := 0) (n := 1) (by decide)) dL_avoidedBy_8 ?_
      refine r_goto C0 (tgt := 15) (by decide) dL_avoidedBy_9 ?_
      refine r_iconst C0 (v := 0) dL_avoidedBy_15 rfl ?_
      exact hend ⟨rfl, rfl⟩ dL_avoidedBy_16
    · exact absurd hk1 (by omega)
