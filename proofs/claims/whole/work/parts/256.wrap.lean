/-! the law's wrappers -/
theorem dL_boughtBy_0 : decode cL_boughtBy 0 = .ok (.aload_n 2, 1) := by decide +kernel
theorem dL_boughtBy_1 : decode cL_boughtBy 1 = .ok (.iconst 0, 1) := by decide +kernel
theorem dL_boughtBy_2 : decode cL_boughtBy 2 = .ok (.aload_n 0, 1) := by decide +kernel
theorem dL_boughtBy_3 : decode cL_boughtBy 3 = .ok (.iload_n 1, 1) := by decide +kernel
theorem dL_boughtBy_4 : decode cL_boughtBy 4 = .ok (.invokevirtual 72, 3) := by decide +kernel
theorem dL_boughtBy_7 : decode cL_boughtBy 7 = .ok (.i2l, 1) := by decide +kernel
theorem dL_boughtBy_8 : decode cL_boughtBy 8 = .ok (.lastore, 1) := by decide +kernel
theorem dL_boughtBy_9 : decode cL_boughtBy 9 = .ok (.goto 6, 3) := by decide +kernel
theorem dL_boughtBy_12 : decode cL_boughtBy 12 = .ok (.astore_n 3, 1) := by decide +kernel
theorem dL_boughtBy_13 : decode cL_boughtBy 13 = .ok (.iconst 1, 1) := by decide +kernel
theorem dL_boughtBy_14 : decode cL_boughtBy 14 = .ok (.ireturn, 1) := by decide +kernel
theorem dL_boughtBy_15 : decode cL_boughtBy 15 = .ok (.iconst 0, 1) := by decide +kernel
theorem dL_boughtBy_16 : decode cL_boughtBy 16 = .ok (.ireturn, 1) := by decide +kernel
theorem hd_L_boughtBy : yL_boughtBy.cls ≠ "java/lang/invoke/MethodHandle" ∧ yL_boughtBy.cls ≠ "java/lang/invoke/VarHandle" ∧ (parseMethodDescriptor yL_boughtBy.desc).map (fun d => d.parameters.length) = some 3 := by decide +kernel
set_option maxRecDepth 100000 in
set_option maxHeartbeats 4000000 in
theorem c_L_boughtBy (l : Launch) (D : va_G) (g : xG) (tb : List xQ) (hT : x_T g tb) (hlst : l.stackTraces = false) {a1 : Int32} (h0 : x_fb tb) (ho : ((9, 5000, 1) : xQ) ∈ tb) {M : xM} {k : Nat} {r : Int32} {M1 : xM} (hf : f_X6_boughtBy a1 M = some (k, r, M1)) {res : Int32} {M2 : xM} (hk : (k = 0 ∧ res = 0 ∧ M2 = upd M1 5000 r) ∨ ∃ i : Nat, ([2] : List Nat)[i]? = some k ∧ 0 < k ∧ res = nI (i + 1) ∧ M2 = M1) :
    cL l D g tb yL_boughtBy cL_boughtBy 4 [(0, 9, 12, 18)] ({ frames := 9, cells := 1, slots := 6, locals := 145 } : Room) 1 [.ref (g.1 4 1664), .int a1, .ref (g.1 9 5000)] M res M2 := by
  refine x_startH (own := RL) (by decide +kernel) rfl rfl (Nat.le_of_ble_eq_true rfl) hT ?_
  intro p e s m args below meth c Q C0 htab hend
  refine r_aload_n C0 (kk := 2) 2 rfl dL_boughtBy_0 ?_
  refine r_iconst C0 (v := 0) dL_boughtBy_1 rfl ?_
  refine r_aload_n C0 (kk := 0) 0 rfl dL_boughtBy_2 ?_
  refine r_iload_n C0 (kk := 1) 1 rfl dL_boughtBy_3 ?_
  refine r_tcallVi C0 (As := [.int a1]) (rest := [.int 0, .ref (g.1 9 5000)]) (c_X6_boughtBy l D g tb hT hlst h0 hf) w5_47 w5_48 w5_49 w1_1 w5_50 (x_rec4 C0 h0.1) hd_X6_boughtBy rfl ⟨rfl, rfl⟩ ⟨Nat.le_of_ble_eq_true rfl, Nat.le_of_ble_eq_true rfl⟩ (by decide) (by decide) rfl (Nat.le_of_ble_eq_true rfl) dL_boughtBy_4 (fun H1 locs1 ls E ce q hk1 hE hH hS hl h1 h2 h3 => ?_) (fun hk1 => ?_)
  · rcases hk with ⟨q0, -, -⟩ | ⟨i, hi, hpos, rfl, rfl⟩
    · exact absurd q0 hk1
    · match i, hi with
      | 0, hi =>
        cases hi
        refine r_catch C0 (k := 2) (by decide) (by decide) hE [] ⟨0, 9, 12, 18⟩ [] (by rw [htab]; rfl) (fun z hz => absurd hz List.not_mem_nil) (by decide) (by decide) w4_120 hH hS hl h1 h2 h3 ?_
        refine r_astore_n C0 (kk := 3) (lv2 := [(3, .ref q), (0, .ref (g.1 4 1664)), (1, .int a1), (2, .ref (g.1 9 5000))]) (by decide) rfl dL_boughtBy_12 ?_
        refine r_iconst C0 (v := 1) dL_boughtBy_13 rfl ?_
        exact hend ⟨rfl, rfl⟩ dL_boughtBy_14
      | n + 1, hi => exact absurd hi (by simp)
  · rcases hk with ⟨-, rfl, rfl⟩ | ⟨i, hi, hpos, -, -⟩
    · refine r_i2l C0 dL_boughtBy_7 ?_
      refine r_last C0 ho (inb_in (i := 0) (n := 1) (by decide)) dL_boughtBy_8 ?_
      refine r_goto C0 (tgt := 15) (by decide) dL_boughtBy_9 ?_
      refine r_iconst C0 (v := 0) dL_boughtBy_15 rfl ?_
      exact hend ⟨rfl, rfl⟩ dL_boughtBy_16
    · exact absurd hk1 (by omega)
theorem dL_targetOf_0 : decode cL_targetOf 0 = .ok (.aload_n 2, 1) := by decide +kernel
theorem dL_targetOf_1 : decode cL_targetOf 1 = .ok (.iconst 0, 1) := by decide +kernel
theorem dL_targetOf_2 : decode cL_targetOf 2 = .ok (.aload_n 0, 1) := by decide +kernel
theorem dL_targetOf_3 : decode cL_targetOf 3 = .ok (.iload_n 1, 1) := by decide +kernel
theorem dL_targetOf_4 : decode cL_targetOf 4 = .ok (.invokevirtual 75, 3) := by decide +kernel
theorem dL_targetOf_7 : decode cL_targetOf 7 = .ok (.i2l, 1) := by decide +kernel
theorem dL_targetOf_8 : decode cL_targetOf 8 = .ok (.lastore, 1) := by decide +kernel
theorem dL_targetOf_9 : decode cL_targetOf 9 = .ok (.goto 6, 3) := by decide +kernel
theorem dL_targetOf_12 : decode cL_targetOf 12 = .ok (.astore_n 3, 1) := by decide +kernel
theorem dL_targetOf_13 : decode cL_targetOf 13 = .ok (.iconst 1, 1) := by decide +kernel
theorem dL_targetOf_14 : decode cL_targetOf 14 = .ok (.ireturn, 1) := by decide +kernel
theorem dL_targetOf_15 : decode cL_targetOf 15 = .ok (.iconst 0, 1) := by decide +kernel
theorem dL_targetOf_16 : decode cL_targetOf 16 = .ok (.ireturn, 1) := by decide +kernel
theorem hd_L_targetOf : yL_targetOf.cls ≠ "java/lang/invoke/MethodHandle" ∧ yL_targetOf.cls ≠ "java/lang/invoke/VarHandle" ∧ (parseMethodDescriptor yL_targetOf.desc).map (fun d => d.parameters.length) = some 3 := by decide +kernel
set_option maxRecDepth 100000 in
set_option maxHeartbeats 4000000 in
theorem c_L_targetOf (l : Launch) (D : va_G) (g : xG) (tb : List xQ) (hT : x_T g tb) (hlst : l.stackTraces = false) {a1 : Int32} (h0 : x_fb tb) (ho : ((9, 5000, 1) : xQ) ∈ tb) {M : xM} {k : Nat} {r : Int32} {M1 : xM} (hf : f_X6_targetOf a1 M = some (k, r, M1)) {res : Int32} {M2 : xM} (hk : (k = 0 ∧ res = 0 ∧ M2 = upd M1 5000 r) ∨ ∃ i : Nat, ([2] : List Nat)[i]? = some k ∧ 0 < k ∧ res = nI (i + 1) ∧ M2 = M1) :
    cL l D g tb yL_targetOf cL_targetOf 4 [(0, 9, 12, 18)] ({ frames := 9, cells := 1, slots := 6, locals := 146 } : Room) 1 [.ref (g.1 4 1664), .int a1, .ref (g.1 9 5000)] M res M2 := by
  refine x_startH (own := RL) (by decide +kernel) rfl rfl (Nat.le_of_ble_eq_true rfl) hT ?_
  intro p e s m args below meth c Q C0 htab hend
  refine r_aload_n C0 (kk := 2) 2 rfl dL_targetOf_0 ?_
  refine r_iconst C0 (v := 0) dL_targetOf_1 rfl ?_
  refine r_aload_n C0 (kk := 0) 0 rfl dL_targetOf_2 ?_
  refine r_iload_n C0 (kk := 1) 1 rfl dL_targetOf_3 ?_
  refine r_tcallVi C0 (As := [.int a1]) (rest := [.int 0, .ref (g.1 9 5000)]) (c_X6_targetOf l D g tb hT hlst h0 hf) w5_54 w5_55 w5_56 w1_1 w5_57 (x_rec4 C0 h0.1) hd_X6_targetOf rfl ⟨rfl, rfl⟩ ⟨Nat.le_of_ble_eq_true rfl, Nat.le_of_ble_eq_true rfl⟩ (by decide) (by decide) rfl (Nat.le_of_ble_eq_true rfl) dL_targetOf_4 (fun H1 locs1 ls E ce q hk1 hE hH hS hl h1 h2 h3 => ?_) (fun hk1 => ?_)
  · rcases hk with ⟨q0, -, -⟩ | ⟨i, hi, hpos, rfl, rfl⟩
    · exact absurd q0 hk1
    · match i, hi with
      | 0, hi =>
        cases hi
        refine r_catch C0 (k := 2) (by decide) (by decide) hE [] ⟨0, 9, 12, 18⟩ [] (by rw [htab]; rfl) (fun z hz => absurd hz List.not_mem_nil) (by decide) (by decide) w4_120 hH hS hl h1 h2 h3 ?_
        refine r_astore_n C0 (kk := 3) (lv2 := [(3, .ref q), (0, .ref (g.1 4 1664)), (1, .int a1), (2, .ref (g.1 9 5000))]) (by decide) rfl dL_targetOf_12 ?_
        refine r_iconst C0 (v := 1) dL_targetOf_13 rfl ?_
        exact hend ⟨rfl, rfl⟩ dL_targetOf_14
      | n + 1, hi => exact absurd hi (by simp)
  · rcases hk with ⟨-, rfl, rfl⟩ | ⟨i, hi, hpos, -, -⟩
    · refine r_i2l C0 dL_targetOf_7 ?_
      refine r_last C0 ho (inb_in (i := 0) (n := 1) (by decide)) dL_targetOf_8 ?_
      refine r_goto C0 (tgt := 15) (by decide) dL_targetOf_9 ?_
      refine r_iconst C0 (v := 0) dL_targetOf_15 rfl ?_
      exact hend ⟨rfl, rfl⟩ dL_targetOf_16
    · exact absurd hk1 (by omega)
theorem dL_touch_0 : decode cL_touch 0 = .ok (.aload_n 3, 1) := by decide +kernel
theorem dL_touch_1 : decode cL_touch 1 = .ok (.iconst 0, 1) := by decide +kernel
theorem dL_touch_2 : decode cL_touch 2 = .ok (.aload_n 0, 1) := by decide +kernel
theorem dL_touch_3 : decode cL_touch 3 = .ok (.iload_n 1, 1) := by decide +kernel
theorem dL_touch_4 : decode cL_touch 4 = .ok (.iload_n 2, 1) := by decide +kernel
theorem dL_touch_5 : decode cL_touch 5 = .ok (.invokevirtual 78, 3) := by decide +kernel
theorem dL_touch_8 : decode cL_touch 8 = .ok (.i2l, 1) := by decide +kernel
theorem dL_touch_9 : decode cL_touch 9 = .ok (.lastore, 1) := by decide +kernel
theorem dL_touch_10 : decode cL_touch 10 = .ok (.goto 7, 3) := by decide +kernel
theorem dL_touch_13 : decode cL_touch 13 = .ok (.astore 4, 2) := by decide +kernel
theorem dL_touch_15 : decode cL_touch 15 = .ok (.iconst 1, 1) := by decide +kernel
theorem dL_touch_16 : decode cL_touch 16 = .ok (.ireturn, 1) := by decide +kernel
theorem dL_touch_17 : decode cL_touch 17 = .ok (.iconst 0, 1) := by decide +kernel
theorem dL_touch_18 : decode cL_touch 18 = .ok (.ireturn, 1) := by decide +kernel
theorem hd_L_touch : yL_touch.cls ≠ "java/lang/invoke/MethodHandle" ∧ yL_touch.cls ≠ "java/lang/invoke/VarHandle" ∧ (parseMethodDescriptor yL_touch.desc).map (fun d => d.parameters.length) = some 4 := by decide +kernel
set_option maxRecDepth 100000 in
set_option maxHeartbeats 4000000 in
theorem c_L_touch (l : Launch) (D : va_G) (g : xG) (tb : List xQ) (hT : x_T g tb) (hlst : l.stackTraces = false) {a1 : Int32} {a2 : Int32} (h0 : x_fb tb) (ho : ((9, 5000, 1) : xQ) ∈ tb) {M : xM} {k : Nat} {r : Int32} {M1 : xM} (hf : f_X6_touch a1 a2 M = some (k, r, M1)) {res : Int32} {M2 : xM} (hk : (k = 0 ∧ res = 0 ∧ M2 = upd M1 5000 r) ∨ ∃ i : Nat, ([2] : List Nat)[i]? = some k ∧ 0 < k ∧ res = nI (i + 1) ∧ M2 = M1) :
    cL l D g tb yL_touch cL_touch 5 [(0, 10, 13, 18)] ({ frames := 9, cells := 2, slots := 12, locals := 146 } : Room) 2 [.ref (g.1 4 1664), .int a1, .int a2, .ref (g.1 9 5000)] M res M2 := by
  refine x_startH (own := RL) (by decide +kernel) rfl rfl (Nat.le_of_ble_eq_true rfl) hT ?_
  intro p e s m args below meth c Q C0 htab hend
  refine r_aload_n C0 (kk := 3) 3 rfl dL_touch_0 ?_
  refine r_iconst C0 (v := 0) dL_touch_1 rfl ?_
  refine r_aload_n C0 (kk := 0) 0 rfl dL_touch_2 ?_
  refine r_iload_n C0 (kk := 1) 1 rfl dL_touch_3 ?_
  refine r_iload_n C0 (kk := 2) 2 rfl dL_touch_4 ?_
  refine r_tcallVi C0 (As := [.int a1, .int a2]) (rest := [.int 0, .ref (g.1 9 5000)]) (c_X6_touch l D g tb hT hlst h0 hf) w5_63 w5_64 w5_65 w1_1 w5_66 (x_rec4 C0 h0.1) hd_X6_touch rfl ⟨rfl, rfl⟩ ⟨Nat.le_of_ble_eq_true rfl, Nat.le_of_ble_eq_true rfl⟩ (by decide) (by decide) rfl (Nat.le_of_ble_eq_true rfl) dL_touch_5 (fun H1 locs1 ls E ce q hk1 hE hH hS hl h1 h2 h3 => ?_) (fun hk1 => ?_)
  · rcases hk with ⟨q0, -, -⟩ | ⟨i, hi, hpos, rfl, rfl⟩
    · exact absurd q0 hk1
    · match i, hi with
      | 0, hi =>
        cases hi
        refine r_catch C0 (k := 2) (by decide) (by decide) hE [] ⟨0, 10, 13, 18⟩ [] (by rw [htab]; rfl) (fun z hz => absurd hz List.not_mem_nil) (by decide) (by decide) w4_120 hH hS hl h1 h2 h3 ?_
        refine r_astore C0 (lv2 := [(4, .ref q), (0, .ref (g.1 4 1664)), (1, .int a1), (2, .int a2), (3, .ref (g.1 9 5000))]) (by decide) rfl dL_touch_13 ?_
        refine r_iconst C0 (v := 1) dL_touch_15 rfl ?_
        exact hend ⟨rfl, rfl⟩ dL_touch_16
      | n + 1, hi => exact absurd hi (by simp)
  · rcases hk with ⟨-, rfl, rfl⟩ | ⟨i, hi, hpos, -, -⟩
    · refine r_i2l C0 dL_touch_8 ?_
      refine r_last C0 ho (inb_in (i := 0) (n := 1) (by decide)) dL_touch_9 ?_
      refine r_goto C0 (tgt := 17) (by decide) dL_touch_10 ?_
      refine r_iconst C0 (v := 0) dL_touch_17 rfl ?_
      exact hend ⟨rfl, rfl⟩ dL_touch_18
    · exact absurd hk1 (by omega)
theorem dL_minutesToPay_0 : decode cL_minutesToPay 0 = .ok (.aload_n 2, 1) := by decide +kernel
theorem dL_minutesToPay_1 : decode cL_minutesToPay 1 = .ok (.iconst 0, 1) := by decide +kernel
theorem dL_minutesToPay_2 : decode cL_minutesToPay 2 = .ok (.aload_n 0, 1) := by decide +kernel
theorem dL_minutesToPay_3 : decode cL_minutesToPay 3 = .ok (.iload_n 1, 1) := by decide +kernel
theorem dL_minutesToPay_4 : decode cL_minutesToPay 4 = .ok (.invokevirtual 81, 3) := by decide +kernel
theorem dL_minutesToPay_7 : decode cL_minutesToPay 7 = .ok (.i2l, 1) := by decide +kernel
theorem dL_minutesToPay_8 : decode cL_minutesToPay 8 = .ok (.lastore, 1) := by decide +kernel
theorem dL_minutesToPay_9 : decode cL_minutesToPay 9 = .ok (.goto 6, 3) := by decide +kernel
theorem dL_minutesToPay_12 : decode cL_minutesToPay 12 = .ok (.astore_n 3, 1) := by decide +kernel
theorem dL_minutesToPay_13 : decode cL_minutesToPay 13 = .ok (.iconst 1, 1) := by decide +kernel
theorem dL_minutesToPay_14 : decode cL_minutesToPay 14 = .ok (.ireturn, 1) := by decide +kernel
theorem dL_minutesToPay_15 : decode cL_minutesToPay 15 = .ok (.iconst 0, 1) := by decide +kernel
theorem dL_minutesToPay_16 : decode cL_minutesToPay 16 = .ok (.ireturn, 1) := by decide +kernel
theorem hd_L_minutesToPay : yL_minutesToPay.cls ≠ "java/lang/invoke/MethodHandle" ∧ yL_minutesToPay.cls ≠ "java/lang/invoke/VarHandle" ∧ (parseMethodDescriptor yL_minutesToPay.desc).map (fun d => d.parameters.length) = some 3 := by decide +kernel
set_option maxRecDepth 100000 in
set_option maxHeartbeats 4000000 in
theorem c_L_minutesToPay (l : Launch) (D : va_G) (g : xG) (tb : List xQ) (hT : x_T g tb) (hlst : l.stackTraces = false) {a1 : Int32} (h0 : x_fb tb) (ho : ((9, 5000, 1) : xQ) ∈ tb) {M : xM} {k : Nat} {r : Int32} {M1 : xM} (hf : f_X6_minutesToPay a1 M = some (k, r, M1)) {res : Int32} {M2 : xM} (hk : (k = 0 ∧ res = 0 ∧ M2 = upd M1 5000 r) ∨ ∃ i : Nat, ([2] : List Nat)[i]? = some k ∧ 0 < k ∧ res = nI (i + 1) ∧ M2 = M1) :
    cL l D g tb yL_minutesToPay cL_minutesToPay 4 [(0, 9, 12, 18)] ({ frames := 9, cells := 1, slots := 6, locals := 147 } : Room) 1 [.ref (g.1 4 1664), .int a1, .ref (g.1 9 5000)] M res M2 := by
  refine x_startH (own := RL) (by decide +kernel) rfl rfl (Nat.le_of_ble_eq_true rfl) hT ?_
  intro p e s m args below meth c Q C0 htab hend
  refine r_aload_n C0 (kk := 2) 2 rfl dL_minutesToPay_0 ?_
  refine r_iconst C0 (v := 0) dL_minutesToPay_1 rfl ?_
  refine r_aload_n C0 (kk := 0) 0 rfl dL_minutesToPay_2 ?_
  refine r_iload_n C0 (kk := 1) 1 rfl dL_minutesToPay_3 ?_
  refine r_tcallVi C0 (As := [.int a1]) (rest := [.int 0, .ref (g.1 9 5000)]) (c_X6_minutesToPay l D g tb hT hlst h0 hf) w5_71 w5_72 w5_73 w1_1 w5_74 (x_rec4 C0 h0.1) hd_X6_minutesToPay rfl ⟨rfl, rfl⟩ ⟨Nat.le_of_ble_eq_true rfl, Nat.le_of_ble_eq_true rfl⟩ (by decide) (by decide) rfl (Nat.le_of_ble_eq_true rfl) dL_minutesToPay_4 (fun H1 locs1 ls E ce q hk1 hE hH hS hl h1 h2 h3 => ?_) (fun hk1 => ?_)
  · rcases hk with ⟨q0, -, -⟩ | ⟨i, hi, hpos, rfl, rfl⟩
    · exact absurd q0 hk1
    · match i, hi with
      | 0, hi =>
        cases hi
        refine r_catch C0 (k := 2) (by decide) (by decide) hE [] ⟨0, 9, 12, 18⟩ [] (by rw [htab]; rfl) (fun z hz => absurd hz List.not_mem_nil) (by decide) (by decide) w4_120 hH hS hl h1 h2 h3 ?_
        refine r_astore_n C0 (kk := 3) (lv2 := [(3, .ref q), (0, .ref (g.1 4 1664)), (1, .int a1), (2, .ref (g.1 9 5000))]) (by decide) rfl dL_minutesToPay_12 ?_
        refine r_iconst C0 (v := 1) dL_minutesToPay_13 rfl ?_
        exact hend ⟨rfl, rfl⟩ dL_minutesToPay_14
      | n + 1, hi => exact absurd hi (by simp)
  · rcases hk with ⟨-, rfl, rfl⟩ | ⟨i, hi, hpos, -, -⟩
    · refine r_i2l C0 dL_minutesToPay_7 ?_
      refine r_last C0 ho (inb_in (i := 0) (n := 1) (by decide)) dL_minutesToPay_8 ?_
      refine r_goto C0 (tgt := 15) (by decide) dL_minutesToPay_9 ?_
      refine r_iconst C0 (v := 0) dL_minutesToPay_15 rfl ?_
      exact hend ⟨rfl, rfl⟩ dL_minutesToPay_16
    · exact absurd hk1 (by omega)
theorem dL_earningsAfter_0 : decode cL_earningsAfter 0 = .ok (.aload_n 3, 1) := by decide +kernel
theorem dL_earningsAfter_1 : decode cL_earningsAfter 1 = .ok (.iconst 0, 1) := by decide +kernel
theorem dL_earningsAfter_2 : decode cL_earningsAfter 2 = .ok (.aload_n 0, 1) := by decide +kernel
theorem dL_earningsAfter_3 : decode cL_earningsAfter 3 = .ok (.iload_n 1, 1) := by decide +kernel
theorem dL_earningsAfter_4 : decode cL_earningsAfter 4 = .ok (.iload_n 2, 1) := by decide +kernel
theorem dL_earningsAfter_5 : decode cL_earningsAfter 5 = .ok (.invokevirtual 84, 3) := by decide +kernel
theorem dL_earningsAfter_8 : decode cL_earningsAfter 8 = .ok (.i2l, 1) := by decide +kernel
theorem dL_earningsAfter_9 : decode cL_earningsAfter 9 = .ok (.lastore, 1) := by decide +kernel
theorem dL_earningsAfter_10 : decode cL_earningsAfter 10 = .ok (.goto 11, 3) := by decide +kernel
theorem dL_earningsAfter_13 : decode cL_earningsAfter 13 = .ok (.astore 4, 2) := by decide +kernel
theorem dL_earningsAfter_15 : decode cL_earningsAfter 15 = .ok (.iconst 1, 1) := by decide +kernel
theorem dL_earningsAfter_16 : decode cL_earningsAfter 16 = .ok (.ireturn, 1) := by decide +kernel
theorem dL_earningsAfter_17 : decode cL_earningsAfter 17 = .ok (.astore 4, 2) := by decide +kernel
theorem dL_earningsAfter_19 : decode cL_earningsAfter 19 = .ok (.iconst 2, 1) := by decide +kernel
theorem dL_earningsAfter_20 : decode cL_earningsAfter 20 = .ok (.ireturn, 1) := by decide +kernel
theorem dL_earningsAfter_21 : decode cL_earningsAfter 21 = .ok (.iconst 0, 1) := by decide +kernel
theorem dL_earningsAfter_22 : decode cL_earningsAfter 22 = .ok (.ireturn, 1) := by decide +kernel
theorem hd_L_earningsAfter : yL_earningsAfter.cls ≠ "java/lang/invoke/MethodHandle" ∧ yL_earningsAfter.cls ≠ "java/lang/invoke/VarHandle" ∧ (parseMethodDescriptor yL_earningsAfter.desc).map (fun d => d.parameters.length) = some 4 := by decide +kernel
set_option maxRecDepth 100000 in
set_option maxHeartbeats 4000000 in
theorem c_L_earningsAfter (l : Launch) (D : va_G) (g : xG) (tb : List xQ) (hT : x_T g tb) (hlst : l.stackTraces = false) {a1 : Int32} {a2 : Int32} (h0 : x_fb tb) (ho : ((9, 5000, 1) : xQ) ∈ tb) {M : xM} {k : Nat} {r : Int32} {M1 : xM} (hf : f_X6_earningsAfter a1 a2 M = some (k, r, M1)) {res : Int32} {M2 : xM} (hk : (k = 0 ∧ res = 0 ∧ M2 = upd M1 5000 r) ∨ ∃ i : Nat, ([2, 1] : List Nat)[i]? = some k ∧ 0 < k ∧ res = nI (i + 1) ∧ M2 = M1) :
    cL l D g tb yL_earningsAfter cL_earningsAfter 5 [(0, 10, 13, 18), (0, 10, 17, 13)] ({ frames := 8, cells := 2, slots := 12, locals := 126 } : Room) 2 [.ref (g.1 4 1664), .int a1, .int a2, .ref (g.1 9 5000)] M res M2 := by
  refine x_startH (own := RL) (by decide +kernel) rfl rfl (Nat.le_of_ble_eq_true rfl) hT ?_
  intro p e s m args below meth c Q C0 htab hend
  refine r_aload_n C0 (kk := 3) 3 rfl dL_earningsAfter_0 ?_
  refine r_iconst C0 (v := 0) dL_earningsAfter_1 rfl ?_
  refine r_aload_n C0 (kk := 0) 0 rfl dL_earningsAfter_2 ?_
  refine r_iload_n C0 (kk := 1) 1 rfl dL_earningsAfter_3 ?_
  refine r_iload_n C0 (kk := 2) 2 rfl dL_earningsAfter_4 ?_
  refine r_tcallVi C0 (As := [.int a1, .int a2]) (rest := [.int 0, .ref (g.1 9 5000)]) (c_X6_earningsAfter l D g tb hT hlst h0 hf) w5_78 w5_79 w5_80 w1_1 w5_81 (x_rec4 C0 h0.1) hd_X6_earningsAfter rfl ⟨rfl, rfl⟩ ⟨Nat.le_of_ble_eq_true rfl, Nat.le_of_ble_eq_true rfl⟩ (by decide) (by decide) rfl (Nat.le_of_ble_eq_true rfl) dL_earningsAfter_5 (fun H1 locs1 ls E ce q hk1 hE hH hS hl h1 h2 h3 => ?_) (fun hk1 => ?_)
  · rcases hk with ⟨q0, -, -⟩ | ⟨i, hi, hpos, rfl, rfl⟩
    · exact absurd q0 hk1
    · match i, hi with
      | 0, hi =>
        cases hi
        refine r_catch C0 (k := 2) (by decide) (by decide) hE [] ⟨0, 10, 13, 18⟩ [⟨0, 10, 17, 13⟩] (by rw [htab]; rfl) (fun z hz => absurd hz List.not_mem_nil) (by decide) (by decide) w4_120 hH hS hl h1 h2 h3 ?_
        refine r_astore C0 (lv2 := [(4, .ref q), (0, .ref (g.1 4 1664)), (1, .int a1), (2, .int a2), (3, .ref (g.1 9 5000))]) (by decide) rfl dL_earningsAfter_13 ?_
        refine r_iconst C0 (v := 1) dL_earningsAfter_15 rfl ?_
        exact hend ⟨rfl, rfl⟩ dL_earningsAfter_16
      | 1, hi =>
        cases hi
        refine r_catch C0 (k := 1) (by decide) (by decide) hE [⟨0, 10, 13, 18⟩] ⟨0, 10, 17, 13⟩ [] (by rw [htab]; rfl) (fun z hz => by simp only [List.mem_cons, List.not_mem_nil, or_false] at hz; subst hz; exact ⟨by decide, 2, by decide, by decide, by decide, w4_120⟩) (by decide) (by decide) w4_39 hH hS hl h1 h2 h3 ?_
        refine r_astore C0 (lv2 := [(4, .ref q), (0, .ref (g.1 4 1664)), (1, .int a1), (2, .int a2), (3, .ref (g.1 9 5000))]) (by decide) rfl dL_earningsAfter_17 ?_
        refine r_iconst C0 (v := 2) dL_earningsAfter_19 rfl ?_
        exact hend ⟨rfl, rfl⟩ dL_earningsAfter_20
      | n + 2, hi => exact absurd hi (by simp)
  · rcases hk with ⟨-, rfl, rfl⟩ | ⟨i, hi, hpos, -, -⟩
    · refine r_i2l C0 dL_earningsAfter_8 ?_
      refine r_last C0 ho (inb_in (i := 0) (n := 1) (by decide)) dL_earningsAfter_9 ?_
      refine r_goto C0 (tgt := 21) (by decide) dL_earningsAfter_10 ?_
      refine r_iconst C0 (v := 0) dL_earningsAfter_21 rfl ?_
      exact hend ⟨rfl, rfl⟩ dL_earningsAfter_22
    · exact absurd hk1 (by omega)
theorem dL_bestPrice_0 : decode cL_bestPrice 0 = .ok (.aload_n 2, 1) := by decide +kernel
theorem dL_bestPrice_1 : decode cL_bestPrice 1 = .ok (.iconst 0, 1) := by decide +kernel
theorem dL_bestPrice_2 : decode cL_bestPrice 2 = .ok (.aload_n 0, 1) := by decide +kernel
theorem dL_bestPrice_3 : decode cL_bestPrice 3 = .ok (.iload_n 1, 1) := by decide +kernel
theorem dL_bestPrice_4 : decode cL_bestPrice 4 = .ok (.invokevirtual 87, 3) := by decide +kernel
theorem dL_bestPrice_7 : decode cL_bestPrice 7 = .ok (.i2l, 1) := by decide +kernel
theorem dL_bestPrice_8 : decode cL_bestPrice 8 = .ok (.lastore, 1) := by decide +kernel
theorem dL_bestPrice_9 : decode cL_bestPrice 9 = .ok (.goto 6, 3) := by decide +kernel
theorem dL_bestPrice_12 : decode cL_bestPrice 12 = .ok (.astore_n 3, 1) := by decide +kernel
theorem dL_bestPrice_13 : decode cL_bestPrice 13 = .ok (.iconst 1, 1) := by decide +kernel
theorem dL_bestPrice_14 : decode cL_bestPrice 14 = .ok (.ireturn, 1) := by decide +kernel
theorem dL_bestPrice_15 : decode cL_bestPrice 15 = .ok (.iconst 0, 1) := by decide +kernel
theorem dL_bestPrice_16 : decode cL_bestPrice 16 = .ok (.ireturn, 1) := by decide +kernel
theorem hd_L_bestPrice : yL_bestPrice.cls ≠ "java/lang/invoke/MethodHandle" ∧ yL_bestPrice.cls ≠ "java/lang/invoke/VarHandle" ∧ (parseMethodDescriptor yL_bestPrice.desc).map (fun d => d.parameters.length) = some 3 := by decide +kernel
set_option maxRecDepth 100000 in
set_option maxHeartbeats 4000000 in
theorem c_L_bestPrice (l : Launch) (D : va_G) (g : xG) (tb : List xQ) (hT : x_T g tb) (hlst : l.stackTraces = false) {a1 : Int32} (h0 : x_fb tb) (ho : ((9, 5000, 1) : xQ) ∈ tb) {M : xM} {k : Nat} {r : Int32} {M1 : xM} (hf : f_X6_bestPrice a1 M = some (k, r, M1)) {res : Int32} {M2 : xM} (hk : (k = 0 ∧ res = 0 ∧ M2 = upd M1 5000 r) ∨ ∃ i : Nat, ([2] : List Nat)[i]? = some k ∧ 0 < k ∧ res = nI (i + 1) ∧ M2 = M1) :
    cL l D g tb yL_bestPrice cL_bestPrice 4 [(0, 9, 12, 18)] ({ frames := 8, cells := 1, slots := 6, locals := 127 } : Room) 1 [.ref (g.1 4 1664), .int a1, .ref (g.1 9 5000)] M res M2 := by
  refine x_startH (own := RL) (by decide +kernel) rfl rfl (Nat.le_of_ble_eq_true rfl) hT ?_
  intro p e s m args below meth c Q C0 htab hend
  refine r_aload_n C0 (kk := 2) 2 rfl dL_bestPrice_0 ?_
  refine r_iconst C0 (v := 0) dL_bestPrice_1 rfl ?_
  refine r_aload_n C0 (kk := 0) 0 rfl dL_bestPrice_2 ?_
  refine r_iload_n C0 (kk := 1) 1 rfl dL_bestPrice_3 ?_
  refine r_tcallVi C0 (As := [.int a1]) (rest := [.int 0, .ref (g.1 9 5000)]) (c_X6_bestPrice l D g tb hT hlst h0 hf) w5_85 w5_86 w5_87 w1_1 w5_88 (x_rec4 C0 h0.1) hd_X6_bestPrice rfl ⟨rfl, rfl⟩ ⟨Nat.le_of_ble_eq_true rfl, Nat.le_of_ble_eq_true rfl⟩ (by decide) (by decide) rfl (Nat.le_of_ble_eq_true rfl) dL_bestPrice_4 (fun H1 locs1 ls E ce q hk1 hE hH hS hl h1 h2 h3 => ?_) (fun hk1 => ?_)
  · rcases hk with ⟨q0, -, -⟩ | ⟨i, hi, hpos, rfl, rfl⟩
    · exact absurd q0 hk1
    · match i, hi with
      | 0, hi =>
        cases hi
        refine r_catch C0 (k := 2) (by decide) (by decide) hE [] ⟨0, 9, 12, 18⟩ [] (by rw [htab]; rfl) (fun z hz => absurd hz List.not_mem_nil) (by decide) (by decide) w4_120 hH hS hl h1 h2 h3 ?_
        refine r_astore_n C0 (kk := 3) (lv2 := [(3, .ref q), (0, .ref (g.1 4 1664)), (1, .int a1), (2, .ref (g.1 9 5000))]) (by decide) rfl dL_bestPrice_12 ?_
        refine r_iconst C0 (v := 1) dL_bestPrice_13 rfl ?_
        exact hend ⟨rfl, rfl⟩ dL_bestPrice_14
      | n + 1, hi => exact absurd hi (by simp)
  · rcases hk with ⟨-, rfl, rfl⟩ | ⟨i, hi, hpos, -, -⟩
    · refine r_i2l C0 dL_bestPrice_7 ?_
      refine r_last C0 ho (inb_in (i := 0) (n := 1) (by decide)) dL_bestPrice_8 ?_
      refine r_goto C0 (tgt := 15) (by decide) dL_bestPrice_9 ?_
      refine r_iconst C0 (v := 0) dL_bestPrice_15 rfl ?_
      exact hend ⟨rfl, rfl⟩ dL_bestPrice_16
    · exact absurd hk1 (by omega)
theorem dL_bestLantern_0 : decode cL_bestLantern 0 = .ok (.aload_n 2, 1) := by decide +kernel
theorem dL_bestLantern_1 : decode cL_bestLantern 1 = .ok (.iconst 0, 1) := by decide +kernel
theorem dL_bestLantern_2 : decode cL_bestLantern 2 = .ok (.aload_n 0, 1) := by decide +kernel
theorem dL_bestLantern_3 : decode cL_bestLantern 3 = .ok (.iload_n 1, 1) := by decide +kernel
theorem dL_bestLantern_4 : decode cL_bestLantern 4 = .ok (.invokevirtual 90, 3) := by decide +kernel
theorem dL_bestLantern_7 : decode cL_bestLantern 7 = .ok (.i2l, 1) := by decide +kernel
theorem dL_bestLantern_8 : decode cL_bestLantern 8 = .ok (.lastore, 1) := by decide +kernel
theorem dL_bestLantern_9 : decode cL_bestLantern 9 = .ok (.goto 6, 3) := by decide +kernel
theorem dL_bestLantern_12 : decode cL_bestLantern 12 = .ok (.astore_n 3, 1) := by decide +kernel
theorem dL_bestLantern_13 : decode cL_bestLantern 13 = .ok (.iconst 1, 1) := by decide +kernel
theorem dL_bestLantern_14 : decode cL_bestLantern 14 = .ok (.ireturn, 1) := by decide +kernel
theorem dL_bestLantern_15 : decode cL_bestLantern 15 = .ok (.iconst 0, 1) := by decide +kernel
theorem dL_bestLantern_16 : decode cL_bestLantern 16 = .ok (.ireturn, 1) := by decide +kernel
theorem hd_L_bestLantern : yL_bestLantern.cls ≠ "java/lang/invoke/MethodHandle" ∧ yL_bestLantern.cls ≠ "java/lang/invoke/VarHandle" ∧ (parseMethodDescriptor yL_bestLantern.desc).map (fun d => d.parameters.length) = some 3 := by decide +kernel
set_option maxRecDepth 100000 in
set_option maxHeartbeats 4000000 in
theorem c_L_bestLantern (l : Launch) (D : va_G) (g : xG) (tb : List xQ) (hT : x_T g tb) (hlst : l.stackTraces = false) {a1 : Int32} (h0 : x_fb tb) (ho : ((9, 5000, 1) : xQ) ∈ tb) {M : xM} {k : Nat} {r : Int32} {M1 : xM} (hf : f_X6_bestLantern a1 M = some (k, r, M1)) {res : Int32} {M2 : xM} (hk : (k = 0 ∧ res = 0 ∧ M2 = upd M1 5000 r) ∨ ∃ i : Nat, ([2] : List Nat)[i]? = some k ∧ 0 < k ∧ res = nI (i + 1) ∧ M2 = M1) :
    cL l D g tb yL_bestLantern cL_bestLantern 4 [(0, 9, 12, 18)] ({ frames := 8, cells := 1, slots := 6, locals := 127 } : Room) 1 [.ref (g.1 4 1664), .int a1, .ref (g.1 9 5000)] M res M2 := by
  refine x_startH (own := RL) (by decide +kernel) rfl rfl (Nat.le_of_ble_eq_true rfl) hT ?_
  intro p e s m args below meth c Q C0 htab hend
  refine r_aload_n C0 (kk := 2) 2 rfl dL_bestLantern_0 ?_
  refine r_iconst C0 (v := 0) dL_bestLantern_1 rfl ?_
  refine r_aload_n C0 (kk := 0) 0 rfl dL_bestLantern_2 ?_
  refine r_iload_n C0 (kk := 1) 1 rfl dL_bestLantern_3 ?_
  refine r_tcallVi C0 (As := [.int a1]) (rest := [.int 0, .ref (g.1 9 5000)]) (c_X6_bestLantern l D g tb hT hlst h0 hf) w5_92 w5_93 w5_94 w1_1 w5_95 (x_rec4 C0 h0.1) hd_X6_bestLantern rfl ⟨rfl, rfl⟩ ⟨Nat.le_of_ble_eq_true rfl, Nat.le_of_ble_eq_true rfl⟩ (by decide) (by decide) rfl (Nat.le_of_ble_eq_true rfl) dL_bestLantern_4 (fun H1 locs1 ls E ce q hk1 hE hH hS hl h1 h2 h3 => ?_) (fun hk1 => ?_)
  · rcases hk with ⟨q0, -, -⟩ | ⟨i, hi, hpos, rfl, rfl⟩
    · exact absurd q0 hk1
    · match i, hi with
      | 0, hi =>
        cases hi
        refine r_catch C0 (k := 2) (by decide) (by decide) hE [] ⟨0, 9, 12, 18⟩ [] (by rw [htab]; rfl) (fun z hz => absurd hz List.not_mem_nil) (by decide) (by decide) w4_120 hH hS hl h1 h2 h3 ?_
        refine r_astore_n C0 (kk := 3) (lv2 := [(3, .ref q), (0, .ref (g.1 4 1664)), (1, .int a1), (2, .ref (g.1 9 5000))]) (by decide) rfl dL_bestLantern_12 ?_
        refine r_iconst C0 (v := 1) dL_bestLantern_13 rfl ?_
        exact hend ⟨rfl, rfl⟩ dL_bestLantern_14
      | n + 1, hi => exact absurd hi (by simp)
  · rcases hk with ⟨-, rfl, rfl⟩ | ⟨i, hi, hpos, -, -⟩
    · refine r_i2l C0 dL_bestLantern_7 ?_
      refine r_last C0 ho (inb_in (i := 0) (n := 1) (by decide)) dL_bestLantern_8 ?_
      refine r_goto C0 (tgt := 15) (by decide) dL_bestLantern_9 ?_
      refine r_iconst C0 (v := 0) dL_bestLantern_15 rfl ?_
      exact hend ⟨rfl, rfl⟩ dL_bestLantern_16
    · exact absurd hk1 (by omega)
theorem dL_addStall_0 : decode cL_addStall 0 = .ok (.aload 6, 2) := by decide +kernel
theorem dL_addStall_2 : decode cL_addStall 2 = .ok (.iconst 0, 1) := by decide +kernel
theorem dL_addStall_3 : decode cL_addStall 3 = .ok (.aload_n 0, 1) := by decide +kernel
theorem dL_addStall_4 : decode cL_addStall 4 = .ok (.iload_n 1, 1) := by decide +kernel
theorem dL_addStall_5 : decode cL_addStall 5 = .ok (.iload_n 2, 1) := by decide +kernel
theorem dL_addStall_6 : decode cL_addStall 6 = .ok (.iload_n 3, 1) := by decide +kernel
theorem dL_addStall_7 : decode cL_addStall 7 = .ok (.iload 4, 2) := by decide +kernel
theorem dL_addStall_9 : decode cL_addStall 9 = .ok (.iload 5, 2) := by decide +kernel
theorem dL_addStall_11 : decode cL_addStall 11 = .ok (.invokevirtual 93, 3) := by decide +kernel
theorem dL_addStall_14 : decode cL_addStall 14 = .ok (.i2l, 1) := by decide +kernel
theorem dL_addStall_15 : decode cL_addStall 15 = .ok (.lastore, 1) := by decide +kernel
theorem dL_addStall_16 : decode cL_addStall 16 = .ok (.goto 11, 3) := by decide +kernel
theorem dL_addStall_19 : decode cL_addStall 19 = .ok (.astore 7, 2) := by decide +kernel
theorem dL_addStall_21 : decode cL_addStall 21 = .ok (.iconst 1, 1) := by decide +kernel
theorem dL_addStall_22 : decode cL_addStall 22 = .ok (.ireturn, 1) := by decide +kernel
theorem dL_addStall_23 : decode cL_addStall 23 = .ok (.astore 7, 2) := by decide +kernel
theorem dL_addStall_25 : decode cL_addStall 25 = .ok (.iconst 2, 1) := by decide +kernel
theorem dL_addStall_26 : decode cL_addStall 26 = .ok (.ireturn, 1) := by decide +kernel
theorem dL_addStall_27 : decode cL_addStall 27 = .ok (.iconst 0, 1) := by decide +kernel
theorem dL_addStall_28 : decode cL_addStall 28 = .ok (.ireturn, 1) := by decide +kernel
theorem hd_L_addStall : yL_addStall.cls ≠ "java/lang/invoke/MethodHandle" ∧ yL_addStall.cls ≠ "java/lang/invoke/VarHandle" ∧ (parseMethodDescriptor yL_addStall.desc).map (fun d => d.parameters.length) = some 7 := by decide +kernel
set_option maxRecDepth 100000 in
set_option maxHeartbeats 4000000 in
theorem c_L_addStall (l : Launch) (D : va_G) (g : xG) (tb : List xQ) (hT : x_T g tb) (hlst : l.stackTraces = false) {a1 : Int32} {a2 : Int32} {a3 : Int32} {a4 : Int32} {a5 : Int32} (h0 : x_fb tb) (ho : ((9, 5000, 1) : xQ) ∈ tb) {M : xM} {k : Nat} {r : Int32} {M1 : xM} (hf : f_X6_addStall a1 a2 a3 a4 a5 M = some (k, r, M1)) {res : Int32} {M2 : xM} (hk : (k = 0 ∧ res = 0 ∧ M2 = upd M1 5000 r) ∨ ∃ i : Nat, ([1, 3] : List Nat)[i]? = some k ∧ 0 < k ∧ res = nI (i + 1) ∧ M2 = M1) :
    cL l D g tb yL_addStall cL_addStall 8 [(0, 16, 19, 13), (0, 16, 23, 97)] ({ frames := 8, cells := 6, slots := 36, locals := 129 } : Room) 6 [.ref (g.1 4 1664), .int a1, .int a2, .int a3, .int a4, .int a5, .ref (g.1 9 5000)] M res M2 := by
  refine x_startH (own := RL) (by decide +kernel) rfl rfl (Nat.le_of_ble_eq_true rfl) hT ?_
  intro p e s m args below meth c Q C0 htab hend
  refine r_aload C0 6 rfl dL_addStall_0 ?_
  refine r_iconst C0 (v := 0) dL_addStall_2 rfl ?_
  refine r_aload_n C0 (kk := 0) 0 rfl dL_addStall_3 ?_
  refine r_iload_n C0 (kk := 1) 1 rfl dL_addStall_4 ?_
  refine r_iload_n C0 (kk := 2) 2 rfl dL_addStall_5 ?_
  refine r_iload_n C0 (kk := 3) 3 rfl dL_addStall_6 ?_
  refine r_iload C0 4 rfl dL_addStall_7 ?_
  refine r_iload C0 5 rfl dL_addStall_9 ?_
  refine r_tcallVi C0 (As := [.int a1, .int a2, .int a3, .int a4, .int a5]) (rest := [.int 0, .ref (g.1 9 5000)]) (c_X6_addStall l D g tb hT hlst h0 hf) w5_100 w5_101 w5_102 w1_1 w5_103 (x_rec4 C0 h0.1) hd_X6_addStall rfl ⟨rfl, rfl⟩ ⟨Nat.le_of_ble_eq_true rfl, Nat.le_of_ble_eq_true rfl⟩ (by decide) (by decide) rfl (Nat.le_of_ble_eq_true rfl) dL_addStall_11 (fun H1 locs1 ls E ce q hk1 hE hH hS hl h1 h2 h3 => ?_) (fun hk1 => ?_)
  · rcases hk with ⟨q0, -, -⟩ | ⟨i, hi, hpos, rfl, rfl⟩
    · exact absurd q0 hk1
    · match i, hi with
      | 0, hi =>
        cases hi
        refine r_catch C0 (k := 1) (by decide) (by decide) hE [] ⟨0, 16, 19, 13⟩ [⟨0, 16, 23, 97⟩] (by rw [htab]; rfl) (fun z hz => absurd hz List.not_mem_nil) (by decide) (by decide) w4_39 hH hS hl h1 h2 h3 ?_
        refine r_astore C0 (lv2 := [(7, .ref q), (0, .ref (g.1 4 1664)), (1, .int a1), (2, .int a2), (3, .int a3), (4, .int a4), (5, .int a5), (6, .ref (g.1 9 5000))]) (by decide) rfl dL_addStall_19 ?_
        refine r_iconst C0 (v := 1) dL_addStall_21 rfl ?_
        exact hend ⟨rfl, rfl⟩ dL_addStall_22
      | 1, hi =>
        cases hi
        refine r_catch C0 (k := 3) (by decide) (by decide) hE [⟨0, 16, 19, 13⟩] ⟨0, 16, 23, 97⟩ [] (by rw [htab]; rfl) (fun z hz => by simp only [List.mem_cons, List.not_mem_nil, or_false] at hz; subst hz; exact ⟨by decide, 1, by decide, by decide, by decide, w4_39⟩) (by decide) (by decide) w5_99 hH hS hl h1 h2 h3 ?_
        refine r_astore C0 (lv2 := [(7, .ref q), (0, .ref (g.1 4 1664)), (1, .int a1), (2, .int a2), (3, .int a3), (4, .int a4), (5, .int a5), (6, .ref (g.1 9 5000))]) (by decide) rfl dL_addStall_23 ?_
        refine r_iconst C0 (v := 2) dL_addStall_25 rfl ?_
        exact hend ⟨rfl, rfl⟩ dL_addStall_26
      | n + 2, hi => exact absurd hi (by simp)
  · rcases hk with ⟨-, rfl, rfl⟩ | ⟨i, hi, hpos, -, -⟩
    · refine r_i2l C0 dL_addStall_14 ?_
      refine r_last C0 ho (inb_in (i := 0) (n := 1) (by decide)) dL_addStall_15 ?_
      refine r_goto C0 (tgt := 27) (by decide) dL_addStall_16 ?_
      refine r_iconst C0 (v := 0) dL_addStall_27 rfl ?_
      exact hend ⟨rfl, rfl⟩ dL_addStall_28
    · exact absurd hk1 (by omega)
theorem dL_addBuyer_0 : decode cL_addBuyer 0 = .ok (.aload 5, 2) := by decide +kernel
theorem dL_addBuyer_2 : decode cL_addBuyer 2 = .ok (.iconst 0, 1) := by decide +kernel
theorem dL_addBuyer_3 : decode cL_addBuyer 3 = .ok (.aload_n 0, 1) := by decide +kernel
theorem dL_addBuyer_4 : decode cL_addBuyer 4 = .ok (.iload_n 1, 1) := by decide +kernel
theorem dL_addBuyer_5 : decode cL_addBuyer 5 = .ok (.iload_n 2, 1) := by decide +kernel
theorem dL_addBuyer_6 : decode cL_addBuyer 6 = .ok (.iload_n 3, 1) := by decide +kernel
theorem dL_addBuyer_7 : decode cL_addBuyer 7 = .ok (.iload 4, 2) := by decide +kernel
theorem dL_addBuyer_9 : decode cL_addBuyer 9 = .ok (.invokevirtual 99, 3) := by decide +kernel
theorem dL_addBuyer_12 : decode cL_addBuyer 12 = .ok (.i2l, 1) := by decide +kernel
theorem dL_addBuyer_13 : decode cL_addBuyer 13 = .ok (.lastore, 1) := by decide +kernel
theorem dL_addBuyer_14 : decode cL_addBuyer 14 = .ok (.goto 11, 3) := by decide +kernel
theorem dL_addBuyer_17 : decode cL_addBuyer 17 = .ok (.astore 6, 2) := by decide +kernel
theorem dL_addBuyer_19 : decode cL_addBuyer 19 = .ok (.iconst 1, 1) := by decide +kernel
theorem dL_addBuyer_20 : decode cL_addBuyer 20 = .ok (.ireturn, 1) := by decide +kernel
theorem dL_addBuyer_21 : decode cL_addBuyer 21 = .ok (.astore 6, 2) := by decide +kernel
theorem dL_addBuyer_23 : decode cL_addBuyer 23 = .ok (.iconst 2, 1) := by decide +kernel
theorem dL_addBuyer_24 : decode cL_addBuyer 24 = .ok (.ireturn, 1) := by decide +kernel
theorem dL_addBuyer_25 : decode cL_addBuyer 25 = .ok (.iconst 0, 1) := by decide +kernel
theorem dL_addBuyer_26 : decode cL_addBuyer 26 = .ok (.ireturn, 1) := by decide +kernel
theorem hd_L_addBuyer : yL_addBuyer.cls ≠ "java/lang/invoke/MethodHandle" ∧ yL_addBuyer.cls ≠ "java/lang/invoke/VarHandle" ∧ (parseMethodDescriptor yL_addBuyer.desc).map (fun d => d.parameters.length) = some 6 := by decide +kernel
set_option maxRecDepth 100000 in
set_option maxHeartbeats 4000000 in
theorem c_L_addBuyer (l : Launch) (D : va_G) (g : xG) (tb : List xQ) (hT : x_T g tb) (hlst : l.stackTraces = false) {a1 : Int32} {a2 : Int32} {a3 : Int32} {a4 : Int32} (h0 : x_fb tb) (ho : ((9, 5000, 1) : xQ) ∈ tb) {M : xM} {k : Nat} {r : Int32} {M1 : xM} (hf : f_X6_addBuyer a1 a2 a3 a4 M = some (k, r, M1)) {res : Int32} {M2 : xM} (hk : (k = 0 ∧ res = 0 ∧ M2 = upd M1 5000 r) ∨ ∃ i : Nat, ([1, 3] : List Nat)[i]? = some k ∧ 0 < k ∧ res = nI (i + 1) ∧ M2 = M1) :
    cL l D g tb yL_addBuyer cL_addBuyer 7 [(0, 14, 17, 13), (0, 14, 21, 97)] ({ frames := 8, cells := 5, slots := 30, locals := 128 } : Room) 5 [.ref (g.1 4 1664), .int a1, .int a2, .int a3, .int a4, .ref (g.1 9 5000)] M res M2 := by
  refine x_startH (own := RL) (by decide +kernel) rfl rfl (Nat.le_of_ble_eq_true rfl) hT ?_
  intro p e s m args below meth c Q C0 htab hend
  refine r_aload C0 5 rfl dL_addBuyer_0 ?_
  refine r_iconst C0 (v := 0) dL_addBuyer_2 rfl ?_
  refine r_aload_n C0 (kk := 0) 0 rfl dL_addBuyer_3 ?_
  refine r_iload_n C0 (kk := 1) 1 rfl dL_addBuyer_4 ?_
  refine r_iload_n C0 (kk := 2) 2 rfl dL_addBuyer_5 ?_
  refine r_iload_n C0 (kk := 3) 3 rfl dL_addBuyer_6 ?_
  refine r_iload C0 4 rfl dL_addBuyer_7 ?_
  refine r_tcallVi C0 (As := [.int a1, .int a2, .int a3, .int a4]) (rest := [.int 0, .ref (g.1 9 5000)]) (c_X6_addBuyer l D g tb hT hlst h0 hf) w5_124 w5_125 w5_126 w1_1 w5_127 (x_rec4 C0 h0.1) hd_X6_addBuyer rfl ⟨rfl, rfl⟩ ⟨Nat.le_of_ble_eq_true rfl, Nat.le_of_ble_eq_true rfl⟩ (by decide) (by decide) rfl (Nat.le_of_ble_eq_true rfl) dL_addBuyer_9 (fun H1 locs1 ls E ce q hk1 hE hH hS hl h1 h2 h3 => ?_) (fun hk1 => ?_)
  · rcases hk with ⟨q0, -, -⟩ | ⟨i, hi, hpos, rfl, rfl⟩
    · exact absurd q0 hk1
    · match i, hi with
      | 0, hi =>
        cases hi
        refine r_catch C0 (k := 1) (by decide) (by decide) hE [] ⟨0, 14, 17, 13⟩ [⟨0, 14, 21, 97⟩] (by rw [htab]; rfl) (fun z hz => absurd hz List.not_mem_nil) (by decide) (by decide) w4_39 hH hS hl h1 h2 h3 ?_
        refine r_astore C0 (lv2 := [(6, .ref q), (0, .ref (g.1 4 1664)), (1, .int a1), (2, .int a2), (3, .int a3), (4, .int a4), (5, .ref (g.1 9 5000))]) (by decide) rfl dL_addBuyer_17 ?_
        refine r_iconst C0 (v := 1) dL_addBuyer_19 rfl ?_
        exact hend ⟨rfl, rfl⟩ dL_addBuyer_20
      | 1, hi =>
        cases hi
        refine r_catch C0 (k := 3) (by decide) (by decide) hE [⟨0, 14, 17, 13⟩] ⟨0, 14, 21, 97⟩ [] (by rw [htab]; rfl) (fun z hz => by simp only [List.mem_cons, List.not_mem_nil, or_false] at hz; subst hz; exact ⟨by decide, 1, by decide, by decide, by decide, w4_39⟩) (by decide) (by decide) w5_99 hH hS hl h1 h2 h3 ?_
        refine r_astore C0 (lv2 := [(6, .ref q), (0, .ref (g.1 4 1664)), (1, .int a1), (2, .int a2), (3, .int a3), (4, .int a4), (5, .ref (g.1 9 5000))]) (by decide) rfl dL_addBuyer_21 ?_
        refine r_iconst C0 (v := 2) dL_addBuyer_23 rfl ?_
        exact hend ⟨rfl, rfl⟩ dL_addBuyer_24
      | n + 2, hi => exact absurd hi (by simp)
  · rcases hk with ⟨-, rfl, rfl⟩ | ⟨i, hi, hpos, -, -⟩
    · refine r_i2l C0 dL_addBuyer_12 ?_
      refine r_last C0 ho (inb_in (i := 0) (n := 1) (by decide)) dL_addBuyer_13 ?_
      refine r_goto C0 (tgt := 25) (by decide) dL_addBuyer_14 ?_
      refine r_iconst C0 (v := 0) dL_addBuyer_25 rfl ?_
      exact hend ⟨rfl, rfl⟩ dL_addBuyer_26
    · exact absurd hk1 (by omega)
theorem dL_setPrice_0 : decode cL_setPrice 0 = .ok (.aload_n 3, 1) := by decide +kernel
theorem dL_setPrice_1 : decode cL_setPrice 1 = .ok (.iconst 0, 1) := by decide +kernel
theorem dL_setPrice_2 : decode cL_setPrice 2 = .ok (.aload_n 0, 1) := by decide +kernel
theorem dL_setPrice_3 : decode cL_setPrice 3 = .ok (.iload_n 1, 1) := by decide +kernel
theorem dL_setPrice_4 : decode cL_setPrice 4 = .ok (.iload_n 2, 1) := by decide +kernel
theorem dL_setPrice_5 : decode cL_setPrice 5 = .ok (.invokevirtual 103, 3) := by decide +kernel
theorem dL_setPrice_8 : decode cL_setPrice 8 = .ok (.i2l, 1) := by decide +kernel
theorem dL_setPrice_9 : decode cL_setPrice 9 = .ok (.lastore, 1) := by decide +kernel
theorem dL_setPrice_10 : decode cL_setPrice 10 = .ok (.goto 11, 3) := by decide +kernel
theorem dL_setPrice_13 : decode cL_setPrice 13 = .ok (.astore 4, 2) := by decide +kernel
theorem dL_setPrice_15 : decode cL_setPrice 15 = .ok (.iconst 1, 1) := by decide +kernel
theorem dL_setPrice_16 : decode cL_setPrice 16 = .ok (.ireturn, 1) := by decide +kernel
theorem dL_setPrice_17 : decode cL_setPrice 17 = .ok (.astore 4, 2) := by decide +kernel
theorem dL_setPrice_19 : decode cL_setPrice 19 = .ok (.iconst 2, 1) := by decide +kernel
theorem dL_setPrice_20 : decode cL_setPrice 20 = .ok (.ireturn, 1) := by decide +kernel
theorem dL_setPrice_21 : decode cL_setPrice 21 = .ok (.iconst 0, 1) := by decide +kernel
theorem dL_setPrice_22 : decode cL_setPrice 22 = .ok (.ireturn, 1) := by decide +kernel
theorem hd_L_setPrice : yL_setPrice.cls ≠ "java/lang/invoke/MethodHandle" ∧ yL_setPrice.cls ≠ "java/lang/invoke/VarHandle" ∧ (parseMethodDescriptor yL_setPrice.desc).map (fun d => d.parameters.length) = some 4 := by decide +kernel
set_option maxRecDepth 100000 in
set_option maxHeartbeats 4000000 in
theorem c_L_setPrice (l : Launch) (D : va_G) (g : xG) (tb : List xQ) (hT : x_T g tb) (hlst : l.stackTraces = false) {a1 : Int32} {a2 : Int32} (h0 : x_fb tb) (ho : ((9, 5000, 1) : xQ) ∈ tb) {M : xM} {k : Nat} {r : Int32} {M1 : xM} (hf : f_X6_setPrice a1 a2 M = some (k, r, M1)) {res : Int32} {M2 : xM} (hk : (k = 0 ∧ res = 0 ∧ M2 = upd M1 5000 r) ∨ ∃ i : Nat, ([2, 1] : List Nat)[i]? = some k ∧ 0 < k ∧ res = nI (i + 1) ∧ M2 = M1) :
    cL l D g tb yL_setPrice cL_setPrice 5 [(0, 10, 13, 18), (0, 10, 17, 13)] ({ frames := 9, cells := 2, slots := 12, locals := 148 } : Room) 2 [.ref (g.1 4 1664), .int a1, .int a2, .ref (g.1 9 5000)] M res M2 := by
  refine x_startH (own := RL) (by decide +kernel) rfl rfl (Nat.le_of_ble_eq_true rfl) hT ?_
  intro p e s m args below meth c Q C0 htab hend
  refine r_aload_n C0 (kk := 3) 3 rfl dL_setPrice_0 ?_
  refine r_iconst C0 (v := 0) dL_setPrice_1 rfl ?_
  refine r_aload_n C0 (kk := 0) 0 rfl dL_setPrice_2 ?_
  refine r_iload_n C0 (kk := 1) 1 rfl dL_setPrice_3 ?_
  refine r_iload_n C0 (kk := 2) 2 rfl dL_setPrice_4 ?_
  refine r_tcallVi C0 (As := [.int a1, .int a2]) (rest := [.int 0, .ref (g.1 9 5000)]) (c_X6_setPrice l D g tb hT hlst h0 hf) w5_133 w5_134 w5_135 w1_1 w5_136 (x_rec4 C0 h0.1) hd_X6_setPrice rfl ⟨rfl, rfl⟩ ⟨Nat.le_of_ble_eq_true rfl, Nat.le_of_ble_eq_true rfl⟩ (by decide) (by decide) rfl (Nat.le_of_ble_eq_true rfl) dL_setPrice_5 (fun H1 locs1 ls E ce q hk1 hE hH hS hl h1 h2 h3 => ?_) (fun hk1 => ?_)
  · rcases hk with ⟨q0, -, -⟩ | ⟨i, hi, hpos, rfl, rfl⟩
    · exact absurd q0 hk1
    · match i, hi with
      | 0, hi =>
        cases hi
        refine r_catch C0 (k := 2) (by decide) (by decide) hE [] ⟨0, 10, 13, 18⟩ [⟨0, 10, 17, 13⟩] (by rw [htab]; rfl) (fun z hz => absurd hz List.not_mem_nil) (by decide) (by decide) w4_120 hH hS hl h1 h2 h3 ?_
        refine r_astore C0 (lv2 := [(4, .ref q), (0, .ref (g.1 4 1664)), (1, .int a1), (2, .int a2), (3, .ref (g.1 9 5000))]) (by decide) rfl dL_setPrice_13 ?_
        refine r_iconst C0 (v := 1) dL_setPrice_15 rfl ?_
        exact hend ⟨rfl, rfl⟩ dL_setPrice_16
      | 1, hi =>
        cases hi
        refine r_catch C0 (k := 1) (by decide) (by decide) hE [⟨0, 10, 13, 18⟩] ⟨0, 10, 17, 13⟩ [] (by rw [htab]; rfl) (fun z hz => by simp only [List.mem_cons, List.not_mem_nil, or_false] at hz; subst hz; exact ⟨by decide, 2, by decide, by decide, by decide, w4_120⟩) (by decide) (by decide) w4_39 hH hS hl h1 h2 h3 ?_
        refine r_astore C0 (lv2 := [(4, .ref q), (0, .ref (g.1 4 1664)), (1, .int a1), (2, .int a2), (3, .ref (g.1 9 5000))]) (by decide) rfl dL_setPrice_17 ?_
        refine r_iconst C0 (v := 2) dL_setPrice_19 rfl ?_
        exact hend ⟨rfl, rfl⟩ dL_setPrice_20
      | n + 2, hi => exact absurd hi (by simp)
  · rcases hk with ⟨-, rfl, rfl⟩ | ⟨i, hi, hpos, -, -⟩
    · refine r_i2l C0 dL_setPrice_8 ?_
      refine r_last C0 ho (inb_in (i := 0) (n := 1) (by decide)) dL_setPrice_9 ?_
      refine r_goto C0 (tgt := 21) (by decide) dL_setPrice_10 ?_
      refine r_iconst C0 (v := 0) dL_setPrice_21 rfl ?_
      exact hend ⟨rfl, rfl⟩ dL_setPrice_22
    · exact absurd hk1 (by omega)
theorem dL_addStock_0 : decode cL_addStock 0 = .ok (.aload_n 3, 1) := by decide +kernel
theorem dL_addStock_1 : decode cL_addStock 1 = .ok (.iconst 0, 1) := by decide +kernel
theorem dL_addStock_2 : decode cL_addStock 2 = .ok (.aload_n 0, 1) := by decide +kernel
theorem dL_addStock_3 : decode cL_addStock 3 = .ok (.iload_n 1, 1) := by decide +kernel
theorem dL_addStock_4 : decode cL_addStock 4 = .ok (.iload_n 2, 1) := by decide +kernel
theorem dL_addStock_5 : decode cL_addStock 5 = .ok (.invokevirtual 106, 3) := by decide +kernel
theorem dL_addStock_8 : decode cL_addStock 8 = .ok (.i2l, 1) := by decide +kernel
theorem dL_addStock_9 : decode cL_addStock 9 = .ok (.lastore, 1) := by decide +kernel
theorem dL_addStock_10 : decode cL_addStock 10 = .ok (.goto 15, 3) := by decide +kernel
theorem dL_addStock_13 : decode cL_addStock 13 = .ok (.astore 4, 2) := by decide +kernel
theorem dL_addStock_15 : decode cL_addStock 15 = .ok (.iconst 1, 1) := by decide +kernel
theorem dL_addStock_16 : decode cL_addStock 16 = .ok (.ireturn, 1) := by decide +kernel
theorem dL_addStock_17 : decode cL_addStock 17 = .ok (.astore 4, 2) := by decide +kernel
theorem dL_addStock_19 : decode cL_addStock 19 = .ok (.iconst 2, 1) := by decide +kernel
theorem dL_addStock_20 : decode cL_addStock 20 = .ok (.ireturn, 1) := by decide +kernel
theorem dL_addStock_21 : decode cL_addStock 21 = .ok (.astore 4, 2) := by decide +kernel
theorem dL_addStock_23 : decode cL_addStock 23 = .ok (.iconst 3, 1) := by decide +kernel
theorem dL_addStock_24 : decode cL_addStock 24 = .ok (.ireturn, 1) := by decide +kernel
theorem dL_addStock_25 : decode cL_addStock 25 = .ok (.iconst 0, 1) := by decide +kernel
theorem dL_addStock_26 : decode cL_addStock 26 = .ok (.ireturn, 1) := by decide +kernel
theorem hd_L_addStock : yL_addStock.cls ≠ "java/lang/invoke/MethodHandle" ∧ yL_addStock.cls ≠ "java/lang/invoke/VarHandle" ∧ (parseMethodDescriptor yL_addStock.desc).map (fun d => d.parameters.length) = some 4 := by decide +kernel
set_option maxRecDepth 100000 in
set_option maxHeartbeats 4000000 in
theorem c_L_addStock (l : Launch) (D : va_G) (g : xG) (tb : List xQ) (hT : x_T g tb) (hlst : l.stackTraces = false) {a1 : Int32} {a2 : Int32} (h0 : x_fb tb) (ho : ((9, 5000, 1) : xQ) ∈ tb) {M : xM} {k : Nat} {r : Int32} {M1 : xM} (hf : f_X6_addStock a1 a2 M = some (k, r, M1)) {res : Int32} {M2 : xM} (hk : (k = 0 ∧ res = 0 ∧ M2 = upd M1 5000 r) ∨ ∃ i : Nat, ([2, 1, 3] : List Nat)[i]? = some k ∧ 0 < k ∧ res = nI (i + 1) ∧ M2 = M1) :
    cL l D g tb yL_addStock cL_addStock 5 [(0, 10, 13, 18), (0, 10, 17, 13), (0, 10, 21, 97)] ({ frames := 9, cells := 3, slots := 18, locals := 147 } : Room) 3 [.ref (g.1 4 1664), .int a1, .int a2, .ref (g.1 9 5000)] M res M2 := by
  refine x_startH (own := RL) (by decide +kernel) rfl rfl (Nat.le_of_ble_eq_true rfl) hT ?_
  intro p e s m args below meth c Q C0 htab hend
  refine r_aload_n C0 (kk := 3) 3 rfl dL_addStock_0 ?_
  refine r_iconst C0 (v := 0) dL_addStock_1 rfl ?_
  refine r_aload_n C0 (kk := 0) 0 rfl dL_addStock_2 ?_
  refine r_iload_n C0 (kk := 1) 1 rfl dL_addStock_3 ?_
  refine r_iload_n C0 (kk := 2) 2 rfl dL_addStock_4 ?_
  refine r_tcallVi C0 (As := [.int a1, .int a2]) (rest := [.int 0, .ref (g.1 9 5000)]) (c_X6_addStock l D g tb hT hlst h0 hf) w5_140 w5_141 w5_142 w1_1 w5_143 (x_rec4 C0 h0.1) hd_X6_addStock rfl ⟨rfl, rfl⟩ ⟨Nat.le_of_ble_eq_true rfl, Nat.le_of_ble_eq_true rfl⟩ (by decide) (by decide) rfl (Nat.le_of_ble_eq_true rfl) dL_addStock_5 (fun H1 locs1 ls E ce q hk1 hE hH hS hl h1 h2 h3 => ?_) (fun hk1 => ?_)
  · rcases hk with ⟨q0, -, -⟩ | ⟨i, hi, hpos, rfl, rfl⟩
    · exact absurd q0 hk1
    · match i, hi with
      | 0, hi =>
        cases hi
        refine r_catch C0 (k := 2) (by decide) (by decide) hE [] ⟨0, 10, 13, 18⟩ [⟨0, 10, 17, 13⟩, ⟨0, 10, 21, 97⟩] (by rw [htab]; rfl) (fun z hz => absurd hz List.not_mem_nil) (by decide) (by decide) w4_120 hH hS hl h1 h2 h3 ?_
        refine r_astore C0 (lv2 := [(4, .ref q), (0, .ref (g.1 4 1664)), (1, .int a1), (2, .int a2), (3, .ref (g.1 9 5000))]) (by decide) rfl dL_addStock_13 ?_
        refine r_iconst C0 (v := 1) dL_addStock_15 rfl ?_
        exact hend ⟨rfl, rfl⟩ dL_addStock_16
      | 1, hi =>
        cases hi
        refine r_catch C0 (k := 1) (by decide) (by decide) hE [⟨0, 10, 13, 18⟩] ⟨0, 10, 17, 13⟩ [⟨0, 10, 21, 97⟩] (by rw [htab]; rfl) (fun z hz => by simp only [List.mem_cons, List.not_mem_nil, or_false] at hz; subst hz; exact ⟨by decide, 2, by decide, by decide, by decide, w4_120⟩) (by decide) (by decide) w4_39 hH hS hl h1 h2 h3 ?_
        refine r_astore C0 (lv2 := [(4, .ref q), (0, .ref (g.1 4 1664)), (1, .int a1), (2, .int a2), (3, .ref (g.1 9 5000))]) (by decide) rfl dL_addStock_17 ?_
        refine r_iconst C0 (v := 2) dL_addStock_19 rfl ?_
        exact hend ⟨rfl, rfl⟩ dL_addStock_20
      | 2, hi =>
        cases hi
        refine r_catch C0 (k := 3) (by decide) (by decide) hE [⟨0, 10, 13, 18⟩, ⟨0, 10, 17, 13⟩] ⟨0, 10, 21, 97⟩ [] (by rw [htab]; rfl) (fun z hz => ?_) (by decide) (by decide) w5_99 hH hS hl h1 h2 h3 ?_
        · simp only [List.mem_cons, List.not_mem_nil, or_false] at hz
          rcases hz with rfl | rfl
          · exact ⟨by decide, 2, by decide, by decide, by decide, w4_120⟩
          · exact ⟨by decide, 1, by decide, by decide, by decide, w4_39⟩
        refine r_astore C0 (lv2 := [(4, .ref q), (0, .ref (g.1 4 1664)), (1, .int a1), (2, .int a2), (3, .ref (g.1 9 5000))]) (by decide) rfl dL_addStock_21 ?_
        refine r_iconst C0 (v := 3) dL_addStock_23 rfl ?_
        exact hend ⟨rfl, rfl⟩ dL_addStock_24
      | n + 3, hi => exact absurd hi (by simp)
  · rcases hk with ⟨-, rfl, rfl⟩ | ⟨i, hi, hpos, -, -⟩
    · refine r_i2l C0 dL_addStock_8 ?_
      refine r_last C0 ho (inb_in (i := 0) (n := 1) (by decide)) dL_addStock_9 ?_
      refine r_goto C0 (tgt := 25) (by decide) dL_addStock_10 ?_
      refine r_iconst C0 (v := 0) dL_addStock_25 rfl ?_
      exact hend ⟨rfl, rfl⟩ dL_addStock_26
    · exact absurd hk1 (by omega)
theorem dL_setLantern_0 : decode cL_setLantern 0 = .ok (.aload_n 3, 1) := by decide +kernel
theorem dL_setLantern_1 : decode cL_setLantern 1 = .ok (.iconst 0, 1) := by decide +kernel
theorem dL_setLantern_2 : decode cL_setLantern 2 = .ok (.aload_n 0, 1) := by decide +kernel
theorem dL_setLantern_3 : decode cL_setLantern 3 = .ok (.iload_n 1, 1) := by decide +kernel
theorem dL_setLantern_4 : decode cL_setLantern 4 = .ok (.iload_n 2, 1) := by decide +kernel
theorem dL_setLantern_5 : decode cL_setLantern 5 = .ok (.invokevirtual 109, 3) := by decide +kernel
theorem dL_setLantern_8 : decode cL_setLantern 8 = .ok (.i2l, 1) := by decide +kernel
theorem dL_setLantern_9 : decode cL_setLantern 9 = .ok (.lastore, 1) := by decide +kernel
theorem dL_setLantern_10 : decode cL_setLantern 10 = .ok (.goto 11, 3) := by decide +kernel
theorem dL_setLantern_13 : decode cL_setLantern 13 = .ok (.astore 4, 2) := by decide +kernel
theorem dL_setLantern_15 : decode cL_setLantern 15 = .ok (.iconst 1, 1) := by decide +kernel
theorem dL_setLantern_16 : decode cL_setLantern 16 = .ok (.ireturn, 1) := by decide +kernel
theorem dL_setLantern_17 : decode cL_setLantern 17 = .ok (.astore 4, 2) := by decide +kernel
theorem dL_setLantern_19 : decode cL_setLantern 19 = .ok (.iconst 2, 1) := by decide +kernel
theorem dL_setLantern_20 : decode cL_setLantern 20 = .ok (.ireturn, 1) := by decide +kernel
theorem dL_setLantern_21 : decode cL_setLantern 21 = .ok (.iconst 0, 1) := by decide +kernel
theorem dL_setLantern_22 : decode cL_setLantern 22 = .ok (.ireturn, 1) := by decide +kernel
theorem hd_L_setLantern : yL_setLantern.cls ≠ "java/lang/invoke/MethodHandle" ∧ yL_setLantern.cls ≠ "java/lang/invoke/VarHandle" ∧ (parseMethodDescriptor yL_setLantern.desc).map (fun d => d.parameters.length) = some 4 := by decide +kernel
set_option maxRecDepth 100000 in
set_option maxHeartbeats 4000000 in
theorem c_L_setLantern (l : Launch) (D : va_G) (g : xG) (tb : List xQ) (hT : x_T g tb) (hlst : l.stackTraces = false) {a1 : Int32} {a2 : Int32} (h0 : x_fb tb) (ho : ((9, 5000, 1) : xQ) ∈ tb) {M : xM} {k : Nat} {r : Int32} {M1 : xM} (hf : f_X6_setLantern a1 a2 M = some (k, r, M1)) {res : Int32} {M2 : xM} (hk : (k = 0 ∧ res = 0 ∧ M2 = upd M1 5000 r) ∨ ∃ i : Nat, ([2, 1] : List Nat)[i]? = some k ∧ 0 < k ∧ res = nI (i + 1) ∧ M2 = M1) :
    cL l D g tb yL_setLantern cL_setLantern 5 [(0, 10, 13, 18), (0, 10, 17, 13)] ({ frames := 9, cells := 2, slots := 12, locals := 148 } : Room) 2 [.ref (g.1 4 1664), .int a1, .int a2, .ref (g.1 9 5000)] M res M2 := by
  refine x_startH (own := RL) (by decide +kernel) rfl rfl (Nat.le_of_ble_eq_true rfl) hT ?_
  intro p e s m args below meth c Q C0 htab hend
  refine r_aload_n C0 (kk := 3) 3 rfl dL_setLantern_0 ?_
  refine r_iconst C0 (v := 0) dL_setLantern_1 rfl ?_
  refine r_aload_n C0 (kk := 0) 0 rfl dL_setLantern_2 ?_
  refine r_iload_n C0 (kk := 1) 1 rfl dL_setLantern_3 ?_
  refine r_iload_n C0 (kk := 2) 2 rfl dL_setLantern_4 ?_
  refine r_tcallVi C0 (As := [.int a1, .int a2]) (rest := [.int 0, .ref (g.1 9 5000)]) (c_X6_setLantern l D g tb hT hlst h0 hf) w5_150 w5_151 w5_152 w1_1 w5_153 (x_rec4 C0 h0.1) hd_X6_setLantern rfl ⟨rfl, rfl⟩ ⟨Nat.le_of_ble_eq_true rfl, Nat.le_of_ble_eq_true rfl⟩ (by decide) (by decide) rfl (Nat.le_of_ble_eq_true rfl) dL_setLantern_5 (fun H1 locs1 ls E ce q hk1 hE hH hS hl h1 h2 h3 => ?_) (fun hk1 => ?_)
  · rcases hk with ⟨q0, -, -⟩ | ⟨i, hi, hpos, rfl, rfl⟩
    · exact absurd q0 hk1
    · match i, hi with
      | 0, hi =>
        cases hi
        refine r_catch C0 (k := 2) (by decide) (by decide) hE [] ⟨0, 10, 13, 18⟩ [⟨0, 10, 17, 13⟩] (by rw [htab]; rfl) (fun z hz => absurd hz List.not_mem_nil) (by decide) (by decide) w4_120 hH hS hl h1 h2 h3 ?_
        refine r_astore C0 (lv2 := [(4, .ref q), (0, .ref (g.1 4 1664)), (1, .int a1), (2, .int a2), (3, .ref (g.1 9 5000))]) (by decide) rfl dL_setLantern_13 ?_
        refine r_iconst C0 (v := 1) dL_setLantern_15 rfl ?_
        exact hend ⟨rfl, rfl⟩ dL_setLantern_16
      | 1, hi =>
        cases hi
        refine r_catch C0 (k := 1) (by decide) (by decide) hE [⟨0, 10, 13, 18⟩] ⟨0, 10, 17, 13⟩ [] (by rw [htab]; rfl) (fun z hz => by simp only [List.mem_cons, List.not_mem_nil, or_false] at hz; subst hz; exact ⟨by decide, 2, by decide, by decide, by decide, w4_120⟩) (by decide) (by decide) w4_39 hH hS hl h1 h2 h3 ?_
        refine r_astore C0 (lv2 := [(4, .ref q), (0, .ref (g.1 4 1664)), (1, .int a1), (2, .int a2), (3, .ref (g.1 9 5000))]) (by decide) rfl dL_setLantern_17 ?_
        refine r_iconst C0 (v := 2) dL_setLantern_19 rfl ?_
        exact hend ⟨rfl, rfl⟩ dL_setLantern_20
      | n + 2, hi => exact absurd hi (by simp)
  · rcases hk with ⟨-, rfl, rfl⟩ | ⟨i, hi, hpos, -, -⟩
    · refine r_i2l C0 dL_setLantern_8 ?_
      refine r_last C0 ho (inb_in (i := 0) (n := 1) (by decide)) dL_setLantern_9 ?_
      refine r_goto C0 (tgt := 21) (by decide) dL_setLantern_10 ?_
      refine r_iconst C0 (v := 0) dL_setLantern_21 rfl ?_
      exact hend ⟨rfl, rfl⟩ dL_setLantern_22
    · exact absurd hk1 (by omega)
theorem dL_moveStall_0 : decode cL_moveStall 0 = .ok (.aload_n 3, 1) := by decide +kernel
theorem dL_moveStall_1 : decode cL_moveStall 1 = .ok (.iconst 0, 1) := by decide +kernel
theorem dL_moveStall_2 : decode cL_moveStall 2 = .ok (.aload_n 0, 1) := by decide +kernel
theorem dL_moveStall_3 : decode cL_moveStall 3 = .ok (.iload_n 1, 1) := by decide +kernel
theorem dL_moveStall_4 : decode cL_moveStall 4 = .ok (.iload_n 2, 1) := by decide +kernel
theorem dL_moveStall_5 : decode cL_moveStall 5 = .ok (.invokevirtual 112, 3) := by decide +kernel
theorem dL_moveStall_8 : decode cL_moveStall 8 = .ok (.i2l, 1) := by decide +kernel
theorem dL_moveStall_9 : decode cL_moveStall 9 = .ok (.lastore, 1) := by decide +kernel
theorem dL_moveStall_10 : decode cL_moveStall 10 = .ok (.goto 11, 3) := by decide +kernel
theorem dL_moveStall_13 : decode cL_moveStall 13 = .ok (.astore 4, 2) := by decide +kernel
theorem dL_moveStall_15 : decode cL_moveStall 15 = .ok (.iconst 1, 1) := by decide +kernel
theorem dL_moveStall_16 : decode cL_moveStall 16 = .ok (.ireturn, 1) := by decide +kernel
theorem dL_moveStall_17 : decode cL_moveStall 17 = .ok (.astore 4, 2) := by decide +kernel
theorem dL_moveStall_19 : decode cL_moveStall 19 = .ok (.iconst 2, 1) := by decide +kernel
theorem dL_moveStall_20 : decode cL_moveStall 20 = .ok (.ireturn, 1) := by decide +kernel
theorem dL_moveStall_21 : decode cL_moveStall 21 = .ok (.iconst 0, 1) := by decide +kernel
theorem dL_moveStall_22 : decode cL_moveStall 22 = .ok (.ireturn, 1) := by decide +kernel
theorem hd_L_moveStall : yL_moveStall.cls ≠ "java/lang/invoke/MethodHandle" ∧ yL_moveStall.cls ≠ "java/lang/invoke/VarHandle" ∧ (parseMethodDescriptor yL_moveStall.desc).map (fun d => d.parameters.length) = some 4 := by decide +kernel
set_option maxRecDepth 100000 in
set_option maxHeartbeats 4000000 in
theorem c_L_moveStall (l : Launch) (D : va_G) (g : xG) (tb : List xQ) (hT : x_T g tb) (hlst : l.stackTraces = false) {a1 : Int32} {a2 : Int32} (h0 : x_fb tb) (ho : ((9, 5000, 1) : xQ) ∈ tb) {M : xM} {k : Nat} {r : Int32} {M1 : xM} (hf : f_X6_moveStall a1 a2 M = some (k, r, M1)) {res : Int32} {M2 : xM} (hk : (k = 0 ∧ res = 0 ∧ M2 = upd M1 5000 r) ∨ ∃ i : Nat, ([2, 1] : List Nat)[i]? = some k ∧ 0 < k ∧ res = nI (i + 1) ∧ M2 = M1) :
    cL l D g tb yL_moveStall cL_moveStall 5 [(0, 10, 13, 18), (0, 10, 17, 13)] ({ frames := 9, cells := 2, slots := 12, locals := 148 } : Room) 2 [.ref (g.1 4 1664), .int a1, .int a2, .ref (g.1 9 5000)] M res M2 := by
  refine x_startH (own := RL) (by decide +kernel) rfl rfl (Nat.le_of_ble_eq_true rfl) hT ?_
  intro p e s m args below meth c Q C0 htab hend
  refine r_aload_n C0 (kk := 3) 3 rfl dL_moveStall_0 ?_
  refine r_iconst C0 (v := 0) dL_moveStall_1 rfl ?_
  refine r_aload_n C0 (kk := 0) 0 rfl dL_moveStall_2 ?_
  refine r_iload_n C0 (kk := 1) 1 rfl dL_moveStall_3 ?_
  refine r_iload_n C0 (kk := 2) 2 rfl dL_moveStall_4 ?_
  refine r_tcallVi C0 (As := [.int a1, .int a2]) (rest := [.int 0, .ref (g.1 9 5000)]) (c_X6_moveStall l D g tb hT hlst h0 hf) w5_157 w5_158 w5_159 w1_1 w5_160 (x_rec4 C0 h0.1) hd_X6_moveStall rfl ⟨rfl, rfl⟩ ⟨Nat.le_of_ble_eq_true rfl, Nat.le_of_ble_eq_true rfl⟩ (by decide) (by decide) rfl (Nat.le_of_ble_eq_true rfl) dL_moveStall_5 (fun H1 locs1 ls E ce q hk1 hE hH hS hl h1 h2 h3 => ?_) (fun hk1 => ?_)
  · rcases hk with ⟨q0, -, -⟩ | ⟨i, hi, hpos, rfl, rfl⟩
    · exact absurd q0 hk1
    · match i, hi with
      | 0, hi =>
        cases hi
        refine r_catch C0 (k := 2) (by decide) (by decide) hE [] ⟨0, 10, 13, 18⟩ [⟨0, 10, 17, 13⟩] (by rw [htab]; rfl) (fun z hz => absurd hz List.not_mem_nil) (by decide) (by decide) w4_120 hH hS hl h1 h2 h3 ?_
        refine r_astore C0 (lv2 := [(4, .ref q), (0, .ref (g.1 4 1664)), (1, .int a1), (2, .int a2), (3, .ref (g.1 9 5000))]) (by decide) rfl dL_moveStall_13 ?_
        refine r_iconst C0 (v := 1) dL_moveStall_15 rfl ?_
        exact hend ⟨rfl, rfl⟩ dL_moveStall_16
      | 1, hi =>
        cases hi
        refine r_catch C0 (k := 1) (by decide) (by decide) hE [⟨0, 10, 13, 18⟩] ⟨0, 10, 17, 13⟩ [] (by rw [htab]; rfl) (fun z hz => by simp only [List.mem_cons, List.not_mem_nil, or_false] at hz; subst hz; exact ⟨by decide, 2, by decide, by decide, by decide, w4_120⟩) (by decide) (by decide) w4_39 hH hS hl h1 h2 h3 ?_
        refine r_astore C0 (lv2 := [(4, .ref q), (0, .ref (g.1 4 1664)), (1, .int a1), (2, .int a2), (3, .ref (g.1 9 5000))]) (by decide) rfl dL_moveStall_17 ?_
        refine r_iconst C0 (v := 2) dL_moveStall_19 rfl ?_
        exact hend ⟨rfl, rfl⟩ dL_moveStall_20
      | n + 2, hi => exact absurd hi (by simp)
  · rcases hk with ⟨-, rfl, rfl⟩ | ⟨i, hi, hpos, -, -⟩
    · refine r_i2l C0 dL_moveStall_8 ?_
      refine r_last C0 ho (inb_in (i := 0) (n := 1) (by decide)) dL_moveStall_9 ?_
      refine r_goto C0 (tgt := 21) (by decide) dL_moveStall_10 ?_
      refine r_iconst C0 (v := 0) dL_moveStall_21 rfl ?_
      exact hend ⟨rfl, rfl⟩ dL_moveStall_22
    · exact absurd hk1 (by omega)
theorem dL_setFog_0 : decode cL_setFog 0 = .ok (.aload_n 3, 1) := by decide +kernel
theorem dL_setFog_1 : decode cL_setFog 1 = .ok (.iconst 0, 1) := by decide +kernel
theorem dL_setFog_2 : decode cL_setFog 2 = .ok (.aload_n 0, 1) := by decide +kernel
theorem dL_setFog_3 : decode cL_setFog 3 = .ok (.iload_n 1, 1) := by decide +kernel
theorem dL_setFog_4 : decode cL_setFog 4 = .ok (.iload_n 2, 1) := by decide +kernel
theorem dL_setFog_5 : decode cL_setFog 5 = .ok (.invokevirtual 115, 3) := by decide +kernel
theorem dL_setFog_8 : decode cL_setFog 8 = .ok (.i2l, 1) := by decide +kernel
theorem dL_setFog_9 : decode cL_setFog 9 = .ok (.lastore, 1) := by decide +kernel
theorem dL_setFog_10 : decode cL_setFog 10 = .ok (.goto 11, 3) := by decide +kernel
theorem dL_setFog_13 : decode cL_setFog 13 = .ok (.astore 4, 2) := by decide +kernel
theorem dL_setFog_15 : decode cL_setFog 15 = .ok (.iconst 1, 1) := by decide +kernel
theorem dL_setFog_16 : decode cL_setFog 16 = .ok (.ireturn, 1) := by decide +kernel
theorem dL_setFog_17 : decode cL_setFog 17 = .ok (.astore 4, 2) := by decide +kernel
theorem dL_setFog_19 : decode cL_setFog 19 = .ok (.iconst 2, 1) := by decide +kernel
theorem dL_setFog_20 : decode cL_setFog 20 = .ok (.ireturn, 1) := by decide +kernel
theorem dL_setFog_21 : decode cL_setFog 21 = .ok (.iconst 0, 1) := by decide +kernel
theorem dL_setFog_22 : decode cL_setFog 22 = .ok (.ireturn, 1) := by decide +kernel
theorem hd_L_setFog : yL_setFog.cls ≠ "java/lang/invoke/MethodHandle" ∧ yL_setFog.cls ≠ "java/lang/invoke/VarHandle" ∧ (parseMethodDescriptor yL_setFog.desc).map (fun d => d.parameters.length) = some 4 := by decide +kernel
set_option maxRecDepth 100000 in
set_option maxHeartbeats 4000000 in
theorem c_L_setFog (l : Launch) (D : va_G) (g : xG) (tb : List xQ) (hT : x_T g tb) (hlst : l.stackTraces = false) {a1 : Int32} {a2 : Int32} (h0 : x_fb tb) (ho : ((9, 5000, 1) : xQ) ∈ tb) {M : xM} {k : Nat} {r : Int32} {M1 : xM} (hf : f_X6_setFog a1 a2 M = some (k, r, M1)) {res : Int32} {M2 : xM} (hk : (k = 0 ∧ res = 0 ∧ M2 = upd M1 5000 r) ∨ ∃ i : Nat, ([2, 1] : List Nat)[i]? = some k ∧ 0 < k ∧ res = nI (i + 1) ∧ M2 = M1) :
    cL l D g tb yL_setFog cL_setFog 5 [(0, 10, 13, 18), (0, 10, 17, 13)] ({ frames := 8, cells := 1, slots := 6, locals := 127 } : Room) 1 [.ref (g.1 4 1664), .int a1, .int a2, .ref (g.1 9 5000)] M res M2 := by
  refine x_startH (own := RL) (by decide +kernel) rfl rfl (Nat.le_of_ble_eq_true rfl) hT ?_
  intro p e s m args below meth c Q C0 htab hend
  refine r_aload_n C0 (kk := 3) 3 rfl dL_setFog_0 ?_
  refine r_iconst C0 (v := 0) dL_setFog_1 rfl ?_
  refine r_aload_n C0 (kk := 0) 0 rfl dL_setFog_2 ?_
  refine r_iload_n C0 (kk := 1) 1 rfl dL_setFog_3 ?_
  refine r_iload_n C0 (kk := 2) 2 rfl dL_setFog_4 ?_
  refine r_tcallVi C0 (As := [.int a1, .int a2]) (rest := [.int 0, .ref (g.1 9 5000)]) (c_X6_setFog l D g tb hT hlst h0 hf) w5_164 w5_165 w5_166 w1_1 w5_167 (x_rec4 C0 h0.1) hd_X6_setFog rfl ⟨rfl, rfl⟩ ⟨Nat.le_of_ble_eq_true rfl, Nat.le_of_ble_eq_true rfl⟩ (by decide) (by decide) rfl (Nat.le_of_ble_eq_true rfl) dL_setFog_5 (fun H1 locs1 ls E ce q hk1 hE hH hS hl h1 h2 h3 => ?_) (fun hk1 => ?_)
  · rcases hk with ⟨q0, -, -⟩ | ⟨i, hi, hpos, rfl, rfl⟩
    · exact absurd q0 hk1
    · match i, hi with
      | 0, hi =>
        cases hi
        refine r_catch C0 (k := 2) (by decide) (by decide) hE [] ⟨0, 10, 13, 18⟩ [⟨0, 10, 17, 13⟩] (by rw [htab]; rfl) (fun z hz => absurd hz List.not_mem_nil) (by decide) (by decide) w4_120 hH hS hl h1 h2 h3 ?_
        refine r_astore C0 (lv2 := [(4, .ref q), (0, .ref (g.1 4 1664)), (1, .int a1), (2, .int a2), (3, .ref (g.1 9 5000))]) (by decide) rfl dL_setFog_13 ?_
        refine r_iconst C0 (v := 1) dL_setFog_15 rfl ?_
        exact hend ⟨rfl, rfl⟩ dL_setFog_16
      | 1, hi =>
        cases hi
        refine r_catch C0 (k := 1) (by decide) (by decide) hE [⟨0, 10, 13, 18⟩] ⟨0, 10, 17, 13⟩ [] (by rw [htab]; rfl) (fun z hz => by simp only [List.mem_cons, List.not_mem_nil, or_false] at hz; subst hz; exact ⟨by decide, 2, by decide, by decide, by decide, w4_120⟩) (by decide) (by decide) w4_39 hH hS hl h1 h2 h3 ?_
        refine r_astore C0 (lv2 := [(4, .ref q), (0, .ref (g.1 4 1664)), (1, .int a1), (2, .int a2), (3, .ref (g.1 9 5000))]) (by decide) rfl dL_setFog_17 ?_
        refine r_iconst C0 (v := 2) dL_setFog_19 rfl ?_
        exact hend ⟨rfl, rfl⟩ dL_setFog_20
      | n + 2, hi => exact absurd hi (by simp)
  · rcases hk with ⟨-, rfl, rfl⟩ | ⟨i, hi, hpos, -, -⟩
    · refine r_i2l C0 dL_setFog_8 ?_
      refine r_last C0 ho (inb_in (i := 0) (n := 1) (by decide)) dL_setFog_9 ?_
      refine r_goto C0 (tgt := 21) (by decide) dL_setFog_10 ?_
      refine r_iconst C0 (v := 0) dL_setFog_21 rfl ?_
      exact hend ⟨rfl, rfl⟩ dL_setFog_22
    · exact absurd hk1 (by omega)
theorem dL_putBack_0 : decode cL_putBack 0 = .ok (.aload_n 2, 1) := by decide +kernel
theorem dL_putBack_1 : decode cL_putBack 1 = .ok (.iconst 0, 1) := by decide +kernel
theorem dL_putBack_2 : decode cL_putBack 2 = .ok (.aload_n 0, 1) := by decide +kernel
theorem dL_putBack_3 : decode cL_putBack 3 = .ok (.iload_n 1, 1) := by decide +kernel
theorem dL_putBack_4 : decode cL_putBack 4 = .ok (.invokevirtual 118, 3) := by decide +kernel
theorem dL_putBack_7 : decode cL_putBack 7 = .ok (.i2l, 1) := by decide +kernel
theorem dL_putBack_8 : decode cL_putBack 8 = .ok (.lastore, 1) := by decide +kernel
theorem dL_putBack_9 : decode cL_putBack 9 = .ok (.goto 9, 3) := by decide +kernel
theorem dL_putBack_12 : decode cL_putBack 12 = .ok (.astore_n 3, 1) := by decide +kernel
theorem dL_putBack_13 : decode cL_putBack 13 = .ok (.iconst 1, 1) := by decide +kernel
theorem dL_putBack_14 : decode cL_putBack 14 = .ok (.ireturn, 1) := by decide +kernel
theorem dL_putBack_15 : decode cL_putBack 15 = .ok (.astore_n 3, 1) := by decide +kernel
theorem dL_putBack_16 : decode cL_putBack 16 = .ok (.iconst 2, 1) := by decide +kernel
theorem dL_putBack_17 : decode cL_putBack 17 = .ok (.ireturn, 1) := by decide +kernel
theorem dL_putBack_18 : decode cL_putBack 18 = .ok (.iconst 0, 1) := by decide +kernel
theorem dL_putBack_19 : decode cL_putBack 19 = .ok (.ireturn, 1) := by decide +kernel
theorem hd_L_putBack : yL_putBack.cls ≠ "java/lang/invoke/MethodHandle" ∧ yL_putBack.cls ≠ "java/lang/invoke/VarHandle" ∧ (parseMethodDescriptor yL_putBack.desc).map (fun d => d.parameters.length) = some 3 := by decide +kernel
set_option maxRecDepth 100000 in
set_option maxHeartbeats 4000000 in
theorem c_L_putBack (l : Launch) (D : va_G) (g : xG) (tb : List xQ) (hT : x_T g tb) (hlst : l.stackTraces = false) {a1 : Int32} (h0 : x_fb tb) (ho : ((9, 5000, 1) : xQ) ∈ tb) {M : xM} {k : Nat} {r : Int32} {M1 : xM} (hf : f_X6_putBack a1 M = some (k, r, M1)) {res : Int32} {M2 : xM} (hk : (k = 0 ∧ res = 0 ∧ M2 = upd M1 5000 r) ∨ ∃ i : Nat, ([2, 3] : List Nat)[i]? = some k ∧ 0 < k ∧ res = nI (i + 1) ∧ M2 = M1) :
    cL l D g tb yL_putBack cL_putBack 4 [(0, 9, 12, 18), (0, 9, 15, 97)] ({ frames := 9, cells := 2, slots := 12, locals := 147 } : Room) 2 [.ref (g.1 4 1664), .int a1, .ref (g.1 9 5000)] M res M2 := by
  refine x_startH (own := RL) (by decide +kernel) rfl rfl (Nat.le_of_ble_eq_true rfl) hT ?_
  intro p e s m args below meth c Q C0 htab hend
  refine r_aload_n C0 (kk := 2) 2 rfl dL_putBack_0 ?_
  refine r_iconst C0 (v := 0) dL_putBack_1 rfl ?_
  refine r_aload_n C0 (kk := 0) 0 rfl dL_putBack_2 ?_
  refine r_iload_n C0 (kk := 1) 1 rfl dL_putBack_3 ?_
  refine r_tcallVi C0 (As := [.int a1]) (rest := [.int 0, .ref (g.1 9 5000)]) (c_X6_putBack l D g tb hT hlst h0 hf) w5_172 w5_173 w5_174 w1_1 w5_175 (x_rec4 C0 h0.1) hd_X6_putBack rfl ⟨rfl, rfl⟩ ⟨Nat.le_of_ble_eq_true rfl, Nat.le_of_ble_eq_true rfl⟩ (by decide) (by decide) rfl (Nat.le_of_ble_eq_true rfl) dL_putBack_4 (fun H1 locs1 ls E ce q hk1 hE hH hS hl h1 h2 h3 => ?_) (fun hk1 => ?_)
  · rcases hk with ⟨q0, -, -⟩ | ⟨i, hi, hpos, rfl, rfl⟩
    · exact absurd q0 hk1
    · match i, hi with
      | 0, hi =>
        cases hi
        refine r_catch C0 (k := 2) (by decide) (by decide) hE [] ⟨0, 9, 12, 18⟩ [⟨0, 9, 15, 97⟩] (by rw [htab]; rfl) (fun z hz => absurd hz List.not_mem_nil) (by decide) (by decide) w4_120 hH hS hl h1 h2 h3 ?_
        refine r_astore_n C0 (kk := 3) (lv2 := [(3, .ref q), (0, .ref (g.1 4 1664)), (1, .int a1), (2, .ref (g.1 9 5000))]) (by decide) rfl dL_putBack_12 ?_
        refine r_iconst C0 (v := 1) dL_putBack_13 rfl ?_
        exact hend ⟨rfl, rfl⟩ dL_putBack_14
      | 1, hi =>
        cases hi
        refine r_catch C0 (k := 3) (by decide) (by decide) hE [⟨0, 9, 12, 18⟩] ⟨0, 9, 15, 97⟩ [] (by rw [htab]; rfl) (fun z hz => by simp only [List.mem_cons, List.not_mem_nil, or_false] at hz; subst hz; exact ⟨by decide, 2, by decide, by decide, by decide, w4_120⟩) (by decide) (by decide) w5_99 hH hS hl h1 h2 h3 ?_
        refine r_astore_n C0 (kk := 3) (lv2 := [(3, .ref q), (0, .ref (g.1 4 1664)), (1, .int a1), (2, .ref (g.1 9 5000))]) (by decide) rfl dL_putBack_15 ?_
        refine r_iconst C0 (v := 2) dL_putBack_16 rfl ?_
        exact hend ⟨rfl, rfl⟩ dL_putBack_17
      | n + 2, hi => exact absurd hi (by simp)
  · rcases hk with ⟨-, rfl, rfl⟩ | ⟨i, hi, hpos, -, -⟩
    · refine r_i2l C0 dL_putBack_7 ?_
      refine r_last C0 ho (inb_in (i := 0) (n := 1) (by decide)) dL_putBack_8 ?_
      refine r_goto C0 (tgt := 18) (by decide) dL_putBack_9 ?_
      refine r_iconst C0 (v := 0) dL_putBack_18 rfl ?_
      exact hend ⟨rfl, rfl⟩ dL_putBack_19
    · exact absurd hk1 (by omega)
theorem dL_passMinutes_0 : decode cL_passMinutes 0 = .ok (.aload_n 2, 1) := by decide +kernel
theorem dL_passMinutes_1 : decode cL_passMinutes 1 = .ok (.iconst 0, 1) := by decide +kernel
theorem dL_passMinutes_2 : decode cL_passMinutes 2 = .ok (.aload_n 0, 1) := by decide +kernel
theorem dL_passMinutes_3 : decode cL_passMinutes 3 = .ok (.iload_n 1, 1) := by decide +kernel
theorem dL_passMinutes_4 : decode cL_passMinutes 4 = .ok (.invokevirtual 121, 3) := by decide +kernel
theorem dL_passMinutes_7 : decode cL_passMinutes 7 = .ok (.i2l, 1) := by decide +kernel
theorem dL_passMinutes_8 : decode cL_passMinutes 8 = .ok (.lastore, 1) := by decide +kernel
theorem dL_passMinutes_9 : decode cL_passMinutes 9 = .ok (.goto 6, 3) := by decide +kernel
theorem dL_passMinutes_12 : decode cL_passMinutes 12 = .ok (.astore_n 3, 1) := by decide +kernel
theorem dL_passMinutes_13 : decode cL_passMinutes 13 = .ok (.iconst 1, 1) := by decide +kernel
theorem dL_passMinutes_14 : decode cL_passMinutes 14 = .ok (.ireturn, 1) := by decide +kernel
theorem dL_passMinutes_15 : decode cL_passMinutes 15 = .ok (.iconst 0, 1) := by decide +kernel
theorem dL_passMinutes_16 : decode cL_passMinutes 16 = .ok (.ireturn, 1) := by decide +kernel
theorem hd_L_passMinutes : yL_passMinutes.cls ≠ "java/lang/invoke/MethodHandle" ∧ yL_passMinutes.cls ≠ "java/lang/invoke/VarHandle" ∧ (parseMethodDescriptor yL_passMinutes.desc).map (fun d => d.parameters.length) = some 3 := by decide +kernel
set_option maxRecDepth 100000 in
set_option maxHeartbeats 4000000 in
theorem c_L_passMinutes (l : Launch) (D : va_G) (g : xG) (tb : List xQ) (hT : x_T g tb) (hlst : l.stackTraces = false) {a1 : Int32} (h0 : x_fb tb) (ho : ((9, 5000, 1) : xQ) ∈ tb) {M : xM} {k : Nat} {r : Int32} {M1 : xM} (hf : f_X6_passMinutes a1 M = some (k, r, M1)) {res : Int32} {M2 : xM} (hk : (k = 0 ∧ res = 0 ∧ M2 = upd M1 5000 r) ∨ ∃ i : Nat, ([1] : List Nat)[i]? = some k ∧ 0 < k ∧ res = nI (i + 1) ∧ M2 = M1) :
    cL l D g tb yL_passMinutes cL_passMinutes 4 [(0, 9, 12, 13)] ({ frames := 8, cells := 1, slots := 6, locals := 126 } : Room) 1 [.ref (g.1 4 1664), .int a1, .ref (g.1 9 5000)] M res M2 := by
  refine x_startH (own := RL) (by decide +kernel) rfl rfl (Nat.le_of_ble_eq_true rfl) hT ?_
  intro p e s m args below meth c Q C0 htab hend
  refine r_aload_n C0 (kk := 2) 2 rfl dL_passMinutes_0 ?_
  refine r_iconst C0 (v := 0) dL_passMinutes_1 rfl ?_
  refine r_aload_n C0 (kk := 0) 0 rfl dL_passMinutes_2 ?_
  refine r_iload_n C0 (kk := 1) 1 rfl dL_passMinutes_3 ?_
  refine r_tcallVi C0 (As := [.int a1]) (rest := [.int 0, .ref (g.1 9 5000)]) (c_X6_passMinutes l D g tb hT hlst h0 hf) w5_181 w5_182 w5_183 w1_1 w5_184 (x_rec4 C0 h0.1) hd_X6_passMinutes rfl ⟨rfl, rfl⟩ ⟨Nat.le_of_ble_eq_true rfl, Nat.le_of_ble_eq_true rfl⟩ (by decide) (by decide) rfl (Nat.le_of_ble_eq_true rfl) dL_passMinutes_4 (fun H1 locs1 ls E ce q hk1 hE hH hS hl h1 h2 h3 => ?_) (fun hk1 => ?_)
  · rcases hk with ⟨q0, -, -⟩ | ⟨i, hi, hpos, rfl, rfl⟩
    · exact absurd q0 hk1
    · match i, hi with
      | 0, hi =>
        cases hi
        refine r_catch C0 (k := 1) (by decide) (by decide) hE [] ⟨0, 9, 12, 13⟩ [] (by rw [htab]; rfl) (fun z hz => absurd hz List.not_mem_nil) (by decide) (by decide) w4_39 hH hS hl h1 h2 h3 ?_
        refine r_astore_n C0 (kk := 3) (lv2 := [(3, .ref q), (0, .ref (g.1 4 1664)), (1, .int a1), (2, .ref (g.1 9 5000))]) (by decide) rfl dL_passMinutes_12 ?_
        refine r_iconst C0 (v := 1) dL_passMinutes_13 rfl ?_
        exact hend ⟨rfl, rfl⟩ dL_passMinutes_14
      | n + 1, hi => exact absurd hi (by simp)
  · rcases hk with ⟨-, rfl, rfl⟩ | ⟨i, hi, hpos, -, -⟩
    · refine r_i2l C0 dL_passMinutes_7 ?_
      refine r_last C0 ho (inb_in (i := 0) (n := 1) (by decide)) dL_passMinutes_8 ?_
      refine r_goto C0 (tgt := 15) (by decide) dL_passMinutes_9 ?_
      refine r_iconst C0 (v := 0) dL_passMinutes_15 rfl ?_
      exact hend ⟨rfl, rfl⟩ dL_passMinutes_16
    · exact absurd hk1 (by omega)
theorem dL_undo_0 : decode cL_undo 0 = .ok (.aload_n 1, 1) := by decide +kernel
theorem dL_undo_1 : decode cL_undo 1 = .ok (.iconst 0, 1) := by decide +kernel
theorem dL_undo_2 : decode cL_undo 2 = .ok (.aload_n 0, 1) := by decide +kernel
theorem dL_undo_3 : decode cL_undo 3 = .ok (.invokevirtual 124, 3) := by decide +kernel
theorem dL_undo_6 : decode cL_undo 6 = .ok (.i2l, 1) := by decide +kernel
theorem dL_undo_7 : decode cL_undo 7 = .ok (.lastore, 1) := by decide +kernel
theorem dL_undo_8 : decode cL_undo 8 = .ok (.goto 6, 3) := by decide +kernel
theorem dL_undo_11 : decode cL_undo 11 = .ok (.astore_n 2, 1) := by decide +kernel
theorem dL_undo_12 : decode cL_undo 12 = .ok (.iconst 1, 1) := by decide +kernel
theorem dL_undo_13 : decode cL_undo 13 = .ok (.ireturn, 1) := by decide +kernel
theorem dL_undo_14 : decode cL_undo 14 = .ok (.iconst 0, 1) := by decide +kernel
theorem dL_undo_15 : decode cL_undo 15 = .ok (.ireturn, 1) := by decide +kernel
theorem hd_L_undo : yL_undo.cls ≠ "java/lang/invoke/MethodHandle" ∧ yL_undo.cls ≠ "java/lang/invoke/VarHandle" ∧ (parseMethodDescriptor yL_undo.desc).map (fun d => d.parameters.length) = some 2 := by decide +kernel
set_option maxRecDepth 100000 in
set_option maxHeartbeats 4000000 in
theorem c_L_undo (l : Launch) (D : va_G) (g : xG) (tb : List xQ) (hT : x_T g tb) (hlst : l.stackTraces = false) (h0 : x_fb tb) (ho : ((9, 5000, 1) : xQ) ∈ tb) {M : xM} {k : Nat} {r : Int32} {M1 : xM} (hf : f_X6_undo  M = some (k, r, M1)) {res : Int32} {M2 : xM} (hk : (k = 0 ∧ res = 0 ∧ M2 = upd M1 5000 r) ∨ ∃ i : Nat, ([3] : List Nat)[i]? = some k ∧ 0 < k ∧ res = nI (i + 1) ∧ M2 = M1) :
    cL l D g tb yL_undo cL_undo 3 [(0, 8, 11, 97)] ({ frames := 7, cells := 1, slots := 6, locals := 102 } : Room) 1 [.ref (g.1 4 1664), .ref (g.1 9 5000)] M res M2 := by
  refine x_startH (own := RL) (by decide +kernel) rfl rfl (Nat.le_of_ble_eq_true rfl) hT ?_
  intro p e s m args below meth c Q C0 htab hend
  refine r_aload_n C0 (kk := 1) 1 rfl dL_undo_0 ?_
  refine r_iconst C0 (v := 0) dL_undo_1 rfl ?_
  refine r_aload_n C0 (kk := 0) 0 rfl dL_undo_2 ?_
  refine r_tcallVi C0 (As := []) (rest := [.int 0, .ref (g.1 9 5000)]) (c_X6_undo l D g tb hT hlst h0 hf) w5_188 w5_189 w5_190 w1_1 w5_191 (x_rec4 C0 h0.1) hd_X6_undo rfl ⟨rfl, rfl⟩ ⟨Nat.le_of_ble_eq_true rfl, Nat.le_of_ble_eq_true rfl⟩ (by decide) (by decide) rfl (Nat.le_of_ble_eq_true rfl) dL_undo_3 (fun H1 locs1 ls E ce q hk1 hE hH hS hl h1 h2 h3 => ?_) (fun hk1 => ?_)
  · rcases hk with ⟨q0, -, -⟩ | ⟨i, hi, hpos, rfl, rfl⟩
    · exact absurd q0 hk1
    · match i, hi with
      | 0, hi =>
        cases hi
        refine r_catch C0 (k := 3) (by decide) (by decide) hE [] ⟨0, 8, 11, 97⟩ [] (by rw [htab]; rfl) (fun z hz => absurd hz List.not_mem_nil) (by decide) (by decide) w5_99 hH hS hl h1 h2 h3 ?_
        refine r_astore_n C0 (kk := 2) (lv2 := [(2, .ref q), (0, .ref (g.1 4 1664)), (1, .ref (g.1 9 5000))]) (by decide) rfl dL_undo_11 ?_
        refine r_iconst C0 (v := 1) dL_undo_12 rfl ?_
        exact hend ⟨rfl, rfl⟩ dL_undo_13
      | n + 1, hi => exact absurd hi (by simp)
  · rcases hk with ⟨-, rfl, rfl⟩ | ⟨i, hi, hpos, -, -⟩
    · refine r_i2l C0 dL_undo_6 ?_
      refine r_last C0 ho (inb_in (i := 0) (n := 1) (by decide)) dL_undo_7 ?_
      refine r_goto C0 (tgt := 14) (by decide) dL_undo_8 ?_
      refine r_iconst C0 (v := 0) dL_undo_14 rfl ?_
      exact hend ⟨rfl, rfl⟩ dL_undo_15
    · exact absurd hk1 (by omega)
theorem dL_save_0 : decode cL_save 0 = .ok (.aload_n 2, 1) := by decide +kernel
theorem dL_save_1 : decode cL_save 1 = .ok (.iconst 0, 1) := by decide +kernel
theorem dL_save_2 : decode cL_save 2 = .ok (.aload_n 0, 1) := by decide +kernel
theorem dL_save_3 : decode cL_save 3 = .ok (.iload_n 1, 1) := by decide +kernel
theorem dL_save_4 : decode cL_save 4 = .ok (.invokevirtual 128, 3) := by decide +kernel
theorem dL_save_7 : decode cL_save 7 = .ok (.i2l, 1) := by decide +kernel
theorem dL_save_8 : decode cL_save 8 = .ok (.lastore, 1) := by decide +kernel
theorem dL_save_9 : decode cL_save 9 = .ok (.goto 6, 3) := by decide +kernel
theorem dL_save_12 : decode cL_save 12 = .ok (.astore_n 3, 1) := by decide +kernel
theorem dL_save_13 : decode cL_save 13 = .ok (.iconst 1, 1) := by decide +kernel
theorem dL_save_14 : decode cL_save 14 = .ok (.ireturn, 1) := by decide +kernel
theorem dL_save_15 : decode cL_save 15 = .ok (.iconst 0, 1) := by decide +kernel
theorem dL_save_16 : decode cL_save 16 = .ok (.ireturn, 1) := by decide +kernel
theorem hd_L_save : yL_save.cls ≠ "java/lang/invoke/MethodHandle" ∧ yL_save.cls ≠ "java/lang/invoke/VarHandle" ∧ (parseMethodDescriptor yL_save.desc).map (fun d => d.parameters.length) = some 3 := by decide +kernel
set_option maxRecDepth 100000 in
set_option maxHeartbeats 4000000 in
theorem c_L_save (l : Launch) (D : va_G) (g : xG) (tb : List xQ) (hT : x_T g tb) (hlst : l.stackTraces = false) {a1 : Int32} (h0 : x_fb tb) (ho : ((9, 5000, 1) : xQ) ∈ tb) {M : xM} {k : Nat} {r : Int32} {M1 : xM} (hf : f_X6_save a1 M = some (k, r, M1)) {res : Int32} {M2 : xM} (hk : (k = 0 ∧ res = 0 ∧ M2 = upd M1 5000 r) ∨ ∃ i : Nat, ([1] : List Nat)[i]? = some k ∧ 0 < k ∧ res = nI (i + 1) ∧ M2 = M1) :
    cL l D g tb yL_save cL_save 4 [(0, 9, 12, 13)] ({ frames := 8, cells := 1, slots := 6, locals := 125 } : Room) 1 [.ref (g.1 4 1664), .int a1, .ref (g.1 9 5000)] M res M2 := by
  refine x_startH (own := RL) (by decide +kernel) rfl rfl (Nat.le_of_ble_eq_true rfl) hT ?_
  intro p e s m args below meth c Q C0 htab hend
  refine r_aload_n C0 (kk := 2) 2 rfl dL_save_0 ?_
  refine r_iconst C0 (v := 0) dL_save_1 rfl ?_
  refine r_aload_n C0 (kk := 0) 0 rfl dL_save_2 ?_
  refine r_iload_n C0 (kk := 1) 1 rfl dL_save_3 ?_
  refine r_tcallVi C0 (As := [.int a1]) (rest := [.int 0, .ref (g.1 9 5000)]) (c_X6_save l D g tb hT hlst h0 hf) w5_196 w5_197 w5_198 w1_1 w5_199 (x_rec4 C0 h0.1) hd_X6_save rfl ⟨rfl, rfl⟩ ⟨Nat.le_of_ble_eq_true rfl, Nat.le_of_ble_eq_true rfl⟩ (by decide) (by decide) rfl (Nat.le_of_ble_eq_true rfl) dL_save_4 (fun H1 locs1 ls E ce q hk1 hE hH hS hl h1 h2 h3 => ?_) (fun hk1 => ?_)
  · rcases hk with ⟨q0, -, -⟩ | ⟨i, hi, hpos, rfl, rfl⟩
    · exact absurd q0 hk1
    · match i, hi with
      | 0, hi =>
        cases hi
        refine r_catch C0 (k := 1) (by decide) (by decide) hE [] ⟨0, 9, 12, 13⟩ [] (by rw [htab]; rfl) (fun z hz => absurd hz List.not_mem_nil) (by decide) (by decide) w4_39 hH hS hl h1 h2 h3 ?_
        refine r_astore_n C0 (kk := 3) (lv2 := [(3, .ref q), (0, .ref (g.1 4 1664)), (1, .int a1), (2, .ref (g.1 9 5000))]) (by decide) rfl dL_save_12 ?_
        refine r_iconst C0 (v := 1) dL_save_13 rfl ?_
        exact hend ⟨rfl, rfl⟩ dL_save_14
      | n + 1, hi => exact absurd hi (by simp)
  · rcases hk with ⟨-, rfl, rfl⟩ | ⟨i, hi, hpos, -, -⟩
    · refine r_i2l C0 dL_save_7 ?_
      refine r_last C0 ho (inb_in (i := 0) (n := 1) (by decide)) dL_save_8 ?_
      refine r_goto C0 (tgt := 15) (by decide) dL_save_9 ?_
      refine r_iconst C0 (v := 0) dL_save_15 rfl ?_
      exact hend ⟨rfl, rfl⟩ dL_save_16
    · exact absurd hk1 (by omega)
theorem dL_restore_0 : decode cL_restore 0 = .ok (.aload_n 2, 1) := by decide +kernel
theorem dL_restore_1 : decode cL_restore 1 = .ok (.iconst 0, 1) := by decide +kernel
theorem dL_restore_2 : decode cL_restore 2 = .ok (.aload_n 0, 1) := by decide +kernel
theorem dL_restore_3 : decode cL_restore 3 = .ok (.iload_n 1, 1) := by decide +kernel
theorem dL_restore_4 : decode cL_restore 4 = .ok (.invokevirtual 131, 3) := by decide +kernel
theorem dL_restore_7 : decode cL_restore 7 = .ok (.i2l, 1) := by decide +kernel
theorem dL_restore_8 : decode cL_restore 8 = .ok (.lastore, 1) := by decide +kernel
theorem dL_restore_9 : decode cL_restore 9 = .ok (.goto 9, 3) := by decide +kernel
theorem dL_restore_12 : decode cL_restore 12 = .ok (.astore_n 3, 1) := by decide +kernel
theorem dL_restore_13 : decode cL_restore 13 = .ok (.iconst 1, 1) := by decide +kernel
theorem dL_restore_14 : decode cL_restore 14 = .ok (.ireturn, 1) := by decide +kernel
theorem dL_restore_15 : decode cL_restore 15 = .ok (.astore_n 3, 1) := by decide +kernel
theorem dL_restore_16 : decode cL_restore 16 = .ok (.iconst 2, 1) := by decide +kernel
theorem dL_restore_17 : decode cL_restore 17 = .ok (.ireturn, 1) := by decide +kernel
theorem dL_restore_18 : decode cL_restore 18 = .ok (.iconst 0, 1) := by decide +kernel
theorem dL_restore_19 : decode cL_restore 19 = .ok (.ireturn, 1) := by decide +kernel
theorem hd_L_restore : yL_restore.cls ≠ "java/lang/invoke/MethodHandle" ∧ yL_restore.cls ≠ "java/lang/invoke/VarHandle" ∧ (parseMethodDescriptor yL_restore.desc).map (fun d => d.parameters.length) = some 3 := by decide +kernel
set_option maxRecDepth 100000 in
set_option maxHeartbeats 4000000 in
theorem c_L_restore (l : Launch) (D : va_G) (g : xG) (tb : List xQ) (hT : x_T g tb) (hlst : l.stackTraces = false) {a1 : Int32} (h0 : x_fb tb) (ho : ((9, 5000, 1) : xQ) ∈ tb) {M : xM} {k : Nat} {r : Int32} {M1 : xM} (hf : f_X6_restore a1 M = some (k, r, M1)) {res : Int32} {M2 : xM} (hk : (k = 0 ∧ res = 0 ∧ M2 = upd M1 5000 r) ∨ ∃ i : Nat, ([1, 4] : List Nat)[i]? = some k ∧ 0 < k ∧ res = nI (i + 1) ∧ M2 = M1) :
    cL l D g tb yL_restore cL_restore 4 [(0, 9, 12, 13), (0, 9, 15, 134)] ({ frames := 8, cells := 2, slots := 12, locals := 125 } : Room) 2 [.ref (g.1 4 1664), .int a1, .ref (g.1 9 5000)] M res M2 := by
  refine x_startH (own := RL) (by decide +kernel) rfl rfl (Nat.le_of_ble_eq_true rfl) hT ?_
  intro p e s m args below meth c Q C0 htab hend
  refine r_aload_n C0 (kk := 2) 2 rfl dL_restore_0 ?_
  refine r_iconst C0 (v := 0) dL_restore_1 rfl ?_
  refine r_aload_n C0 (kk := 0) 0 rfl dL_restore_2 ?_
  refine r_iload_n C0 (kk := 1) 1 rfl dL_restore_3 ?_
  refine r_tcallVi C0 (As := [.int a1]) (rest := [.int 0, .ref (g.1 9 5000)]) (c_X6_restore l D g tb hT hlst h0 hf) w5_204 w5_205 w5_206 w1_1 w5_207 (x_rec4 C0 h0.1) hd_X6_restore rfl ⟨rfl, rfl⟩ ⟨Nat.le_of_ble_eq_true rfl, Nat.le_of_ble_eq_true rfl⟩ (by decide) (by decide) rfl (Nat.le_of_ble_eq_true rfl) dL_restore_4 (fun H1 locs1 ls E ce q hk1 hE hH hS hl h1 h2 h3 => ?_) (fun hk1 => ?_)
  · rcases hk with ⟨q0, -, -⟩ | ⟨i, hi, hpos, rfl, rfl⟩
    · exact absurd q0 hk1
    · match i, hi with
      | 0, hi =>
        cases hi
        refine r_catch C0 (k := 1) (by decide) (by decide) hE [] ⟨0, 9, 12, 13⟩ [⟨0, 9, 15, 134⟩] (by rw [htab]; rfl) (fun z hz => absurd hz List.not_mem_nil) (by decide) (by decide) w4_39 hH hS hl h1 h2 h3 ?_
        refine r_astore_n C0 (kk := 3) (lv2 := [(3, .ref q), (0, .ref (g.1 4 1664)), (1, .int a1), (2, .ref (g.1 9 5000))]) (by decide) rfl dL_restore_12 ?_
        refine r_iconst C0 (v := 1) dL_restore_13 rfl ?_
        exact hend ⟨rfl, rfl⟩ dL_restore_14
      | 1, hi =>
        cases hi
        refine r_catch C0 (k := 4) (by decide) (by decide) hE [⟨0, 9, 12, 13⟩] ⟨0, 9, 15, 134⟩ [] (by rw [htab]; rfl) (fun z hz => by simp only [List.mem_cons, List.not_mem_nil, or_false] at hz; subst hz; exact ⟨by decide, 1, by decide, by decide, by decide, w4_39⟩) (by decide) (by decide) w5_203 hH hS hl h1 h2 h3 ?_
        refine r_astore_n C0 (kk := 3) (lv2 := [(3, .ref q), (0, .ref (g.1 4 1664)), (1, .int a1), (2, .ref (g.1 9 5000))]) (by decide) rfl dL_restore_15 ?_
        refine r_iconst C0 (v := 2) dL_restore_16 rfl ?_
        exact hend ⟨rfl, rfl⟩ dL_restore_17
      | n + 2, hi => exact absurd hi (by simp)
  · rcases hk with ⟨-, rfl, rfl⟩ | ⟨i, hi, hpos, -, -⟩
    · refine r_i2l C0 dL_restore_7 ?_
      refine r_last C0 ho (inb_in (i := 0) (n := 1) (by decide)) dL_restore_8 ?_
      refine r_goto C0 (tgt := 18) (by decide) dL_restore_9 ?_
      refine r_iconst C0 (v := 0) dL_restore_18 rfl ?_
      exact hend ⟨rfl, rfl⟩ dL_restore_19
    · exact absurd hk1 (by omega)
