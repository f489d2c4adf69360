theorem dX4_hasRoomFor_0 : decode cX4_hasRoomFor 0 = .ok (.aload_n 0, 1) := by decide +kernel
theorem dX4_hasRoomFor_1 : decode cX4_hasRoomFor 1 = .ok (.getfield 24, 3) := by decide +kernel
theorem dX4_hasRoomFor_4 : decode cX4_hasRoomFor 4 = .ok (.iload_n 1, 1) := by decide +kernel
theorem dX4_hasRoomFor_5 : decode cX4_hasRoomFor 5 = .ok (.iadd, 1) := by decide +kernel
theorem dX4_hasRoomFor_6 : decode cX4_hasRoomFor 6 = .ok (.bipush 99, 2) := by decide +kernel
theorem dX4_hasRoomFor_8 : decode cX4_hasRoomFor 8 = .ok (.if_icmp .gt 7, 3) := by decide +kernel
theorem dX4_hasRoomFor_11 : decode cX4_hasRoomFor 11 = .ok (.iconst 1, 1) := by decide +kernel
theorem dX4_hasRoomFor_12 : decode cX4_hasRoomFor 12 = .ok (.goto 4, 3) := by decide +kernel
theorem dX4_hasRoomFor_15 : decode cX4_hasRoomFor 15 = .ok (.iconst 0, 1) := by decide +kernel
theorem dX4_hasRoomFor_16 : decode cX4_hasRoomFor 16 = .ok (.ireturn, 1) := by decide +kernel
theorem hd_X4_hasRoomFor : yX4_hasRoomFor.cls = RX4 ∧ yX4_hasRoomFor.cls ≠ "java/lang/invoke/MethodHandle" ∧ yX4_hasRoomFor.cls ≠ "java/lang/invoke/VarHandle" ∧ (parseMethodDescriptor yX4_hasRoomFor.desc).map (fun d => d.parameters.length) = some 1 := by decide +kernel
def f_X4_hasRoomFor (a0 : Nat) (a1 : Int32) (M : xM) : Option (Int32 × xM) :=
  (if 99 < ((M (a0 + 4)) + a1) then (some (0, M)) else (some (1, M)))
set_option maxRecDepth 100000 in
set_option maxHeartbeats 4000000 in
theorem c_X4_hasRoomFor (l : Launch) (D : va_G) (g : xG) (tb : List xQ) (hT : x_T g tb) {a0 : Nat} {a1 : Int32} (h0 : ((0, a0, 0) : xQ) ∈ tb) {M : xM} {r : Int32} {M' : xM} (hf : f_X4_hasRoomFor a0 a1 M = some (r, M')) :
    cI l D g tb yX4_hasRoomFor cX4_hasRoomFor 2 .boolean ({ frames := 0, cells := 0, slots := 0, locals := 0 } : Room) [.ref (g.1 0 a0), .int a1] M r M' := by
  refine x_startZ (own := RX4) (by decide +kernel) rfl rfl (Nat.le_of_ble_eq_true rfl) hT ?_
  intro p e s m args below meth c Q C0 hend
  unfold f_X4_hasRoomFor at hf
  refine r_aload_n C0 (kk := 0) 0 rfl dX4_hasRoomFor_0 ?_
  refine r_get0 C0 h0 4 (by decide) (v := .int (M (a0 + 4))) rfl rfl w1_58 dX4_hasRoomFor_1 ?_
  refine r_iload_n C0 (kk := 1) 1 rfl dX4_hasRoomFor_4 ?_
  refine r_iadd C0 dX4_hasRoomFor_5 ?_
  refine r_bipush C0 (v := 99) dX4_hasRoomFor_6 rfl ?_
  refine r_icmp_gt C0 (tgt := 15) (by decide) dX4_hasRoomFor_8 (fun q1 => ?_) (fun q1 => ?_)
  · have hf := ie_t hf q1
    refine r_iconst C0 (v := 0) dX4_hasRoomFor_15 rfl ?_
    exact hend (by decide) hf dX4_hasRoomFor_16
  · have hf := ie_f hf q1
    refine r_iconst C0 (v := 1) dX4_hasRoomFor_11 rfl ?_
    refine r_goto C0 (tgt := 16) (by decide) dX4_hasRoomFor_12 ?_
    exact hend (by decide) hf dX4_hasRoomFor_16
theorem dX1_holds_0 : decode cX1_holds 0 = .ok (.aload_n 0, 1) := by decide +kernel
theorem dX1_holds_1 : decode cX1_holds 1 = .ok (.getfield 9, 3) := by decide +kernel
theorem dX1_holds_4 : decode cX1_holds 4 = .ok (.iconst (-1), 1) := by decide +kernel
theorem dX1_holds_5 : decode cX1_holds 5 = .ok (.if_icmp .eq 7, 3) := by decide +kernel
theorem dX1_holds_8 : decode cX1_holds 8 = .ok (.iconst 1, 1) := by decide +kernel
theorem dX1_holds_9 : decode cX1_holds 9 = .ok (.goto 4, 3) := by decide +kernel
theorem dX1_holds_12 : decode cX1_holds 12 = .ok (.iconst 0, 1) := by decide +kernel
theorem dX1_holds_13 : decode cX1_holds 13 = .ok (.ireturn, 1) := by decide +kernel
theorem hd_X1_holds : yX1_holds.cls = RX1 ∧ yX1_holds.cls ≠ "java/lang/invoke/MethodHandle" ∧ yX1_holds.cls ≠ "java/lang/invoke/VarHandle" ∧ (parseMethodDescriptor yX1_holds.desc).map (fun d => d.parameters.length) = some 0 := by decide +kernel
def f_X1_holds (a0 : Nat) (M : xM) : Option (Int32 × xM) :=
  (if (M (a0 + 4)) = (-1) then (some (0, M)) else (some (1, M)))
set_option maxRecDepth 100000 in
set_option maxHeartbeats 4000000 in
theorem c_X1_holds (l : Launch) (D : va_G) (g : xG) (tb : List xQ) (hT : x_T g tb) {a0 : Nat} (h0 : ((1, a0, 0) : xQ) ∈ tb) {M : xM} {r : Int32} {M' : xM} (hf : f_X1_holds a0 M = some (r, M')) :
    cI l D g tb yX1_holds cX1_holds 1 .boolean ({ frames := 0, cells := 0, slots := 0, locals := 0 } : Room) [.ref (g.1 1 a0)] M r M' := by
  refine x_startZ (own := RX1) (by decide +kernel) rfl rfl (Nat.le_of_ble_eq_true rfl) hT ?_
  intro p e s m args below meth c Q C0 hend
  unfold f_X1_holds at hf
  refine r_aload_n C0 (kk := 0) 0 rfl dX1_holds_0 ?_
  refine r_get1 C0 h0 4 (by decide) (v := .int (M (a0 + 4))) rfl rfl w1_108 dX1_holds_1 ?_
  refine r_iconst C0 (v := (-1)) dX1_holds_4 rfl ?_
  refine r_icmp_eq C0 (tgt := 12) (by decide) dX1_holds_5 (fun q1 => ?_) (fun q1 => ?_)
  · have hf := ie_t hf q1
    refine r_iconst C0 (v := 0) dX1_holds_12 rfl ?_
    exact hend (by decide) hf dX1_holds_13
  · have hf := ie_f hf q1
    refine r_iconst C0 (v := 1) dX1_holds_8 rfl ?_
    refine r_goto C0 (tgt := 13) (by decide) dX1_holds_9 ?_
    exact hend (by decide) hf dX1_holds_13
theorem dX4_reset_0 : decode cX4_reset 0 = .ok (.aload_n 0, 1) := by decide +kernel
theorem dX4_reset_1 : decode cX4_reset 1 = .ok (.iload_n 1, 1) := by decide +kernel
theorem dX4_reset_2 : decode cX4_reset 2 = .ok (.putfield 9, 3) := by decide +kernel
theorem dX4_reset_5 : decode cX4_reset 5 = .ok (.aload_n 0, 1) := by decide +kernel
theorem dX4_reset_6 : decode cX4_reset 6 = .ok (.iload_n 2, 1) := by decide +kernel
theorem dX4_reset_7 : decode cX4_reset 7 = .ok (.putfield 15, 3) := by decide +kernel
theorem dX4_reset_10 : decode cX4_reset 10 = .ok (.aload_n 0, 1) := by decide +kernel
theorem dX4_reset_11 : decode cX4_reset 11 = .ok (.iload_n 3, 1) := by decide +kernel
theorem dX4_reset_12 : decode cX4_reset 12 = .ok (.putfield 18, 3) := by decide +kernel
theorem dX4_reset_15 : decode cX4_reset 15 = .ok (.aload_n 0, 1) := by decide +kernel
theorem dX4_reset_16 : decode cX4_reset 16 = .ok (.iload 4, 2) := by decide +kernel
theorem dX4_reset_18 : decode cX4_reset 18 = .ok (.putfield 21, 3) := by decide +kernel
theorem dX4_reset_21 : decode cX4_reset 21 = .ok (.aload_n 0, 1) := by decide +kernel
theorem dX4_reset_22 : decode cX4_reset 22 = .ok (.iconst 0, 1) := by decide +kernel
theorem dX4_reset_23 : decode cX4_reset 23 = .ok (.putfield 24, 3) := by decide +kernel
theorem dX4_reset_26 : decode cX4_reset 26 = .ok (.aload_n 0, 1) := by decide +kernel
theorem dX4_reset_27 : decode cX4_reset 27 = .ok (.iconst 0, 1) := by decide +kernel
theorem dX4_reset_28 : decode cX4_reset 28 = .ok (.putfield 27, 3) := by decide +kernel
theorem dX4_reset_31 : decode cX4_reset 31 = .ok (.aload_n 0, 1) := by decide +kernel
theorem dX4_reset_32 : decode cX4_reset 32 = .ok (.iconst 0, 1) := by decide +kernel
theorem dX4_reset_33 : decode cX4_reset 33 = .ok (.putfield 30, 3) := by decide +kernel
theorem dX4_reset_36 : decode cX4_reset 36 = .ok (.aload_n 0, 1) := by decide +kernel
theorem dX4_reset_37 : decode cX4_reset 37 = .ok (.iconst 0, 1) := by decide +kernel
theorem dX4_reset_38 : decode cX4_reset 38 = .ok (.putfield 33, 3) := by decide +kernel
theorem dX4_reset_41 : decode cX4_reset 41 = .ok (.aload_n 0, 1) := by decide +kernel
theorem dX4_reset_42 : decode cX4_reset 42 = .ok (.iconst 0, 1) := by decide +kernel
theorem dX4_reset_43 : decode cX4_reset 43 = .ok (.putfield 36, 3) := by decide +kernel
theorem dX4_reset_46 : decode cX4_reset 46 = .ok (.return_, 1) := by decide +kernel
theorem hd_X4_reset : yX4_reset.cls = RX4 ∧ yX4_reset.cls ≠ "java/lang/invoke/MethodHandle" ∧ yX4_reset.cls ≠ "java/lang/invoke/VarHandle" ∧ (parseMethodDescriptor yX4_reset.desc).map (fun d => d.parameters.length) = some 4 := by decide +kernel
def f_X4_reset (a0 : Nat) (a1 : Int32) (a2 : Int32) (a3 : Int32) (a4 : Int32) (M : xM) : Option xM :=
  (some (upd (upd (upd (upd (upd (upd (upd (upd (upd M (a0 + 0) a1) (a0 + 1) a2) (a0 + 2) a3) (a0 + 3) a4) (a0 + 4) 0) (a0 + 5) 0) (a0 + 6) 0) (a0 + 7) 0) (a0 + 8) 0))
set_option maxRecDepth 100000 in
set_option maxHeartbeats 4000000 in
theorem c_X4_reset (l : Launch) (D : va_G) (g : xG) (tb : List xQ) (hT : x_T g tb) {a0 : Nat} {a1 : Int32} {a2 : Int32} {a3 : Int32} {a4 : Int32} (h0 : ((0, a0, 0) : xQ) ∈ tb) {M M' : xM} (hf : f_X4_reset a0 a1 a2 a3 a4 M = some M') :
    cV l D g tb yX4_reset cX4_reset 5 ({ frames := 0, cells := 0, slots := 0, locals := 0 } : Room) [.ref (g.1 0 a0), .int a1, .int a2, .int a3, .int a4] M M' := by
  refine x_startV (own := RX4) (by decide +kernel) rfl rfl (Nat.le_of_ble_eq_true rfl) hT ?_
  intro p e s m args below meth c Q C0 hend
  unfold f_X4_reset at hf
  refine r_aload_n C0 (kk := 0) 0 rfl dX4_reset_0 ?_
  refine r_iload_n C0 (kk := 1) 1 rfl dX4_reset_1 ?_
  refine r_put0 C0 h0 0 rfl rfl w1_45 rfl rfl rfl dX4_reset_2 ?_
  refine r_aload_n C0 (kk := 0) 0 rfl dX4_reset_5 ?_
  refine r_iload_n C0 (kk := 2) 2 rfl dX4_reset_6 ?_
  refine r_put0 C0 h0 1 rfl rfl w1_48 rfl rfl rfl dX4_reset_7 ?_
  refine r_aload_n C0 (kk := 0) 0 rfl dX4_reset_10 ?_
  refine r_iload_n C0 (kk := 3) 3 rfl dX4_reset_11 ?_
  refine r_put0 C0 h0 2 rfl rfl w1_51 rfl rfl rfl dX4_reset_12 ?_
  refine r_aload_n C0 (kk := 0) 0 rfl dX4_reset_15 ?_
  refine r_iload C0 4 rfl dX4_reset_16 ?_
  refine r_put0 C0 h0 3 rfl rfl w1_54 rfl rfl rfl dX4_reset_18 ?_
  refine r_aload_n C0 (kk := 0) 0 rfl dX4_reset_21 ?_
  refine r_iconst C0 (v := 0) dX4_reset_22 rfl ?_
  refine r_put0 C0 h0 4 rfl rfl w1_58 rfl rfl rfl dX4_reset_23 ?_
  refine r_aload_n C0 (kk := 0) 0 rfl dX4_reset_26 ?_
  refine r_iconst C0 (v := 0) dX4_reset_27 rfl ?_
  refine r_put0 C0 h0 5 rfl rfl w1_62 rfl rfl rfl dX4_reset_28 ?_
  refine r_aload_n C0 (kk := 0) 0 rfl dX4_reset_31 ?_
  refine r_iconst C0 (v := 0) dX4_reset_32 rfl ?_
  refine r_put0 C0 h0 6 rfl rfl w1_66 rfl rfl rfl dX4_reset_33 ?_
  refine r_aload_n C0 (kk := 0) 0 rfl dX4_reset_36 ?_
  refine r_iconst C0 (v := 0) dX4_reset_37 rfl ?_
  refine r_put0 C0 h0 7 rfl rfl w1_68 rfl rfl rfl dX4_reset_38 ?_
  refine r_aload_n C0 (kk := 0) 0 rfl dX4_reset_41 ?_
  refine r_iconst C0 (v := 0) dX4_reset_42 rfl ?_
  refine r_put0 C0 h0 8 rfl rfl w1_72 rfl rfl rfl dX4_reset_43 ?_
  exact hend hf dX4_reset_46
theorem dX4_receive_0 : decode cX4_receive 0 = .ok (.aload_n 0, 1) := by decide +kernel
theorem dX4_receive_1 : decode cX4_receive 1 = .ok (.dup, 1) := by decide +kernel
theorem dX4_receive_2 : decode cX4_receive 2 = .ok (.getfield 24, 3) := by decide +kernel
theorem dX4_receive_5 : decode cX4_receive 5 = .ok (.iload_n 1, 1) := by decide +kernel
theorem dX4_receive_6 : decode cX4_receive 6 = .ok (.iadd, 1) := by decide +kernel
theorem dX4_receive_7 : decode cX4_receive 7 = .ok (.putfield 24, 3) := by decide +kernel
theorem dX4_receive_10 : decode cX4_receive 10 = .ok (.aload_n 0, 1) := by decide +kernel
theorem dX4_receive_11 : decode cX4_receive 11 = .ok (.dup, 1) := by decide +kernel
theorem dX4_receive_12 : decode cX4_receive 12 = .ok (.getfield 36, 3) := by decide +kernel
theorem dX4_receive_15 : decode cX4_receive 15 = .ok (.iload_n 1, 1) := by decide +kernel
theorem dX4_receive_16 : decode cX4_receive 16 = .ok (.iadd, 1) := by decide +kernel
theorem dX4_receive_17 : decode cX4_receive 17 = .ok (.putfield 36, 3) := by decide +kernel
theorem dX4_receive_20 : decode cX4_receive 20 = .ok (.return_, 1) := by decide +kernel
theorem hd_X4_receive : yX4_receive.cls = RX4 ∧ yX4_receive.cls ≠ "java/lang/invoke/MethodHandle" ∧ yX4_receive.cls ≠ "java/lang/invoke/VarHandle" ∧ (parseMethodDescriptor yX4_receive.desc).map (fun d => d.parameters.length) = some 1 := by decide +kernel
def f_X4_receive (a0 : Nat) (a1 : Int32) (M : xM) : Option xM :=
  (some (upd (upd M (a0 + 4) ((M (a0 + 4)) + a1)) (a0 + 8) (((upd M (a0 + 4) ((M (a0 + 4)) + a1)) (a0 + 8)) + a1)))
set_option maxRecDepth 100000 in
set_option maxHeartbeats 4000000 in
theorem c_X4_receive (l : Launch) (D : va_G) (g : xG) (tb : List xQ) (hT : x_T g tb) {a0 : Nat} {a1 : Int32} (h0 : ((0, a0, 0) : xQ) ∈ tb) {M M' : xM} (hf : f_X4_receive a0 a1 M = some M') :
    cV l D g tb yX4_receive cX4_receive 2 ({ frames := 0, cells := 0, slots := 0, locals := 0 } : Room) [.ref (g.1 0 a0), .int a1] M M' := by
  refine x_startV (own := RX4) (by decide +kernel) rfl rfl (Nat.le_of_ble_eq_true rfl) hT ?_
  intro p e s m args below meth c Q C0 hend
  unfold f_X4_receive at hf
  refine r_aload_n C0 (kk := 0) 0 rfl dX4_receive_0 ?_
  refine r_dup C0 rfl dX4_receive_1 ?_
  refine r_get0 C0 h0 4 (by decide) (v := .int (M (a0 + 4))) rfl rfl w1_58 dX4_receive_2 ?_
  refine r_iload_n C0 (kk := 1) 1 rfl dX4_receive_5 ?_
  refine r_iadd C0 dX4_receive_6 ?_
  refine r_put0 C0 h0 4 rfl rfl w1_58 rfl rfl rfl dX4_receive_7 ?_
  refine r_aload_n C0 (kk := 0) 0 rfl dX4_receive_10 ?_
  refine r_dup C0 rfl dX4_receive_11 ?_
  refine r_get0 C0 h0 8 (by decide) (v := .int ((upd M (a0 + 4) ((M (a0 + 4)) + a1)) (a0 + 8))) rfl rfl w1_72 dX4_receive_12 ?_
  refine r_iload_n C0 (kk := 1) 1 rfl dX4_receive_15 ?_
  refine r_iadd C0 dX4_receive_16 ?_
  refine r_put0 C0 h0 8 rfl rfl w1_72 rfl rfl rfl dX4_receive_17 ?_
  exact hend hf dX4_receive_20
theorem dX1_reset_0 : decode cX1_reset 0 = .ok (.aload_n 0, 1) := by decide +kernel
theorem dX1_reset_1 : decode cX1_reset 1 = .ok (.iload_n 1, 1) := by decide +kernel
theorem dX1_reset_2 : decode cX1_reset 2 = .ok (.putfield 15, 3) := by decide +kernel
theorem dX1_reset_5 : decode cX1_reset 5 = .ok (.aload_n 0, 1) := by decide +kernel
theorem dX1_reset_6 : decode cX1_reset 6 = .ok (.iload_n 2, 1) := by decide +kernel
theorem dX1_reset_7 : decode cX1_reset 7 = .ok (.putfield 18, 3) := by decide +kernel
theorem dX1_reset_10 : decode cX1_reset 10 = .ok (.aload_n 0, 1) := by decide +kernel
theorem dX1_reset_11 : decode cX1_reset 11 = .ok (.iload_n 3, 1) := by decide +kernel
theorem dX1_reset_12 : decode cX1_reset 12 = .ok (.putfield 21, 3) := by decide +kernel
theorem dX1_reset_15 : decode cX1_reset 15 = .ok (.aload_n 0, 1) := by decide +kernel
theorem dX1_reset_16 : decode cX1_reset 16 = .ok (.iload 4, 2) := by decide +kernel
theorem dX1_reset_18 : decode cX1_reset 18 = .ok (.putfield 24, 3) := by decide +kernel
theorem dX1_reset_21 : decode cX1_reset 21 = .ok (.aload_n 0, 1) := by decide +kernel
theorem dX1_reset_22 : decode cX1_reset 22 = .ok (.iconst (-1), 1) := by decide +kernel
theorem dX1_reset_23 : decode cX1_reset 23 = .ok (.putfield 9, 3) := by decide +kernel
theorem dX1_reset_26 : decode cX1_reset 26 = .ok (.aload_n 0, 1) := by decide +kernel
theorem dX1_reset_27 : decode cX1_reset 27 = .ok (.iconst 0, 1) := by decide +kernel
theorem dX1_reset_28 : decode cX1_reset 28 = .ok (.putfield 27, 3) := by decide +kernel
theorem dX1_reset_31 : decode cX1_reset 31 = .ok (.aload_n 0, 1) := by decide +kernel
theorem dX1_reset_32 : decode cX1_reset 32 = .ok (.iconst 0, 1) := by decide +kernel
theorem dX1_reset_33 : decode cX1_reset 33 = .ok (.putfield 30, 3) := by decide +kernel
theorem dX1_reset_36 : decode cX1_reset 36 = .ok (.aload_n 0, 1) := by decide +kernel
theorem dX1_reset_37 : decode cX1_reset 37 = .ok (.iconst 0, 1) := by decide +kernel
theorem dX1_reset_38 : decode cX1_reset 38 = .ok (.putfield 33, 3) := by decide +kernel
theorem dX1_reset_41 : decode cX1_reset 41 = .ok (.return_, 1) := by decide +kernel
theorem hd_X1_reset : yX1_reset.cls = RX1 ∧ yX1_reset.cls ≠ "java/lang/invoke/MethodHandle" ∧ yX1_reset.cls ≠ "java/lang/invoke/VarHandle" ∧ (parseMethodDescriptor yX1_reset.desc).map (fun d => d.parameters.length) = some 4 := by decide +kernel
def f_X1_reset (a0 : Nat) (a1 : Int32) (a2 : Int32) (a3 : Int32) (a4 : Int32) (M : xM) : Option xM :=
  (some (upd (upd (upd (upd (upd (upd (upd (upd M (a0 + 0) a1) (a0 + 1) a2) (a0 + 2) a3) (a0 + 3) a4) (a0 + 4) (-1)) (a0 + 5) 0) (a0 + 6) 0) (a0 + 7) 0))
set_option maxRecDepth 100000 in
set_option maxHeartbeats 4000000 in
theorem c_X1_reset (l : Launch) (D : va_G) (g : xG) (tb : List xQ) (hT : x_T g tb) {a0 : Nat} {a1 : Int32} {a2 : Int32} {a3 : Int32} {a4 : Int32} (h0 : ((1, a0, 0) : xQ) ∈ tb) {M M' : xM} (hf : f_X1_reset a0 a1 a2 a3 a4 M = some M') :
    cV l D g tb yX1_reset cX1_reset 5 ({ frames := 0, cells := 0, slots := 0, locals := 0 } : Room) [.ref (g.1 1 a0), .int a1, .int a2, .int a3, .int a4] M M' := by
  refine x_startV (own := RX1) (by decide +kernel) rfl rfl (Nat.le_of_ble_eq_true rfl) hT ?_
  intro p e s m args below meth c Q C0 hend
  unfold f_X1_reset at hf
  refine r_aload_n C0 (kk := 0) 0 rfl dX1_reset_0 ?_
  refine r_iload_n C0 (kk := 1) 1 rfl dX1_reset_1 ?_
  refine r_put1 C0 h0 0 rfl rfl w1_99 rfl rfl rfl dX1_reset_2 ?_
  refine r_aload_n C0 (kk := 0) 0 rfl dX1_reset_5 ?_
  refine r_iload_n C0 (kk := 2) 2 rfl dX1_reset_6 ?_
  refine r_put1 C0 h0 1 rfl rfl w1_102 rfl rfl rfl dX1_reset_7 ?_
  refine r_aload_n C0 (kk := 0) 0 rfl dX1_reset_10 ?_
  refine r_iload_n C0 (kk := 3) 3 rfl dX1_reset_11 ?_
  refine r_put1 C0 h0 2 rfl rfl w1_104 rfl rfl rfl dX1_reset_12 ?_
  refine r_aload_n C0 (kk := 0) 0 rfl dX1_reset_15 ?_
  refine r_iload C0 4 rfl dX1_reset_16 ?_
  refine r_put1 C0 h0 3 rfl rfl w1_106 rfl rfl rfl dX1_reset_18 ?_
  refine r_aload_n C0 (kk := 0) 0 rfl dX1_reset_21 ?_
  refine r_iconst C0 (v := (-1)) dX1_reset_22 rfl ?_
  refine r_put1 C0 h0 4 rfl rfl w1_108 rfl rfl rfl dX1_reset_23 ?_
  refine r_aload_n C0 (kk := 0) 0 rfl dX1_reset_26 ?_
  refine r_iconst C0 (v := 0) dX1_reset_27 rfl ?_
  refine r_put1 C0 h0 5 rfl rfl w1_111 rfl rfl rfl dX1_reset_28 ?_
  refine r_aload_n C0 (kk := 0) 0 rfl dX1_reset_31 ?_
  refine r_iconst C0 (v := 0) dX1_reset_32 rfl ?_
  refine r_put1 C0 h0 6 rfl rfl w1_113 rfl rfl rfl dX1_reset_33 ?_
  refine r_aload_n C0 (kk := 0) 0 rfl dX1_reset_36 ?_
  refine r_iconst C0 (v := 0) dX1_reset_37 rfl ?_
  refine r_put1 C0 h0 7 rfl rfl w1_116 rfl rfl rfl dX1_reset_38 ?_
  exact hend hf dX1_reset_41
theorem dX1_letGo_0 : decode cX1_letGo 0 = .ok (.aload_n 0, 1) := by decide +kernel
theorem dX1_letGo_1 : decode cX1_letGo 1 = .ok (.iconst (-1), 1) := by decide +kernel
theorem dX1_letGo_2 : decode cX1_letGo 2 = .ok (.putfield 9, 3) := by decide +kernel
theorem dX1_letGo_5 : decode cX1_letGo 5 = .ok (.aload_n 0, 1) := by decide +kernel
theorem dX1_letGo_6 : decode cX1_letGo 6 = .ok (.iconst 0, 1) := by decide +kernel
theorem dX1_letGo_7 : decode cX1_letGo 7 = .ok (.putfield 27, 3) := by decide +kernel
theorem dX1_letGo_10 : decode cX1_letGo 10 = .ok (.return_, 1) := by decide +kernel
theorem hd_X1_letGo : yX1_letGo.cls = RX1 ∧ yX1_letGo.cls ≠ "java/lang/invoke/MethodHandle" ∧ yX1_letGo.cls ≠ "java/lang/invoke/VarHandle" ∧ (parseMethodDescriptor yX1_letGo.desc).map (fun d => d.parameters.length) = some 0 := by decide +kernel
def f_X1_letGo (a0 : Nat) (M : xM) : Option xM :=
  (some (upd (upd M (a0 + 4) (-1)) (a0 + 5) 0))
set_option maxRecDepth 100000 in
set_option maxHeartbeats 4000000 in
theorem c_X1_letGo (l : Launch) (D : va_G) (g : xG) (tb : List xQ) (hT : x_T g tb) {a0 : Nat} (h0 : ((1, a0, 0) : xQ) ∈ tb) {M M' : xM} (hf : f_X1_letGo a0 M = some M') :
    cV l D g tb yX1_letGo cX1_letGo 1 ({ frames := 0, cells := 0, slots := 0, locals := 0 } : Room) [.ref (g.1 1 a0)] M M' := by
  refine x_startV (own := RX1) (by decide +kernel) rfl rfl (Nat.le_of_ble_eq_true rfl) hT ?_
  intro p e s m args below meth c Q C0 hend
  unfold f_X1_letGo at hf
  refine r_aload_n C0 (kk := 0) 0 rfl dX1_letGo_0 ?_
  refine r_iconst C0 (v := (-1)) dX1_letGo_1 rfl ?_
  refine r_put1 C0 h0 4 rfl rfl w1_108 rfl rfl rfl dX1_letGo_2 ?_
  refine r_aload_n C0 (kk := 0) 0 rfl dX1_letGo_5 ?_
  refine r_iconst C0 (v := 0) dX1_letGo_6 rfl ?_
  refine r_put1 C0 h0 5 rfl rfl w1_111 rfl rfl rfl dX1_letGo_7 ?_
  exact hend hf dX1_letGo_10
theorem dX1_avoid_0 : decode cX1_avoid 0 = .ok (.aload_n 0, 1) := by decide +kernel
theorem dX1_avoid_1 : decode cX1_avoid 1 = .ok (.dup, 1) := by decide +kernel
theorem dX1_avoid_2 : decode cX1_avoid 2 = .ok (.getfield 30, 3) := by decide +kernel
theorem dX1_avoid_5 : decode cX1_avoid 5 = .ok (.iconst 1, 1) := by decide +kernel
theorem dX1_avoid_6 : decode cX1_avoid 6 = .ok (.iload_n 1, 1) := by decide +kernel
theorem dX1_avoid_7 : decode cX1_avoid 7 = .ok (.ishl, 1) := by decide +kernel
theorem dX1_avoid_8 : decode cX1_avoid 8 = .ok (.ior, 1) := by decide +kernel
theorem dX1_avoid_9 : decode cX1_avoid 9 = .ok (.putfield 30, 3) := by decide +kernel
theorem dX1_avoid_12 : decode cX1_avoid 12 = .ok (.return_, 1) := by decide +kernel
theorem hd_X1_avoid : yX1_avoid.cls = RX1 ∧ yX1_avoid.cls ≠ "java/lang/invoke/MethodHandle" ∧ yX1_avoid.cls ≠ "java/lang/invoke/VarHandle" ∧ (parseMethodDescriptor yX1_avoid.desc).map (fun d => d.parameters.length) = some 1 := by decide +kernel
def f_X1_avoid (a0 : Nat) (a1 : Int32) (M : xM) : Option xM :=
  (some (upd M (a0 + 6) ((M (a0 + 6)) ||| (1 <<< (a1 &&& 31)))))
set_option maxRecDepth 100000 in
set_option maxHeartbeats 4000000 in
theorem c_X1_avoid (l : Launch) (D : va_G) (g : xG) (tb : List xQ) (hT : x_T g tb) {a0 : Nat} {a1 : Int32} (h0 : ((1, a0, 0) : xQ) ∈ tb) {M M' : xM} (hf : f_X1_avoid a0 a1 M = some M') :
    cV l D g tb yX1_avoid cX1_avoid 2 ({ frames := 0, cells := 0, slots := 0, locals := 0 } : Room) [.ref (g.1 1 a0), .int a1] M M' := by
  refine x_startV (own := RX1) (by decide +kernel) rfl rfl (Nat.le_of_ble_eq_true rfl) hT ?_
  intro p e s m args below meth c Q C0 hend
  unfold f_X1_avoid at hf
  refine r_aload_n C0 (kk := 0) 0 rfl dX1_avoid_0 ?_
  refine r_dup C0 rfl dX1_avoid_1 ?_
  refine r_get1 C0 h0 6 (by decide) (v := .int (M (a0 + 6))) rfl rfl w1_113 dX1_avoid_2 ?_
  refine r_iconst C0 (v := 1) dX1_avoid_5 rfl ?_
  refine r_iload_n C0 (kk := 1) 1 rfl dX1_avoid_6 ?_
  refine r_ishl C0 dX1_avoid_7 ?_
  refine r_ior C0 dX1_avoid_8 ?_
  refine r_put1 C0 h0 6 rfl rfl w1_113 rfl rfl rfl dX1_avoid_9 ?_
  exact hend hf dX1_avoid_12
theorem dX1_walkTo_0 : decode cX1_walkTo 0 = .ok (.iload_n 1, 1) := by decide +kernel
theorem dX1_walkTo_1 : decode cX1_walkTo 1 = .ok (.aload_n 0, 1) := by decide +kernel
theorem dX1_walkTo_2 : decode cX1_walkTo 2 = .ok (.getfield 15, 3) := by decide +kernel
theorem dX1_walkTo_5 : decode cX1_walkTo 5 = .ok (.isub, 1) := by decide +kernel
theorem dX1_walkTo_6 : decode cX1_walkTo 6 = .ok (.aload_n 0, 1) := by decide +kernel
theorem dX1_walkTo_7 : decode cX1_walkTo 7 = .ok (.getfield 24, 3) := by decide +kernel
theorem dX1_walkTo_10 : decode cX1_walkTo 10 = .ok (.if_icmp .le 19, 3) := by decide +kernel
theorem dX1_walkTo_13 : decode cX1_walkTo 13 = .ok (.aload_n 0, 1) := by decide +kernel
theorem dX1_walkTo_14 : decode cX1_walkTo 14 = .ok (.dup, 1) := by decide +kernel
theorem dX1_walkTo_15 : decode cX1_walkTo 15 = .ok (.getfield 15, 3) := by decide +kernel
theorem dX1_walkTo_18 : decode cX1_walkTo 18 = .ok (.aload_n 0, 1) := by decide +kernel
theorem dX1_walkTo_19 : decode cX1_walkTo 19 = .ok (.getfield 24, 3) := by decide +kernel
theorem dX1_walkTo_22 : decode cX1_walkTo 22 = .ok (.iadd, 1) := by decide +kernel
theorem dX1_walkTo_23 : decode cX1_walkTo 23 = .ok (.putfield 15, 3) := by decide +kernel
theorem dX1_walkTo_26 : decode cX1_walkTo 26 = .ok (.goto 37, 3) := by decide +kernel
theorem dX1_walkTo_29 : decode cX1_walkTo 29 = .ok (.aload_n 0, 1) := by decide +kernel
theorem dX1_walkTo_30 : decode cX1_walkTo 30 = .ok (.getfield 15, 3) := by decide +kernel
theorem dX1_walkTo_33 : decode cX1_walkTo 33 = .ok (.iload_n 1, 1) := by decide +kernel
theorem dX1_walkTo_34 : decode cX1_walkTo 34 = .ok (.isub, 1) := by decide +kernel
theorem dX1_walkTo_35 : decode cX1_walkTo 35 = .ok (.aload_n 0, 1) := by decide +kernel
theorem dX1_walkTo_36 : decode cX1_walkTo 36 = .ok (.getfield 24, 3) := by decide +kernel
theorem dX1_walkTo_39 : decode cX1_walkTo 39 = .ok (.if_icmp .le 19, 3) := by decide +kernel
theorem dX1_walkTo_42 : decode cX1_walkTo 42 = .ok (.aload_n 0, 1) := by decide +kernel
theorem dX1_walkTo_43 : decode cX1_walkTo 43 = .ok (.dup, 1) := by decide +kernel
theorem dX1_walkTo_44 : decode cX1_walkTo 44 = .ok (.getfield 15, 3) := by decide +kernel
theorem dX1_walkTo_47 : decode cX1_walkTo 47 = .ok (.aload_n 0, 1) := by decide +kernel
theorem dX1_walkTo_48 : decode cX1_walkTo 48 = .ok (.getfield 24, 3) := by decide +kernel
theorem dX1_walkTo_51 : decode cX1_walkTo 51 = .ok (.isub, 1) := by decide +kernel
theorem dX1_walkTo_52 : decode cX1_walkTo 52 = .ok (.putfield 15, 3) := by decide +kernel
theorem dX1_walkTo_55 : decode cX1_walkTo 55 = .ok (.goto 8, 3) := by decide +kernel
theorem dX1_walkTo_58 : decode cX1_walkTo 58 = .ok (.aload_n 0, 1) := by decide +kernel
theorem dX1_walkTo_59 : decode cX1_walkTo 59 = .ok (.iload_n 1, 1) := by decide +kernel
theorem dX1_walkTo_60 : decode cX1_walkTo 60 = .ok (.putfield 15, 3) := by decide +kernel
theorem dX1_walkTo_63 : decode cX1_walkTo 63 = .ok (.return_, 1) := by decide +kernel
theorem hd_X1_walkTo : yX1_walkTo.cls = RX1 ∧ yX1_walkTo.cls ≠ "java/lang/invoke/MethodHandle" ∧ yX1_walkTo.cls ≠ "java/lang/invoke/VarHandle" ∧ (parseMethodDescriptor yX1_walkTo.desc).map (fun d => d.parameters.length) = some 1 := by decide +kernel
def f_X1_walkTo (a0 : Nat) (a1 : Int32) (M : xM) : Option xM :=
  (if (a1 - (M (a0 + 0))) ≤ (M (a0 + 3)) then (if ((M (a0 + 0)) - a1) ≤ (M (a0 + 3)) then (some (upd M (a0 + 0) a1)) else (some (upd M (a0 + 0) ((M (a0 + 0)) - (M (a0 + 3)))))) else (some (upd M (a0 + 0) ((M (a0 + 0)) + (M (a0 + 3))))))
set_option maxRecDepth 100000 in
set_option maxHeartbeats 4000000 in
theorem c_X1_walkTo (l : Launch) (D : va_G) (g : xG) (tb : List xQ) (hT : x_T g tb) {a0 : Nat} {a1 : Int32} (h0 : ((1, a0, 0) : xQ) ∈ tb) {M M' : xM} (hf : f_X1_walkTo a0 a1 M = some M') :
    cV l D g tb yX1_walkTo cX1_walkTo 2 ({ frames := 0, cells := 0, slots := 0, locals := 0 } : Room) [.ref (g.1 1 a0), .int a1] M M' := by
  refine x_startV (own := RX1) (by decide +kernel) rfl rfl (Nat.le_of_ble_eq_true rfl) hT ?_
  intro p e s m args below meth c Q C0 hend
  unfold f_X1_walkTo at hf
  refine r_iload_n C0 (kk := 1) 1 rfl dX1_walkTo_0 ?_
  refine r_aload_n C0 (kk := 0) 0 rfl dX1_walkTo_1 ?_
  refine r_get1 C0 h0 0 (by decide) (v := .int (M (a0 + 0))) rfl rfl w1_99 dX1_walkTo_2 ?_
  refine r_isub C0 dX1_walkTo_5 ?_
  refine r_aload_n C0 (kk := 0) 0 rfl dX1_walkTo_6 ?_
  refine r_get1 C0 h0 3 (by decide) (v := .int (M (a0 + 3))) rfl rfl w1_106 dX1_walkTo_7 ?_
  refine r_icmp_le C0 (tgt := 29) (by decide) dX1_walkTo_10 (fun q1 => ?_) (fun q1 => ?_)
  · have hf := ie_t hf q1
    refine r_aload_n C0 (kk := 0) 0 rfl dX1_walkTo_29 ?_
    refine r_get1 C0 h0 0 (by decide) (v := .int (M (a0 + 0))) rfl rfl w1_99 dX1_walkTo_30 ?_
    refine r_iload_n C0 (kk := 1) 1 rfl dX1_walkTo_33 ?_
    refine r_isub C0 dX1_walkTo_34 ?_
    refine r_aload_n C0 (kk := 0) 0 rfl dX1_walkTo_35 ?_
    refine r_get1 C0 h0 3 (by decide) (v := .int (M (a0 + 3))) rfl rfl w1_106 dX1_walkTo_36 ?_
    refine r_icmp_le C0 (tgt := 58) (by decide) dX1_walkTo_39 (fun q2 => ?_) (fun q2 => ?_)
    · have hf := ie_t hf q2
      refine r_aload_n C0 (kk := 0) 0 rfl dX1_walkTo_58 ?_
      refine r_iload_n C0 (kk := 1) 1 rfl dX1_walkTo_59 ?_
      refine r_put1 C0 h0 0 rfl rfl w1_99 rfl rfl rfl dX1_walkTo_60 ?_
      exact hend hf dX1_walkTo_63
    · have hf := ie_f hf q2
      refine r_aload_n C0 (kk := 0) 0 rfl dX1_walkTo_42 ?_
      refine r_dup C0 rfl dX1_walkTo_43 ?_
      refine r_get1 C0 h0 0 (by decide) (v := .int (M (a0 + 0))) rfl rfl w1_99 dX1_walkTo_44 ?_
      refine r_aload_n C0 (kk := 0) 0 rfl dX1_walkTo_47 ?_
      refine r_get1 C0 h0 3 (by decide) (v := .int (M (a0 + 3))) rfl rfl w1_106 dX1_walkTo_48 ?_
      refine r_isub C0 dX1_walkTo_51 ?_
      refine r_put1 C0 h0 0 rfl rfl w1_99 rfl rfl rfl dX1_walkTo_52 ?_
      refine r_goto C0 (tgt := 63) (by decide) dX1_walkTo_55 ?_
      exact hend hf dX1_walkTo_63
  · have hf := ie_f hf q1
    refine r_aload_n C0 (kk := 0) 0 rfl dX1_walkTo_13 ?_
    refine r_dup C0 rfl dX1_walkTo_14 ?_
    refine r_get1 C0 h0 0 (by decide) (v := .int (M (a0 + 0))) rfl rfl w1_99 dX1_walkTo_15 ?_
    refine r_aload_n C0 (kk := 0) 0 rfl dX1_walkTo_18 ?_
    refine r_get1 C0 h0 3 (by decide) (v := .int (M (a0 + 3))) rfl rfl w1_106 dX1_walkTo_19 ?_
    refine r_iadd C0 dX1_walkTo_22 ?_
    refine r_put1 C0 h0 0 rfl rfl w1_99 rfl rfl rfl dX1_walkTo_23 ?_
    refine r_goto C0 (tgt := 63) (by decide) dX1_walkTo_26 ?_
    exact hend hf dX1_walkTo_63
theorem dX1_payTo_0 : decode cX1_payTo 0 = .ok (.aload_n 0, 1) := by decide +kernel
theorem dX1_payTo_1 : decode cX1_payTo 1 = .ok (.dup, 1) := by decide +kernel
theorem dX1_payTo_2 : decode cX1_payTo 2 = .ok (.getfield 18, 3) := by decide +kernel
theorem dX1_payTo_5 : decode cX1_payTo 5 = .ok (.aload_n 0, 1) := by decide +kernel
theorem dX1_payTo_6 : decode cX1_payTo 6 = .ok (.getfield 27, 3) := by decide +kernel
theorem dX1_payTo_9 : decode cX1_payTo 9 = .ok (.isub, 1) := by decide +kernel
theorem dX1_payTo_10 : decode cX1_payTo 10 = .ok (.putfield 18, 3) := by decide +kernel
theorem dX1_payTo_13 : decode cX1_payTo 13 = .ok (.aload_n 1, 1) := by decide +kernel
theorem dX1_payTo_14 : decode cX1_payTo 14 = .ok (.dup, 1) := by decide +kernel
theorem dX1_payTo_15 : decode cX1_payTo 15 = .ok (.getfield 47, 3) := by decide +kernel
theorem dX1_payTo_18 : decode cX1_payTo 18 = .ok (.aload_n 0, 1) := by decide +kernel
theorem dX1_payTo_19 : decode cX1_payTo 19 = .ok (.getfield 27, 3) := by decide +kernel
theorem dX1_payTo_22 : decode cX1_payTo 22 = .ok (.iadd, 1) := by decide +kernel
theorem dX1_payTo_23 : decode cX1_payTo 23 = .ok (.putfield 47, 3) := by decide +kernel
theorem dX1_payTo_26 : decode cX1_payTo 26 = .ok (.aload_n 1, 1) := by decide +kernel
theorem dX1_payTo_27 : decode cX1_payTo 27 = .ok (.dup, 1) := by decide +kernel
theorem dX1_payTo_28 : decode cX1_payTo 28 = .ok (.getfield 50, 3) := by decide +kernel
theorem dX1_payTo_31 : decode cX1_payTo 31 = .ok (.iconst 1, 1) := by decide +kernel
theorem dX1_payTo_32 : decode cX1_payTo 32 = .ok (.iadd, 1) := by decide +kernel
theorem dX1_payTo_33 : decode cX1_payTo 33 = .ok (.putfield 50, 3) := by decide +kernel
theorem dX1_payTo_36 : decode cX1_payTo 36 = .ok (.aload_n 0, 1) := by decide +kernel
theorem dX1_payTo_37 : decode cX1_payTo 37 = .ok (.dup, 1) := by decide +kernel
theorem dX1_payTo_38 : decode cX1_payTo 38 = .ok (.getfield 33, 3) := by decide +kernel
theorem dX1_payTo_41 : decode cX1_payTo 41 = .ok (.iconst 1, 1) := by decide +kernel
theorem dX1_payTo_42 : decode cX1_payTo 42 = .ok (.iadd, 1) := by decide +kernel
theorem dX1_payTo_43 : decode cX1_payTo 43 = .ok (.putfield 33, 3) := by decide +kernel
theorem dX1_payTo_46 : decode cX1_payTo 46 = .ok (.aload_n 0, 1) := by decide +kernel
theorem dX1_payTo_47 : decode cX1_payTo 47 = .ok (.invokevirtual 53, 3) := by decide +kernel
theorem dX1_payTo_50 : decode cX1_payTo 50 = .ok (.return_, 1) := by decide +kernel
theorem hd_X1_payTo : yX1_payTo.cls = RX1 ∧ yX1_payTo.cls ≠ "java/lang/invoke/MethodHandle" ∧ yX1_payTo.cls ≠ "java/lang/invoke/VarHandle" ∧ (parseMethodDescriptor yX1_payTo.desc).map (fun d => d.parameters.length) = some 1 := by decide +kernel
def f_X1_payTo (a0 : Nat) (a1 : Nat) (M : xM) : Option xM :=
  (bd (f_X1_letGo a0 (upd (upd (upd (upd M (a0 + 1) ((M (a0 + 1)) - (M (a0 + 5)))) (a1 + 7) (((upd M (a0 + 1) ((M (a0 + 1)) - (M (a0 + 5)))) (a1 + 7)) + ((upd M (a0 + 1) ((M (a0 + 1)) - (M (a0 + 5)))) (a0 + 5)))) (a1 + 5) (((upd (upd M (a0 + 1) ((M (a0 + 1)) - (M (a0 + 5)))) (a1 + 7) (((upd M (a0 + 1) ((M (a0 + 1)) - (M (a0 + 5)))) (a1 + 7)) + ((upd M (a0 + 1) ((M (a0 + 1)) - (M (a0 + 5)))) (a0 + 5)))) (a1 + 5)) + 1)) (a0 + 7) (((upd (upd (upd M (a0 + 1) ((M (a0 + 1)) - (M (a0 + 5)))) (a1 + 7) (((upd M (a0 + 1) ((M (a0 + 1)) - (M (a0 + 5)))) (a1 + 7)) + ((upd M (a0 + 1) ((M (a0 + 1)) - (M (a0 + 5)))) (a0 + 5)))) (a1 + 5) (((upd (upd M (a0 + 1) ((M (a0 + 1)) - (M (a0 + 5)))) (a1 + 7) (((upd M (a0 + 1) ((M (a0 + 1)) - (M (a0 + 5)))) (a1 + 7)) + ((upd M (a0 + 1) ((M (a0 + 1)) - (M (a0 + 5)))) (a0 + 5)))) (a1 + 5)) + 1)) (a0 + 7)) + 1))) (fun M2 => (some M2)))
set_option maxRecDepth 100000 in
set_option maxHeartbeats 4000000 in
theorem c_X1_payTo (l : Launch) (D : va_G) (g : xG) (tb : List xQ) (hT : x_T g tb) {a0 : Nat} {a1 : Nat} (h0 : ((1, a0, 0) : xQ) ∈ tb) (h1 : ((0, a1, 0) : xQ) ∈ tb) {M M' : xM} (hf : f_X1_payTo a0 a1 M = some M') :
    cV l D g tb yX1_payTo cX1_payTo 2 ({ frames := 1, cells := 0, slots := 0, locals := 20 } : Room) [.ref (g.1 1 a0), .ref (g.1 0 a1)] M M' := by
  refine x_startV (own := RX1) (by decide +kernel) rfl rfl (Nat.le_of_ble_eq_true rfl) hT ?_
  intro p e s m args below meth c Q C0 hend
  unfold f_X1_payTo at hf
  refine r_aload_n C0 (kk := 0) 0 rfl dX1_payTo_0 ?_
  refine r_dup C0 rfl dX1_payTo_1 ?_
  refine r_get1 C0 h0 1 (by decide) (v := .int (M (a0 + 1))) rfl rfl w1_102 dX1_payTo_2 ?_
  refine r_aload_n C0 (kk := 0) 0 rfl dX1_payTo_5 ?_
  refine r_get1 C0 h0 5 (by decide) (v := .int (M (a0 + 5))) rfl rfl w1_111 dX1_payTo_6 ?_
  refine r_isub C0 dX1_payTo_9 ?_
  refine r_put1 C0 h0 1 rfl rfl w1_102 rfl rfl rfl dX1_payTo_10 ?_
  refine r_aload_n C0 (kk := 1) 1 rfl dX1_payTo_13 ?_
  refine r_dup C0 rfl dX1_payTo_14 ?_
  refine r_get0 C0 h1 7 (by decide) (v := .int ((upd M (a0 + 1) ((M (a0 + 1)) - (M (a0 + 5)))) (a1 + 7))) rfl rfl w1_70 dX1_payTo_15 ?_
  refine r_aload_n C0 (kk := 0) 0 rfl dX1_payTo_18 ?_
  refine r_get1 C0 h0 5 (by decide) (v := .int ((upd M (a0 + 1) ((M (a0 + 1)) - (M (a0 + 5)))) (a0 + 5))) rfl rfl w1_111 dX1_payTo_19 ?_
  refine r_iadd C0 dX1_payTo_22 ?_
  refine r_put0 C0 h1 7 rfl rfl w1_70 rfl rfl rfl dX1_payTo_23 ?_
  refine r_aload_n C0 (kk := 1) 1 rfl dX1_payTo_26 ?_
  refine r_dup C0 rfl dX1_payTo_27 ?_
  refine r_get0 C0 h1 5 (by decide) (v := .int ((upd (upd M (a0 + 1) ((M (a0 + 1)) - (M (a0 + 5)))) (a1 + 7) (((upd M (a0 + 1) ((M (a0 + 1)) - (M (a0 + 5)))) (a1 + 7)) + ((upd M (a0 + 1) ((M (a0 + 1)) - (M (a0 + 5)))) (a0 + 5)))) (a1 + 5))) rfl rfl w1_64 dX1_payTo_28 ?_
  refine r_iconst C0 (v := 1) dX1_payTo_31 rfl ?_
  refine r_iadd C0 dX1_payTo_32 ?_
  refine r_put0 C0 h1 5 rfl rfl w1_64 rfl rfl rfl dX1_payTo_33 ?_
  refine r_aload_n C0 (kk := 0) 0 rfl dX1_payTo_36 ?_
  refine r_dup C0 rfl dX1_payTo_37 ?_
  refine r_get1 C0 h0 7 (by decide) (v := .int ((upd (upd (upd M (a0 + 1) ((M (a0 + 1)) - (M (a0 + 5)))) (a1 + 7) (((upd M (a0 + 1) ((M (a0 + 1)) - (M (a0 + 5)))) (a1 + 7)) + ((upd M (a0 + 1) ((M (a0 + 1)) - (M (a0 + 5)))) (a0 + 5)))) (a1 + 5) (((upd (upd M (a0 + 1) ((M (a0 + 1)) - (M (a0 + 5)))) (a1 + 7) (((upd M (a0 + 1) ((M (a0 + 1)) - (M (a0 + 5)))) (a1 + 7)) + ((upd M (a0 + 1) ((M (a0 + 1)) - (M (a0 + 5)))) (a0 + 5)))) (a1 + 5)) + 1)) (a0 + 7))) rfl rfl w1_116 dX1_payTo_38 ?_
  refine r_iconst C0 (v := 1) dX1_payTo_41 rfl ?_
  refine r_iadd C0 dX1_payTo_42 ?_
  refine r_put1 C0 h0 7 rfl rfl w1_116 rfl rfl rfl dX1_payTo_43 ?_
  refine r_aload_n C0 (kk := 0) 0 rfl dX1_payTo_46 ?_
  obtain ⟨M2, hc1, hf⟩ := bd_e hf
  refine r_callVv C0 (As := []) (rest := []) (c_X1_letGo l D g tb hT h0 hc1) w3_44 w3_9 w3_10 w1_4 w3_11 (x_rec1 C0 h0) hd_X1_letGo rfl ⟨rfl, rfl⟩ ⟨Nat.le_of_ble_eq_true rfl, Nat.le_of_ble_eq_true rfl⟩ (by decide) (by decide) rfl (Nat.le_of_ble_eq_true rfl) dX1_payTo_47 ?_
  exact hend hf dX1_payTo_50
theorem dX4_paces_0 : decode cX4_paces 0 = .ok (.iload_n 0, 1) := by decide +kernel
theorem dX4_paces_1 : decode cX4_paces 1 = .ok (.tableswitch 46 0 2 #[27, 34, 39], 27) := by decide +kernel
theorem dX4_paces_28 : decode cX4_paces 28 = .ok (.bipush 30, 2) := by decide +kernel
theorem dX4_paces_30 : decode cX4_paces 30 = .ok (.iconst 2, 1) := by decide +kernel
theorem dX4_paces_31 : decode cX4_paces 31 = .ok (.iload_n 1, 1) := by decide +kernel
theorem dX4_paces_32 : decode cX4_paces 32 = .ok (.imul, 1) := by decide +kernel
theorem dX4_paces_33 : decode cX4_paces 33 = .ok (.isub, 1) := by decide +kernel
theorem dX4_paces_34 : decode cX4_paces 34 = .ok (.ireturn, 1) := by decide +kernel
theorem dX4_paces_35 : decode cX4_paces 35 = .ok (.bipush 24, 2) := by decide +kernel
theorem dX4_paces_37 : decode cX4_paces 37 = .ok (.iload_n 1, 1) := by decide +kernel
theorem dX4_paces_38 : decode cX4_paces 38 = .ok (.isub, 1) := by decide +kernel
theorem dX4_paces_39 : decode cX4_paces 39 = .ok (.ireturn, 1) := by decide +kernel
theorem dX4_paces_40 : decode cX4_paces 40 = .ok (.bipush 45, 2) := by decide +kernel
theorem dX4_paces_42 : decode cX4_paces 42 = .ok (.iconst 5, 1) := by decide +kernel
theorem dX4_paces_43 : decode cX4_paces 43 = .ok (.iload_n 1, 1) := by decide +kernel
theorem dX4_paces_44 : decode cX4_paces 44 = .ok (.imul, 1) := by decide +kernel
theorem dX4_paces_45 : decode cX4_paces 45 = .ok (.isub, 1) := by decide +kernel
theorem dX4_paces_46 : decode cX4_paces 46 = .ok (.ireturn, 1) := by decide +kernel
theorem dX4_paces_47 : decode cX4_paces 47 = .ok (.bipush 12, 2) := by decide +kernel
theorem dX4_paces_49 : decode cX4_paces 49 = .ok (.ireturn, 1) := by decide +kernel
theorem hd_X4_paces : yX4_paces.cls ≠ "java/lang/invoke/MethodHandle" ∧ yX4_paces.cls ≠ "java/lang/invoke/VarHandle" ∧ (parseMethodDescriptor yX4_paces.desc).map (fun d => d.parameters.length) = some 2 := by decide +kernel
def f_X4_paces (a0 : Int32) (a1 : Int32) (M : xM) : Option (Int32 × xM) :=
  (if a0 = 0 then (some ((30 - (2 * a1)), M)) else if a0 = 1 then (some ((24 - a1), M)) else if a0 = 2 then (some ((45 - (5 * a1)), M)) else (some (12, M)))
set_option maxRecDepth 100000 in
set_option maxHeartbeats 4000000 in
theorem c_X4_paces (l : Launch) (D : va_G) (g : xG) (tb : List xQ) (hT : x_T g tb) {a0 : Int32} {a1 : Int32}  {M : xM} {r : Int32} {M' : xM} (hf : f_X4_paces a0 a1 M = some (r, M')) :
    cI l D g tb yX4_paces cX4_paces 2 .int ({ frames := 0, cells := 0, slots := 0, locals := 0 } : Room) [.int a0, .int a1] M r M' := by
  refine x_startI (own := RX4) (by decide +kernel) rfl rfl (Nat.le_of_ble_eq_true rfl) hT ?_
  intro p e s m args below meth c Q C0 hend
  unfold f_X4_paces at hf
  refine r_iload_n C0 (kk := 0) 0 rfl dX4_paces_0 ?_
  rcases Decidable.em (a0 = 0) with q1 | q1
  · have hf := ie_t hf q1
    refine r_tsc C0 (cst := 0) q1 (by decide) (by decide) rfl (tgt := 28) (by decide) dX4_paces_1 ?_
    refine r_bipush C0 (v := 30) dX4_paces_28 rfl ?_
    refine r_iconst C0 (v := 2) dX4_paces_30 rfl ?_
    refine r_iload_n C0 (kk := 1) 1 rfl dX4_paces_31 ?_
    refine r_imul C0 dX4_paces_32 ?_
    refine r_isub C0 dX4_paces_33 ?_
    exact hend hf dX4_paces_34
  have hf := ie_f hf q1
  have nq1 : Int32.toInt a0 ≠ 0 := fun h => q1 (Int32.toInt_inj.mp h)
  rcases Decidable.em (a0 = 1) with q2 | q2
  · have hf := ie_t hf q2
    refine r_tsc C0 (cst := 1) q2 (by decide) (by decide) rfl (tgt := 35) (by decide) dX4_paces_1 ?_
    refine r_bipush C0 (v := 24) dX4_paces_35 rfl ?_
    refine r_iload_n C0 (kk := 1) 1 rfl dX4_paces_37 ?_
    refine r_isub C0 dX4_paces_38 ?_
    exact hend hf dX4_paces_39
  have hf := ie_f hf q2
  have nq2 : Int32.toInt a0 ≠ 1 := fun h => q2 (Int32.toInt_inj.mp h)
  rcases Decidable.em (a0 = 2) with q3 | q3
  · have hf := ie_t hf q3
    refine r_tsc C0 (cst := 2) q3 (by decide) (by decide) rfl (tgt := 40) (by decide) dX4_paces_1 ?_
    refine r_bipush C0 (v := 45) dX4_paces_40 rfl ?_
    refine r_iconst C0 (v := 5) dX4_paces_42 rfl ?_
    refine r_iload_n C0 (kk := 1) 1 rfl dX4_paces_43 ?_
    refine r_imul C0 dX4_paces_44 ?_
    refine r_isub C0 dX4_paces_45 ?_
    exact hend hf dX4_paces_46
  have hf := ie_f hf q3
  have nq3 : Int32.toInt a0 ≠ 2 := fun h => q3 (Int32.toInt_inj.mp h)
  refine r_tsd C0 (by omega) (tgt := 47) (by decide) dX4_paces_1 ?_
  refine r_bipush C0 (v := 12) dX4_paces_47 rfl ?_
  exact hend hf dX4_paces_49
theorem dX1_avoids_0 : decode cX1_avoids 0 = .ok (.aload_n 0, 1) := by decide +kernel
theorem dX1_avoids_1 : decode cX1_avoids 1 = .ok (.getfield 30, 3) := by decide +kernel
theorem dX1_avoids_4 : decode cX1_avoids 4 = .ok (.iload_n 1, 1) := by decide +kernel
theorem dX1_avoids_5 : decode cX1_avoids 5 = .ok (.ishr, 1) := by decide +kernel
theorem dX1_avoids_6 : decode cX1_avoids 6 = .ok (.iconst 1, 1) := by decide +kernel
theorem dX1_avoids_7 : decode cX1_avoids 7 = .ok (.iand, 1) := by decide +kernel
theorem dX1_avoids_8 : decode cX1_avoids 8 = .ok (.ifCond .eq 7, 3) := by decide +kernel
theorem dX1_avoids_11 : decode cX1_avoids 11 = .ok (.iconst 1, 1) := by decide +kernel
theorem dX1_avoids_12 : decode cX1_avoids 12 = .ok (.goto 4, 3) := by decide +kernel
theorem dX1_avoids_15 : decode cX1_avoids 15 = .ok (.iconst 0, 1) := by decide +kernel
theorem dX1_avoids_16 : decode cX1_avoids 16 = .ok (.ireturn, 1) := by decide +kernel
theorem hd_X1_avoids : yX1_avoids.cls = RX1 ∧ yX1_avoids.cls ≠ "java/lang/invoke/MethodHandle" ∧ yX1_avoids.cls ≠ "java/lang/invoke/VarHandle" ∧ (parseMethodDescriptor yX1_avoids.desc).map (fun d => d.parameters.length) = some 1 := by decide +kernel
def f_X1_avoids (a0 : Nat) (a1 : Int32) (M : xM) : Option (Int32 × xM) :=
  (if (((M (a0 + 6)) >>> (a1 &&& 31)) &&& 1) = 0 then (some (0, M)) else (some (1, M)))
set_option maxRecDepth 100000 in
set_option maxHeartbeats 4000000 in
theorem c_X1_avoids (l : Launch) (D : va_G) (g : xG) (tb : List xQ) (hT : x_T g tb) {a0 : Nat} {a1 : Int32} (h0 : ((1, a0, 0) : xQ) ∈ tb) {M : xM} {r : Int32} {M' : xM} (hf : f_X1_avoids a0 a1 M = some (r, M')) :
    cI l D g tb yX1_avoids cX1_avoids 2 .boolean ({ frames := 0, cells := 0, slots := 0, locals := 0 } : Room) [.ref (g.1 1 a0), .int a1] M r M' := by
  refine x_startZ (own := RX1) (by decide +kernel) rfl rfl (Nat.le_of_ble_eq_true rfl) hT ?_
  intro p e s m args below meth c Q C0 hend
  unfold f_X1_avoids at hf
  refine r_aload_n C0 (kk := 0) 0 rfl dX1_avoids_0 ?_
  refine r_get1 C0 h0 6 (by decide) (v := .int (M (a0 + 6))) rfl rfl w1_113 dX1_avoids_1 ?_
  refine r_iload_n C0 (kk := 1) 1 rfl dX1_avoids_4 ?_
  refine r_ishr C0 dX1_avoids_5 ?_
  refine r_iconst C0 (v := 1) dX1_avoids_6 rfl ?_
  refine r_iand C0 dX1_avoids_7 ?_
  refine r_if_eq C0 (tgt := 15) (by decide) dX1_avoids_8 (fun q1 => ?_) (fun q1 => ?_)
  · have hf := ie_t hf q1
    refine r_iconst C0 (v := 0) dX1_avoids_15 rfl ?_
    exact hend (by decide) hf dX1_avoids_16
  · have hf := ie_f hf q1
    refine r_iconst C0 (v := 1) dX1_avoids_11 rfl ?_
    refine r_goto C0 (tgt := 16) (by decide) dX1_avoids_12 ?_
    exact hend (by decide) hf dX1_avoids_16
theorem dX1_feel_0 : decode cX1_feel 0 = .ok (.aload_n 1, 1) := by decide +kernel
theorem dX1_feel_1 : decode cX1_feel 1 = .ok (.getfield 36, 3) := by decide +kernel
theorem dX1_feel_4 : decode cX1_feel 4 = .ok (.aload_n 0, 1) := by decide +kernel
theorem dX1_feel_5 : decode cX1_feel 5 = .ok (.getfield 21, 3) := by decide +kernel
theorem dX1_feel_8 : decode cX1_feel 8 = .ok (.if_icmp .eq 5, 3) := by decide +kernel
theorem dX1_feel_11 : decode cX1_feel 11 = .ok (.iconst 1, 1) := by decide +kernel
theorem dX1_feel_12 : decode cX1_feel 12 = .ok (.ireturn, 1) := by decide +kernel
theorem dX1_feel_13 : decode cX1_feel 13 = .ok (.aload_n 1, 1) := by decide +kernel
theorem dX1_feel_14 : decode cX1_feel 14 = .ok (.getfield 41, 3) := by decide +kernel
theorem dX1_feel_17 : decode cX1_feel 17 = .ok (.ifCond .ne 5, 3) := by decide +kernel
theorem dX1_feel_20 : decode cX1_feel 20 = .ok (.iconst 2, 1) := by decide +kernel
theorem dX1_feel_21 : decode cX1_feel 21 = .ok (.ireturn, 1) := by decide +kernel
theorem dX1_feel_22 : decode cX1_feel 22 = .ok (.aload_n 1, 1) := by decide +kernel
theorem dX1_feel_23 : decode cX1_feel 23 = .ok (.getfield 44, 3) := by decide +kernel
theorem dX1_feel_26 : decode cX1_feel 26 = .ok (.aload_n 0, 1) := by decide +kernel
theorem dX1_feel_27 : decode cX1_feel 27 = .ok (.getfield 18, 3) := by decide +kernel
theorem dX1_feel_30 : decode cX1_feel 30 = .ok (.if_icmp .le 7, 3) := by decide +kernel
theorem dX1_feel_33 : decode cX1_feel 33 = .ok (.iconst 3, 1) := by decide +kernel
theorem dX1_feel_34 : decode cX1_feel 34 = .ok (.goto 4, 3) := by decide +kernel
theorem dX1_feel_37 : decode cX1_feel 37 = .ok (.iconst 0, 1) := by decide +kernel
theorem dX1_feel_38 : decode cX1_feel 38 = .ok (.ireturn, 1) := by decide +kernel
theorem hd_X1_feel : yX1_feel.cls = RX1 ∧ yX1_feel.cls ≠ "java/lang/invoke/MethodHandle" ∧ yX1_feel.cls ≠ "java/lang/invoke/VarHandle" ∧ (parseMethodDescriptor yX1_feel.desc).map (fun d => d.parameters.length) = some 1 := by decide +kernel
def f_X1_feel (a0 : Nat) (a1 : Nat) (M : xM) : Option (Int32 × xM) :=
  (if (M (a1 + 2)) = (M (a0 + 2)) then (if (M (a1 + 4)) = 0 then (some (2, M)) else (if (M (a1 + 3)) ≤ (M (a0 + 1)) then (some (0, M)) else (some (3, M)))) else (some (1, M)))
set_option maxRecDepth 100000 in
set_option maxHeartbeats 4000000 in
theorem c_X1_feel (l : Launch) (D : va_G) (g : xG) (tb : List xQ) (hT : x_T g tb) {a0 : Nat} {a1 : Nat} (h0 : ((1, a0, 0) : xQ) ∈ tb) (h1 : ((0, a1, 0) : xQ) ∈ tb) {M : xM} {r : Int32} {M' : xM} (hf : f_X1_feel a0 a1 M = some (r, M')) :
    cI l D g tb yX1_feel cX1_feel 2 .int ({ frames := 0, cells := 0, slots := 0, locals := 0 } : Room) [.ref (g.1 1 a0), .ref (g.1 0 a1)] M r M' := by
  refine x_startI (own := RX1) (by decide +kernel) rfl rfl (Nat.le_of_ble_eq_true rfl) hT ?_
  intro p e s m args below meth c Q C0 hend
  unfold f_X1_feel at hf
  refine r_aload_n C0 (kk := 1) 1 rfl dX1_feel_0 ?_
  refine r_get0 C0 h1 2 (by decide) (v := .int (M (a1 + 2))) rfl rfl w1_52 dX1_feel_1 ?_
  refine r_aload_n C0 (kk := 0) 0 rfl dX1_feel_4 ?_
  refine r_get1 C0 h0 2 (by decide) (v := .int (M (a0 + 2))) rfl rfl w1_104 dX1_feel_5 ?_
  refine r_icmp_eq C0 (tgt := 13) (by decide) dX1_feel_8 (fun q1 => ?_) (fun q1 => ?_)
  · have hf := ie_t hf q1
    refine r_aload_n C0 (kk := 1) 1 rfl dX1_feel_13 ?_
    refine r_get0 C0 h1 4 (by decide) (v := .int (M (a1 + 4))) rfl rfl w1_59 dX1_feel_14 ?_
    refine r_if_ne C0 (tgt := 22) (by decide) dX1_feel_17 (fun q2 => ?_) (fun q2 => ?_)
    · have hf := ie_f hf q2
      refine r_aload_n C0 (kk := 1) 1 rfl dX1_feel_22 ?_
      refine r_get0 C0 h1 3 (by decide) (v := .int (M (a1 + 3))) rfl rfl w1_55 dX1_feel_23 ?_
      refine r_aload_n C0 (kk := 0) 0 rfl dX1_feel_26 ?_
      refine r_get1 C0 h0 1 (by decide) (v := .int (M (a0 + 1))) rfl rfl w1_102 dX1_feel_27 ?_
      refine r_icmp_le C0 (tgt := 37) (by decide) dX1_feel_30 (fun q3 => ?_) (fun q3 => ?_)
      · have hf := ie_t hf q3
        refine r_iconst C0 (v := 0) dX1_feel_37 rfl ?_
        exact hend hf dX1_feel_38
      · have hf := ie_f hf q3
        refine r_iconst C0 (v := 3) dX1_feel_33 rfl ?_
        refine r_goto C0 (tgt := 38) (by decide) dX1_feel_34 ?_
        exact hend hf dX1_feel_38
    · have hf := ie_t hf q2
      refine r_iconst C0 (v := 2) dX1_feel_20 rfl ?_
      exact hend hf dX1_feel_21
  · have hf := ie_f hf q1
    refine r_iconst C0 (v := 1) dX1_feel_11 rfl ?_
    exact hend hf dX1_feel_12
theorem dX1_take_0 : decode cX1_take 0 = .ok (.aload_n 1, 1) := by decide +kernel
theorem dX1_take_1 : decode cX1_take 1 = .ok (.dup, 1) := by decide +kernel
theorem dX1_take_2 : decode cX1_take 2 = .ok (.getfield 41, 3) := by decide +kernel
theorem dX1_take_5 : decode cX1_take 5 = .ok (.iconst 1, 1) := by decide +kernel
theorem dX1_take_6 : decode cX1_take 6 = .ok (.isub, 1) := by decide +kernel
theorem dX1_take_7 : decode cX1_take 7 = .ok (.putfield 41, 3) := by decide +kernel
theorem dX1_take_10 : decode cX1_take 10 = .ok (.aload_n 0, 1) := by decide +kernel
theorem dX1_take_11 : decode cX1_take 11 = .ok (.iload_n 2, 1) := by decide +kernel
theorem dX1_take_12 : decode cX1_take 12 = .ok (.putfield 9, 3) := by decide +kernel
theorem dX1_take_15 : decode cX1_take 15 = .ok (.aload_n 0, 1) := by decide +kernel
theorem dX1_take_16 : decode cX1_take 16 = .ok (.aload_n 1, 1) := by decide +kernel
theorem dX1_take_17 : decode cX1_take 17 = .ok (.getfield 44, 3) := by decide +kernel
theorem dX1_take_20 : decode cX1_take 20 = .ok (.putfield 27, 3) := by decide +kernel
theorem dX1_take_23 : decode cX1_take 23 = .ok (.return_, 1) := by decide +kernel
theorem hd_X1_take : yX1_take.cls = RX1 ∧ yX1_take.cls ≠ "java/lang/invoke/MethodHandle" ∧ yX1_take.cls ≠ "java/lang/invoke/VarHandle" ∧ (parseMethodDescriptor yX1_take.desc).map (fun d => d.parameters.length) = some 2 := by decide +kernel
def f_X1_take (a0 : Nat) (a1 : Nat) (a2 : Int32) (M : xM) : Option xM :=
  (some (upd (upd (upd M (a1 + 4) ((M (a1 + 4)) - 1)) (a0 + 4) a2) (a0 + 5) ((upd (upd M (a1 + 4) ((M (a1 + 4)) - 1)) (a0 + 4) a2) (a1 + 3))))
set_option maxRecDepth 100000 in
set_option maxHeartbeats 4000000 in
theorem c_X1_take (l : Launch) (D : va_G) (g : xG) (tb : List xQ) (hT : x_T g tb) {a0 : Nat} {a1 : Nat} {a2 : Int32} (h0 : ((1, a0, 0) : xQ) ∈ tb) (h1 : ((0, a1, 0) : xQ) ∈ tb) {M M' : xM} (hf : f_X1_take a0 a1 a2 M = some M') :
    cV l D g tb yX1_take cX1_take 3 ({ frames := 0, cells := 0, slots := 0, locals := 0 } : Room) [.ref (g.1 1 a0), .ref (g.1 0 a1), .int a2] M M' := by
  refine x_startV (own := RX1) (by decide +kernel) rfl rfl (Nat.le_of_ble_eq_true rfl) hT ?_
  intro p e s m args below meth c Q C0 hend
  unfold f_X1_take at hf
  refine r_aload_n C0 (kk := 1) 1 rfl dX1_take_0 ?_
  refine r_dup C0 rfl dX1_take_1 ?_
  refine r_get0 C0 h1 4 (by decide) (v := .int (M (a1 + 4))) rfl rfl w1_59 dX1_take_2 ?_
  refine r_iconst C0 (v := 1) dX1_take_5 rfl ?_
  refine r_isub C0 dX1_take_6 ?_
  refine r_put0 C0 h1 4 rfl rfl w1_59 rfl rfl rfl dX1_take_7 ?_
  refine r_aload_n C0 (kk := 0) 0 rfl dX1_take_10 ?_
  refine r_iload_n C0 (kk := 2) 2 rfl dX1_take_11 ?_
  refine r_put1 C0 h0 4 rfl rfl w1_108 rfl rfl rfl dX1_take_12 ?_
  refine r_aload_n C0 (kk := 0) 0 rfl dX1_take_15 ?_
  refine r_aload_n C0 (kk := 1) 1 rfl dX1_take_16 ?_
  refine r_get0 C0 h1 3 (by decide) (v := .int ((upd (upd M (a1 + 4) ((M (a1 + 4)) - 1)) (a0 + 4) a2) (a1 + 3))) rfl rfl w1_55 dX1_take_17 ?_
  refine r_put1 C0 h0 5 rfl rfl w1_111 rfl rfl rfl dX1_take_20 ?_
  exact hend hf dX1_take_23
theorem dX4_guardedDensity_0 : decode cX4_guardedDensity 0 = .ok (.aload_n 0, 1) := by decide +kernel
theorem dX4_guardedDensity_1 : decode cX4_guardedDensity 1 = .ok (.getfield 15, 3) := by decide +kernel
theorem dX4_guardedDensity_4 : decode cX4_guardedDensity 4 = .ok (.tableswitch 36 0 2 #[28, 31, 33], 28) := by decide +kernel
theorem dX4_guardedDensity_32 : decode cX4_guardedDensity 32 = .ok (.bipush 7, 2) := by decide +kernel
theorem dX4_guardedDensity_34 : decode cX4_guardedDensity 34 = .ok (.ireturn, 1) := by decide +kernel
theorem dX4_guardedDensity_35 : decode cX4_guardedDensity 35 = .ok (.iconst 5, 1) := by decide +kernel
theorem dX4_guardedDensity_36 : decode cX4_guardedDensity 36 = .ok (.ireturn, 1) := by decide +kernel
theorem dX4_guardedDensity_37 : decode cX4_guardedDensity 37 = .ok (.bipush 6, 2) := by decide +kernel
theorem dX4_guardedDensity_39 : decode cX4_guardedDensity 39 = .ok (.ireturn, 1) := by decide +kernel
theorem dX4_guardedDensity_40 : decode cX4_guardedDensity 40 = .ok (.bipush 9, 2) := by decide +kernel
theorem dX4_guardedDensity_42 : decode cX4_guardedDensity 42 = .ok (.ireturn, 1) := by decide +kernel
theorem hd_X4_guardedDensity : yX4_guardedDensity.cls = RX4 ∧ yX4_guardedDensity.cls ≠ "java/lang/invoke/MethodHandle" ∧ yX4_guardedDensity.cls ≠ "java/lang/invoke/VarHandle" ∧ (parseMethodDescriptor yX4_guardedDensity.desc).map (fun d => d.parameters.length) = some 0 := by decide +kernel
def f_X4_guardedDensity (a0 : Nat) (M : xM) : Option (Int32 × xM) :=
  (if (M (a0 + 1)) = 0 then (some (7, M)) else if (M (a0 + 1)) = 1 then (some (5, M)) else if (M (a0 + 1)) = 2 then (some (6, M)) else (some (9, M)))
set_option maxRecDepth 100000 in
set_option maxHeartbeats 4000000 in
theorem c_X4_guardedDensity (l : Launch) (D : va_G) (g : xG) (tb : List xQ) (hT : x_T g tb) {a0 : Nat} (h0 : ((0, a0, 0) : xQ) ∈ tb) {M : xM} {r : Int32} {M' : xM} (hf : f_X4_guardedDensity a0 M = some (r, M')) :
    cI l D g tb yX4_guardedDensity cX4_guardedDensity 1 .int ({ frames := 0, cells := 0, slots := 0, locals := 0 } : Room) [.ref (g.1 0 a0)] M r M' := by
  refine x_startI (own := RX4) (by decide +kernel) rfl rfl (Nat.le_of_ble_eq_true rfl) hT ?_
  intro p e s m args below meth c Q C0 hend
  unfold f_X4_guardedDensity at hf
  refine r_aload_n C0 (kk := 0) 0 rfl dX4_guardedDensity_0 ?_
  refine r_get0 C0 h0 1 (by decide) (v := .int (M (a0 + 1))) rfl rfl w1_48 dX4_guardedDensity_1 ?_
  rcases Decidable.em ((M (a0 + 1)) = 0) with q1 | q1
  · have hf := ie_t hf q1
    refine r_tsc C0 (cst := 0) q1 (by decide) (by decide) rfl (tgt := 32) (by decide) dX4_guardedDensity_4 ?_
    refine r_bipush C0 (v := 7) dX4_guardedDensity_32 rfl ?_
    exact hend hf dX4_guardedDensity_34
  have hf := ie_f hf q1
  have nq1 : Int32.toInt (M (a0 + 1)) ≠ 0 := fun h => q1 (Int32.toInt_inj.mp h)
  rcases Decidable.em ((M (a0 + 1)) = 1) with q2 | q2
  · have hf := ie_t hf q2
    refine r_tsc C0 (cst := 1) q2 (by decide) (by decide) rfl (tgt := 35) (by decide) dX4_guardedDensity_4 ?_
    refine r_iconst C0 (v := 5) dX4_guardedDensity_35 rfl ?_
    exact hend hf dX4_guardedDensity_36
  have hf := ie_f hf q2
  have nq2 : Int32.toInt (M (a0 + 1)) ≠ 1 := fun h => q2 (Int32.toInt_inj.mp h)
  rcases Decidable.em ((M (a0 + 1)) = 2) with q3 | q3
  · have hf := ie_t hf q3
    refine r_tsc C0 (cst := 2) q3 (by decide) (by decide) rfl (tgt := 37) (by decide) dX4_guardedDensity_4 ?_
    refine r_bipush C0 (v := 6) dX4_guardedDensity_37 rfl ?_
    exact hend hf dX4_guardedDensity_39
  have hf := ie_f hf q3
  have nq3 : Int32.toInt (M (a0 + 1)) ≠ 2 := fun h => q3 (Int32.toInt_inj.mp h)
  refine r_tsd C0 (by omega) (tgt := 40) (by decide) dX4_guardedDensity_4 ?_
  refine r_bipush C0 (v := 9) dX4_guardedDensity_40 rfl ?_
  exact hend hf dX4_guardedDensity_42
theorem dX4_copyFrom_0 : decode cX4_copyFrom 0 = .ok (.aload_n 0, 1) := by decide +kernel
theorem dX4_copyFrom_1 : decode cX4_copyFrom 1 = .ok (.aload_n 1, 1) := by decide +kernel
theorem dX4_copyFrom_2 : decode cX4_copyFrom 2 = .ok (.getfield 9, 3) := by decide +kernel
theorem dX4_copyFrom_5 : decode cX4_copyFrom 5 = .ok (.putfield 9, 3) := by decide +kernel
theorem dX4_copyFrom_8 : decode cX4_copyFrom 8 = .ok (.aload_n 0, 1) := by decide +kernel
theorem dX4_copyFrom_9 : decode cX4_copyFrom 9 = .ok (.aload_n 1, 1) := by decide +kernel
theorem dX4_copyFrom_10 : decode cX4_copyFrom 10 = .ok (.getfield 15, 3) := by decide +kernel
theorem dX4_copyFrom_13 : decode cX4_copyFrom 13 = .ok (.putfield 15, 3) := by decide +kernel
theorem dX4_copyFrom_16 : decode cX4_copyFrom 16 = .ok (.aload_n 0, 1) := by decide +kernel
theorem dX4_copyFrom_17 : decode cX4_copyFrom 17 = .ok (.aload_n 1, 1) := by decide +kernel
theorem dX4_copyFrom_18 : decode cX4_copyFrom 18 = .ok (.getfield 18, 3) := by decide +kernel
theorem dX4_copyFrom_21 : decode cX4_copyFrom 21 = .ok (.putfield 18, 3) := by decide +kernel
theorem dX4_copyFrom_24 : decode cX4_copyFrom 24 = .ok (.aload_n 0, 1) := by decide +kernel
theorem dX4_copyFrom_25 : decode cX4_copyFrom 25 = .ok (.aload_n 1, 1) := by decide +kernel
theorem dX4_copyFrom_26 : decode cX4_copyFrom 26 = .ok (.getfield 21, 3) := by decide +kernel
theorem dX4_copyFrom_29 : decode cX4_copyFrom 29 = .ok (.putfield 21, 3) := by decide +kernel
theorem dX4_copyFrom_32 : decode cX4_copyFrom 32 = .ok (.aload_n 0, 1) := by decide +kernel
theorem dX4_copyFrom_33 : decode cX4_copyFrom 33 = .ok (.aload_n 1, 1) := by decide +kernel
theorem dX4_copyFrom_34 : decode cX4_copyFrom 34 = .ok (.getfield 24, 3) := by decide +kernel
theorem dX4_copyFrom_37 : decode cX4_copyFrom 37 = .ok (.putfield 24, 3) := by decide +kernel
theorem dX4_copyFrom_40 : decode cX4_copyFrom 40 = .ok (.aload_n 0, 1) := by decide +kernel
theorem dX4_copyFrom_41 : decode cX4_copyFrom 41 = .ok (.aload_n 1, 1) := by decide +kernel
theorem dX4_copyFrom_42 : decode cX4_copyFrom 42 = .ok (.getfield 27, 3) := by decide +kernel
theorem dX4_copyFrom_45 : decode cX4_copyFrom 45 = .ok (.putfield 27, 3) := by decide +kernel
theorem dX4_copyFrom_48 : decode cX4_copyFrom 48 = .ok (.aload_n 0, 1) := by decide +kernel
theorem dX4_copyFrom_49 : decode cX4_copyFrom 49 = .ok (.aload_n 1, 1) := by decide +kernel
theorem dX4_copyFrom_50 : decode cX4_copyFrom 50 = .ok (.getfield 30, 3) := by decide +kernel
theorem dX4_copyFrom_53 : decode cX4_copyFrom 53 = .ok (.putfield 30, 3) := by decide +kernel
theorem dX4_copyFrom_56 : decode cX4_copyFrom 56 = .ok (.aload_n 0, 1) := by decide +kernel
theorem dX4_copyFrom_57 : decode cX4_copyFrom 57 = .ok (.aload_n 1, 1) := by decide +kernel
theorem dX4_copyFrom_58 : decode cX4_copyFrom 58 = .ok (.getfield 33, 3) := by decide +kernel
theorem dX4_copyFrom_61 : decode cX4_copyFrom 61 = .ok (.putfield 33, 3) := by decide +kernel
theorem dX4_copyFrom_64 : decode cX4_copyFrom 64 = .ok (.aload_n 0, 1) := by decide +kernel
theorem dX4_copyFrom_65 : decode cX4_copyFrom 65 = .ok (.aload_n 1, 1) := by decide +kernel
theorem dX4_copyFrom_66 : decode cX4_copyFrom 66 = .ok (.getfield 36, 3) := by decide +kernel
theorem dX4_copyFrom_69 : decode cX4_copyFrom 69 = .ok (.putfield 36, 3) := by decide +kernel
theorem dX4_copyFrom_72 : decode cX4_copyFrom 72 = .ok (.return_, 1) := by decide +kernel
theorem hd_X4_copyFrom : yX4_copyFrom.cls = RX4 ∧ yX4_copyFrom.cls ≠ "java/lang/invoke/MethodHandle" ∧ yX4_copyFrom.cls ≠ "java/lang/invoke/VarHandle" ∧ (parseMethodDescriptor yX4_copyFrom.desc).map (fun d => d.parameters.length) = some 1 := by decide +kernel
def f_X4_copyFrom (a0 : Nat) (a1 : Nat) (M : xM) : Option xM :=
  (some (upd (upd (upd (upd (upd (upd (upd (upd (upd M (a0 + 0) (M (a1 + 0))) (a0 + 1) ((upd M (a0 + 0) (M (a1 + 0))) (a1 + 1))) (a0 + 2) ((upd (upd M (a0 + 0) (M (a1 + 0))) (a0 + 1) ((upd M (a0 + 0) (M (a1 + 0))) (a1 + 1))) (a1 + 2))) (a0 + 3) ((upd (upd (upd M (a0 + 0) (M (a1 + 0))) (a0 + 1) ((upd M (a0 + 0) (M (a1 + 0))) (a1 + 1))) (a0 + 2) ((upd (upd M (a0 + 0) (M (a1 + 0))) (a0 + 1) ((upd M (a0 + 0) (M (a1 + 0))) (a1 + 1))) (a1 + 2))) (a1 + 3))) (a0 + 4) ((upd (upd (upd (upd M (a0 + 0) (M (a1 + 0))) (a0 + 1) ((upd M (a0 + 0) (M (a1 + 0))) (a1 + 1))) (a0 + 2) ((upd (upd M (a0 + 0) (M (a1 + 0))) (a0 + 1) ((upd M (a0 + 0) (M (a1 + 0))) (a1 + 1))) (a1 + 2))) (a0 + 3) ((upd (upd (upd M (a0 + 0) (M (a1 + 0))) (a0 + 1) ((upd M (a0 + 0) (M (a1 + 0))) (a1 + 1))) (a0 + 2) ((upd (upd M (a0 + 0) (M (a1 + 0))) (a0 + 1) ((upd M (a0 + 0) (M (a1 + 0))) (a1 + 1))) (a1 + 2))) (a1 + 3))) (a1 + 4))) (a0 + 5) ((upd (upd (upd (upd (upd M (a0 + 0) (M (a1 + 0))) (a0 + 1) ((upd M (a0 + 0) (M (a1 + 0))) (a1 + 1))) (a0 + 2) ((upd (upd M (a0 + 0) (M (a1 + 0))) (a0 + 1) ((upd M (a0 + 0) (M (a1 + 0))) (a1 + 1))) (a1 + 2))) (a0 + 3) ((upd (upd (upd M (a0 + 0) (M (a1 + 0))) (a0 + 1) ((upd M (a0 + 0) (M (a1 + 0))) (a1 + 1))) (a0 + 2) ((upd (upd M (a0 + 0) (M (a1 + 0))) (a0 + 1) ((upd M (a0 + 0) (M (a1 + 0))) (a1 + 1))) (a1 + 2))) (a1 + 3))) (a0 + 4) ((upd (upd (upd (upd M (a0 + 0) (M (a1 + 0))) (a0 + 1) ((upd M (a0 + 0) (M (a1 + 0))) (a1 + 1))) (a0 + 2) ((upd (upd M (a0 + 0) (M (a1 + 0))) (a0 + 1) ((upd M (a0 + 0) (M (a1 + 0))) (a1 + 1))) (a1 + 2))) (a0 + 3) ((upd (upd (upd M (a0 + 0) (M (a1 + 0))) (a0 + 1) ((upd M (a0 + 0) (M (a1 + 0))) (a1 + 1))) (a0 + 2) ((upd (upd M (a0 + 0) (M (a1 + 0))) (a0 + 1) ((upd M (a0 + 0) (M (a1 + 0))) (a1 + 1))) (a1 + 2))) (a1 + 3))) (a1 + 4))) (a1 + 5))) (a0 + 6) ((upd (upd (upd (upd (upd (upd M (a0 + 0) (M (a1 + 0))) (a0 + 1) ((upd M (a0 + 0) (M (a1 + 0))) (a1 + 1))) (a0 + 2) ((upd (upd M (a0 + 0) (M (a1 + 0))) (a0 + 1) ((upd M (a0 + 0) (M (a1 + 0))) (a1 + 1))) (a1 + 2))) (a0 + 3) ((upd (upd (upd M (a0 + 0) (M (a1 + 0))) (a0 + 1) ((upd M (a0 + 0) (M (a1 + 0))) (a1 + 1))) (a0 + 2) ((upd (upd M (a0 + 0) (M (a1 + 0))) (a0 + 1) ((upd M (a0 + 0) (M (a1 + 0))) (a1 + 1))) (a1 + 2))) (a1 + 3))) (a0 + 4) ((upd (upd (upd (upd M (a0 + 0) (M (a1 + 0))) (a0 + 1) ((upd M (a0 + 0) (M (a1 + 0))) (a1 + 1))) (a0 + 2) ((upd (upd M (a0 + 0) (M (a1 + 0))) (a0 + 1) ((upd M (a0 + 0) (M (a1 + 0))) (a1 + 1))) (a1 + 2))) (a0 + 3) ((upd (upd (upd M (a0 + 0) (M (a1 + 0))) (a0 + 1) ((upd M (a0 + 0) (M (a1 + 0))) (a1 + 1))) (a0 + 2) ((upd (upd M (a0 + 0) (M (a1 + 0))) (a0 + 1) ((upd M (a0 + 0) (M (a1 + 0))) (a1 + 1))) (a1 + 2))) (a1 + 3))) (a1 + 4))) (a0 + 5) ((upd (upd (upd (upd (upd M (a0 + 0) (M (a1 + 0))) (a0 + 1) ((upd M (a0 + 0) (M (a1 + 0))) (a1 + 1))) (a0 + 2) ((upd (upd M (a0 + 0) (M (a1 + 0))) (a0 + 1) ((upd M (a0 + 0) (M (a1 + 0))) (a1 + 1))) (a1 + 2))) (a0 + 3) ((upd (upd (upd M (a0 + 0) (M (a1 + 0))) (a0 + 1) ((upd M (a0 + 0) (M (a1 + 0))) (a1 + 1))) (a0 + 2) ((upd (upd M (a0 + 0) (M (a1 + 0))) (a0 + 1) ((upd M (a0 + 0) (M (a1 + 0))) (a1 + 1))) (a1 + 2))) (a1 + 3))) (a0 + 4) ((upd (upd (upd (upd M (a0 + 0) (M (a1 + 0))) (a0 + 1) ((upd M (a0 + 0) (M (a1 + 0))) (a1 + 1))) (a0 + 2) ((upd (upd M (a0 + 0) (M (a1 + 0))) (a0 + 1) ((upd M (a0 + 0) (M (a1 + 0))) (a1 + 1))) (a1 + 2))) (a0 + 3) ((upd (upd (upd M (a0 + 0) (M (a1 + 0))) (a0 + 1) ((upd M (a0 + 0) (M (a1 + 0))) (a1 + 1))) (a0 + 2) ((upd (upd M (a0 + 0) (M (a1 + 0))) (a0 + 1) ((upd M (a0 + 0) (M (a1 + 0))) (a1 + 1))) (a1 + 2))) (a1 + 3))) (a1 + 4))) (a1 + 5))) (a1 + 6))) (a0 + 7) ((upd (upd (upd (upd (upd (upd (upd M (a0 + 0) (M (a1 + 0))) (a0 + 1) ((upd M (a0 + 0) (M (a1 + 0))) (a1 + 1))) (a0 + 2) ((upd (upd M (a0 + 0) (M (a1 + 0))) (a0 + 1) ((upd M (a0 + 0) (M (a1 + 0))) (a1 + 1))) (a1 + 2))) (a0 + 3) ((upd (upd (upd M (a0 + 0) (M (a1 + 0))) (a0 + 1) ((upd M (a0 + 0) (M (a1 + 0))) (a1 + 1))) (a0 + 2) ((upd (upd M (a0 + 0) (M (a1 + 0))) (a0 + 1) ((upd M (a0 + 0) (M (a1 + 0))) (a1 + 1))) (a1 + 2))) (a1 + 3))) (a0 + 4) ((upd (upd (upd (upd M (a0 + 0) (M (a1 + 0))) (a0 + 1) ((upd M (a0 + 0) (M (a1 + 0))) (a1 + 1))) (a0 + 2) ((upd (upd M (a0 + 0) (M (a1 + 0))) (a0 + 1) ((upd M (a0 + 0) (M (a1 + 0))) (a1 + 1))) (a1 + 2))) (a0 + 3) ((upd (upd (upd M (a0 + 0) (M (a1 + 0))) (a0 + 1) ((upd M (a0 + 0) (M (a1 + 0))) (a1 + 1))) (a0 + 2) ((upd (upd M (a0 + 0) (M (a1 + 0))) (a0 + 1) ((upd M (a0 + 0) (M (a1 + 0))) (a1 + 1))) (a1 + 2))) (a1 + 3))) (a1 + 4))) (a0 + 5) ((upd (upd (upd (upd (upd M (a0 + 0) (M (a1 + 0))) (a0 + 1) ((upd M (a0 + 0) (M (a1 + 0))) (a1 + 1))) (a0 + 2) ((upd (upd M (a0 + 0) (M (a1 + 0))) (a0 + 1) ((upd M (a0 + 0) (M (a1 + 0))) (a1 + 1))) (a1 + 2))) (a0 + 3) ((upd (upd (upd M (a0 + 0) (M (a1 + 0))) (a0 + 1) ((upd M (a0 + 0) (M (a1 + 0))) (a1 + 1))) (a0 + 2) ((upd (upd M (a0 + 0) (M (a1 + 0))) (a0 + 1) ((upd M (a0 + 0) (M (a1 + 0))) (a1 + 1))) (a1 + 2))) (a1 + 3))) (a0 + 4) ((upd (upd (upd (upd M (a0 + 0) (M (a1 + 0))) (a0 + 1) ((upd M (a0 + 0) (M (a1 + 0))) (a1 + 1))) (a0 + 2) ((upd (upd M (a0 + 0) (M (a1 + 0))) (a0 + 1) ((upd M (a0 + 0) (M (a1 + 0))) (a1 + 1))) (a1 + 2))) (a0 + 3) ((upd (upd (upd M (a0 + 0) (M (a1 + 0))) (a0 + 1) ((upd M (a0 + 0) (M (a1 + 0))) (a1 + 1))) (a0 + 2) ((upd (upd M (a0 + 0) (M (a1 + 0))) (a0 + 1) ((upd M (a0 + 0) (M (a1 + 0))) (a1 + 1))) (a1 + 2))) (a1 + 3))) (a1 + 4))) (a1 + 5))) (a0 + 6) ((upd (upd (upd (upd (upd (upd M (a0 + 0) (M (a1 + 0))) (a0 + 1) ((upd M (a0 + 0) (M (a1 + 0))) (a1 + 1))) (a0 + 2) ((upd (upd M (a0 + 0) (M (a1 + 0))) (a0 + 1) ((upd M (a0 + 0) (M (a1 + 0))) (a1 + 1))) (a1 + 2))) (a0 + 3) ((upd (upd (upd M (a0 + 0) (M (a1 + 0))) (a0 + 1) ((upd M (a0 + 0) (M (a1 + 0))) (a1 + 1))) (a0 + 2) ((upd (upd M (a0 + 0) (M (a1 + 0))) (a0 + 1) ((upd M (a0 + 0) (M (a1 + 0))) (a1 + 1))) (a1 + 2))) (a1 + 3))) (a0 + 4) ((upd (upd (upd (upd M (a0 + 0) (M (a1 + 0))) (a0 + 1) ((upd M (a0 + 0) (M (a1 + 0))) (a1 + 1))) (a0 + 2) ((upd (upd M (a0 + 0) (M (a1 + 0))) (a0 + 1) ((upd M (a0 + 0) (M (a1 + 0))) (a1 + 1))) (a1 + 2))) (a0 + 3) ((upd (upd (upd M (a0 + 0) (M (a1 + 0))) (a0 + 1) ((upd M (a0 + 0) (M (a1 + 0))) (a1 + 1))) (a0 + 2) ((upd (upd M (a0 + 0) (M (a1 + 0))) (a0 + 1) ((upd M (a0 + 0) (M (a1 + 0))) (a1 + 1))) (a1 + 2))) (a1 + 3))) (a1 + 4))) (a0 + 5) ((upd (upd (upd (upd (upd M (a0 + 0) (M (a1 + 0))) (a0 + 1) ((upd M (a0 + 0) (M (a1 + 0))) (a1 + 1))) (a0 + 2) ((upd (upd M (a0 + 0) (M (a1 + 0))) (a0 + 1) ((upd M (a0 + 0) (M (a1 + 0))) (a1 + 1))) (a1 + 2))) (a0 + 3) ((upd (upd (upd M (a0 + 0) (M (a1 + 0))) (a0 + 1) ((upd M (a0 + 0) (M (a1 + 0))) (a1 + 1))) (a0 + 2) ((upd (upd M (a0 + 0) (M (a1 + 0))) (a0 + 1) ((upd M (a0 + 0) (M (a1 + 0))) (a1 + 1))) (a1 + 2))) (a1 + 3))) (a0 + 4) ((upd (upd (upd (upd M (a0 + 0) (M (a1 + 0))) (a0 + 1) ((upd M (a0 + 0) (M (a1 + 0))) (a1 + 1))) (a0 + 2) ((upd (upd M (a0 + 0) (M (a1 + 0))) (a0 + 1) ((upd M (a0 + 0) (M (a1 + 0))) (a1 + 1))) (a1 + 2))) (a0 + 3) ((upd (upd (upd M (a0 + 0) (M (a1 + 0))) (a0 + 1) ((upd M (a0 + 0) (M (a1 + 0))) (a1 + 1))) (a0 + 2) ((upd (upd M (a0 + 0) (M (a1 + 0))) (a0 + 1) ((upd M (a0 + 0) (M (a1 + 0))) (a1 + 1))) (a1 + 2))) (a1 + 3))) (a1 + 4))) (a1 + 5))) (a1 + 6))) (a1 + 7))) (a0 + 8) ((upd (upd (upd (upd (upd (upd (upd (upd M (a0 + 0) (M (a1 + 0))) (a0 + 1) ((upd M (a0 + 0) (M (a1 + 0))) (a1 + 1))) (a0 + 2) ((upd (upd M (a0 + 0) (M (a1 + 0))) (a0 + 1) ((upd M (a0 + 0) (M (a1 + 0))) (a1 + 1))) (a1 + 2))) (a0 + 3) ((upd (upd (upd M (a0 + 0) (M (a1 + 0))) (a0 + 1) ((upd M (a0 + 0) (M (a1 + 0))) (a1 + 1))) (a0 + 2) ((upd (upd M (a0 + 0) (M (a1 + 0))) (a0 + 1) ((upd M (a0 + 0) (M (a1 + 0))) (a1 + 1))) (a1 + 2))) (a1 + 3))) (a0 + 4) ((upd (upd (upd (upd M (a0 + 0) (M (a1 + 0))) (a0 + 1) ((upd M (a0 + 0) (M (a1 + 0))) (a1 + 1))) (a0 + 2) ((upd (upd M (a0 + 0) (M (a1 + 0))) (a0 + 1) ((upd M (a0 + 0) (M (a1 + 0))) (a1 + 1))) (a1 + 2))) (a0 + 3) ((upd (upd (upd M (a0 + 0) (M (a1 + 0))) (a0 + 1) ((upd M (a0 + 0) (M (a1 + 0))) (a1 + 1))) (a0 + 2) ((upd (upd M (a0 + 0) (M (a1 + 0))) (a0 + 1) ((upd M (a0 + 0) (M (a1 + 0))) (a1 + 1))) (a1 + 2))) (a1 + 3))) (a1 + 4))) (a0 + 5) ((upd (upd (upd (upd (upd M (a0 + 0) (M (a1 + 0))) (a0 + 1) ((upd M (a0 + 0) (M (a1 + 0))) (a1 + 1))) (a0 + 2) ((upd (upd M (a0 + 0) (M (a1 + 0))) (a0 + 1) ((upd M (a0 + 0) (M (a1 + 0))) (a1 + 1))) (a1 + 2))) (a0 + 3) ((upd (upd (upd M (a0 + 0) (M (a1 + 0))) (a0 + 1) ((upd M (a0 + 0) (M (a1 + 0))) (a1 + 1))) (a0 + 2) ((upd (upd M (a0 + 0) (M (a1 + 0))) (a0 + 1) ((upd M (a0 + 0) (M (a1 + 0))) (a1 + 1))) (a1 + 2))) (a1 + 3))) (a0 + 4) ((upd (upd (upd (upd M (a0 + 0) (M (a1 + 0))) (a0 + 1) ((upd M (a0 + 0) (M (a1 + 0))) (a1 + 1))) (a0 + 2) ((upd (upd M (a0 + 0) (M (a1 + 0))) (a0 + 1) ((upd M (a0 + 0) (M (a1 + 0))) (a1 + 1))) (a1 + 2))) (a0 + 3) ((upd (upd (upd M (a0 + 0) (M (a1 + 0))) (a0 + 1) ((upd M (a0 + 0) (M (a1 + 0))) (a1 + 1))) (a0 + 2) ((upd (upd M (a0 + 0) (M (a1 + 0))) (a0 + 1) ((upd M (a0 + 0) (M (a1 + 0))) (a1 + 1))) (a1 + 2))) (a1 + 3))) (a1 + 4))) (a1 + 5))) (a0 + 6) ((upd (upd (upd (upd (upd (upd M (a0 + 0) (M (a1 + 0))) (a0 + 1) ((upd M (a0 + 0) (M (a1 + 0))) (a1 + 1))) (a0 + 2) ((upd (upd M (a0 + 0) (M (a1 + 0))) (a0 + 1) ((upd M (a0 + 0) (M (a1 + 0))) (a1 + 1))) (a1 + 2))) (a0 + 3) ((upd (upd (upd M (a0 + 0) (M (a1 + 0))) (a0 + 1) ((upd M (a0 + 0) (M (a1 + 0))) (a1 + 1))) (a0 + 2) ((upd (upd M (a0 + 0) (M (a1 + 0))) (a0 + 1) ((upd M (a0 + 0) (M (a1 + 0))) (a1 + 1))) (a1 + 2))) (a1 + 3))) (a0 + 4) ((upd (upd (upd (upd M (a0 + 0) (M (a1 + 0))) (a0 + 1) ((upd M (a0 + 0) (M (a1 + 0))) (a1 + 1))) (a0 + 2) ((upd (upd M (a0 + 0) (M (a1 + 0))) (a0 + 1) ((upd M (a0 + 0) (M (a1 + 0))) (a1 + 1))) (a1 + 2))) (a0 + 3) ((upd (upd (upd M (a0 + 0) (M (a1 + 0))) (a0 + 1) ((upd M (a0 + 0) (M (a1 + 0))) (a1 + 1))) (a0 + 2) ((upd (upd M (a0 + 0) (M (a1 + 0))) (a0 + 1) ((upd M (a0 + 0) (M (a1 + 0))) (a1 + 1))) (a1 + 2))) (a1 + 3))) (a1 + 4))) (a0 + 5) ((upd (upd (upd (upd (upd M (a0 + 0) (M (a1 + 0))) (a0 + 1) ((upd M (a0 + 0) (M (a1 + 0))) (a1 + 1))) (a0 + 2) ((upd (upd M (a0 + 0) (M (a1 + 0))) (a0 + 1) ((upd M (a0 + 0) (M (a1 + 0))) (a1 + 1))) (a1 + 2))) (a0 + 3) ((upd (upd (upd M (a0 + 0) (M (a1 + 0))) (a0 + 1) ((upd M (a0 + 0) (M (a1 + 0))) (a1 + 1))) (a0 + 2) ((upd (upd M (a0 + 0) (M (a1 + 0))) (a0 + 1) ((upd M (a0 + 0) (M (a1 + 0))) (a1 + 1))) (a1 + 2))) (a1 + 3))) (a0 + 4) ((upd (upd (upd (upd M (a0 + 0) (M (a1 + 0))) (a0 + 1) ((upd M (a0 + 0) (M (a1 + 0))) (a1 + 1))) (a0 + 2) ((upd (upd M (a0 + 0) (M (a1 + 0))) (a0 + 1) ((upd M (a0 + 0) (M (a1 + 0))) (a1 + 1))) (a1 + 2))) (a0 + 3) ((upd (upd (upd M (a0 + 0) (M (a1 + 0))) (a0 + 1) ((upd M (a0 + 0) (M (a1 + 0))) (a1 + 1))) (a0 + 2) ((upd (upd M (a0 + 0) (M (a1 + 0))) (a0 + 1) ((upd M (a0 + 0) (M (a1 + 0))) (a1 + 1))) (a1 + 2))) (a1 + 3))) (a1 + 4))) (a1 + 5))) (a1 + 6))) (a0 + 7) ((upd (upd (upd (upd (upd (upd (upd M (a0 + 0) (M (a1 + 0))) (a0 + 1) ((upd M (a0 + 0) (M (a1 + 0))) (a1 + 1))) (a0 + 2) ((upd (upd M (a0 + 0) (M (a1 + 0))) (a0 + 1) ((upd M (a0 + 0) (M (a1 + 0))) (a1 + 1))) (a1 + 2))) (a0 + 3) ((upd (upd (upd M (a0 + 0) (M (a1 + 0))) (a0 + 1) ((upd M (a0 + 0) (M (a1 + 0))) (a1 + 1))) (a0 + 2) ((upd (upd M (a0 + 0) (M (a1 + 0))) (a0 + 1) ((upd M (a0 + 0) (M (a1 + 0))) (a1 + 1))) (a1 + 2))) (a1 + 3))) (a0 + 4) ((upd (upd (upd (upd M (a0 + 0) (M (a1 + 0))) (a0 + 1) ((upd M (a0 + 0) (M (a1 + 0))) (a1 + 1))) (a0 + 2) ((upd (upd M (a0 + 0) (M (a1 + 0))) (a0 + 1) ((upd M (a0 + 0) (M (a1 + 0))) (a1 + 1))) (a1 + 2))) (a0 + 3) ((upd (upd (upd M (a0 + 0) (M (a1 + 0))) (a0 + 1) ((upd M (a0 + 0) (M (a1 + 0))) (a1 + 1))) (a0 + 2) ((upd (upd M (a0 + 0) (M (a1 + 0))) (a0 + 1) ((upd M (a0 + 0) (M (a1 + 0))) (a1 + 1))) (a1 + 2))) (a1 + 3))) (a1 + 4))) (a0 + 5) ((upd (upd (upd (upd (upd M (a0 + 0) (M (a1 + 0))) (a0 + 1) ((upd M (a0 + 0) (M (a1 + 0))) (a1 + 1))) (a0 + 2) ((upd (upd M (a0 + 0) (M (a1 + 0))) (a0 + 1) ((upd M (a0 + 0) (M (a1 + 0))) (a1 + 1))) (a1 + 2))) (a0 + 3) ((upd (upd (upd M (a0 + 0) (M (a1 + 0))) (a0 + 1) ((upd M (a0 + 0) (M (a1 + 0))) (a1 + 1))) (a0 + 2) ((upd (upd M (a0 + 0) (M (a1 + 0))) (a0 + 1) ((upd M (a0 + 0) (M (a1 + 0))) (a1 + 1))) (a1 + 2))) (a1 + 3))) (a0 + 4) ((upd (upd (upd (upd M (a0 + 0) (M (a1 + 0))) (a0 + 1) ((upd M (a0 + 0) (M (a1 + 0))) (a1 + 1))) (a0 + 2) ((upd (upd M (a0 + 0) (M (a1 + 0))) (a0 + 1) ((upd M (a0 + 0) (M (a1 + 0))) (a1 + 1))) (a1 + 2))) (a0 + 3) ((upd (upd (upd M (a0 + 0) (M (a1 + 0))) (a0 + 1) ((upd M (a0 + 0) (M (a1 + 0))) (a1 + 1))) (a0 + 2) ((upd (upd M (a0 + 0) (M (a1 + 0))) (a0 + 1) ((upd M (a0 + 0) (M (a1 + 0))) (a1 + 1))) (a1 + 2))) (a1 + 3))) (a1 + 4))) (a1 + 5))) (a0 + 6) ((upd (upd (upd (upd (upd (upd M (a0 + 0) (M (a1 + 0))) (a0 + 1) ((upd M (a0 + 0) (M (a1 + 0))) (a1 + 1))) (a0 + 2) ((upd (upd M (a0 + 0) (M (a1 + 0))) (a0 + 1) ((upd M (a0 + 0) (M (a1 + 0))) (a1 + 1))) (a1 + 2))) (a0 + 3) ((upd (upd (upd M (a0 + 0) (M (a1 + 0))) (a0 + 1) ((upd M (a0 + 0) (M (a1 + 0))) (a1 + 1))) (a0 + 2) ((upd (upd M (a0 + 0) (M (a1 + 0))) (a0 + 1) ((upd M (a0 + 0) (M (a1 + 0))) (a1 + 1))) (a1 + 2))) (a1 + 3))) (a0 + 4) ((upd (upd (upd (upd M (a0 + 0) (M (a1 + 0))) (a0 + 1) ((upd M (a0 + 0) (M (a1 + 0))) (a1 + 1))) (a0 + 2) ((upd (upd M (a0 + 0) (M (a1 + 0))) (a0 + 1) ((upd M (a0 + 0) (M (a1 + 0))) (a1 + 1))) (a1 + 2))) (a0 + 3) ((upd (upd (upd M (a0 + 0) (M (a1 + 0))) (a0 + 1) ((upd M (a0 + 0) (M (a1 + 0))) (a1 + 1))) (a0 + 2) ((upd (upd M (a0 + 0) (M (a1 + 0))) (a0 + 1) ((upd M (a0 + 0) (M (a1 + 0))) (a1 + 1))) (a1 + 2))) (a1 + 3))) (a1 + 4))) (a0 + 5) ((upd (upd (upd (upd (upd M (a0 + 0) (M (a1 + 0))) (a0 + 1) ((upd M (a0 + 0) (M (a1 + 0))) (a1 + 1))) (a0 + 2) ((upd (upd M (a0 + 0) (M (a1 + 0))) (a0 + 1) ((upd M (a0 + 0) (M (a1 + 0))) (a1 + 1))) (a1 + 2))) (a0 + 3) ((upd (upd (upd M (a0 + 0) (M (a1 + 0))) (a0 + 1) ((upd M (a0 + 0) (M (a1 + 0))) (a1 + 1))) (a0 + 2) ((upd (upd M (a0 + 0) (M (a1 + 0))) (a0 + 1) ((upd M (a0 + 0) (M (a1 + 0))) (a1 + 1))) (a1 + 2))) (a1 + 3))) (a0 + 4) ((upd (upd (upd (upd M (a0 + 0) (M (a1 + 0))) (a0 + 1) ((upd M (a0 + 0) (M (a1 + 0))) (a1 + 1))) (a0 + 2) ((upd (upd M (a0 + 0) (M (a1 + 0))) (a0 + 1) ((upd M (a0 + 0) (M (a1 + 0))) (a1 + 1))) (a1 + 2))) (a0 + 3) ((upd (upd (upd M (a0 + 0) (M (a1 + 0))) (a0 + 1) ((upd M (a0 + 0) (M (a1 + 0))) (a1 + 1))) (a0 + 2) ((upd (upd M (a0 + 0) (M (a1 + 0))) (a0 + 1) ((upd M (a0 + 0) (M (a1 + 0))) (a1 + 1))) (a1 + 2))) (a1 + 3))) (a1 + 4))) (a1 + 5))) (a1 + 6))) (a1 + 7))) (a1 + 8))))
set_option maxRecDepth 100000 in
set_option maxHeartbeats 4000000 in
theorem c_X4_copyFrom (l : Launch) (D : va_G) (g : xG) (tb : List xQ) (hT : x_T g tb) {a0 : Nat} {a1 : Nat} (h0 : ((0, a0, 0) : xQ) ∈ tb) (h1 : ((0, a1, 0) : xQ) ∈ tb) {M M' : xM} (hf : f_X4_copyFrom a0 a1 M = some M') :
    cV l D g tb yX4_copyFrom cX4_copyFrom 2 ({ frames := 0, cells := 0, slots := 0, locals := 0 } : Room) [.ref (g.1 0 a0), .ref (g.1 0 a1)] M M' := by
  refine x_startV (own := RX4) (by decide +kernel) rfl rfl (Nat.le_of_ble_eq_true rfl) hT ?_
  intro p e s m args below meth c Q C0 hend
  unfold f_X4_copyFrom at hf
  refine r_aload_n C0 (kk := 0) 0 rfl dX4_copyFrom_0 ?_
  refine r_aload_n C0 (kk := 1) 1 rfl dX4_copyFrom_1 ?_
  refine r_get0 C0 h1 0 (by decide) (v := .int (M (a1 + 0))) rfl rfl w1_45 dX4_copyFrom_2 ?_
  refine r_put0 C0 h0 0 rfl rfl w1_45 rfl rfl rfl dX4_copyFrom_5 ?_
  refine r_aload_n C0 (kk := 0) 0 rfl dX4_copyFrom_8 ?_
  refine r_aload_n C0 (kk := 1) 1 rfl dX4_copyFrom_9 ?_
  refine r_get0 C0 h1 1 (by decide) (v := .int ((upd M (a0 + 0) (M (a1 + 0))) (a1 + 1))) rfl rfl w1_48 dX4_copyFrom_10 ?_
  refine r_put0 C0 h0 1 rfl rfl w1_48 rfl rfl rfl dX4_copyFrom_13 ?_
  refine r_aload_n C0 (kk := 0) 0 rfl dX4_copyFrom_16 ?_
  refine r_aload_n C0 (kk := 1) 1 rfl dX4_copyFrom_17 ?_
  refine r_get0 C0 h1 2 (by decide) (v := .int ((upd (upd M (a0 + 0) (M (a1 + 0))) (a0 + 1) ((upd M (a0 + 0) (M (a1 + 0))) (a1 + 1))) (a1 + 2))) rfl rfl w1_51 dX4_copyFrom_18 ?_
  refine r_put0 C0 h0 2 rfl rfl w1_51 rfl rfl rfl dX4_copyFrom_21 ?_
  refine r_aload_n C0 (kk := 0) 0 rfl dX4_copyFrom_24 ?_
  refine r_aload_n C0 (kk := 1) 1 rfl dX4_copyFrom_25 ?_
  refine r_get0 C0 h1 3 (by decide) (v := .int ((upd (upd (upd M (a0 + 0) (M (a1 + 0))) (a0 + 1) ((upd M (a0 + 0) (M (a1 + 0))) (a1 + 1))) (a0 + 2) ((upd (upd M (a0 + 0) (M (a1 + 0))) (a0 + 1) ((upd M (a0 + 0) (M (a1 + 0))) (a1 + 1))) (a1 + 2))) (a1 + 3))) rfl rfl w1_54 dX4_copyFrom_26 ?_
  refine r_put0 C0 h0 3 rfl rfl w1_54 rfl rfl rfl dX4_copyFrom_29 ?_
  refine r_aload_n C0 (kk := 0) 0 rfl dX4_copyFrom_32 ?_
  refine r_aload_n C0 (kk := 1) 1 rfl dX4_copyFrom_33 ?_
  refine r_get0 C0 h1 4 (by decide) (v := .int ((upd (upd (upd (upd M (a0 + 0) (M (a1 + 0))) (a0 + 1) ((upd M (a0 + 0) (M (a1 + 0))) (a1 + 1))) (a0 + 2) ((upd (upd M (a0 + 0) (M (a1 + 0))) (a0 + 1) ((upd M (a0 + 0) (M (a1 + 0))) (a1 + 1))) (a1 + 2))) (a0 + 3) ((upd (upd (upd M (a0 + 0) (M (a1 + 0))) (a0 + 1) ((upd M (a0 + 0) (M (a1 + 0))) (a1 + 1))) (a0 + 2) ((upd (upd M (a0 + 0) (M (a1 + 0))) (a0 + 1) ((upd M (a0 + 0) (M (a1 + 0))) (a1 + 1))) (a1 + 2))) (a1 + 3))) (a1 + 4))) rfl rfl w1_58 dX4_copyFrom_34 ?_
  refine r_put0 C0 h0 4 rfl rfl w1_58 rfl rfl rfl dX4_copyFrom_37 ?_
  refine r_aload_n C0 (kk := 0) 0 rfl dX4_copyFrom_40 ?_
  refine r_aload_n C0 (kk := 1) 1 rfl dX4_copyFrom_41 ?_
  refine r_get0 C0 h1 5 (by decide) (v := .int ((upd (upd (upd (upd (upd M (a0 + 0) (M (a1 + 0))) (a0 + 1) ((upd M (a0 + 0) (M (a1 + 0))) (a1 + 1))) (a0 + 2) ((upd (upd M (a0 + 0) (M (a1 + 0))) (a0 + 1) ((upd M (a0 + 0) (M (a1 + 0))) (a1 + 1))) (a1 + 2))) (a0 + 3) ((upd (upd (upd M (a0 + 0) (M (a1 + 0))) (a0 + 1) ((upd M (a0 + 0) (M (a1 + 0))) (a1 + 1))) (a0 + 2) ((upd (upd M (a0 + 0) (M (a1 + 0))) (a0 + 1) ((upd M (a0 + 0) (M (a1 + 0))) (a1 + 1))) (a1 + 2))) (a1 + 3))) (a0 + 4) ((upd (upd (upd (upd M (a0 + 0) (M (a1 + 0))) (a0 + 1) ((upd M (a0 + 0) (M (a1 + 0))) (a1 + 1))) (a0 + 2) ((upd (upd M (a0 + 0) (M (a1 + 0))) (a0 + 1) ((upd M (a0 + 0) (M (a1 + 0))) (a1 + 1))) (a1 + 2))) (a0 + 3) ((upd (upd (upd M (a0 + 0) (M (a1 + 0))) (a0 + 1) ((upd M (a0 + 0) (M (a1 + 0))) (a1 + 1))) (a0 + 2) ((upd (upd M (a0 + 0) (M (a1 + 0))) (a0 + 1) ((upd M (a0 + 0) (M (a1 + 0))) (a1 + 1))) (a1 + 2))) (a1 + 3))) (a1 + 4))) (a1 + 5))) rfl rfl w1_62 dX4_copyFrom_42 ?_
  refine r_put0 C0 h0 5 rfl rfl w1_62 rfl rfl rfl dX4_copyFrom_45 ?_
  refine r_aload_n C0 (kk := 0) 0 rfl dX4_copyFrom_48 ?_
  refine r_aload_n C0 (kk := 1) 1 rfl dX4_copyFrom_49 ?_
  refine r_get0 C0 h1 6 (by decide) (v := .int ((upd (upd (upd (upd (upd (upd M (a0 + 0) (M (a1 + 0))) (a0 + 1) ((upd M (a0 + 0) (M (a1 + 0))) (a1 + 1))) (a0 + 2) ((upd (upd M (a0 + 0) (M (a1 + 0))) (a0 + 1) ((upd M (a0 + 0) (M (a1 + 0))) (a1 + 1))) (a1 + 2))) (a0 + 3) ((upd (upd (upd M (a0 + 0) (M (a1 + 0))) (a0 + 1) ((upd M (a0 + 0) (M (a1 + 0))) (a1 + 1))) (a0 + 2) ((upd (upd M (a0 + 0) (M (a1 + 0))) (a0 + 1) ((upd M (a0 + 0) (M (a1 + 0))) (a1 + 1))) (a1 + 2))) (a1 + 3))) (a0 + 4) ((upd (upd (upd (upd M (a0 + 0) (M (a1 + 0))) (a0 + 1) ((upd M (a0 + 0) (M (a1 + 0))) (a1 + 1))) (a0 + 2) ((upd (upd M (a0 + 0) (M (a1 + 0))) (a0 + 1) ((upd M (a0 + 0) (M (a1 + 0))) (a1 + 1))) (a1 + 2))) (a0 + 3) ((upd (upd (upd M (a0 + 0) (M (a1 + 0))) (a0 + 1) ((upd M (a0 + 0) (M (a1 + 0))) (a1 + 1))) (a0 + 2) ((upd (upd M (a0 + 0) (M (a1 + 0))) (a0 + 1) ((upd M (a0 + 0) (M (a1 + 0))) (a1 + 1))) (a1 + 2))) (a1 + 3))) (a1 + 4))) (a0 + 5) ((upd (upd (upd (upd (upd M (a0 + 0) (M (a1 + 0))) (a0 + 1) ((upd M (a0 + 0) (M (a1 + 0))) (a1 + 1))) (a0 + 2) ((upd (upd M (a0 + 0) (M (a1 + 0))) (a0 + 1) ((upd M (a0 + 0) (M (a1 + 0))) (a1 + 1))) (a1 + 2))) (a0 + 3) ((upd (upd (upd M (a0 + 0) (M (a1 + 0))) (a0 + 1) ((upd M (a0 + 0) (M (a1 + 0))) (a1 + 1))) (a0 + 2) ((upd (upd M (a0 + 0) (M (a1 + 0))) (a0 + 1) ((upd M (a0 + 0) (M (a1 + 0))) (a1 + 1))) (a1 + 2))) (a1 + 3))) (a0 + 4) ((upd (upd (upd (upd M (a0 + 0) (M (a1 + 0))) (a0 + 1) ((upd M (a0 + 0) (M (a1 + 0))) (a1 + 1))) (a0 + 2) ((upd (upd M (a0 + 0) (M (a1 + 0))) (a0 + 1) ((upd M (a0 + 0) (M (a1 + 0))) (a1 + 1))) (a1 + 2))) (a0 + 3) ((upd (upd (upd M (a0 + 0) (M (a1 + 0))) (a0 + 1) ((upd M (a0 + 0) (M (a1 + 0))) (a1 + 1))) (a0 + 2) ((upd (upd M (a0 + 0) (M (a1 + 0))) (a0 + 1) ((upd M (a0 + 0) (M (a1 + 0))) (a1 + 1))) (a1 + 2))) (a1 + 3))) (a1 + 4))) (a1 + 5))) (a1 + 6))) rfl rfl w1_66 dX4_copyFrom_50 ?_
  refine r_put0 C0 h0 6 rfl rfl w1_66 rfl rfl rfl dX4_copyFrom_53 ?_
  refine r_aload_n C0 (kk := 0) 0 rfl dX4_copyFrom_56 ?_
  refine r_aload_n C0 (kk := 1) 1 rfl dX4_copyFrom_57 ?_
  refine r_get0 C0 h1 7 (by decide) (v := .int ((upd (upd (upd (upd (upd (upd (upd M (a0 + 0) (M (a1 + 0))) (a0 + 1) ((upd M (a0 + 0) (M (a1 + 0))) (a1 + 1))) (a0 + 2) ((upd (upd M (a0 + 0) (M (a1 + 0))) (a0 + 1) ((upd M (a0 + 0) (M (a1 + 0))) (a1 + 1))) (a1 + 2))) (a0 + 3) ((upd (upd (upd M (a0 + 0) (M (a1 + 0))) (a0 + 1) ((upd M (a0 + 0) (M (a1 + 0))) (a1 + 1))) (a0 + 2) ((upd (upd M (a0 + 0) (M (a1 + 0))) (a0 + 1) ((upd M (a0 + 0) (M (a1 + 0))) (a1 + 1))) (a1 + 2))) (a1 + 3))) (a0 + 4) ((upd (upd (upd (upd M (a0 + 0) (M (a1 + 0))) (a0 + 1) ((upd M (a0 + 0) (M (a1 + 0))) (a1 + 1))) (a0 + 2) ((upd (upd M (a0 + 0) (M (a1 + 0))) (a0 + 1) ((upd M (a0 + 0) (M (a1 + 0))) (a1 + 1))) (a1 + 2))) (a0 + 3) ((upd (upd (upd M (a0 + 0) (M (a1 + 0))) (a0 + 1) ((upd M (a0 + 0) (M (a1 + 0))) (a1 + 1))) (a0 + 2) ((upd (upd M (a0 + 0) (M (a1 + 0))) (a0 + 1) ((upd M (a0 + 0) (M (a1 + 0))) (a1 + 1))) (a1 + 2))) (a1 + 3))) (a1 + 4))) (a0 + 5) ((upd (upd (upd (upd (upd M (a0 + 0) (M (a1 + 0))) (a0 + 1) ((upd M (a0 + 0) (M (a1 + 0))) (a1 + 1))) (a0 + 2) ((upd (upd M (a0 + 0) (M (a1 + 0))) (a0 + 1) ((upd M (a0 + 0) (M (a1 + 0))) (a1 + 1))) (a1 + 2))) (a0 + 3) ((upd (upd (upd M (a0 + 0) (M (a1 + 0))) (a0 + 1) ((upd M (a0 + 0) (M (a1 + 0))) (a1 + 1))) (a0 + 2) ((upd (upd M (a0 + 0) (M (a1 + 0))) (a0 + 1) ((upd M (a0 + 0) (M (a1 + 0))) (a1 + 1))) (a1 + 2))) (a1 + 3))) (a0 + 4) ((upd (upd (upd (upd M (a0 + 0) (M (a1 + 0))) (a0 + 1) ((upd M (a0 + 0) (M (a1 + 0))) (a1 + 1))) (a0 + 2) ((upd (upd M (a0 + 0) (M (a1 + 0))) (a0 + 1) ((upd M (a0 + 0) (M (a1 + 0))) (a1 + 1))) (a1 + 2))) (a0 + 3) ((upd (upd (upd M (a0 + 0) (M (a1 + 0))) (a0 + 1) ((upd M (a0 + 0) (M (a1 + 0))) (a1 + 1))) (a0 + 2) ((upd (upd M (a0 + 0) (M (a1 + 0))) (a0 + 1) ((upd M (a0 + 0) (M (a1 + 0))) (a1 + 1))) (a1 + 2))) (a1 + 3))) (a1 + 4))) (a1 + 5))) (a0 + 6) ((upd (upd (upd (upd (upd (upd M (a0 + 0) (M (a1 + 0))) (a0 + 1) ((upd M (a0 + 0) (M (a1 + 0))) (a1 + 1))) (a0 + 2) ((upd (upd M (a0 + 0) (M (a1 + 0))) (a0 + 1) ((upd M (a0 + 0) (M (a1 + 0))) (a1 + 1))) (a1 + 2))) (a0 + 3) ((upd (upd (upd M (a0 + 0) (M (a1 + 0))) (a0 + 1) ((upd M (a0 + 0) (M (a1 + 0))) (a1 + 1))) (a0 + 2) ((upd (upd M (a0 + 0) (M (a1 + 0))) (a0 + 1) ((upd M (a0 + 0) (M (a1 + 0))) (a1 + 1))) (a1 + 2))) (a1 + 3))) (a0 + 4) ((upd (upd (upd (upd M (a0 + 0) (M (a1 + 0))) (a0 + 1) ((upd M (a0 + 0) (M (a1 + 0))) (a1 + 1))) (a0 + 2) ((upd (upd M (a0 + 0) (M (a1 + 0))) (a0 + 1) ((upd M (a0 + 0) (M (a1 + 0))) (a1 + 1))) (a1 + 2))) (a0 + 3) ((upd (upd (upd M (a0 + 0) (M (a1 + 0))) (a0 + 1) ((upd M (a0 + 0) (M (a1 + 0))) (a1 + 1))) (a0 + 2) ((upd (upd M (a0 + 0) (M (a1 + 0))) (a0 + 1) ((upd M (a0 + 0) (M (a1 + 0))) (a1 + 1))) (a1 + 2))) (a1 + 3))) (a1 + 4))) (a0 + 5) ((upd (upd (upd (upd (upd M (a0 + 0) (M (a1 + 0))) (a0 + 1) ((upd M (a0 + 0) (M (a1 + 0))) (a1 + 1))) (a0 + 2) ((upd (upd M (a0 + 0) (M (a1 + 0))) (a0 + 1) ((upd M (a0 + 0) (M (a1 + 0))) (a1 + 1))) (a1 + 2))) (a0 + 3) ((upd (upd (upd M (a0 + 0) (M (a1 + 0))) (a0 + 1) ((upd M (a0 + 0) (M (a1 + 0))) (a1 + 1))) (a0 + 2) ((upd (upd M (a0 + 0) (M (a1 + 0))) (a0 + 1) ((upd M (a0 + 0) (M (a1 + 0))) (a1 + 1))) (a1 + 2))) (a1 + 3))) (a0 + 4) ((upd (upd (upd (upd M (a0 + 0) (M (a1 + 0))) (a0 + 1) ((upd M (a0 + 0) (M (a1 + 0))) (a1 + 1))) (a0 + 2) ((upd (upd M (a0 + 0) (M (a1 + 0))) (a0 + 1) ((upd M (a0 + 0) (M (a1 + 0))) (a1 + 1))) (a1 + 2))) (a0 + 3) ((upd (upd (upd M (a0 + 0) (M (a1 + 0))) (a0 + 1) ((upd M (a0 + 0) (M (a1 + 0))) (a1 + 1))) (a0 + 2) ((upd (upd M (a0 + 0) (M (a1 + 0))) (a0 + 1) ((upd M (a0 + 0) (M (a1 + 0))) (a1 + 1))) (a1 + 2))) (a1 + 3))) (a1 + 4))) (a1 + 5))) (a1 + 6))) (a1 + 7))) rfl rfl w1_68 dX4_copyFrom_58 ?_
  refine r_put0 C0 h0 7 rfl rfl w1_68 rfl rfl rfl dX4_copyFrom_61 ?_
  refine r_aload_n C0 (kk := 0) 0 rfl dX4_copyFrom_64 ?_
  refine r_aload_n C0 (kk := 1) 1 rfl dX4_copyFrom_65 ?_
  refine r_get0 C0 h1 8 (by decide) (v := .int ((upd (upd (upd (upd (upd (upd (upd (upd M (a0 + 0) (M (a1 + 0))) (a0 + 1) ((upd M (a0 + 0) (M (a1 + 0))) (a1 + 1))) (a0 + 2) ((upd (upd M (a0 + 0) (M (a1 + 0))) (a0 + 1) ((upd M (a0 + 0) (M (a1 + 0))) (a1 + 1))) (a1 + 2))) (a0 + 3) ((upd (upd (upd M (a0 + 0) (M (a1 + 0))) (a0 + 1) ((upd M (a0 + 0) (M (a1 + 0))) (a1 + 1))) (a0 + 2) ((upd (upd M (a0 + 0) (M (a1 + 0))) (a0 + 1) ((upd M (a0 + 0) (M (a1 + 0))) (a1 + 1))) (a1 + 2))) (a1 + 3))) (a0 + 4) ((upd (upd (upd (upd M (a0 + 0) (M (a1 + 0))) (a0 + 1) ((upd M (a0 + 0) (M (a1 + 0))) (a1 + 1))) (a0 + 2) ((upd (upd M (a0 + 0) (M (a1 + 0))) (a0 + 1) ((upd M (a0 + 0) (M (a1 + 0))) (a1 + 1))) (a1 + 2))) (a0 + 3) ((upd (upd (upd M (a0 + 0) (M (a1 + 0))) (a0 + 1) ((upd M (a0 + 0) (M (a1 + 0))) (a1 + 1))) (a0 + 2) ((upd (upd M (a0 + 0) (M (a1 + 0))) (a0 + 1) ((upd M (a0 + 0) (M (a1 + 0))) (a1 + 1))) (a1 + 2))) (a1 + 3))) (a1 + 4))) (a0 + 5) ((upd (upd (upd (upd (upd M (a0 + 0) (M (a1 + 0))) (a0 + 1) ((upd M (a0 + 0) (M (a1 + 0))) (a1 + 1))) (a0 + 2) ((upd (upd M (a0 + 0) (M (a1 + 0))) (a0 + 1) ((upd M (a0 + 0) (M (a1 + 0))) (a1 + 1))) (a1 + 2))) (a0 + 3) ((upd (upd (upd M (a0 + 0) (M (a1 + 0))) (a0 + 1) ((upd M (a0 + 0) (M (a1 + 0))) (a1 + 1))) (a0 + 2) ((upd (upd M (a0 + 0) (M (a1 + 0))) (a0 + 1) ((upd M (a0 + 0) (M (a1 + 0))) (a1 + 1))) (a1 + 2))) (a1 + 3))) (a0 + 4) ((upd (upd (upd (upd M (a0 + 0) (M (a1 + 0))) (a0 + 1) ((upd M (a0 + 0) (M (a1 + 0))) (a1 + 1))) (a0 + 2) ((upd (upd M (a0 + 0) (M (a1 + 0))) (a0 + 1) ((upd M (a0 + 0) (M (a1 + 0))) (a1 + 1))) (a1 + 2))) (a0 + 3) ((upd (upd (upd M (a0 + 0) (M (a1 + 0))) (a0 + 1) ((upd M (a0 + 0) (M (a1 + 0))) (a1 + 1))) (a0 + 2) ((upd (upd M (a0 + 0) (M (a1 + 0))) (a0 + 1) ((upd M (a0 + 0) (M (a1 + 0))) (a1 + 1))) (a1 + 2))) (a1 + 3))) (a1 + 4))) (a1 + 5))) (a0 + 6) ((upd (upd (upd (upd (upd (upd M (a0 + 0) (M (a1 + 0))) (a0 + 1) ((upd M (a0 + 0) (M (a1 + 0))) (a1 + 1))) (a0 + 2) ((upd (upd M (a0 + 0) (M (a1 + 0))) (a0 + 1) ((upd M (a0 + 0) (M (a1 + 0))) (a1 + 1))) (a1 + 2))) (a0 + 3) ((upd (upd (upd M (a0 + 0) (M (a1 + 0))) (a0 + 1) ((upd M (a0 + 0) (M (a1 + 0))) (a1 + 1))) (a0 + 2) ((upd (upd M (a0 + 0) (M (a1 + 0))) (a0 + 1) ((upd M (a0 + 0) (M (a1 + 0))) (a1 + 1))) (a1 + 2))) (a1 + 3))) (a0 + 4) ((upd (upd (upd (upd M (a0 + 0) (M (a1 + 0))) (a0 + 1) ((upd M (a0 + 0) (M (a1 + 0))) (a1 + 1))) (a0 + 2) ((upd (upd M (a0 + 0) (M (a1 + 0))) (a0 + 1) ((upd M (a0 + 0) (M (a1 + 0))) (a1 + 1))) (a1 + 2))) (a0 + 3) ((upd (upd (upd M (a0 + 0) (M (a1 + 0))) (a0 + 1) ((upd M (a0 + 0) (M (a1 + 0))) (a1 + 1))) (a0 + 2) ((upd (upd M (a0 + 0) (M (a1 + 0))) (a0 + 1) ((upd M (a0 + 0) (M (a1 + 0))) (a1 + 1))) (a1 + 2))) (a1 + 3))) (a1 + 4))) (a0 + 5) ((upd (upd (upd (upd (upd M (a0 + 0) (M (a1 + 0))) (a0 + 1) ((upd M (a0 + 0) (M (a1 + 0))) (a1 + 1))) (a0 + 2) ((upd (upd M (a0 + 0) (M (a1 + 0))) (a0 + 1) ((upd M (a0 + 0) (M (a1 + 0))) (a1 + 1))) (a1 + 2))) (a0 + 3) ((upd (upd (upd M (a0 + 0) (M (a1 + 0))) (a0 + 1) ((upd M (a0 + 0) (M (a1 + 0))) (a1 + 1))) (a0 + 2) ((upd (upd M (a0 + 0) (M (a1 + 0))) (a0 + 1) ((upd M (a0 + 0) (M (a1 + 0))) (a1 + 1))) (a1 + 2))) (a1 + 3))) (a0 + 4) ((upd (upd (upd (upd M (a0 + 0) (M (a1 + 0))) (a0 + 1) ((upd M (a0 + 0) (M (a1 + 0))) (a1 + 1))) (a0 + 2) ((upd (upd M (a0 + 0) (M (a1 + 0))) (a0 + 1) ((upd M (a0 + 0) (M (a1 + 0))) (a1 + 1))) (a1 + 2))) (a0 + 3) ((upd (upd (upd M (a0 + 0) (M (a1 + 0))) (a0 + 1) ((upd M (a0 + 0) (M (a1 + 0))) (a1 + 1))) (a0 + 2) ((upd (upd M (a0 + 0) (M (a1 + 0))) (a0 + 1) ((upd M (a0 + 0) (M (a1 + 0))) (a1 + 1))) (a1 + 2))) (a1 + 3))) (a1 + 4))) (a1 + 5))) (a1 + 6))) (a0 + 7) ((upd (upd (upd (upd (upd (upd (upd M (a0 + 0) (M (a1 + 0))) (a0 + 1) ((upd M (a0 + 0) (M (a1 + 0))) (a1 + 1))) (a0 + 2) ((upd (upd M (a0 + 0) (M (a1 + 0))) (a0 + 1) ((upd M (a0 + 0) (M (a1 + 0))) (a1 + 1))) (a1 + 2))) (a0 + 3) ((upd (upd (upd M (a0 + 0) (M (a1 + 0))) (a0 + 1) ((upd M (a0 + 0) (M (a1 + 0))) (a1 + 1))) (a0 + 2) ((upd (upd M (a0 + 0) (M (a1 + 0))) (a0 + 1) ((upd M (a0 + 0) (M (a1 + 0))) (a1 + 1))) (a1 + 2))) (a1 + 3))) (a0 + 4) ((upd (upd (upd (upd M (a0 + 0) (M (a1 + 0))) (a0 + 1) ((upd M (a0 + 0) (M (a1 + 0))) (a1 + 1))) (a0 + 2) ((upd (upd M (a0 + 0) (M (a1 + 0))) (a0 + 1) ((upd M (a0 + 0) (M (a1 + 0))) (a1 + 1))) (a1 + 2))) (a0 + 3) ((upd (upd (upd M (a0 + 0) (M (a1 + 0))) (a0 + 1) ((upd M (a0 + 0) (M (a1 + 0))) (a1 + 1))) (a0 + 2) ((upd (upd M (a0 + 0) (M (a1 + 0))) (a0 + 1) ((upd M (a0 + 0) (M (a1 + 0))) (a1 + 1))) (a1 + 2))) (a1 + 3))) (a1 + 4))) (a0 + 5) ((upd (upd (upd (upd (upd M (a0 + 0) (M (a1 + 0))) (a0 + 1) ((upd M (a0 + 0) (M (a1 + 0))) (a1 + 1))) (a0 + 2) ((upd (upd M (a0 + 0) (M (a1 + 0))) (a0 + 1) ((upd M (a0 + 0) (M (a1 + 0))) (a1 + 1))) (a1 + 2))) (a0 + 3) ((upd (upd (upd M (a0 + 0) (M (a1 + 0))) (a0 + 1) ((upd M (a0 + 0) (M (a1 + 0))) (a1 + 1))) (a0 + 2) ((upd (upd M (a0 + 0) (M (a1 + 0))) (a0 + 1) ((upd M (a0 + 0) (M (a1 + 0))) (a1 + 1))) (a1 + 2))) (a1 + 3))) (a0 + 4) ((upd (upd (upd (upd M (a0 + 0) (M (a1 + 0))) (a0 + 1) ((upd M (a0 + 0) (M (a1 + 0))) (a1 + 1))) (a0 + 2) ((upd (upd M (a0 + 0) (M (a1 + 0))) (a0 + 1) ((upd M (a0 + 0) (M (a1 + 0))) (a1 + 1))) (a1 + 2))) (a0 + 3) ((upd (upd (upd M (a0 + 0) (M (a1 + 0))) (a0 + 1) ((upd M (a0 + 0) (M (a1 + 0))) (a1 + 1))) (a0 + 2) ((upd (upd M (a0 + 0) (M (a1 + 0))) (a0 + 1) ((upd M (a0 + 0) (M (a1 + 0))) (a1 + 1))) (a1 + 2))) (a1 + 3))) (a1 + 4))) (a1 + 5))) (a0 + 6) ((upd (upd (upd (upd (upd (upd M (a0 + 0) (M (a1 + 0))) (a0 + 1) ((upd M (a0 + 0) (M (a1 + 0))) (a1 + 1))) (a0 + 2) ((upd (upd M (a0 + 0) (M (a1 + 0))) (a0 + 1) ((upd M (a0 + 0) (M (a1 + 0))) (a1 + 1))) (a1 + 2))) (a0 + 3) ((upd (upd (upd M (a0 + 0) (M (a1 + 0))) (a0 + 1) ((upd M (a0 + 0) (M (a1 + 0))) (a1 + 1))) (a0 + 2) ((upd (upd M (a0 + 0) (M (a1 + 0))) (a0 + 1) ((upd M (a0 + 0) (M (a1 + 0))) (a1 + 1))) (a1 + 2))) (a1 + 3))) (a0 + 4) ((upd (upd (upd (upd M (a0 + 0) (M (a1 + 0))) (a0 + 1) ((upd M (a0 + 0) (M (a1 + 0))) (a1 + 1))) (a0 + 2) ((upd (upd M (a0 + 0) (M (a1 + 0))) (a0 + 1) ((upd M (a0 + 0) (M (a1 + 0))) (a1 + 1))) (a1 + 2))) (a0 + 3) ((upd (upd (upd M (a0 + 0) (M (a1 + 0))) (a0 + 1) ((upd M (a0 + 0) (M (a1 + 0))) (a1 + 1))) (a0 + 2) ((upd (upd M (a0 + 0) (M (a1 + 0))) (a0 + 1) ((upd M (a0 + 0) (M (a1 + 0))) (a1 + 1))) (a1 + 2))) (a1 + 3))) (a1 + 4))) (a0 + 5) ((upd (upd (upd (upd (upd M (a0 + 0) (M (a1 + 0))) (a0 + 1) ((upd M (a0 + 0) (M (a1 + 0))) (a1 + 1))) (a0 + 2) ((upd (upd M (a0 + 0) (M (a1 + 0))) (a0 + 1) ((upd M (a0 + 0) (M (a1 + 0))) (a1 + 1))) (a1 + 2))) (a0 + 3) ((upd (upd (upd M (a0 + 0) (M (a1 + 0))) (a0 + 1) ((upd M (a0 + 0) (M (a1 + 0))) (a1 + 1))) (a0 + 2) ((upd (upd M (a0 + 0) (M (a1 + 0))) (a0 + 1) ((upd M (a0 + 0) (M (a1 + 0))) (a1 + 1))) (a1 + 2))) (a1 + 3))) (a0 + 4) ((upd (upd (upd (upd M (a0 + 0) (M (a1 + 0))) (a0 + 1) ((upd M (a0 + 0) (M (a1 + 0))) (a1 + 1))) (a0 + 2) ((upd (upd M (a0 + 0) (M (a1 + 0))) (a0 + 1) ((upd M (a0 + 0) (M (a1 + 0))) (a1 + 1))) (a1 + 2))) (a0 + 3) ((upd (upd (upd M (a0 + 0) (M (a1 + 0))) (a0 + 1) ((upd M (a0 + 0) (M (a1 + 0))) (a1 + 1))) (a0 + 2) ((upd (upd M (a0 + 0) (M (a1 + 0))) (a0 + 1) ((upd M (a0 + 0) (M (a1 + 0))) (a1 + 1))) (a1 + 2))) (a1 + 3))) (a1 + 4))) (a1 + 5))) (a1 + 6))) (a1 + 7))) (a1 + 8))) rfl rfl w1_72 dX4_copyFrom_66 ?_
  refine r_put0 C0 h0 8 rfl rfl w1_72 rfl rfl rfl dX4_copyFrom_69 ?_
  exact hend hf dX4_copyFrom_72
theorem dX1_copyFrom_0 : decode cX1_copyFrom 0 = .ok (.aload_n 0, 1) := by decide +kernel
theorem dX1_copyFrom_1 : decode cX1_copyFrom 1 = .ok (.aload_n 1, 1) := by decide +kernel
theorem dX1_copyFrom_2 : decode cX1_copyFrom 2 = .ok (.getfield 15, 3) := by decide +kernel
theorem dX1_copyFrom_5 : decode cX1_copyFrom 5 = .ok (.putfield 15, 3) := by decide +kernel
theorem dX1_copyFrom_8 : decode cX1_copyFrom 8 = .ok (.aload_n 0, 1) := by decide +kernel
theorem dX1_copyFrom_9 : decode cX1_copyFrom 9 = .ok (.aload_n 1, 1) := by decide +kernel
theorem dX1_copyFrom_10 : decode cX1_copyFrom 10 = .ok (.getfield 18, 3) := by decide +kernel
theorem dX1_copyFrom_13 : decode cX1_copyFrom 13 = .ok (.putfield 18, 3) := by decide +kernel
theorem dX1_copyFrom_16 : decode cX1_copyFrom 16 = .ok (.aload_n 0, 1) := by decide +kernel
theorem dX1_copyFrom_17 : decode cX1_copyFrom 17 = .ok (.aload_n 1, 1) := by decide +kernel
theorem dX1_copyFrom_18 : decode cX1_copyFrom 18 = .ok (.getfield 21, 3) := by decide +kernel
theorem dX1_copyFrom_21 : decode cX1_copyFrom 21 = .ok (.putfield 21, 3) := by decide +kernel
theorem dX1_copyFrom_24 : decode cX1_copyFrom 24 = .ok (.aload_n 0, 1) := by decide +kernel
theorem dX1_copyFrom_25 : decode cX1_copyFrom 25 = .ok (.aload_n 1, 1) := by decide +kernel
theorem dX1_copyFrom_26 : decode cX1_copyFrom 26 = .ok (.getfield 24, 3) := by decide +kernel
theorem dX1_copyFrom_29 : decode cX1_copyFrom 29 = .ok (.putfield 24, 3) := by decide +kernel
theorem dX1_copyFrom_32 : decode cX1_copyFrom 32 = .ok (.aload_n 0, 1) := by decide +kernel
theorem dX1_copyFrom_33 : decode cX1_copyFrom 33 = .ok (.aload_n 1, 1) := by decide +kernel
theorem dX1_copyFrom_34 : decode cX1_copyFrom 34 = .ok (.getfield 9, 3) := by decide +kernel
theorem dX1_copyFrom_37 : decode cX1_copyFrom 37 = .ok (.putfield 9, 3) := by decide +kernel
theorem dX1_copyFrom_40 : decode cX1_copyFrom 40 = .ok (.aload_n 0, 1) := by decide +kernel
theorem dX1_copyFrom_41 : decode cX1_copyFrom 41 = .ok (.aload_n 1, 1) := by decide +kernel
theorem dX1_copyFrom_42 : decode cX1_copyFrom 42 = .ok (.getfield 27, 3) := by decide +kernel
theorem dX1_copyFrom_45 : decode cX1_copyFrom 45 = .ok (.putfield 27, 3) := by decide +kernel
theorem dX1_copyFrom_48 : decode cX1_copyFrom 48 = .ok (.aload_n 0, 1) := by decide +kernel
theorem dX1_copyFrom_49 : decode cX1_copyFrom 49 = .ok (.aload_n 1, 1) := by decide +kernel
theorem dX1_copyFrom_50 : decode cX1_copyFrom 50 = .ok (.getfield 30, 3) := by decide +kernel
theorem dX1_copyFrom_53 : decode cX1_copyFrom 53 = .ok (.putfield 30, 3) := by decide +kernel
theorem dX1_copyFrom_56 : decode cX1_copyFrom 56 = .ok (.aload_n 0, 1) := by decide +kernel
theorem dX1_copyFrom_57 : decode cX1_copyFrom 57 = .ok (.aload_n 1, 1) := by decide +kernel
theorem dX1_copyFrom_58 : decode cX1_copyFrom 58 = .ok (.getfield 33, 3) := by decide +kernel
theorem dX1_copyFrom_61 : decode cX1_copyFrom 61 = .ok (.putfield 33, 3) := by decide +kernel
theorem dX1_copyFrom_64 : decode cX1_copyFrom 64 = .ok (.return_, 1) := by decide +kernel
theorem hd_X1_copyFrom : yX1_copyFrom.cls = RX1 ∧ yX1_copyFrom.cls ≠ "java/lang/invoke/MethodHandle" ∧ yX1_copyFrom.cls ≠ "java/lang/invoke/VarHandle" ∧ (parseMethodDescriptor yX1_copyFrom.desc).map (fun d => d.parameters.length) = some 1 := by decide +kernel
def f_X1_copyFrom (a0 : Nat) (a1 : Nat) (M : xM) : Option xM :=
  (some (upd (upd (upd (upd (upd (upd (upd (upd M (a0 + 0) (M (a1 + 0))) (a0 + 1) ((upd M (a0 + 0) (M (a1 + 0))) (a1 + 1))) (a0 + 2) ((upd (upd M (a0 + 0) (M (a1 + 0))) (a0 + 1) ((upd M (a0 + 0) (M (a1 + 0))) (a1 + 1))) (a1 + 2))) (a0 + 3) ((upd (upd (upd M (a0 + 0) (M (a1 + 0))) (a0 + 1) ((upd M (a0 + 0) (M (a1 + 0))) (a1 + 1))) (a0 + 2) ((upd (upd M (a0 + 0) (M (a1 + 0))) (a0 + 1) ((upd M (a0 + 0) (M (a1 + 0))) (a1 + 1))) (a1 + 2))) (a1 + 3))) (a0 + 4) ((upd (upd (upd (upd M (a0 + 0) (M (a1 + 0))) (a0 + 1) ((upd M (a0 + 0) (M (a1 + 0))) (a1 + 1))) (a0 + 2) ((upd (upd M (a0 + 0) (M (a1 + 0))) (a0 + 1) ((upd M (a0 + 0) (M (a1 + 0))) (a1 + 1))) (a1 + 2))) (a0 + 3) ((upd (upd (upd M (a0 + 0) (M (a1 + 0))) (a0 + 1) ((upd M (a0 + 0) (M (a1 + 0))) (a1 + 1))) (a0 + 2) ((upd (upd M (a0 + 0) (M (a1 + 0))) (a0 + 1) ((upd M (a0 + 0) (M (a1 + 0))) (a1 + 1))) (a1 + 2))) (a1 + 3))) (a1 + 4))) (a0 + 5) ((upd (upd (upd (upd (upd M (a0 + 0) (M (a1 + 0))) (a0 + 1) ((upd M (a0 + 0) (M (a1 + 0))) (a1 + 1))) (a0 + 2) ((upd (upd M (a0 + 0) (M (a1 + 0))) (a0 + 1) ((upd M (a0 + 0) (M (a1 + 0))) (a1 + 1))) (a1 + 2))) (a0 + 3) ((upd (upd (upd M (a0 + 0) (M (a1 + 0))) (a0 + 1) ((upd M (a0 + 0) (M (a1 + 0))) (a1 + 1))) (a0 + 2) ((upd (upd M (a0 + 0) (M (a1 + 0))) (a0 + 1) ((upd M (a0 + 0) (M (a1 + 0))) (a1 + 1))) (a1 + 2))) (a1 + 3))) (a0 + 4) ((upd (upd (upd (upd M (a0 + 0) (M (a1 + 0))) (a0 + 1) ((upd M (a0 + 0) (M (a1 + 0))) (a1 + 1))) (a0 + 2) ((upd (upd M (a0 + 0) (M (a1 + 0))) (a0 + 1) ((upd M (a0 + 0) (M (a1 + 0))) (a1 + 1))) (a1 + 2))) (a0 + 3) ((upd (upd (upd M (a0 + 0) (M (a1 + 0))) (a0 + 1) ((upd M (a0 + 0) (M (a1 + 0))) (a1 + 1))) (a0 + 2) ((upd (upd M (a0 + 0) (M (a1 + 0))) (a0 + 1) ((upd M (a0 + 0) (M (a1 + 0))) (a1 + 1))) (a1 + 2))) (a1 + 3))) (a1 + 4))) (a1 + 5))) (a0 + 6) ((upd (upd (upd (upd (upd (upd M (a0 + 0) (M (a1 + 0))) (a0 + 1) ((upd M (a0 + 0) (M (a1 + 0))) (a1 + 1))) (a0 + 2) ((upd (upd M (a0 + 0) (M (a1 + 0))) (a0 + 1) ((upd M (a0 + 0) (M (a1 + 0))) (a1 + 1))) (a1 + 2))) (a0 + 3) ((upd (upd (upd M (a0 + 0) (M (a1 + 0))) (a0 + 1) ((upd M (a0 + 0) (M (a1 + 0))) (a1 + 1))) (a0 + 2) ((upd (upd M (a0 + 0) (M (a1 + 0))) (a0 + 1) ((upd M (a0 + 0) (M (a1 + 0))) (a1 + 1))) (a1 + 2))) (a1 + 3))) (a0 + 4) ((upd (upd (upd (upd M (a0 + 0) (M (a1 + 0))) (a0 + 1) ((upd M (a0 + 0) (M (a1 + 0))) (a1 + 1))) (a0 + 2) ((upd (upd M (a0 + 0) (M (a1 + 0))) (a0 + 1) ((upd M (a0 + 0) (M (a1 + 0))) (a1 + 1))) (a1 + 2))) (a0 + 3) ((upd (upd (upd M (a0 + 0) (M (a1 + 0))) (a0 + 1) ((upd M (a0 + 0) (M (a1 + 0))) (a1 + 1))) (a0 + 2) ((upd (upd M (a0 + 0) (M (a1 + 0))) (a0 + 1) ((upd M (a0 + 0) (M (a1 + 0))) (a1 + 1))) (a1 + 2))) (a1 + 3))) (a1 + 4))) (a0 + 5) ((upd (upd (upd (upd (upd M (a0 + 0) (M (a1 + 0))) (a0 + 1) ((upd M (a0 + 0) (M (a1 + 0))) (a1 + 1))) (a0 + 2) ((upd (upd M (a0 + 0) (M (a1 + 0))) (a0 + 1) ((upd M (a0 + 0) (M (a1 + 0))) (a1 + 1))) (a1 + 2))) (a0 + 3) ((upd (upd (upd M (a0 + 0) (M (a1 + 0))) (a0 + 1) ((upd M (a0 + 0) (M (a1 + 0))) (a1 + 1))) (a0 + 2) ((upd (upd M (a0 + 0) (M (a1 + 0))) (a0 + 1) ((upd M (a0 + 0) (M (a1 + 0))) (a1 + 1))) (a1 + 2))) (a1 + 3))) (a0 + 4) ((upd (upd (upd (upd M (a0 + 0) (M (a1 + 0))) (a0 + 1) ((upd M (a0 + 0) (M (a1 + 0))) (a1 + 1))) (a0 + 2) ((upd (upd M (a0 + 0) (M (a1 + 0))) (a0 + 1) ((upd M (a0 + 0) (M (a1 + 0))) (a1 + 1))) (a1 + 2))) (a0 + 3) ((upd (upd (upd M (a0 + 0) (M (a1 + 0))) (a0 + 1) ((upd M (a0 + 0) (M (a1 + 0))) (a1 + 1))) (a0 + 2) ((upd (upd M (a0 + 0) (M (a1 + 0))) (a0 + 1) ((upd M (a0 + 0) (M (a1 + 0))) (a1 + 1))) (a1 + 2))) (a1 + 3))) (a1 + 4))) (a1 + 5))) (a1 + 6))) (a0 + 7) ((upd (upd (upd (upd (upd (upd (upd M (a0 + 0) (M (a1 + 0))) (a0 + 1) ((upd M (a0 + 0) (M (a1 + 0))) (a1 + 1))) (a0 + 2) ((upd (upd M (a0 + 0) (M (a1 + 0))) (a0 + 1) ((upd M (a0 + 0) (M (a1 + 0))) (a1 + 1))) (a1 + 2))) (a0 + 3) ((upd (upd (upd M (a0 + 0) (M (a1 + 0))) (a0 + 1) ((upd M (a0 + 0) (M (a1 + 0))) (a1 + 1))) (a0 + 2) ((upd (upd M (a0 + 0) (M (a1 + 0))) (a0 + 1) ((upd M (a0 + 0) (M (a1 + 0))) (a1 + 1))) (a1 + 2))) (a1 + 3))) (a0 + 4) ((upd (upd (upd (upd M (a0 + 0) (M (a1 + 0))) (a0 + 1) ((upd M (a0 + 0) (M (a1 + 0))) (a1 + 1))) (a0 + 2) ((upd (upd M (a0 + 0) (M (a1 + 0))) (a0 + 1) ((upd M (a0 + 0) (M (a1 + 0))) (a1 + 1))) (a1 + 2))) (a0 + 3) ((upd (upd (upd M (a0 + 0) (M (a1 + 0))) (a0 + 1) ((upd M (a0 + 0) (M (a1 + 0))) (a1 + 1))) (a0 + 2) ((upd (upd M (a0 + 0) (M (a1 + 0))) (a0 + 1) ((upd M (a0 + 0) (M (a1 + 0))) (a1 + 1))) (a1 + 2))) (a1 + 3))) (a1 + 4))) (a0 + 5) ((upd (upd (upd (upd (upd M (a0 + 0) (M (a1 + 0))) (a0 + 1) ((upd M (a0 + 0) (M (a1 + 0))) (a1 + 1))) (a0 + 2) ((upd (upd M (a0 + 0) (M (a1 + 0))) (a0 + 1) ((upd M (a0 + 0) (M (a1 + 0))) (a1 + 1))) (a1 + 2))) (a0 + 3) ((upd (upd (upd M (a0 + 0) (M (a1 + 0))) (a0 + 1) ((upd M (a0 + 0) (M (a1 + 0))) (a1 + 1))) (a0 + 2) ((upd (upd M (a0 + 0) (M (a1 + 0))) (a0 + 1) ((upd M (a0 + 0) (M (a1 + 0))) (a1 + 1))) (a1 + 2))) (a1 + 3))) (a0 + 4) ((upd (upd (upd (upd M (a0 + 0) (M (a1 + 0))) (a0 + 1) ((upd M (a0 + 0) (M (a1 + 0))) (a1 + 1))) (a0 + 2) ((upd (upd M (a0 + 0) (M (a1 + 0))) (a0 + 1) ((upd M (a0 + 0) (M (a1 + 0))) (a1 + 1))) (a1 + 2))) (a0 + 3) ((upd (upd (upd M (a0 + 0) (M (a1 + 0))) (a0 + 1) ((upd M (a0 + 0) (M (a1 + 0))) (a1 + 1))) (a0 + 2) ((upd (upd M (a0 + 0) (M (a1 + 0))) (a0 + 1) ((upd M (a0 + 0) (M (a1 + 0))) (a1 + 1))) (a1 + 2))) (a1 + 3))) (a1 + 4))) (a1 + 5))) (a0 + 6) ((upd (upd (upd (upd (upd (upd M (a0 + 0) (M (a1 + 0))) (a0 + 1) ((upd M (a0 + 0) (M (a1 + 0))) (a1 + 1))) (a0 + 2) ((upd (upd M (a0 + 0) (M (a1 + 0))) (a0 + 1) ((upd M (a0 + 0) (M (a1 + 0))) (a1 + 1))) (a1 + 2))) (a0 + 3) ((upd (upd (upd M (a0 + 0) (M (a1 + 0))) (a0 + 1) ((upd M (a0 + 0) (M (a1 + 0))) (a1 + 1))) (a0 + 2) ((upd (upd M (a0 + 0) (M (a1 + 0))) (a0 + 1) ((upd M (a0 + 0) (M (a1 + 0))) (a1 + 1))) (a1 + 2))) (a1 + 3))) (a0 + 4) ((upd (upd (upd (upd M (a0 + 0) (M (a1 + 0))) (a0 + 1) ((upd M (a0 + 0) (M (a1 + 0))) (a1 + 1))) (a0 + 2) ((upd (upd M (a0 + 0) (M (a1 + 0))) (a0 + 1) ((upd M (a0 + 0) (M (a1 + 0))) (a1 + 1))) (a1 + 2))) (a0 + 3) ((upd (upd (upd M (a0 + 0) (M (a1 + 0))) (a0 + 1) ((upd M (a0 + 0) (M (a1 + 0))) (a1 + 1))) (a0 + 2) ((upd (upd M (a0 + 0) (M (a1 + 0))) (a0 + 1) ((upd M (a0 + 0) (M (a1 + 0))) (a1 + 1))) (a1 + 2))) (a1 + 3))) (a1 + 4))) (a0 + 5) ((upd (upd (upd (upd (upd M (a0 + 0) (M (a1 + 0))) (a0 + 1) ((upd M (a0 + 0) (M (a1 + 0))) (a1 + 1))) (a0 + 2) ((upd (upd M (a0 + 0) (M (a1 + 0))) (a0 + 1) ((upd M (a0 + 0) (M (a1 + 0))) (a1 + 1))) (a1 + 2))) (a0 + 3) ((upd (upd (upd M (a0 + 0) (M (a1 + 0))) (a0 + 1) ((upd M (a0 + 0) (M (a1 + 0))) (a1 + 1))) (a0 + 2) ((upd (upd M (a0 + 0) (M (a1 + 0))) (a0 + 1) ((upd M (a0 + 0) (M (a1 + 0))) (a1 + 1))) (a1 + 2))) (a1 + 3))) (a0 + 4) ((upd (upd (upd (upd M (a0 + 0) (M (a1 + 0))) (a0 + 1) ((upd M (a0 + 0) (M (a1 + 0))) (a1 + 1))) (a0 + 2) ((upd (upd M (a0 + 0) (M (a1 + 0))) (a0 + 1) ((upd M (a0 + 0) (M (a1 + 0))) (a1 + 1))) (a1 + 2))) (a0 + 3) ((upd (upd (upd M (a0 + 0) (M (a1 + 0))) (a0 + 1) ((upd M (a0 + 0) (M (a1 + 0))) (a1 + 1))) (a0 + 2) ((upd (upd M (a0 + 0) (M (a1 + 0))) (a0 + 1) ((upd M (a0 + 0) (M (a1 + 0))) (a1 + 1))) (a1 + 2))) (a1 + 3))) (a1 + 4))) (a1 + 5))) (a1 + 6))) (a1 + 7))))
set_option maxRecDepth 100000 in
set_option maxHeartbeats 4000000 in
theorem c_X1_copyFrom (l : Launch) (D : va_G) (g : xG) (tb : List xQ) (hT : x_T g tb) {a0 : Nat} {a1 : Nat} (h0 : ((1, a0, 0) : xQ) ∈ tb) (h1 : ((1, a1, 0) : xQ) ∈ tb) {M M' : xM} (hf : f_X1_copyFrom a0 a1 M = some M') :
    cV l D g tb yX1_copyFrom cX1_copyFrom 2 ({ frames := 0, cells := 0, slots := 0, locals := 0 } : Room) [.ref (g.1 1 a0), .ref (g.1 1 a1)] M M' := by
  refine x_startV (own := RX1) (by decide +kernel) rfl rfl (Nat.le_of_ble_eq_true rfl) hT ?_
  intro p e s m args below meth c Q C0 hend
  unfold f_X1_copyFrom at hf
  refine r_aload_n C0 (kk := 0) 0 rfl dX1_copyFrom_0 ?_
  refine r_aload_n C0 (kk := 1) 1 rfl dX1_copyFrom_1 ?_
  refine r_get1 C0 h1 0 (by decide) (v := .int (M (a1 + 0))) rfl rfl w1_99 dX1_copyFrom_2 ?_
  refine r_put1 C0 h0 0 rfl rfl w1_99 rfl rfl rfl dX1_copyFrom_5 ?_
  refine r_aload_n C0 (kk := 0) 0 rfl dX1_copyFrom_8 ?_
  refine r_aload_n C0 (kk := 1) 1 rfl dX1_copyFrom_9 ?_
  refine r_get1 C0 h1 1 (by decide) (v := .int ((upd M (a0 + 0) (M (a1 + 0))) (a1 + 1))) rfl rfl w1_102 dX1_copyFrom_10 ?_
  refine r_put1 C0 h0 1 rfl rfl w1_102 rfl rfl rfl dX1_copyFrom_13 ?_
  refine r_aload_n C0 (kk := 0) 0 rfl dX1_copyFrom_16 ?_
  refine r_aload_n C0 (kk := 1) 1 rfl dX1_copyFrom_17 ?_
  refine r_get1 C0 h1 2 (by decide) (v := .int ((upd (upd M (a0 + 0) (M (a1 + 0))) (a0 + 1) ((upd M (a0 + 0) (M (a1 + 0))) (a1 + 1))) (a1 + 2))) rfl rfl w1_104 dX1_copyFrom_18 ?_
  refine r_put1 C0 h0 2 rfl rfl w1_104 rfl rfl rfl dX1_copyFrom_21 ?_
  refine r_aload_n C0 (kk := 0) 0 rfl dX1_copyFrom_24 ?_
  refine r_aload_n C0 (kk := 1) 1 rfl dX1_copyFrom_25 ?_
  refine r_get1 C0 h1 3 (by decide) (v := .int ((upd (upd (upd M (a0 + 0) (M (a1 + 0))) (a0 + 1) ((upd M (a0 + 0) (M (a1 + 0))) (a1 + 1))) (a0 + 2) ((upd (upd M (a0 + 0) (M (a1 + 0))) (a0 + 1) ((upd M (a0 + 0) (M (a1 + 0))) (a1 + 1))) (a1 + 2))) (a1 + 3))) rfl rfl w1_106 dX1_copyFrom_26 ?_
  refine r_put1 C0 h0 3 rfl rfl w1_106 rfl rfl rfl dX1_copyFrom_29 ?_
  refine r_aload_n C0 (kk := 0) 0 rfl dX1_copyFrom_32 ?_
  refine r_aload_n C0 (kk := 1) 1 rfl dX1_copyFrom_33 ?_
  refine r_get1 C0 h1 4 (by decide) (v := .int ((upd (upd (upd (upd M (a0 + 0) (M (a1 + 0))) (a0 + 1) ((upd M (a0 + 0) (M (a1 + 0))) (a1 + 1))) (a0 + 2) ((upd (upd M (a0 + 0) (M (a1 + 0))) (a0 + 1) ((upd M (a0 + 0) (M (a1 + 0))) (a1 + 1))) (a1 + 2))) (a0 + 3) ((upd (upd (upd M (a0 + 0) (M (a1 + 0))) (a0 + 1) ((upd M (a0 + 0) (M (a1 + 0))) (a1 + 1))) (a0 + 2) ((upd (upd M (a0 + 0) (M (a1 + 0))) (a0 + 1) ((upd M (a0 + 0) (M (a1 + 0))) (a1 + 1))) (a1 + 2))) (a1 + 3))) (a1 + 4))) rfl rfl w1_108 dX1_copyFrom_34 ?_
  refine r_put1 C0 h0 4 rfl rfl w1_108 rfl rfl rfl dX1_copyFrom_37 ?_
  refine r_aload_n C0 (kk := 0) 0 rfl dX1_copyFrom_40 ?_
  refine r_aload_n C0 (kk := 1) 1 rfl dX1_copyFrom_41 ?_
  refine r_get1 C0 h1 5 (by decide) (v := .int ((upd (upd (upd (upd (upd M (a0 + 0) (M (a1 + 0))) (a0 + 1) ((upd M (a0 + 0) (M (a1 + 0))) (a1 + 1))) (a0 + 2) ((upd (upd M (a0 + 0) (M (a1 + 0))) (a0 + 1) ((upd M (a0 + 0) (M (a1 + 0))) (a1 + 1))) (a1 + 2))) (a0 + 3) ((upd (upd (upd M (a0 + 0) (M (a1 + 0))) (a0 + 1) ((upd M (a0 + 0) (M (a1 + 0))) (a1 + 1))) (a0 + 2) ((upd (upd M (a0 + 0) (M (a1 + 0))) (a0 + 1) ((upd M (a0 + 0) (M (a1 + 0))) (a1 + 1))) (a1 + 2))) (a1 + 3))) (a0 + 4) ((upd (upd (upd (upd M (a0 + 0) (M (a1 + 0))) (a0 + 1) ((upd M (a0 + 0) (M (a1 + 0))) (a1 + 1))) (a0 + 2) ((upd (upd M (a0 + 0) (M (a1 + 0))) (a0 + 1) ((upd M (a0 + 0) (M (a1 + 0))) (a1 + 1))) (a1 + 2))) (a0 + 3) ((upd (upd (upd M (a0 + 0) (M (a1 + 0))) (a0 + 1) ((upd M (a0 + 0) (M (a1 + 0))) (a1 + 1))) (a0 + 2) ((upd (upd M (a0 + 0) (M (a1 + 0))) (a0 + 1) ((upd M (a0 + 0) (M (a1 + 0))) (a1 + 1))) (a1 + 2))) (a1 + 3))) (a1 + 4))) (a1 + 5))) rfl rfl w1_111 dX1_copyFrom_42 ?_
  refine r_put1 C0 h0 5 rfl rfl w1_111 rfl rfl rfl dX1_copyFrom_45 ?_
  refine r_aload_n C0 (kk := 0) 0 rfl dX1_copyFrom_48 ?_
  refine r_aload_n C0 (kk := 1) 1 rfl dX1_copyFrom_49 ?_
  refine r_get1 C0 h1 6 (by decide) (v := .int ((upd (upd (upd (upd (upd (upd M (a0 + 0) (M (a1 + 0))) (a0 + 1) ((upd M (a0 + 0) (M (a1 + 0))) (a1 + 1))) (a0 + 2) ((upd (upd M (a0 + 0) (M (a1 + 0))) (a0 + 1) ((upd M (a0 + 0) (M (a1 + 0))) (a1 + 1))) (a1 + 2))) (a0 + 3) ((upd (upd (upd M (a0 + 0) (M (a1 + 0))) (a0 + 1) ((upd M (a0 + 0) (M (a1 + 0))) (a1 + 1))) (a0 + 2) ((upd (upd M (a0 + 0) (M (a1 + 0))) (a0 + 1) ((upd M (a0 + 0) (M (a1 + 0))) (a1 + 1))) (a1 + 2))) (a1 + 3))) (a0 + 4) ((upd (upd (upd (upd M (a0 + 0) (M (a1 + 0))) (a0 + 1) ((upd M (a0 + 0) (M (a1 + 0))) (a1 + 1))) (a0 + 2) ((upd (upd M (a0 + 0) (M (a1 + 0))) (a0 + 1) ((upd M (a0 + 0) (M (a1 + 0))) (a1 + 1))) (a1 + 2))) (a0 + 3) ((upd (upd (upd M (a0 + 0) (M (a1 + 0))) (a0 + 1) ((upd M (a0 + 0) (M (a1 + 0))) (a1 + 1))) (a0 + 2) ((upd (upd M (a0 + 0) (M (a1 + 0))) (a0 + 1) ((upd M (a0 + 0) (M (a1 + 0))) (a1 + 1))) (a1 + 2))) (a1 + 3))) (a1 + 4))) (a0 + 5) ((upd (upd (upd (upd (upd M (a0 + 0) (M (a1 + 0))) (a0 + 1) ((upd M (a0 + 0) (M (a1 + 0))) (a1 + 1))) (a0 + 2) ((upd (upd M (a0 + 0) (M (a1 + 0))) (a0 + 1) ((upd M (a0 + 0) (M (a1 + 0))) (a1 + 1))) (a1 + 2))) (a0 + 3) ((upd (upd (upd M (a0 + 0) (M (a1 + 0))) (a0 + 1) ((upd M (a0 + 0) (M (a1 + 0))) (a1 + 1))) (a0 + 2) ((upd (upd M (a0 + 0) (M (a1 + 0))) (a0 + 1) ((upd M (a0 + 0) (M (a1 + 0))) (a1 + 1))) (a1 + 2))) (a1 + 3))) (a0 + 4) ((upd (upd (upd (upd M (a0 + 0) (M (a1 + 0))) (a0 + 1) ((upd M (a0 + 0) (M (a1 + 0))) (a1 + 1))) (a0 + 2) ((upd (upd M (a0 + 0) (M (a1 + 0))) (a0 + 1) ((upd M (a0 + 0) (M (a1 + 0))) (a1 + 1))) (a1 + 2))) (a0 + 3) ((upd (upd (upd M (a0 + 0) (M (a1 + 0))) (a0 + 1) ((upd M (a0 + 0) (M (a1 + 0))) (a1 + 1))) (a0 + 2) ((upd (upd M (a0 + 0) (M (a1 + 0))) (a0 + 1) ((upd M (a0 + 0) (M (a1 + 0))) (a1 + 1))) (a1 + 2))) (a1 + 3))) (a1 + 4))) (a1 + 5))) (a1 + 6))) rfl rfl w1_113 dX1_copyFrom_50 ?_
  refine r_put1 C0 h0 6 rfl rfl w1_113 rfl rfl rfl dX1_copyFrom_53 ?_
  refine r_aload_n C0 (kk := 0) 0 rfl dX1_copyFrom_56 ?_
  refine r_aload_n C0 (kk := 1) 1 rfl dX1_copyFrom_57 ?_
  refine r_get1 C0 h1 7 (by decide) (v := .int ((upd (upd (upd (upd (upd (upd (upd M (a0 + 0) (M (a1 + 0))) (a0 + 1) ((upd M (a0 + 0) (M (a1 + 0))) (a1 + 1))) (a0 + 2) ((upd (upd M (a0 + 0) (M (a1 + 0))) (a0 + 1) ((upd M (a0 + 0) (M (a1 + 0))) (a1 + 1))) (a1 + 2))) (a0 + 3) ((upd (upd (upd M (a0 + 0) (M (a1 + 0))) (a0 + 1) ((upd M (a0 + 0) (M (a1 + 0))) (a1 + 1))) (a0 + 2) ((upd (upd M (a0 + 0) (M (a1 + 0))) (a0 + 1) ((upd M (a0 + 0) (M (a1 + 0))) (a1 + 1))) (a1 + 2))) (a1 + 3))) (a0 + 4) ((upd (upd (upd (upd M (a0 + 0) (M (a1 + 0))) (a0 + 1) ((upd M (a0 + 0) (M (a1 + 0))) (a1 + 1))) (a0 + 2) ((upd (upd M (a0 + 0) (M (a1 + 0))) (a0 + 1) ((upd M (a0 + 0) (M (a1 + 0))) (a1 + 1))) (a1 + 2))) (a0 + 3) ((upd (upd (upd M (a0 + 0) (M (a1 + 0))) (a0 + 1) ((upd M (a0 + 0) (M (a1 + 0))) (a1 + 1))) (a0 + 2) ((upd (upd M (a0 + 0) (M (a1 + 0))) (a0 + 1) ((upd M (a0 + 0) (M (a1 + 0))) (a1 + 1))) (a1 + 2))) (a1 + 3))) (a1 + 4))) (a0 + 5) ((upd (upd (upd (upd (upd M (a0 + 0) (M (a1 + 0))) (a0 + 1) ((upd M (a0 + 0) (M (a1 + 0))) (a1 + 1))) (a0 + 2) ((upd (upd M (a0 + 0) (M (a1 + 0))) (a0 + 1) ((upd M (a0 + 0) (M (a1 + 0))) (a1 + 1))) (a1 + 2))) (a0 + 3) ((upd (upd (upd M (a0 + 0) (M (a1 + 0))) (a0 + 1) ((upd M (a0 + 0) (M (a1 + 0))) (a1 + 1))) (a0 + 2) ((upd (upd M (a0 + 0) (M (a1 + 0))) (a0 + 1) ((upd M (a0 + 0) (M (a1 + 0))) (a1 + 1))) (a1 + 2))) (a1 + 3))) (a0 + 4) ((upd (upd (upd (upd M (a0 + 0) (M (a1 + 0))) (a0 + 1) ((upd M (a0 + 0) (M (a1 + 0))) (a1 + 1))) (a0 + 2) ((upd (upd M (a0 + 0) (M (a1 + 0))) (a0 + 1) ((upd M (a0 + 0) (M (a1 + 0))) (a1 + 1))) (a1 + 2))) (a0 + 3) ((upd (upd (upd M (a0 + 0) (M (a1 + 0))) (a0 + 1) ((upd M (a0 + 0) (M (a1 + 0))) (a1 + 1))) (a0 + 2) ((upd (upd M (a0 + 0) (M (a1 + 0))) (a0 + 1) ((upd M (a0 + 0) (M (a1 + 0))) (a1 + 1))) (a1 + 2))) (a1 + 3))) (a1 + 4))) (a1 + 5))) (a0 + 6) ((upd (upd (upd (upd (upd (upd M (a0 + 0) (M (a1 + 0))) (a0 + 1) ((upd M (a0 + 0) (M (a1 + 0))) (a1 + 1))) (a0 + 2) ((upd (upd M (a0 + 0) (M (a1 + 0))) (a0 + 1) ((upd M (a0 + 0) (M (a1 + 0))) (a1 + 1))) (a1 + 2))) (a0 + 3) ((upd (upd (upd M (a0 + 0) (M (a1 + 0))) (a0 + 1) ((upd M (a0 + 0) (M (a1 + 0))) (a1 + 1))) (a0 + 2) ((upd (upd M (a0 + 0) (M (a1 + 0))) (a0 + 1) ((upd M (a0 + 0) (M (a1 + 0))) (a1 + 1))) (a1 + 2))) (a1 + 3))) (a0 + 4) ((upd (upd (upd (upd M (a0 + 0) (M (a1 + 0))) (a0 + 1) ((upd M (a0 + 0) (M (a1 + 0))) (a1 + 1))) (a0 + 2) ((upd (upd M (a0 + 0) (M (a1 + 0))) (a0 + 1) ((upd M (a0 + 0) (M (a1 + 0))) (a1 + 1))) (a1 + 2))) (a0 + 3) ((upd (upd (upd M (a0 + 0) (M (a1 + 0))) (a0 + 1) ((upd M (a0 + 0) (M (a1 + 0))) (a1 + 1))) (a0 + 2) ((upd (upd M (a0 + 0) (M (a1 + 0))) (a0 + 1) ((upd M (a0 + 0) (M (a1 + 0))) (a1 + 1))) (a1 + 2))) (a1 + 3))) (a1 + 4))) (a0 + 5) ((upd (upd (upd (upd (upd M (a0 + 0) (M (a1 + 0))) (a0 + 1) ((upd M (a0 + 0) (M (a1 + 0))) (a1 + 1))) (a0 + 2) ((upd (upd M (a0 + 0) (M (a1 + 0))) (a0 + 1) ((upd M (a0 + 0) (M (a1 + 0))) (a1 + 1))) (a1 + 2))) (a0 + 3) ((upd (upd (upd M (a0 + 0) (M (a1 + 0))) (a0 + 1) ((upd M (a0 + 0) (M (a1 + 0))) (a1 + 1))) (a0 + 2) ((upd (upd M (a0 + 0) (M (a1 + 0))) (a0 + 1) ((upd M (a0 + 0) (M (a1 + 0))) (a1 + 1))) (a1 + 2))) (a1 + 3))) (a0 + 4) ((upd (upd (upd (upd M (a0 + 0) (M (a1 + 0))) (a0 + 1) ((upd M (a0 + 0) (M (a1 + 0))) (a1 + 1))) (a0 + 2) ((upd (upd M (a0 + 0) (M (a1 + 0))) (a0 + 1) ((upd M (a0 + 0) (M (a1 + 0))) (a1 + 1))) (a1 + 2))) (a0 + 3) ((upd (upd (upd M (a0 + 0) (M (a1 + 0))) (a0 + 1) ((upd M (a0 + 0) (M (a1 + 0))) (a1 + 1))) (a0 + 2) ((upd (upd M (a0 + 0) (M (a1 + 0))) (a0 + 1) ((upd M (a0 + 0) (M (a1 + 0))) (a1 + 1))) (a1 + 2))) (a1 + 3))) (a1 + 4))) (a1 + 5))) (a1 + 6))) (a1 + 7))) rfl rfl w1_116 dX1_copyFrom_58 ?_
  refine r_put1 C0 h0 7 rfl rfl w1_116 rfl rfl rfl dX1_copyFrom_61 ?_
  exact hend hf dX1_copyFrom_64
theorem dX4_isSeenFrom_0 : decode cX4_isSeenFrom 0 = .ok (.aload_n 0, 1) := by decide +kernel
theorem dX4_isSeenFrom_1 : decode cX4_isSeenFrom 1 = .ok (.getfield 9, 3) := by decide +kernel
theorem dX4_isSeenFrom_4 : decode cX4_isSeenFrom 4 = .ok (.iload_n 1, 1) := by decide +kernel
theorem dX4_isSeenFrom_5 : decode cX4_isSeenFrom 5 = .ok (.isub, 1) := by decide +kernel
theorem dX4_isSeenFrom_6 : decode cX4_isSeenFrom 6 = .ok (.invokestatic 39, 3) := by decide +kernel
theorem dX4_isSeenFrom_9 : decode cX4_isSeenFrom 9 = .ok (.aload_n 0, 1) := by decide +kernel
theorem dX4_isSeenFrom_10 : decode cX4_isSeenFrom 10 = .ok (.getfield 15, 3) := by decide +kernel
theorem dX4_isSeenFrom_13 : decode cX4_isSeenFrom 13 = .ok (.iload_n 2, 1) := by decide +kernel
theorem dX4_isSeenFrom_14 : decode cX4_isSeenFrom 14 = .ok (.invokestatic 45, 3) := by decide +kernel
theorem dX4_isSeenFrom_17 : decode cX4_isSeenFrom 17 = .ok (.if_icmp .gt 7, 3) := by decide +kernel
theorem dX4_isSeenFrom_20 : decode cX4_isSeenFrom 20 = .ok (.iconst 1, 1) := by decide +kernel
theorem dX4_isSeenFrom_21 : decode cX4_isSeenFrom 21 = .ok (.goto 4, 3) := by decide +kernel
theorem dX4_isSeenFrom_24 : decode cX4_isSeenFrom 24 = .ok (.iconst 0, 1) := by decide +kernel
theorem dX4_isSeenFrom_25 : decode cX4_isSeenFrom 25 = .ok (.ireturn, 1) := by decide +kernel
theorem hd_X4_isSeenFrom : yX4_isSeenFrom.cls = RX4 ∧ yX4_isSeenFrom.cls ≠ "java/lang/invoke/MethodHandle" ∧ yX4_isSeenFrom.cls ≠ "java/lang/invoke/VarHandle" ∧ (parseMethodDescriptor yX4_isSeenFrom.desc).map (fun d => d.parameters.length) = some 2 := by decide +kernel
def f_X4_isSeenFrom (a0 : Nat) (a1 : Int32) (a2 : Int32) (M : xM) : Option (Int32 × xM) :=
  (bd2 (f_X4_paces (M (a0 + 1)) a2 M) (fun r3 M2 => (if r3 < (iabs ((M (a0 + 0)) - a1)) then (some (0, M2)) else (some (1, M2)))))
set_option maxRecDepth 100000 in
set_option maxHeartbeats 4000000 in
theorem c_X4_isSeenFrom (l : Launch) (D : va_G) (g : xG) (tb : List xQ) (hT : x_T g tb) {a0 : Nat} {a1 : Int32} {a2 : Int32} (h0 : ((0, a0, 0) : xQ) ∈ tb) {M : xM} {r : Int32} {M' : xM} (hf : f_X4_isSeenFrom a0 a1 a2 M = some (r, M')) :
    cI l D g tb yX4_isSeenFrom cX4_isSeenFrom 3 .boolean ({ frames := 1, cells := 0, slots := 0, locals := 21 } : Room) [.ref (g.1 0 a0), .int a1, .int a2] M r M' := by
  refine x_startZ (own := RX4) (by decide +kernel) rfl rfl (Nat.le_of_ble_eq_true rfl) hT ?_
  intro p e s m args below meth c Q C0 hend
  unfold f_X4_isSeenFrom at hf
  refine r_aload_n C0 (kk := 0) 0 rfl dX4_isSeenFrom_0 ?_
  refine r_get0 C0 h0 0 (by decide) (v := .int (M (a0 + 0))) rfl rfl w1_45 dX4_isSeenFrom_1 ?_
  refine r_iload_n C0 (kk := 1) 1 rfl dX4_isSeenFrom_4 ?_
  refine r_isub C0 dX4_isSeenFrom_5 ?_
  refine r_abs C0 w4_224 w3_50 w1_13 w3_51 (by decide) (Nat.le_of_ble_eq_true rfl) (by decide) (by decide) dX4_isSeenFrom_6 ?_
  refine r_aload_n C0 (kk := 0) 0 rfl dX4_isSeenFrom_9 ?_
  refine r_get0 C0 h0 1 (by decide) (v := .int (M (a0 + 1))) rfl rfl w1_48 dX4_isSeenFrom_10 ?_
  refine r_iload_n C0 (kk := 2) 2 rfl dX4_isSeenFrom_13 ?_
  obtain ⟨r3, M2, hc1, hf⟩ := bd2_e hf
  refine r_callSi C0 (As := [.int (M (a0 + 1)), .int a2]) (rest := [.int (iabs ((M (a0 + 0)) - a1))]) (c_X4_paces l D g tb hT  hc1) w4_225 w3_53 w1_3 w3_54 hd_X4_paces rfl ⟨rfl, rfl⟩ ⟨Nat.le_of_ble_eq_true rfl, Nat.le_of_ble_eq_true rfl⟩ (by decide) (by decide) rfl (Nat.le_of_ble_eq_true rfl) dX4_isSeenFrom_14 ?_
  refine r_icmp_gt C0 (tgt := 24) (by decide) dX4_isSeenFrom_17 (fun q4 => ?_) (fun q4 => ?_)
  · have hf := ie_t hf q4
    refine r_iconst C0 (v := 0) dX4_isSeenFrom_24 rfl ?_
    exact hend (by decide) hf dX4_isSeenFrom_25
  · have hf := ie_f hf q4
    refine r_iconst C0 (v := 1) dX4_isSeenFrom_20 rfl ?_
    refine r_goto C0 (tgt := 25) (by decide) dX4_isSeenFrom_21 ?_
    exact hend (by decide) hf dX4_isSeenFrom_25
