/-! builders: room, and a string put behind what stands -/
theorem cpy_lo {f g : Nat → Int32} {d n j : Nat} (h : j < d) : va_cpy f g 0 d n j = g j := by
  unfold va_cpy
  rw [if_neg (by omega)]
theorem cpy_hi {f g : Nat → Int32} {d n j : Nat} (h : j < n) : va_cpy f g 0 d n (d + j) = f j := by
  unfold va_cpy
  rw [if_pos (by omega), show 0 + (d + j - d) = j by omega]
theorem nL_val {z q : Nat} (h : z < q) (hq : q ≤ 65536) (M : xM) : f_J8_newLength_cabcc (nI z) (nI (q - z)) (nI (z + 2)) M = some (nI (capF z q), M) := by
  have hb : 0 < capF z q ∧ capF z q < 200000 := by
    unfold capF
    split <;> omega
  have e : nI z + imax (nI (q - z)) (nI (z + 2)) = nI (capF z q) := by
    unfold imax capF
    by_cases h2 : q - z < z + 2
    · rw [if_pos (nI_lt h2 (by omega)), if_pos h2, nI_add]
    · rw [if_neg (nI_nlt (by omega) (by omega)), if_neg h2, nI_add, show z + (q - z) = q by omega]
  unfold f_J8_newLength_cabcc
  rw [e, if_neg (show ¬ nI (capF z q) ≤ 0 from nI_ge (a := 0) (b := capF z q) hb.1 (by omega)), if_neg (show ¬ (2147483639 : Int32) < nI (capF z q) from nI_nlt (a := 2147483639) (b := capF z q) (by omega) (by decide))]
theorem dJ5_newCapacity_0f7a4_0 : decode cJ5_newCapacity_0f7a4 0 = .ok (.aload_n 0, 1) := by decide +kernel
theorem dJ5_newCapacity_0f7a4_1 : decode cJ5_newCapacity_0f7a4 1 = .ok (.getfield 15, 3) := by decide +kernel
theorem dJ5_newCapacity_0f7a4_4 : decode cJ5_newCapacity_0f7a4 4 = .ok (.arraylength, 1) := by decide +kernel
theorem dJ5_newCapacity_0f7a4_5 : decode cJ5_newCapacity_0f7a4 5 = .ok (.istore_n 2, 1) := by decide +kernel
theorem dJ5_newCapacity_0f7a4_6 : decode cJ5_newCapacity_0f7a4 6 = .ok (.iload_n 1, 1) := by decide +kernel
theorem dJ5_newCapacity_0f7a4_7 : decode cJ5_newCapacity_0f7a4 7 = .ok (.aload_n 0, 1) := by decide +kernel
theorem dJ5_newCapacity_0f7a4_8 : decode cJ5_newCapacity_0f7a4 8 = .ok (.getfield 22, 3) := by decide +kernel
theorem dJ5_newCapacity_0f7a4_11 : decode cJ5_newCapacity_0f7a4 11 = .ok (.ishl, 1) := by decide +kernel
theorem dJ5_newCapacity_0f7a4_12 : decode cJ5_newCapacity_0f7a4 12 = .ok (.istore_n 3, 1) := by decide +kernel
theorem dJ5_newCapacity_0f7a4_13 : decode cJ5_newCapacity_0f7a4 13 = .ok (.iload_n 3, 1) := by decide +kernel
theorem dJ5_newCapacity_0f7a4_14 : decode cJ5_newCapacity_0f7a4 14 = .ok (.iload_n 2, 1) := by decide +kernel
theorem dJ5_newCapacity_0f7a4_15 : decode cJ5_newCapacity_0f7a4 15 = .ok (.isub, 1) := by decide +kernel
theorem dJ5_newCapacity_0f7a4_16 : decode cJ5_newCapacity_0f7a4 16 = .ok (.istore 4, 2) := by decide +kernel
theorem dJ5_newCapacity_0f7a4_18 : decode cJ5_newCapacity_0f7a4 18 = .ok (.iload_n 2, 1) := by decide +kernel
theorem dJ5_newCapacity_0f7a4_19 : decode cJ5_newCapacity_0f7a4 19 = .ok (.iload 4, 2) := by decide +kernel
theorem dJ5_newCapacity_0f7a4_21 : decode cJ5_newCapacity_0f7a4 21 = .ok (.iload_n 2, 1) := by decide +kernel
theorem dJ5_newCapacity_0f7a4_22 : decode cJ5_newCapacity_0f7a4 22 = .ok (.iconst 2, 1) := by decide +kernel
theorem dJ5_newCapacity_0f7a4_23 : decode cJ5_newCapacity_0f7a4 23 = .ok (.aload_n 0, 1) := by decide +kernel
theorem dJ5_newCapacity_0f7a4_24 : decode cJ5_newCapacity_0f7a4 24 = .ok (.getfield 22, 3) := by decide +kernel
theorem dJ5_newCapacity_0f7a4_27 : decode cJ5_newCapacity_0f7a4 27 = .ok (.ishl, 1) := by decide +kernel
theorem dJ5_newCapacity_0f7a4_28 : decode cJ5_newCapacity_0f7a4 28 = .ok (.iadd, 1) := by decide +kernel
theorem dJ5_newCapacity_0f7a4_29 : decode cJ5_newCapacity_0f7a4 29 = .ok (.invokestatic 114, 3) := by decide +kernel
theorem dJ5_newCapacity_0f7a4_32 : decode cJ5_newCapacity_0f7a4 32 = .ok (.istore 5, 2) := by decide +kernel
theorem dJ5_newCapacity_0f7a4_34 : decode cJ5_newCapacity_0f7a4 34 = .ok (.iload 5, 2) := by decide +kernel
theorem dJ5_newCapacity_0f7a4_36 : decode cJ5_newCapacity_0f7a4 36 = .ok (.ldc 39, 2) := by decide +kernel
theorem dJ5_newCapacity_0f7a4_38 : decode cJ5_newCapacity_0f7a4 38 = .ok (.if_icmp .ne 13, 3) := by decide +kernel
theorem dJ5_newCapacity_0f7a4_51 : decode cJ5_newCapacity_0f7a4 51 = .ok (.iload 5, 2) := by decide +kernel
theorem dJ5_newCapacity_0f7a4_53 : decode cJ5_newCapacity_0f7a4 53 = .ok (.aload_n 0, 1) := by decide +kernel
theorem dJ5_newCapacity_0f7a4_54 : decode cJ5_newCapacity_0f7a4 54 = .ok (.getfield 22, 3) := by decide +kernel
theorem dJ5_newCapacity_0f7a4_57 : decode cJ5_newCapacity_0f7a4 57 = .ok (.ishr, 1) := by decide +kernel
theorem dJ5_newCapacity_0f7a4_58 : decode cJ5_newCapacity_0f7a4 58 = .ok (.ireturn, 1) := by decide +kernel
theorem hdJ5_newCapacity_0f7a4 : yJ5_newCapacity_0f7a4.cls ≠ "java/lang/invoke/MethodHandle" ∧ yJ5_newCapacity_0f7a4.cls ≠ "java/lang/invoke/VarHandle" ∧ (parseMethodDescriptor yJ5_newCapacity_0f7a4.desc).map (fun d => d.parameters.length) = some 1 := by decide +kernel
theorem mJ5_newCapacity_0f7a4 (l : Launch) (D : va_G) (g : xG) {h v n z q : Nat} {a : Nat → Int32} (hz : z < q) (hq : q ≤ 65536) : mI l D g yJ5_newCapacity_0f7a4 cJ5_newCapacity_0f7a4 6 .int ({ frames := 2, cells := 0, slots := 0, locals := 44 } : Room) [.ref h, .int (nI q)] [(h, .inr (5, sbF v n)), (v, .inl (g.2.1 1, z, .inl a))] none 0 0 (nI (capF z q)) (fun w => w = [(h, .inr (5, sbF v n)), (v, .inl (g.2.1 1, z, .inl a))]) := by
  refine m_startI (own := RJ5) (by decide +kernel) rfl rfl (Nat.le_of_ble_eq_true rfl) ?_
  intro p e s m args below meth c A Q C0 hE hend
  have hb : 0 < capF z q ∧ capF z q < 200000 := by
    unfold capF
    split <;> omega
  refine q_aload_n C0 (kk := 0) 0 rfl dJ5_newCapacity_0f7a4_0 ?_
  refine n_get C0 x_lays5 (q0 := 0) rfl rfl 0 (by decide) w2_149 rfl rfl dJ5_newCapacity_0f7a4_1 ?_
  refine q_blen C0 1 rfl dJ5_newCapacity_0f7a4_4 ?_
  refine q_istore_n C0 (kk := 2) (lv2 := [(2, .int (nI z)), (0, .ref h), (1, .int (nI q))]) (by decide) rfl dJ5_newCapacity_0f7a4_5 ?_
  refine q_iload_n C0 (kk := 1) 2 rfl dJ5_newCapacity_0f7a4_6 ?_
  refine q_aload_n C0 (kk := 0) 1 rfl dJ5_newCapacity_0f7a4_7 ?_
  refine n_get C0 x_lays5 (q0 := 0) rfl rfl 1 (by decide) w2_150 rfl rfl dJ5_newCapacity_0f7a4_8 ?_
  refine q_ishl C0 dJ5_newCapacity_0f7a4_11 ?_
  rw [show (((nI q) <<< (0 &&& 31)) : Int32) = nI q from sb_shl0 _]
  refine q_istore_n C0 (kk := 3) (lv2 := [(3, .int (nI q)), (2, .int (nI z)), (0, .ref h), (1, .int (nI q))]) (by decide) rfl dJ5_newCapacity_0f7a4_12 ?_
  refine q_iload_n C0 (kk := 3) 0 rfl dJ5_newCapacity_0f7a4_13 ?_
  refine q_iload_n C0 (kk := 2) 1 rfl dJ5_newCapacity_0f7a4_14 ?_
  refine q_isub C0 dJ5_newCapacity_0f7a4_15 ?_
  rw [show (((nI q) - (nI z)) : Int32) = nI (q - z) from pk_sub (by omega)]
  refine q_istore C0 (lv2 := [(4, .int (nI (q - z))), (3, .int (nI q)), (2, .int (nI z)), (0, .ref h), (1, .int (nI q))]) (by decide) rfl dJ5_newCapacity_0f7a4_16 ?_
  refine q_iload_n C0 (kk := 2) 2 rfl dJ5_newCapacity_0f7a4_18 ?_
  refine q_iload C0 0 rfl dJ5_newCapacity_0f7a4_19 ?_
  refine q_iload_n C0 (kk := 2) 2 rfl dJ5_newCapacity_0f7a4_21 ?_
  refine q_iconst C0 (v := 2) dJ5_newCapacity_0f7a4_22 rfl ?_
  refine q_aload_n C0 (kk := 0) 3 rfl dJ5_newCapacity_0f7a4_23 ?_
  refine n_get C0 x_lays5 (q0 := 0) rfl rfl 1 (by decide) w2_150 rfl rfl dJ5_newCapacity_0f7a4_24 ?_
  refine q_ishl C0 dJ5_newCapacity_0f7a4_27 ?_
  rw [show ((2 : Int32) <<< ((0 : Int32) &&& 31) : Int32) = 2 from sb_shl0 _]
  refine q_iadd C0 dJ5_newCapacity_0f7a4_28 ?_
  rw [show (((nI z) + 2) : Int32) = nI (z + 2) from nI_add z 2]
  refine m_tabSi C0 (As := [.int (nI z), .int (nI (q - z)), .int (nI (z + 2))]) (rest := []) (c_J8_newLength_cabcc l D g [] T_nil (nL_val hz hq (fun _ => 0))) w2_182 w2_183 w1_5 w2_184 hd_J8_newLength_cabcc rfl ⟨rfl, rfl⟩ ⟨Nat.le_of_ble_eq_true rfl, Nat.le_of_ble_eq_true rfl⟩ (by decide) (by decide) rfl (Nat.le_of_ble_eq_true rfl) dJ5_newCapacity_0f7a4_29 ?_
  refine q_istore C0 (lv2 := [(5, .int (nI (capF z q))), (4, .int (nI (q - z))), (3, .int (nI q)), (2, .int (nI z)), (0, .ref h), (1, .int (nI q))]) (by decide) rfl dJ5_newCapacity_0f7a4_32 ?_
  refine q_iload C0 0 rfl dJ5_newCapacity_0f7a4_34 ?_
  refine q_ldc C0 w2_192 dJ5_newCapacity_0f7a4_36 ?_
  refine q_icmp_ne C0 (tgt := 51) (by decide) dJ5_newCapacity_0f7a4_38 (fun _ => ?_) (fun zz => absurd ((nI_eq (b := 2147483647) (by omega) (by decide)).mp zz) (by omega))
  refine q_iload C0 0 rfl dJ5_newCapacity_0f7a4_51 ?_
  refine q_aload_n C0 (kk := 0) 4 rfl dJ5_newCapacity_0f7a4_53 ?_
  refine n_get C0 x_lays5 (q0 := 0) rfl rfl 1 (by decide) w2_150 rfl rfl dJ5_newCapacity_0f7a4_54 ?_
  refine q_ishr C0 dJ5_newCapacity_0f7a4_57 ?_
  exact hend (sb_shr0 _) rfl rfl dJ5_newCapacity_0f7a4_58

theorem dJ5_ensureCapacityInternal_d00df_0 : decode cJ5_ensureCapacityInternal_d00df 0 = .ok (.aload_n 0, 1) := by decide +kernel
theorem dJ5_ensureCapacityInternal_d00df_1 : decode cJ5_ensureCapacityInternal_d00df 1 = .ok (.getfield 15, 3) := by decide +kernel
theorem dJ5_ensureCapacityInternal_d00df_4 : decode cJ5_ensureCapacityInternal_d00df 4 = .ok (.arraylength, 1) := by decide +kernel
theorem dJ5_ensureCapacityInternal_d00df_5 : decode cJ5_ensureCapacityInternal_d00df 5 = .ok (.aload_n 0, 1) := by decide +kernel
theorem dJ5_ensureCapacityInternal_d00df_6 : decode cJ5_ensureCapacityInternal_d00df 6 = .ok (.getfield 22, 3) := by decide +kernel
theorem dJ5_ensureCapacityInternal_d00df_9 : decode cJ5_ensureCapacityInternal_d00df 9 = .ok (.ishr, 1) := by decide +kernel
theorem dJ5_ensureCapacityInternal_d00df_10 : decode cJ5_ensureCapacityInternal_d00df 10 = .ok (.istore_n 2, 1) := by decide +kernel
theorem dJ5_ensureCapacityInternal_d00df_11 : decode cJ5_ensureCapacityInternal_d00df 11 = .ok (.iload_n 1, 1) := by decide +kernel
theorem dJ5_ensureCapacityInternal_d00df_12 : decode cJ5_ensureCapacityInternal_d00df 12 = .ok (.iload_n 2, 1) := by decide +kernel
theorem dJ5_ensureCapacityInternal_d00df_13 : decode cJ5_ensureCapacityInternal_d00df 13 = .ok (.isub, 1) := by decide +kernel
theorem dJ5_ensureCapacityInternal_d00df_14 : decode cJ5_ensureCapacityInternal_d00df 14 = .ok (.ifCond .le 24, 3) := by decide +kernel
theorem dJ5_ensureCapacityInternal_d00df_17 : decode cJ5_ensureCapacityInternal_d00df 17 = .ok (.aload_n 0, 1) := by decide +kernel
theorem dJ5_ensureCapacityInternal_d00df_18 : decode cJ5_ensureCapacityInternal_d00df 18 = .ok (.aload_n 0, 1) := by decide +kernel
theorem dJ5_ensureCapacityInternal_d00df_19 : decode cJ5_ensureCapacityInternal_d00df 19 = .ok (.getfield 15, 3) := by decide +kernel
theorem dJ5_ensureCapacityInternal_d00df_22 : decode cJ5_ensureCapacityInternal_d00df 22 = .ok (.aload_n 0, 1) := by decide +kernel
theorem dJ5_ensureCapacityInternal_d00df_23 : decode cJ5_ensureCapacityInternal_d00df 23 = .ok (.iload_n 1, 1) := by decide +kernel
theorem dJ5_ensureCapacityInternal_d00df_24 : decode cJ5_ensureCapacityInternal_d00df 24 = .ok (.invokevirtual 104, 3) := by decide +kernel
theorem dJ5_ensureCapacityInternal_d00df_27 : decode cJ5_ensureCapacityInternal_d00df 27 = .ok (.aload_n 0, 1) := by decide +kernel
theorem dJ5_ensureCapacityInternal_d00df_28 : decode cJ5_ensureCapacityInternal_d00df 28 = .ok (.getfield 22, 3) := by decide +kernel
theorem dJ5_ensureCapacityInternal_d00df_31 : decode cJ5_ensureCapacityInternal_d00df 31 = .ok (.ishl, 1) := by decide +kernel
theorem dJ5_ensureCapacityInternal_d00df_32 : decode cJ5_ensureCapacityInternal_d00df 32 = .ok (.invokestatic 108, 3) := by decide +kernel
theorem dJ5_ensureCapacityInternal_d00df_35 : decode cJ5_ensureCapacityInternal_d00df 35 = .ok (.putfield 15, 3) := by decide +kernel
theorem dJ5_ensureCapacityInternal_d00df_38 : decode cJ5_ensureCapacityInternal_d00df 38 = .ok (.return_, 1) := by decide +kernel
theorem hdJ5_ensureCapacityInternal_d00df : yJ5_ensureCapacityInternal_d00df.cls ≠ "java/lang/invoke/MethodHandle" ∧ yJ5_ensureCapacityInternal_d00df.cls ≠ "java/lang/invoke/VarHandle" ∧ (parseMethodDescriptor yJ5_ensureCapacityInternal_d00df.desc).map (fun d => d.parameters.length) = some 1 := by decide +kernel
theorem mJ5_ensureCapacityInternal_d00df (l : Launch) (D : va_G) (g : xG) {h v n z q : Nat} {a : Nat → Int32} (hz : z ≤ 256) (hq : q ≤ 110) (hf : sb_Fit a) : mV l D g yJ5_ensureCapacityInternal_d00df cJ5_ensureCapacityInternal_d00df 3 ({ frames := 3, cells := 1, slots := 256, locals := 82 } : Room) [.ref h, .int (nI q)] [(h, .inr (5, sbF v n)), (v, .inl (g.2.1 1, z, .inl a))] none 1 256 (fun w => ∃ v2 z2 a2, w = [(h, .inr (5, sbF v2 n)), (v2, .inl (g.2.1 1, z2, .inl a2))] ∧ q ≤ z2 ∧ z2 ≤ 256 ∧ sb_Fit a2 ∧ ∀ j, j < z → a2 j = a j) := by
  refine m_startV (own := RJ5) (by decide +kernel) rfl rfl (Nat.le_of_ble_eq_true rfl) ?_
  intro p e s m args below meth c A Q C0 hE hmn hend
  refine q_aload_n C0 (kk := 0) 0 rfl dJ5_ensureCapacityInternal_d00df_0 ?_
  refine n_get C0 x_lays5 (q0 := 0) rfl rfl 0 (by decide) w2_149 rfl rfl dJ5_ensureCapacityInternal_d00df_1 ?_
  refine q_blen C0 1 rfl dJ5_ensureCapacityInternal_d00df_4 ?_
  refine q_aload_n C0 (kk := 0) 0 rfl dJ5_ensureCapacityInternal_d00df_5 ?_
  refine n_get C0 x_lays5 (q0 := 0) rfl rfl 1 (by decide) w2_150 rfl rfl dJ5_ensureCapacityInternal_d00df_6 ?_
  refine q_ishr C0 dJ5_ensureCapacityInternal_d00df_9 ?_
  rw [show (((nI z) >>> (0 &&& 31)) : Int32) = nI z from sb_shr0 _]
  refine q_istore_n C0 (kk := 2) (lv2 := [(2, .int (nI z)), (0, .ref h), (1, .int (nI q))]) (by decide) rfl dJ5_ensureCapacityInternal_d00df_10 ?_
  refine q_iload_n C0 (kk := 1) 2 rfl dJ5_ensureCapacityInternal_d00df_11 ?_
  refine q_iload_n C0 (kk := 2) 0 rfl dJ5_ensureCapacityInternal_d00df_12 ?_
  refine q_isub C0 dJ5_ensureCapacityInternal_d00df_13 ?_
  have e1 : (nI q - nI z).toInt = (q : Int) - z := pk_sub_toInt (by omega) (by omega)
  refine q_if_le C0 (tgt := 38) (by decide) dJ5_ensureCapacityInternal_d00df_14 (fun hle => ?_) (fun hgt => ?_)
  · rw [Int32.le_iff_toInt_le, e1, Int32.toInt_zero] at hle
    refine WN.widen (k := 1) (n := 256) (by omega) (by omega) ?_
    exact hend ⟨v, z, a, rfl, by omega, hz, hf, fun _ _ => rfl⟩ dJ5_ensureCapacityInternal_d00df_38
  · rw [Int32.le_iff_toInt_le, e1, Int32.toInt_zero] at hgt
    have hzq : z < q := by omega
    have hb : q ≤ capF z q ∧ capF z q ≤ 256 := by
      unfold capF
      split <;> omega
    refine q_aload_n C0 (kk := 0) 1 rfl dJ5_ensureCapacityInternal_d00df_17 ?_
    refine q_aload_n C0 (kk := 0) 1 rfl dJ5_ensureCapacityInternal_d00df_18 ?_
    refine n_get C0 x_lays5 (q0 := 0) rfl rfl 0 (by decide) w2_149 rfl rfl dJ5_ensureCapacityInternal_d00df_19 ?_
    refine q_aload_n C0 (kk := 0) 1 rfl dJ5_ensureCapacityInternal_d00df_22 ?_
    refine q_iload_n C0 (kk := 1) 2 rfl dJ5_ensureCapacityInternal_d00df_23 ?_
    refine m_callVi C0 (w0 := [(h, .inr (5, sbF v n)), (v, .inl (g.2.1 1, z, .inl a))]) (wr := []) (As := [.int (nI q)]) (rest := [.ref v, .ref h]) (mJ5_newCapacity_0f7a4 l D g hzq (by omega)) (List.Perm.refl _) (oG_none) w2_178 w2_180 w9_1 w2_181 w1_1 hdJ5_newCapacity_0f7a4 rfl ⟨rfl, rfl⟩ ⟨Nat.le_of_ble_eq_true rfl, Nat.le_of_ble_eq_true rfl⟩ (by show 0 + 0 ≤ _; exact Nat.zero_le _) (by show 0 + 0 ≤ _; exact Nat.zero_le _) (rG_w C0 (q := (RJ4, TJ4, 4)) 0 rfl rfl) rfl (Nat.le_of_ble_eq_true rfl) dJ5_ensureCapacityInternal_d00df_24 ?_
    rintro w1 rfl
    refine q_aload_n C0 (kk := 0) 1 rfl dJ5_ensureCapacityInternal_d00df_27 ?_
    refine n_get C0 x_lays5 (q0 := 0) rfl rfl 1 (by decide) w2_150 rfl rfl dJ5_ensureCapacityInternal_d00df_28 ?_
    refine q_ishl C0 dJ5_ensureCapacityInternal_d00df_31 ?_
    rw [show (((nI (capF z q)) <<< (0 &&& 31)) : Int32) = nI (capF z q) from sb_shl0 _]
    refine m_callSr C0 (w0 := [(v, .inl (g.2.1 1, z, .inl a))]) (wr := [(h, .inr (5, sbF v n))]) (As := [.ref v, .int (nI (capF z q))]) (rest := [.ref h]) (mJ7_copyOf_9075b l D g (show z < capF z q by omega) (by omega) hf) (List.Perm.swap _ _ _) oG_none w2_193 w2_194 w2_195 w1_7 hdJ7_copyOf_9075b rfl ⟨rfl, rfl⟩ ⟨Nat.le_of_ble_eq_true rfl, Nat.le_of_ble_eq_true rfl⟩ (by show 0 + 1 ≤ 1; omega) (by show 0 + capF z q ≤ 256; omega) rfl (Nat.le_of_ble_eq_true rfl) dJ5_ensureCapacityInternal_d00df_32 ?_
    rintro r w1 rfl
    refine n_put C0 x_lays5 tyJ4 tyJ4_ok nmJ4 (q0 := 2) rfl rfl 0 (by decide) w2_149 rfl rfl rfl rfl (Nat.le_of_ble_eq_true rfl) dJ5_ensureCapacityInternal_d00df_35 ?_
    refine WN.less (ws2 := [(r, .inl (g.2.1 1, capF z q, .inl (va_cpy a (fun _ => 0) 0 0 z))), (h, .inr (5, sbF r n))]) (List.sublist_cons_self _ _) ?_
    refine WN.perm (List.Perm.swap _ _ _) ?_
    refine WN.widen (k := 1) (n := 256) (by omega) (by omega) ?_
    exact hend ⟨r, capF z q, _, rfl, hb.1, hb.2, sb_fitC hf sb_fit0, fun j hj => sb_cpy0 hj⟩ dJ5_ensureCapacityInternal_d00df_38

theorem dJ5_inflateIfNeededFor_a7421_0 : decode cJ5_inflateIfNeededFor_a7421 0 = .ok (.getstatic 18, 3) := by decide +kernel
theorem dJ5_inflateIfNeededFor_a7421_3 : decode cJ5_inflateIfNeededFor_a7421 3 = .ok (.ifCond .eq 18, 3) := by decide +kernel
theorem dJ5_inflateIfNeededFor_a7421_6 : decode cJ5_inflateIfNeededFor_a7421 6 = .ok (.aload_n 0, 1) := by decide +kernel
theorem dJ5_inflateIfNeededFor_a7421_7 : decode cJ5_inflateIfNeededFor_a7421 7 = .ok (.getfield 22, 3) := by decide +kernel
theorem dJ5_inflateIfNeededFor_a7421_10 : decode cJ5_inflateIfNeededFor_a7421 10 = .ok (.aload_n 1, 1) := by decide +kernel
theorem dJ5_inflateIfNeededFor_a7421_11 : decode cJ5_inflateIfNeededFor_a7421 11 = .ok (.invokevirtual 40, 3) := by decide +kernel
theorem dJ5_inflateIfNeededFor_a7421_14 : decode cJ5_inflateIfNeededFor_a7421 14 = .ok (.if_icmp .eq 7, 3) := by decide +kernel
theorem dJ5_inflateIfNeededFor_a7421_21 : decode cJ5_inflateIfNeededFor_a7421 21 = .ok (.return_, 1) := by decide +kernel
theorem hdJ5_inflateIfNeededFor_a7421 : yJ5_inflateIfNeededFor_a7421.cls ≠ "java/lang/invoke/MethodHandle" ∧ yJ5_inflateIfNeededFor_a7421.cls ≠ "java/lang/invoke/VarHandle" ∧ (parseMethodDescriptor yJ5_inflateIfNeededFor_a7421.desc).map (fun d => d.parameters.length) = some 1 := by decide +kernel
theorem mJ5_inflateIfNeededFor_a7421 (l : Launch) (D : va_G) (g : xG) (h v n : Nat) (q : xS) : mV l D g yJ5_inflateIfNeededFor_a7421 cJ5_inflateIfNeededFor_a7421 2 ({ frames := 1, cells := 0, slots := 0, locals := 20 } : Room) [.ref h, .ref q.1] [(h, .inr (5, sbF v n))] (some q) 0 0 (fun w => w = [(h, .inr (5, sbF v n))]) := by
  refine m_startV (own := RJ5) (by decide +kernel) rfl rfl (Nat.le_of_ble_eq_true rfl) ?_
  intro p e s m args below meth c A Q C0 hE hmn hend
  refine q_compact C0 w2_140 dJ5_inflateIfNeededFor_a7421_0 ?_
  refine q_if_eq C0 (tgt := 21) (by decide) dJ5_inflateIfNeededFor_a7421_3 (fun h => absurd h (by decide)) (fun _ => ?_)
  refine q_aload_n C0 (kk := 0) 0 rfl dJ5_inflateIfNeededFor_a7421_6 ?_
  refine n_get C0 x_lays5 (q0 := 0) rfl rfl 1 (by decide) w2_150 rfl rfl dJ5_inflateIfNeededFor_a7421_7 ?_
  refine q_aload_n C0 (kk := 1) 1 rfl dJ5_inflateIfNeededFor_a7421_10 ?_
  refine m_callVi C0 (w0 := []) (wr := [(h, .inr (5, sbF v n))]) (As := []) (rest := [.int 0]) (mJ0_coder_7d493 l D g q) (List.Perm.refl _) (oG_own hE) w3_15 w3_3 w3_4 w3_5 w1_3 hdJ0_coder_7d493 rfl ⟨rfl, rfl⟩ ⟨Nat.le_of_ble_eq_true rfl, Nat.le_of_ble_eq_true rfl⟩ (by decide) (by decide) (rG_o hE) rfl (Nat.le_of_ble_eq_true rfl) dJ5_inflateIfNeededFor_a7421_11 ?_
  rintro w1 rfl
  refine q_icmp_eq C0 (tgt := 21) (by decide) dJ5_inflateIfNeededFor_a7421_14 (fun _ => ?_) (fun h => absurd rfl h)
  exact hend rfl dJ5_inflateIfNeededFor_a7421_21

theorem dJ0_getBytes_840e7_0 : decode cJ0_getBytes_840e7 0 = .ok (.aload_n 0, 1) := by decide +kernel
theorem dJ0_getBytes_840e7_1 : decode cJ0_getBytes_840e7 1 = .ok (.invokevirtual 335, 3) := by decide +kernel
theorem dJ0_getBytes_840e7_4 : decode cJ0_getBytes_840e7 4 = .ok (.iload_n 3, 1) := by decide +kernel
theorem dJ0_getBytes_840e7_5 : decode cJ0_getBytes_840e7 5 = .ok (.if_icmp .ne 23, 3) := by decide +kernel
theorem dJ0_getBytes_840e7_8 : decode cJ0_getBytes_840e7 8 = .ok (.aload_n 0, 1) := by decide +kernel
theorem dJ0_getBytes_840e7_9 : decode cJ0_getBytes_840e7 9 = .ok (.getfield 9, 3) := by decide +kernel
theorem dJ0_getBytes_840e7_12 : decode cJ0_getBytes_840e7 12 = .ok (.iconst 0, 1) := by decide +kernel
theorem dJ0_getBytes_840e7_13 : decode cJ0_getBytes_840e7 13 = .ok (.aload_n 1, 1) := by decide +kernel
theorem dJ0_getBytes_840e7_14 : decode cJ0_getBytes_840e7 14 = .ok (.iload_n 2, 1) := by decide +kernel
theorem dJ0_getBytes_840e7_15 : decode cJ0_getBytes_840e7 15 = .ok (.iload_n 3, 1) := by decide +kernel
theorem dJ0_getBytes_840e7_16 : decode cJ0_getBytes_840e7 16 = .ok (.ishl, 1) := by decide +kernel
theorem dJ0_getBytes_840e7_17 : decode cJ0_getBytes_840e7 17 = .ok (.aload_n 0, 1) := by decide +kernel
theorem dJ0_getBytes_840e7_18 : decode cJ0_getBytes_840e7 18 = .ok (.getfield 9, 3) := by decide +kernel
theorem dJ0_getBytes_840e7_21 : decode cJ0_getBytes_840e7 21 = .ok (.arraylength, 1) := by decide +kernel
theorem dJ0_getBytes_840e7_22 : decode cJ0_getBytes_840e7 22 = .ok (.invokestatic 212, 3) := by decide +kernel
theorem dJ0_getBytes_840e7_25 : decode cJ0_getBytes_840e7 25 = .ok (.goto 18, 3) := by decide +kernel
theorem dJ0_getBytes_840e7_43 : decode cJ0_getBytes_840e7 43 = .ok (.return_, 1) := by decide +kernel
theorem hdJ0_getBytes_840e7 : yJ0_getBytes_840e7.cls ≠ "java/lang/invoke/MethodHandle" ∧ yJ0_getBytes_840e7.cls ≠ "java/lang/invoke/VarHandle" ∧ (parseMethodDescriptor yJ0_getBytes_840e7.desc).map (fun d => d.parameters.length) = some 3 := by decide +kernel
theorem mJ0_getBytes_840e7 (l : Launch) (D : va_G) (g : xG) {v n z : Nat} {a : Nat → Int32} {q : xS} (hn : n + q.2.2.1 ≤ z) (hz : z ≤ 256) (hf : sb_Fit q.2.2.2) : mV l D g yJ0_getBytes_840e7 cJ0_getBytes_840e7 4 ({ frames := 1, cells := 0, slots := 0, locals := 60 } : Room) [.ref q.1, .ref v, .int (nI n), .int 0] [(v, .inl (g.2.1 1, z, .inl a))] (some q) 0 0 (fun w => w = [(v, .inl (g.2.1 1, z, .inl (va_cpy q.2.2.2 a 0 n q.2.2.1)))]) := by
  refine m_startV (own := RJ0) (by decide +kernel) rfl rfl (Nat.le_of_ble_eq_true rfl) ?_
  intro p e s m args below meth c A Q C0 hE hmn hend
  refine q_aload_n C0 (kk := 0) 0 rfl dJ0_getBytes_840e7_0 ?_
  refine m_callVi C0 (w0 := []) (wr := [(v, .inl (g.2.1 1, z, .inl a))]) (As := []) (rest := []) (mJ0_coder_7d493 l D g q) (List.Perm.refl _) (oG_own hE) w3_2 w3_3 w3_4 w3_5 w1_3 hdJ0_coder_7d493 rfl ⟨rfl, rfl⟩ ⟨Nat.le_of_ble_eq_true rfl, Nat.le_of_ble_eq_true rfl⟩ (by decide) (by decide) (rG_o hE) rfl (Nat.le_of_ble_eq_true rfl) dJ0_getBytes_840e7_1 ?_
  rintro w1 rfl
  refine q_iload_n C0 (kk := 3) 3 rfl dJ0_getBytes_840e7_4 ?_
  refine q_icmp_ne C0 (tgt := 28) (by decide) dJ0_getBytes_840e7_5 (fun h => absurd rfl h) (fun _ => ?_)
  refine q_aload_n C0 (kk := 0) 0 rfl dJ0_getBytes_840e7_8 ?_
  refine q_sval C0 hE w3_117 dJ0_getBytes_840e7_9 ?_
  refine q_iconst C0 (v := 0) dJ0_getBytes_840e7_12 rfl ?_
  refine q_aload_n C0 (kk := 1) 1 rfl dJ0_getBytes_840e7_13 ?_
  refine q_iload_n C0 (kk := 2) 2 rfl dJ0_getBytes_840e7_14 ?_
  refine q_iload_n C0 (kk := 3) 3 rfl dJ0_getBytes_840e7_15 ?_
  refine q_ishl C0 dJ0_getBytes_840e7_16 ?_
  rw [show (((nI n) <<< (0 &&& 31)) : Int32) = nI n from sb_shl0 _]
  refine q_aload_n C0 (kk := 0) 0 rfl dJ0_getBytes_840e7_17 ?_
  refine q_sval C0 hE w3_117 dJ0_getBytes_840e7_18 ?_
  refine q_slen C0 hE dJ0_getBytes_840e7_21 ?_
  refine q_copyt C0 w3_39 0 (hE q rfl).2.2.2 (sp := 0) (dp := n) (n := q.2.2.1) rfl (by decide) (by omega) (by omega) (by omega) (by omega) hf (Nat.le_of_ble_eq_true rfl) (Nat.le_of_ble_eq_true rfl) dJ0_getBytes_840e7_22 ?_
  refine q_goto C0 (tgt := 43) (by decide) dJ0_getBytes_840e7_25 ?_
  exact hend rfl dJ0_getBytes_840e7_43

theorem dJ5_putStringAt_47b60_0 : decode cJ5_putStringAt_47b60 0 = .ok (.aload_n 0, 1) := by decide +kernel
theorem dJ5_putStringAt_47b60_1 : decode cJ5_putStringAt_47b60 1 = .ok (.aload_n 2, 1) := by decide +kernel
theorem dJ5_putStringAt_47b60_2 : decode cJ5_putStringAt_47b60 2 = .ok (.invokevirtual 397, 3) := by decide +kernel
theorem dJ5_putStringAt_47b60_5 : decode cJ5_putStringAt_47b60 5 = .ok (.aload_n 2, 1) := by decide +kernel
theorem dJ5_putStringAt_47b60_6 : decode cJ5_putStringAt_47b60 6 = .ok (.aload_n 0, 1) := by decide +kernel
theorem dJ5_putStringAt_47b60_7 : decode cJ5_putStringAt_47b60 7 = .ok (.getfield 15, 3) := by decide +kernel
theorem dJ5_putStringAt_47b60_10 : decode cJ5_putStringAt_47b60 10 = .ok (.iload_n 1, 1) := by decide +kernel
theorem dJ5_putStringAt_47b60_11 : decode cJ5_putStringAt_47b60 11 = .ok (.aload_n 0, 1) := by decide +kernel
theorem dJ5_putStringAt_47b60_12 : decode cJ5_putStringAt_47b60 12 = .ok (.getfield 22, 3) := by decide +kernel
theorem dJ5_putStringAt_47b60_15 : decode cJ5_putStringAt_47b60 15 = .ok (.invokevirtual 399, 3) := by decide +kernel
theorem dJ5_putStringAt_47b60_18 : decode cJ5_putStringAt_47b60 18 = .ok (.return_, 1) := by decide +kernel
theorem hdJ5_putStringAt_47b60 : yJ5_putStringAt_47b60.cls ≠ "java/lang/invoke/MethodHandle" ∧ yJ5_putStringAt_47b60.cls ≠ "java/lang/invoke/VarHandle" ∧ (parseMethodDescriptor yJ5_putStringAt_47b60.desc).map (fun d => d.parameters.length) = some 2 := by decide +kernel
theorem mJ5_putStringAt_47b60 (l : Launch) (D : va_G) (g : xG) {h v n z : Nat} {a : Nat → Int32} {q : xS} (hn : n + q.2.2.1 ≤ z) (hz : z ≤ 256) (hf : sb_Fit q.2.2.2) : mV l D g yJ5_putStringAt_47b60 cJ5_putStringAt_47b60 3 ({ frames := 2, cells := 0, slots := 0, locals := 83 } : Room) [.ref h, .int (nI n), .ref q.1] [(h, .inr (5, sbF v n)), (v, .inl (g.2.1 1, z, .inl a))] (some q) 0 0 (fun w => w = [(h, .inr (5, sbF v n)), (v, .inl (g.2.1 1, z, .inl (va_cpy q.2.2.2 a 0 n q.2.2.1)))]) := by
  refine m_startV (own := RJ5) (by decide +kernel) rfl rfl (Nat.le_of_ble_eq_true rfl) ?_
  intro p e s m args below meth c A Q C0 hE hmn hend
  refine q_aload_n C0 (kk := 0) 0 rfl dJ5_putStringAt_47b60_0 ?_
  refine q_aload_n C0 (kk := 2) 2 rfl dJ5_putStringAt_47b60_1 ?_
  refine m_callVv C0 (w0 := [(h, .inr (5, sbF v n))]) (wr := [(v, .inl (g.2.1 1, z, .inl a))]) (As := [.ref q.1]) (rest := []) (mJ5_inflateIfNeededFor_a7421 l D g h v n q) (List.Perm.refl _) (oG_own hE) w3_11 w3_13 w9_3 w3_14 w1_1 hdJ5_inflateIfNeededFor_a7421 rfl ⟨rfl, rfl⟩ ⟨Nat.le_of_ble_eq_true rfl, Nat.le_of_ble_eq_true rfl⟩ (by decide) (by decide) (rG_w C0 (q := (RJ4, TJ4, 4)) 0 rfl rfl) rfl (Nat.le_of_ble_eq_true rfl) dJ5_putStringAt_47b60_2 ?_
  rintro w1 rfl
  refine q_aload_n C0 (kk := 2) 2 rfl dJ5_putStringAt_47b60_5 ?_
  refine q_aload_n C0 (kk := 0) 0 rfl dJ5_putStringAt_47b60_6 ?_
  refine n_get C0 x_lays5 (q0 := 0) rfl rfl 0 (by decide) w2_149 rfl rfl dJ5_putStringAt_47b60_7 ?_
  refine q_iload_n C0 (kk := 1) 1 rfl dJ5_putStringAt_47b60_10 ?_
  refine q_aload_n C0 (kk := 0) 0 rfl dJ5_putStringAt_47b60_11 ?_
  refine n_get C0 x_lays5 (q0 := 0) rfl rfl 1 (by decide) w2_150 rfl rfl dJ5_putStringAt_47b60_12 ?_
  refine m_callVv C0 (w0 := [(v, .inl (g.2.1 1, z, .inl a))]) (wr := [(h, .inr (5, sbF v n))]) (As := [.ref v, .int (nI n), .int 0]) (rest := []) (mJ0_getBytes_840e7 l D g (a := a) hn hz hf) (List.Perm.swap _ _ _) (oG_own hE) w3_35 w3_36 w3_37 w3_38 w1_3 hdJ0_getBytes_840e7 rfl ⟨rfl, rfl⟩ ⟨Nat.le_of_ble_eq_true rfl, Nat.le_of_ble_eq_true rfl⟩ (by decide) (by decide) (rG_o hE) rfl (Nat.le_of_ble_eq_true rfl) dJ5_putStringAt_47b60_15 ?_
  rintro w1 rfl
  refine WN.perm (List.Perm.swap _ _ _) ?_
  exact hend rfl dJ5_putStringAt_47b60_18

theorem dJ5_append_cf1ce_0 : decode cJ5_append_cf1ce 0 = .ok (.aload_n 1, 1) := by decide +kernel
theorem dJ5_append_cf1ce_1 : decode cJ5_append_cf1ce 1 = .ok (.ifnonnull 8, 3) := by decide +kernel
theorem dJ5_append_cf1ce_9 : decode cJ5_append_cf1ce 9 = .ok (.aload_n 1, 1) := by decide +kernel
theorem dJ5_append_cf1ce_10 : decode cJ5_append_cf1ce 10 = .ok (.invokevirtual 32, 3) := by decide +kernel
theorem dJ5_append_cf1ce_13 : decode cJ5_append_cf1ce 13 = .ok (.istore_n 2, 1) := by decide +kernel
theorem dJ5_append_cf1ce_14 : decode cJ5_append_cf1ce 14 = .ok (.aload_n 0, 1) := by decide +kernel
theorem dJ5_append_cf1ce_15 : decode cJ5_append_cf1ce 15 = .ok (.aload_n 0, 1) := by decide +kernel
theorem dJ5_append_cf1ce_16 : decode cJ5_append_cf1ce 16 = .ok (.getfield 79, 3) := by decide +kernel
theorem dJ5_append_cf1ce_19 : decode cJ5_append_cf1ce 19 = .ok (.iload_n 2, 1) := by decide +kernel
theorem dJ5_append_cf1ce_20 : decode cJ5_append_cf1ce 20 = .ok (.iadd, 1) := by decide +kernel
theorem dJ5_append_cf1ce_21 : decode cJ5_append_cf1ce 21 = .ok (.invokevirtual 100, 3) := by decide +kernel
theorem dJ5_append_cf1ce_24 : decode cJ5_append_cf1ce 24 = .ok (.aload_n 0, 1) := by decide +kernel
theorem dJ5_append_cf1ce_25 : decode cJ5_append_cf1ce 25 = .ok (.aload_n 0, 1) := by decide +kernel
theorem dJ5_append_cf1ce_26 : decode cJ5_append_cf1ce 26 = .ok (.getfield 79, 3) := by decide +kernel
theorem dJ5_append_cf1ce_29 : decode cJ5_append_cf1ce 29 = .ok (.aload_n 1, 1) := by decide +kernel
theorem dJ5_append_cf1ce_30 : decode cJ5_append_cf1ce 30 = .ok (.invokevirtual 208, 3) := by decide +kernel
theorem dJ5_append_cf1ce_33 : decode cJ5_append_cf1ce 33 = .ok (.aload_n 0, 1) := by decide +kernel
theorem dJ5_append_cf1ce_34 : decode cJ5_append_cf1ce 34 = .ok (.dup, 1) := by decide +kernel
theorem dJ5_append_cf1ce_35 : decode cJ5_append_cf1ce 35 = .ok (.getfield 79, 3) := by decide +kernel
theorem dJ5_append_cf1ce_38 : decode cJ5_append_cf1ce 38 = .ok (.iload_n 2, 1) := by decide +kernel
theorem dJ5_append_cf1ce_39 : decode cJ5_append_cf1ce 39 = .ok (.iadd, 1) := by decide +kernel
theorem dJ5_append_cf1ce_40 : decode cJ5_append_cf1ce 40 = .ok (.putfield 79, 3) := by decide +kernel
theorem dJ5_append_cf1ce_43 : decode cJ5_append_cf1ce 43 = .ok (.aload_n 0, 1) := by decide +kernel
theorem dJ5_append_cf1ce_44 : decode cJ5_append_cf1ce 44 = .ok (.areturn, 1) := by decide +kernel
theorem hdJ5_append_cf1ce : yJ5_append_cf1ce.cls ≠ "java/lang/invoke/MethodHandle" ∧ yJ5_append_cf1ce.cls ≠ "java/lang/invoke/VarHandle" ∧ (parseMethodDescriptor yJ5_append_cf1ce.desc).map (fun d => d.parameters.length) = some 1 := by decide +kernel
theorem mJ5_append_cf1ce (l : Launch) (D : va_G) (g : xG) {h v n z : Nat} {a : Nat → Int32} {q : xS} (hn : n ≤ z) (hz : z ≤ 256) (hq : n + q.2.2.1 ≤ 110) (hf : sb_Fit a) (hfq : sb_Fit q.2.2.2) : mR l D g yJ5_append_cf1ce cJ5_append_cf1ce 3 (.object "java/lang/AbstractStringBuilder") ({ frames := 4, cells := 1, slots := 256, locals := 105 } : Room) [.ref h, .ref q.1] [(h, .inr (5, sbF v n)), (v, .inl (g.2.1 1, z, .inl a))] (some q) 1 256 (fun r w => r = h ∧ ∃ v2 z2 a2, w = [(h, .inr (5, sbF v2 (n + q.2.2.1))), (v2, .inl (g.2.1 1, z2, .inl a2))] ∧ z2 ≤ 256 ∧ n + q.2.2.1 ≤ z2 ∧ sb_Fit a2 ∧ (∀ j, j < n → a2 j = a j) ∧ ∀ j, j < q.2.2.1 → a2 (n + j) = q.2.2.2 j) := by
  refine m_startR (Or.inl ⟨_, rfl⟩) (own := RJ5) (by decide +kernel) rfl rfl (Nat.le_of_ble_eq_true rfl) ?_
  intro p e s m args below meth c A Q C0 hE hend
  refine q_aload_n C0 (kk := 1) 1 rfl dJ5_append_cf1ce_0 ?_
  refine q_nnull C0 (tgt := 9) (by decide) dJ5_append_cf1ce_1 ?_
  refine q_aload_n C0 (kk := 1) 1 rfl dJ5_append_cf1ce_9 ?_
  refine m_callVi C0 (w0 := []) (wr := [(h, .inr (5, sbF v n)), (v, .inl (g.2.1 1, z, .inl a))]) (As := []) (rest := []) (mJ0_length_8abf5 l D g q) (List.Perm.refl _) (oG_own hE) w2_238 w2_239 w3_0 w3_1 w1_3 hdJ0_length_8abf5 rfl ⟨rfl, rfl⟩ ⟨Nat.le_of_ble_eq_true rfl, Nat.le_of_ble_eq_true rfl⟩ (Nat.zero_le _) (Nat.zero_le _) (rG_o hE) rfl (Nat.le_of_ble_eq_true rfl) dJ5_append_cf1ce_10 ?_
  rintro w1 rfl
  refine q_istore_n C0 (kk := 2) (lv2 := [(2, .int (nI q.2.2.1)), (0, .ref h), (1, .ref q.1)]) (by decide) rfl dJ5_append_cf1ce_13 ?_
  refine q_aload_n C0 (kk := 0) 1 rfl dJ5_append_cf1ce_14 ?_
  refine q_aload_n C0 (kk := 0) 1 rfl dJ5_append_cf1ce_15 ?_
  refine n_get C0 x_lays5 (q0 := 0) rfl rfl 3 (by decide) w2_152 rfl rfl dJ5_append_cf1ce_16 ?_
  refine q_iload_n C0 (kk := 2) 0 rfl dJ5_append_cf1ce_19 ?_
  refine q_iadd C0 dJ5_append_cf1ce_20 ?_
  rw [show (((nI n) + (nI q.2.2.1)) : Int32) = nI (n + q.2.2.1) from nI_add _ _]
  refine m_callVv C0 (w0 := [(h, .inr (5, sbF v n)), (v, .inl (g.2.1 1, z, .inl a))]) (wr := []) (As := [.int (nI (n + q.2.2.1))]) (rest := []) (mJ5_ensureCapacityInternal_d00df l D g hz hq hf) (List.Perm.refl _) (oG_none) w2_174 w2_176 w9_0 w2_177 w1_1 hdJ5_ensureCapacityInternal_d00df rfl ⟨rfl, rfl⟩ ⟨Nat.le_of_ble_eq_true rfl, Nat.le_of_ble_eq_true rfl⟩ (Nat.le_of_ble_eq_true rfl) (Nat.le_of_ble_eq_true rfl) (rG_w C0 (q := (RJ4, TJ4, 4)) 0 rfl rfl) rfl (Nat.le_of_ble_eq_true rfl) dJ5_append_cf1ce_21 ?_
  rintro w1 ⟨v2, z2, a2, rfl, g1, g2, g3, g4⟩
  refine q_aload_n C0 (kk := 0) 1 rfl dJ5_append_cf1ce_24 ?_
  refine q_aload_n C0 (kk := 0) 1 rfl dJ5_append_cf1ce_25 ?_
  refine n_get C0 x_lays5 (q0 := 0) rfl rfl 3 (by decide) w2_152 rfl rfl dJ5_append_cf1ce_26 ?_
  refine q_aload_n C0 (kk := 1) 2 rfl dJ5_append_cf1ce_29 ?_
  refine m_callVv C0 (w0 := [(h, .inr (5, sbF v2 n)), (v2, .inl (g.2.1 1, z2, .inl a2))]) (wr := []) (As := [.int (nI n), .ref q.1]) (rest := []) (mJ5_putStringAt_47b60 l D g (n := n) g1 g2 hfq) (List.Perm.refl _) (oG_own hE) w3_7 w3_9 w9_2 w3_10 w1_1 hdJ5_putStringAt_47b60 rfl ⟨rfl, rfl⟩ ⟨Nat.le_of_ble_eq_true rfl, Nat.le_of_ble_eq_true rfl⟩ (Nat.le_of_ble_eq_true rfl) (Nat.le_of_ble_eq_true rfl) (rG_w C0 (q := (RJ4, TJ4, 4)) 0 rfl rfl) rfl (Nat.le_of_ble_eq_true rfl) dJ5_append_cf1ce_30 ?_
  rintro w1 rfl
  refine q_aload_n C0 (kk := 0) 1 rfl dJ5_append_cf1ce_33 ?_
  refine q_dup C0 rfl dJ5_append_cf1ce_34 ?_
  refine n_get C0 x_lays5 (q0 := 0) rfl rfl 3 (by decide) w2_152 rfl rfl dJ5_append_cf1ce_35 ?_
  refine q_iload_n C0 (kk := 2) 0 rfl dJ5_append_cf1ce_38 ?_
  refine q_iadd C0 dJ5_append_cf1ce_39 ?_
  rw [show (((nI n) + (nI q.2.2.1)) : Int32) = nI (n + q.2.2.1) from nI_add _ _]
  refine n_put C0 x_lays5 tyJ4 tyJ4_ok nmJ4 (q0 := 0) rfl rfl 3 (by decide) w2_152 rfl rfl rfl rfl (Nat.le_of_ble_eq_true rfl) dJ5_append_cf1ce_40 ?_
  refine q_aload_n C0 (kk := 0) 1 rfl dJ5_append_cf1ce_43 ?_
  exact hend ⟨rfl, v2, z2, _, rfl, g2, g1, sb_fitC hfq g3, fun j hj => (cpy_lo hj).trans (g4 j (by omega)), fun j hj => cpy_hi hj⟩ dJ5_append_cf1ce_44

theorem dJ4_append_15ec4_0 : decode cJ4_append_15ec4 0 = .ok (.aload_n 0, 1) := by decide +kernel
theorem dJ4_append_15ec4_1 : decode cJ4_append_15ec4 1 = .ok (.aload_n 1, 1) := by decide +kernel
theorem dJ4_append_15ec4_2 : decode cJ4_append_15ec4 2 = .ok (.invokespecial 29, 3) := by decide +kernel
theorem dJ4_append_15ec4_5 : decode cJ4_append_15ec4 5 = .ok (.pop, 1) := by decide +kernel
theorem dJ4_append_15ec4_6 : decode cJ4_append_15ec4 6 = .ok (.aload_n 0, 1) := by decide +kernel
theorem dJ4_append_15ec4_7 : decode cJ4_append_15ec4 7 = .ok (.areturn, 1) := by decide +kernel
theorem hdJ4_append_15ec4 : yJ4_append_15ec4.cls ≠ "java/lang/invoke/MethodHandle" ∧ yJ4_append_15ec4.cls ≠ "java/lang/invoke/VarHandle" ∧ (parseMethodDescriptor yJ4_append_15ec4.desc).map (fun d => d.parameters.length) = some 1 := by decide +kernel
theorem mJ4_append_15ec4 (l : Launch) (D : va_G) (g : xG) {h v n z : Nat} {a : Nat → Int32} {q : xS} (hn : n ≤ z) (hz : z ≤ 256) (hq : n + q.2.2.1 ≤ 110) (hf : sb_Fit a) (hfq : sb_Fit q.2.2.2) : mR l D g yJ4_append_15ec4 cJ4_append_15ec4 2 (.object "java/lang/StringBuilder") ({ frames := 5, cells := 1, slots := 256, locals := 127 } : Room) [.ref h, .ref q.1] [(h, .inr (5, sbF v n)), (v, .inl (g.2.1 1, z, .inl a))] (some q) 1 256 (fun r w => r = h ∧ ∃ v2 z2 a2, w = [(h, .inr (5, sbF v2 (n + q.2.2.1))), (v2, .inl (g.2.1 1, z2, .inl a2))] ∧ z2 ≤ 256 ∧ n + q.2.2.1 ≤ z2 ∧ sb_Fit a2 ∧ (∀ j, j < n → a2 j = a j) ∧ ∀ j, j < q.2.2.1 → a2 (n + j) = q.2.2.2 j) := by
  refine m_startR (Or.inl ⟨_, rfl⟩) (own := RJ4) (by decide +kernel) rfl rfl (Nat.le_of_ble_eq_true rfl) ?_
  intro p e s m args below meth c A Q C0 hE hend
  refine q_aload_n C0 (kk := 0) 0 rfl dJ4_append_15ec4_0 ?_
  refine q_aload_n C0 (kk := 1) 1 rfl dJ4_append_15ec4_1 ?_
  refine m_callPr C0 (w0 := [(h, .inr (5, sbF v n)), (v, .inl (g.2.1 1, z, .inl a))]) (wr := []) (As := [.ref q.1]) (rest := []) (mJ5_append_cf1ce l D g hn hz hq hf hfq) (List.Perm.refl _) (oG_own hE) w2_167 w2_168 w5_214 w2_161 w2_169 w1_1 (ci := 5) rfl ⟨by decide +kernel, hdJ5_append_cf1ce.2.2⟩ rfl ⟨rfl, rfl⟩ ⟨Nat.le_of_ble_eq_true rfl, Nat.le_of_ble_eq_true rfl⟩ (Nat.le_of_ble_eq_true rfl) (Nat.le_of_ble_eq_true rfl) (rG_w C0 (q := (RJ4, TJ4, 4)) 0 rfl rfl) rfl (Nat.le_of_ble_eq_true rfl) dJ4_append_15ec4_2 ?_
  rintro r w1 ⟨rfl, v2, z2, a2, rfl, g⟩
  refine q_pop C0 rfl dJ4_append_15ec4_5 ?_
  refine q_aload_n C0 (kk := 0) 0 rfl dJ4_append_15ec4_6 ?_
  exact hend ⟨rfl, v2, z2, a2, rfl, g⟩ dJ4_append_15ec4_7
