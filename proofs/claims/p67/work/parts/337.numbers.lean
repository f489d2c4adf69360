/-! builders: a number put behind what stands; a new builder -/
def dgN (x : Nat) : Nat := if x < 10 then 1 else 2
def dgF (x j : Nat) : Int32 := if x < 10 then nI (48 + x) else if j = 0 then nI (48 + x / 10) else nI (48 + x % 10)
theorem ssz {x : Nat} (hx : x < 100) (M : xM) : f_J6_stringSize_0f7a4 (nI x) M = some (nI (dgN x), M) := by
  obtain ⟨q, hq⟩ : ∃ q, FU = q + 2 := ⟨4094, rfl⟩
  unfold f_J6_stringSize_0f7a4
  rw [if_neg (nI_pos (by omega))]
  unfold f_J6_stringSize_0f7a4_c11 f_J6_stringSize_0f7a4_c16
  rw [hq, lp_s]
  unfold fb_J6_stringSize_0f7a4_c16
  rw [if_neg (show ¬ (10 : Int32) ≤ 1 by decide)]
  by_cases h : x < 10
  · have e : dgN x = 1 := if_pos h
    rw [if_neg (show ¬ -nI x ≤ (-10 : Int32) from fun z => absurd ((sb_nle (a := x) (b := 10) (by omega) (by decide)).mp z) (by omega)), e]
    rfl
  · have e : dgN x = 2 := if_neg h
    rw [if_pos (show -nI x ≤ (-10 : Int32) from (sb_nle (a := x) (b := 10) (by omega) (by decide)).mpr (by omega)), lp_s, if_neg (show ¬ (10 : Int32) ≤ 1 + 1 by decide), if_neg (show ¬ -nI x ≤ ((10 : Int32) * (-10)) from fun z => absurd ((sb_nle (a := x) (b := 100) (by omega) (by decide)).mp z) (by omega)), e]
    rfl
theorem dec1 {p : Nat} (h : 0 < p) : nI p + Int32.ofInt (-1) = nI (p - 1) := by
  rw [show Int32.ofInt (-1) = (-1 : Int32) from by decide]
  exact sb_m1 h
theorem nar_ones : ∀ x, x < 100 → vp_nar .byte (x_ones x) = nI (48 + x % 10) := by decide +kernel
theorem nar_tens : ∀ x, x < 100 → vp_nar .byte (x_tens x) = nI (48 + x / 10) := by decide +kernel
theorem fit_nar (x : Int32) : fits .byte (.int (vp_nar .byte x)) = true := pk_fb _
theorem dJ6_getChars_ba4f3_0 : decode cJ6_getChars_ba4f3 0 = .ok (.iload_n 1, 1) := by decide +kernel
theorem dJ6_getChars_ba4f3_1 : decode cJ6_getChars_ba4f3 1 = .ok (.istore 5, 2) := by decide +kernel
theorem dJ6_getChars_ba4f3_3 : decode cJ6_getChars_ba4f3 3 = .ok (.iload_n 0, 1) := by decide +kernel
theorem dJ6_getChars_ba4f3_4 : decode cJ6_getChars_ba4f3 4 = .ok (.ifCond .ge 7, 3) := by decide +kernel
theorem dJ6_getChars_ba4f3_11 : decode cJ6_getChars_ba4f3 11 = .ok (.iconst 0, 1) := by decide +kernel
theorem dJ6_getChars_ba4f3_12 : decode cJ6_getChars_ba4f3 12 = .ok (.istore 6, 2) := by decide +kernel
theorem dJ6_getChars_ba4f3_14 : decode cJ6_getChars_ba4f3 14 = .ok (.iload 6, 2) := by decide +kernel
theorem dJ6_getChars_ba4f3_16 : decode cJ6_getChars_ba4f3 16 = .ok (.ifCond .ne 6, 3) := by decide +kernel
theorem dJ6_getChars_ba4f3_19 : decode cJ6_getChars_ba4f3 19 = .ok (.iload_n 0, 1) := by decide +kernel
theorem dJ6_getChars_ba4f3_20 : decode cJ6_getChars_ba4f3 20 = .ok (.ineg, 1) := by decide +kernel
theorem dJ6_getChars_ba4f3_21 : decode cJ6_getChars_ba4f3 21 = .ok (.istore_n 0, 1) := by decide +kernel
theorem dJ6_getChars_ba4f3_22 : decode cJ6_getChars_ba4f3 22 = .ok (.iload_n 0, 1) := by decide +kernel
theorem dJ6_getChars_ba4f3_23 : decode cJ6_getChars_ba4f3 23 = .ok (.bipush (-100), 2) := by decide +kernel
theorem dJ6_getChars_ba4f3_25 : decode cJ6_getChars_ba4f3 25 = .ok (.if_icmp .gt 47, 3) := by decide +kernel
theorem dJ6_getChars_ba4f3_72 : decode cJ6_getChars_ba4f3 72 = .ok (.aload_n 2, 1) := by decide +kernel
theorem dJ6_getChars_ba4f3_73 : decode cJ6_getChars_ba4f3 73 = .ok (.iinc 5 (-1), 3) := by decide +kernel
theorem dJ6_getChars_ba4f3_76 : decode cJ6_getChars_ba4f3 76 = .ok (.iload 5, 2) := by decide +kernel
theorem dJ6_getChars_ba4f3_78 : decode cJ6_getChars_ba4f3 78 = .ok (.getstatic 83, 3) := by decide +kernel
theorem dJ6_getChars_ba4f3_81 : decode cJ6_getChars_ba4f3 81 = .ok (.iload_n 0, 1) := by decide +kernel
theorem dJ6_getChars_ba4f3_82 : decode cJ6_getChars_ba4f3 82 = .ok (.ineg, 1) := by decide +kernel
theorem dJ6_getChars_ba4f3_83 : decode cJ6_getChars_ba4f3 83 = .ok (.baload, 1) := by decide +kernel
theorem dJ6_getChars_ba4f3_84 : decode cJ6_getChars_ba4f3 84 = .ok (.bastore, 1) := by decide +kernel
theorem dJ6_getChars_ba4f3_85 : decode cJ6_getChars_ba4f3 85 = .ok (.iload_n 0, 1) := by decide +kernel
theorem dJ6_getChars_ba4f3_86 : decode cJ6_getChars_ba4f3 86 = .ok (.bipush (-9), 2) := by decide +kernel
theorem dJ6_getChars_ba4f3_88 : decode cJ6_getChars_ba4f3 88 = .ok (.if_icmp .ge 16, 3) := by decide +kernel
theorem dJ6_getChars_ba4f3_91 : decode cJ6_getChars_ba4f3 91 = .ok (.aload_n 2, 1) := by decide +kernel
theorem dJ6_getChars_ba4f3_92 : decode cJ6_getChars_ba4f3 92 = .ok (.iinc 5 (-1), 3) := by decide +kernel
theorem dJ6_getChars_ba4f3_95 : decode cJ6_getChars_ba4f3 95 = .ok (.iload 5, 2) := by decide +kernel
theorem dJ6_getChars_ba4f3_97 : decode cJ6_getChars_ba4f3 97 = .ok (.getstatic 87, 3) := by decide +kernel
theorem dJ6_getChars_ba4f3_100 : decode cJ6_getChars_ba4f3 100 = .ok (.iload_n 0, 1) := by decide +kernel
theorem dJ6_getChars_ba4f3_101 : decode cJ6_getChars_ba4f3 101 = .ok (.ineg, 1) := by decide +kernel
theorem dJ6_getChars_ba4f3_102 : decode cJ6_getChars_ba4f3 102 = .ok (.baload, 1) := by decide +kernel
theorem dJ6_getChars_ba4f3_103 : decode cJ6_getChars_ba4f3 103 = .ok (.bastore, 1) := by decide +kernel
theorem dJ6_getChars_ba4f3_104 : decode cJ6_getChars_ba4f3 104 = .ok (.iload 6, 2) := by decide +kernel
theorem dJ6_getChars_ba4f3_106 : decode cJ6_getChars_ba4f3 106 = .ok (.ifCond .eq 12, 3) := by decide +kernel
theorem dJ6_getChars_ba4f3_118 : decode cJ6_getChars_ba4f3 118 = .ok (.iload 5, 2) := by decide +kernel
theorem dJ6_getChars_ba4f3_120 : decode cJ6_getChars_ba4f3 120 = .ok (.ireturn, 1) := by decide +kernel
theorem hdJ6_getChars_ba4f3 : yJ6_getChars_ba4f3.cls ≠ "java/lang/invoke/MethodHandle" ∧ yJ6_getChars_ba4f3.cls ≠ "java/lang/invoke/VarHandle" ∧ (parseMethodDescriptor yJ6_getChars_ba4f3.desc).map (fun d => d.parameters.length) = some 3 := by decide +kernel
theorem mJ6_getChars_ba4f3 (l : Launch) (D : va_G) (g : xG) {v n z x d : Nat} {a : Nat → Int32} (hx : x < 100) (hd : d = n + dgN x) (hz : d ≤ z) (hz2 : z ≤ 256) (hf : sb_Fit a) : mI l D g yJ6_getChars_ba4f3 cJ6_getChars_ba4f3 7 .int r00 [.int (nI x), .int (nI d), .ref v] [(v, .inl (g.2.1 1, z, .inl a))] none 0 0 (nI n) (fun w => ∃ a2, w = [(v, .inl (g.2.1 1, z, .inl a2))] ∧ sb_Fit a2 ∧ (∀ j, j < n → a2 j = a j) ∧ ∀ j, j < dgN x → a2 (n + j) = dgF x j) := by
  refine m_startI (own := RJ6) (by decide +kernel) rfl rfl (Nat.le_of_ble_eq_true rfl) ?_
  intro p e s m args below meth c A Q C0 hE hend
  have hd2 : dgN x = 1 ∨ dgN x = 2 := by
    unfold dgN
    split
    · exact Or.inl rfl
    · exact Or.inr rfl
  refine q_iload_n C0 (kk := 1) 1 rfl dJ6_getChars_ba4f3_0 ?_
  refine q_istore C0 (lv2 := [(5, .int (nI d)), (0, .int (nI x)), (1, .int (nI d)), (2, .ref v)]) (by decide) rfl dJ6_getChars_ba4f3_1 ?_
  refine q_iload_n C0 (kk := 0) 1 rfl dJ6_getChars_ba4f3_3 ?_
  refine q_if_ge C0 (tgt := 11) (by decide) dJ6_getChars_ba4f3_4 (fun _ => ?_) (fun h => absurd (nI_pos' (by omega)) h)
  refine q_iconst C0 (v := 0) dJ6_getChars_ba4f3_11 rfl ?_
  refine q_istore C0 (lv2 := [(6, .int 0), (5, .int (nI d)), (0, .int (nI x)), (1, .int (nI d)), (2, .ref v)]) (by decide) rfl dJ6_getChars_ba4f3_12 ?_
  refine q_iload C0 0 rfl dJ6_getChars_ba4f3_14 ?_
  refine q_if_ne C0 (tgt := 22) (by decide) dJ6_getChars_ba4f3_16 (fun h => absurd rfl h) (fun _ => ?_)
  refine q_iload_n C0 (kk := 0) 2 rfl dJ6_getChars_ba4f3_19 ?_
  refine q_ineg C0 dJ6_getChars_ba4f3_20 ?_
  refine q_istore_n C0 (kk := 0) (lv2 := [(0, .int (-(nI x))), (6, .int 0), (5, .int (nI d)), (1, .int (nI d)), (2, .ref v)]) (by decide) rfl dJ6_getChars_ba4f3_21 ?_
  refine q_iload_n C0 (kk := 0) 0 rfl dJ6_getChars_ba4f3_22 ?_
  refine q_bipush C0 (v := (-100)) dJ6_getChars_ba4f3_23 rfl ?_
  refine q_icmp_gt C0 (tgt := 72) (by decide) dJ6_getChars_ba4f3_25 (fun _ => ?_) (fun h => absurd (show (-100 : Int32) < -nI x from (sb_nlt (a := 100) (b := x) (by decide) (by omega)).mpr hx) h)
  refine q_aload_n C0 (kk := 2) 4 rfl dJ6_getChars_ba4f3_72 ?_
  refine q_iinc C0 2 rfl (v := (nI (d - 1))) (dec1 (by omega)) (by decide) (lv2 := [(5, .int (nI (d - 1))), (0, .int (-(nI x))), (6, .int 0), (1, .int (nI d)), (2, .ref v)]) rfl dJ6_getChars_ba4f3_73 ?_
  refine q_iload C0 0 rfl dJ6_getChars_ba4f3_76 ?_
  refine q_ones C0 w3_54 dJ6_getChars_ba4f3_78 ?_
  refine q_iload_n C0 (kk := 0) 1 rfl dJ6_getChars_ba4f3_81 ?_
  refine q_ineg C0 dJ6_getChars_ba4f3_82 ?_
  rw [show ((-(-(nI x))) : Int32) = nI x from Int32.neg_neg]
  refine q_onesld C0 (inb_nI hx (by decide)) dJ6_getChars_ba4f3_83 ?_
  refine q_bast C0 0 rfl (inb_nI (by omega) (by omega)) dJ6_getChars_ba4f3_84 ?_
  rw [cl (show d - 1 < 2147483648 by omega), cl (show x < 2147483648 by omega), nar_ones x hx]
  refine q_iload_n C0 (kk := 0) 1 rfl dJ6_getChars_ba4f3_85 ?_
  refine q_bipush C0 (v := (-9)) dJ6_getChars_ba4f3_86 rfl ?_
  refine q_icmp_ge C0 (tgt := 104) (by decide) dJ6_getChars_ba4f3_88 (fun hle => ?_) (fun hgt => ?_)
  · have h9 : x < 10 := by
      have := (sb_nle (a := 9) (b := x) (by decide) (by omega)).mp hle
      omega
    have e1 : dgN x = 1 := if_pos h9
    refine q_iload C0 2 rfl dJ6_getChars_ba4f3_104 ?_
    refine q_if_eq C0 (tgt := 118) (by decide) dJ6_getChars_ba4f3_106 (fun _ => ?_) (fun h => absurd rfl h)
    refine q_iload C0 0 rfl dJ6_getChars_ba4f3_118 ?_
    refine hend (by rw [show d - 1 = n by omega]) rfl ⟨_, rfl, sb_fitU hf (by rw [← nar_ones x hx]; exact fit_nar _), fun j hj => un (by omega), fun j hj => ?_⟩ dJ6_getChars_ba4f3_120
    have ej : n + j = d - 1 := by omega
    rw [ej, us]
    unfold dgF
    rw [if_pos h9, Nat.mod_eq_of_lt h9]
  · have h9 : ¬ x < 10 := fun h9 => hgt ((sb_nle (a := 9) (b := x) (by decide) (by omega)).mpr (by omega))
    have e1 : dgN x = 2 := if_neg h9
    refine q_aload_n C0 (kk := 2) 4 rfl dJ6_getChars_ba4f3_91 ?_
    refine q_iinc C0 0 rfl (v := (nI (d - 2))) ((dec1 (by omega)).trans (congrArg nI (by omega))) (by decide) (lv2 := [(5, .int (nI (d - 2))), (0, .int (-(nI x))), (6, .int 0), (1, .int (nI d)), (2, .ref v)]) rfl dJ6_getChars_ba4f3_92 ?_
    refine q_iload C0 0 rfl dJ6_getChars_ba4f3_95 ?_
    refine q_tens C0 w3_56 dJ6_getChars_ba4f3_97 ?_
    refine q_iload_n C0 (kk := 0) 1 rfl dJ6_getChars_ba4f3_100 ?_
    refine q_ineg C0 dJ6_getChars_ba4f3_101 ?_
    rw [show ((-(-(nI x))) : Int32) = nI x from Int32.neg_neg]
    refine q_tensld C0 (inb_nI hx (by decide)) dJ6_getChars_ba4f3_102 ?_
    refine q_bast C0 0 rfl (inb_nI (by omega) (by omega)) dJ6_getChars_ba4f3_103 ?_
    rw [cl (show d - 2 < 2147483648 by omega), cl (show x < 2147483648 by omega), nar_tens x hx]
    refine q_iload C0 2 rfl dJ6_getChars_ba4f3_104 ?_
    refine q_if_eq C0 (tgt := 118) (by decide) dJ6_getChars_ba4f3_106 (fun _ => ?_) (fun h => absurd rfl h)
    refine q_iload C0 0 rfl dJ6_getChars_ba4f3_118 ?_
    refine hend (by rw [show d - 2 = n by omega]) rfl ⟨_, rfl, sb_fitU (sb_fitU hf (by rw [← nar_ones x hx]; exact fit_nar _)) (by rw [← nar_tens x hx]; exact fit_nar _), fun j hj => (un (by omega)).trans (un (by omega)), fun j hj => ?_⟩ dJ6_getChars_ba4f3_120
    unfold dgF
    rw [if_neg h9]
    rcases (show j = 0 ∨ j = 1 by omega) with rfl | rfl
    · rw [if_pos rfl, show n + 0 = d - 2 by omega, us]
    · rw [if_neg (by decide), show n + 1 = d - 1 by omega, un (by omega), us]

theorem dJ5_append_c97b9_0 : decode cJ5_append_c97b9 0 = .ok (.aload_n 0, 1) := by decide +kernel
theorem dJ5_append_c97b9_1 : decode cJ5_append_c97b9 1 = .ok (.getfield 79, 3) := by decide +kernel
theorem dJ5_append_c97b9_4 : decode cJ5_append_c97b9 4 = .ok (.istore_n 2, 1) := by decide +kernel
theorem dJ5_append_c97b9_5 : decode cJ5_append_c97b9 5 = .ok (.iload_n 2, 1) := by decide +kernel
theorem dJ5_append_c97b9_6 : decode cJ5_append_c97b9 6 = .ok (.iload_n 1, 1) := by decide +kernel
theorem dJ5_append_c97b9_7 : decode cJ5_append_c97b9 7 = .ok (.invokestatic 245, 3) := by decide +kernel
theorem dJ5_append_c97b9_10 : decode cJ5_append_c97b9 10 = .ok (.iadd, 1) := by decide +kernel
theorem dJ5_append_c97b9_11 : decode cJ5_append_c97b9 11 = .ok (.istore_n 3, 1) := by decide +kernel
theorem dJ5_append_c97b9_12 : decode cJ5_append_c97b9 12 = .ok (.aload_n 0, 1) := by decide +kernel
theorem dJ5_append_c97b9_13 : decode cJ5_append_c97b9 13 = .ok (.iload_n 3, 1) := by decide +kernel
theorem dJ5_append_c97b9_14 : decode cJ5_append_c97b9 14 = .ok (.invokevirtual 100, 3) := by decide +kernel
theorem dJ5_append_c97b9_17 : decode cJ5_append_c97b9 17 = .ok (.aload_n 0, 1) := by decide +kernel
theorem dJ5_append_c97b9_18 : decode cJ5_append_c97b9 18 = .ok (.invokevirtual 83, 3) := by decide +kernel
theorem dJ5_append_c97b9_21 : decode cJ5_append_c97b9 21 = .ok (.ifCond .eq 16, 3) := by decide +kernel
theorem dJ5_append_c97b9_24 : decode cJ5_append_c97b9 24 = .ok (.iload_n 1, 1) := by decide +kernel
theorem dJ5_append_c97b9_25 : decode cJ5_append_c97b9 25 = .ok (.iload_n 3, 1) := by decide +kernel
theorem dJ5_append_c97b9_26 : decode cJ5_append_c97b9 26 = .ok (.aload_n 0, 1) := by decide +kernel
theorem dJ5_append_c97b9_27 : decode cJ5_append_c97b9 27 = .ok (.getfield 15, 3) := by decide +kernel
theorem dJ5_append_c97b9_30 : decode cJ5_append_c97b9 30 = .ok (.invokestatic 248, 3) := by decide +kernel
theorem dJ5_append_c97b9_33 : decode cJ5_append_c97b9 33 = .ok (.pop, 1) := by decide +kernel
theorem dJ5_append_c97b9_34 : decode cJ5_append_c97b9 34 = .ok (.goto 14, 3) := by decide +kernel
theorem dJ5_append_c97b9_48 : decode cJ5_append_c97b9 48 = .ok (.aload_n 0, 1) := by decide +kernel
theorem dJ5_append_c97b9_49 : decode cJ5_append_c97b9 49 = .ok (.iload_n 3, 1) := by decide +kernel
theorem dJ5_append_c97b9_50 : decode cJ5_append_c97b9 50 = .ok (.putfield 79, 3) := by decide +kernel
theorem dJ5_append_c97b9_53 : decode cJ5_append_c97b9 53 = .ok (.aload_n 0, 1) := by decide +kernel
theorem dJ5_append_c97b9_54 : decode cJ5_append_c97b9 54 = .ok (.areturn, 1) := by decide +kernel
theorem hdJ5_append_c97b9 : yJ5_append_c97b9.cls ≠ "java/lang/invoke/MethodHandle" ∧ yJ5_append_c97b9.cls ≠ "java/lang/invoke/VarHandle" ∧ (parseMethodDescriptor yJ5_append_c97b9.desc).map (fun d => d.parameters.length) = some 1 := by decide +kernel
theorem mJ5_append_c97b9 (l : Launch) (D : va_G) (g : xG) {h v n z x : Nat} {a : Nat → Int32} (hx : x < 100) (hn : n ≤ z) (hz : z ≤ 256) (hq : n + dgN x ≤ 110) (hf : sb_Fit a) : mR l D g yJ5_append_c97b9 cJ5_append_c97b9 4 (.object "java/lang/AbstractStringBuilder") ({ frames := 4, cells := 1, slots := 256, locals := 105 } : Room) [.ref h, .int (nI x)] [(h, .inr (5, sbF v n)), (v, .inl (g.2.1 1, z, .inl a))] none 1 256 (fun r w => r = h ∧ ∃ v2 z2 a2, w = [(h, .inr (5, sbF v2 (n + dgN x))), (v2, .inl (g.2.1 1, z2, .inl a2))] ∧ z2 ≤ 256 ∧ n + dgN x ≤ z2 ∧ sb_Fit a2 ∧ (∀ j, j < n → a2 j = a j) ∧ ∀ j, j < dgN x → a2 (n + j) = dgF x j) := by
  refine m_startR (Or.inl ⟨_, rfl⟩) (own := RJ5) (by decide +kernel) rfl rfl (Nat.le_of_ble_eq_true rfl) ?_
  intro p e s m args below meth c A Q C0 hE hend
  refine q_aload_n C0 (kk := 0) 0 rfl dJ5_append_c97b9_0 ?_
  refine n_get C0 x_lays5 (q0 := 0) rfl rfl 3 (by decide) w2_152 rfl rfl dJ5_append_c97b9_1 ?_
  refine q_istore_n C0 (kk := 2) (lv2 := [(2, .int (nI n)), (0, .ref h), (1, .int (nI x))]) (by decide) rfl dJ5_append_c97b9_4 ?_
  refine q_iload_n C0 (kk := 2) 0 rfl dJ5_append_c97b9_5 ?_
  refine q_iload_n C0 (kk := 1) 2 rfl dJ5_append_c97b9_6 ?_
  refine m_tabSi C0 (As := [.int (nI x)]) (rest := [.int (nI n)]) (c_J6_stringSize_0f7a4 l D g [] T_nil (ssz hx (fun _ => 0))) w3_48 w3_49 w1_12 w3_50 hd_J6_stringSize_0f7a4 rfl ⟨rfl, rfl⟩ ⟨Nat.le_of_ble_eq_true rfl, Nat.le_of_ble_eq_true rfl⟩ (Nat.le_of_ble_eq_true rfl) (Nat.le_of_ble_eq_true rfl) rfl (Nat.le_of_ble_eq_true rfl) dJ5_append_c97b9_7 ?_
  refine q_iadd C0 dJ5_append_c97b9_10 ?_
  rw [show (((nI n) + (nI (dgN x))) : Int32) = nI (n + dgN x) from nI_add _ _]
  refine q_istore_n C0 (kk := 3) (lv2 := [(3, .int (nI (n + dgN x))), (2, .int (nI n)), (0, .ref h), (1, .int (nI x))]) (by decide) rfl dJ5_append_c97b9_11 ?_
  refine q_aload_n C0 (kk := 0) 2 rfl dJ5_append_c97b9_12 ?_
  refine q_iload_n C0 (kk := 3) 0 rfl dJ5_append_c97b9_13 ?_
  refine m_callVv C0 (w0 := [(h, .inr (5, sbF v n)), (v, .inl (g.2.1 1, z, .inl a))]) (wr := []) (As := [.int (nI (n + dgN x))]) (rest := []) (mJ5_ensureCapacityInternal_d00df l D g hz hq hf) (List.Perm.refl _) (oG_none) w2_174 w2_176 w9_0 w2_177 w1_1 hdJ5_ensureCapacityInternal_d00df rfl ⟨rfl, rfl⟩ ⟨Nat.le_of_ble_eq_true rfl, Nat.le_of_ble_eq_true rfl⟩ (Nat.le_of_ble_eq_true rfl) (Nat.le_of_ble_eq_true rfl) (rG_w C0 (q := (RJ4, TJ4, 4)) 0 rfl rfl) rfl (Nat.le_of_ble_eq_true rfl) dJ5_append_c97b9_14 ?_
  rintro w1 ⟨v2, z2, a2, rfl, g1, g2, g3, g4⟩
  refine q_aload_n C0 (kk := 0) 2 rfl dJ5_append_c97b9_17 ?_
  refine m_callVi C0 (w0 := [(h, .inr (5, sbF v2 n))]) (wr := [(v2, .inl (g.2.1 1, z2, .inl a2))]) (As := []) (rest := []) (mJ5_isLatin1_aae02 l D g h v2 n) (List.Perm.refl _) (oG_none) w2_207 w2_208 w2_210 w2_211 w1_1 hdJ5_isLatin1_aae02 rfl ⟨rfl, rfl⟩ ⟨Nat.le_of_ble_eq_true rfl, Nat.le_of_ble_eq_true rfl⟩ (Nat.le_of_ble_eq_true rfl) (Nat.le_of_ble_eq_true rfl) (rG_w C0 (q := (RJ4, TJ4, 4)) 0 rfl rfl) rfl (Nat.le_of_ble_eq_true rfl) dJ5_append_c97b9_18 ?_
  rintro w1 rfl
  refine q_if_eq C0 (tgt := 37) (by decide) dJ5_append_c97b9_21 (fun h => absurd h (by decide)) (fun _ => ?_)
  refine q_iload_n C0 (kk := 1) 3 rfl dJ5_append_c97b9_24 ?_
  refine q_iload_n C0 (kk := 3) 0 rfl dJ5_append_c97b9_25 ?_
  refine q_aload_n C0 (kk := 0) 2 rfl dJ5_append_c97b9_26 ?_
  refine n_get C0 x_lays5 (q0 := 0) rfl rfl 0 (by decide) w2_149 rfl rfl dJ5_append_c97b9_27 ?_
  refine m_callSi C0 (w0 := [(v2, .inl (g.2.1 1, z2, .inl a2))]) (wr := [(h, .inr (5, sbF v2 n))]) (As := [.int (nI x), .int (nI (n + dgN x)), .ref v2]) (rest := []) (mJ6_getChars_ba4f3 l D g hx rfl g1 g2 g3) (List.Perm.swap _ _ _) oG_none w3_51 w3_52 w3_53 w1_12 hdJ6_getChars_ba4f3 rfl ⟨rfl, rfl⟩ ⟨Nat.le_of_ble_eq_true rfl, Nat.le_of_ble_eq_true rfl⟩ (Nat.le_of_ble_eq_true rfl) (Nat.le_of_ble_eq_true rfl) rfl (Nat.le_of_ble_eq_true rfl) dJ5_append_c97b9_30 ?_
  rintro w1 ⟨a3, rfl, f1, f2, f3⟩
  refine q_pop C0 rfl dJ5_append_c97b9_33 ?_
  refine q_goto C0 (tgt := 48) (by decide) dJ5_append_c97b9_34 ?_
  refine q_aload_n C0 (kk := 0) 2 rfl dJ5_append_c97b9_48 ?_
  refine q_iload_n C0 (kk := 3) 0 rfl dJ5_append_c97b9_49 ?_
  refine n_put C0 x_lays5 tyJ4 tyJ4_ok nmJ4 (q0 := 1) rfl rfl 3 (by decide) w2_152 rfl rfl rfl rfl (Nat.le_of_ble_eq_true rfl) dJ5_append_c97b9_50 ?_
  refine q_aload_n C0 (kk := 0) 2 rfl dJ5_append_c97b9_53 ?_
  refine WN.perm (List.Perm.swap _ _ _) ?_
  exact hend ⟨rfl, v2, z2, a3, rfl, g2, g1, f1, fun j hj => (f2 j hj).trans (g4 j (by omega)), f3⟩ dJ5_append_c97b9_54

theorem dJ4_append_bf812_0 : decode cJ4_append_bf812 0 = .ok (.aload_n 0, 1) := by decide +kernel
theorem dJ4_append_bf812_1 : decode cJ4_append_bf812 1 = .ok (.iload_n 1, 1) := by decide +kernel
theorem dJ4_append_bf812_2 : decode cJ4_append_bf812 2 = .ok (.invokespecial 53, 3) := by decide +kernel
theorem dJ4_append_bf812_5 : decode cJ4_append_bf812 5 = .ok (.pop, 1) := by decide +kernel
theorem dJ4_append_bf812_6 : decode cJ4_append_bf812 6 = .ok (.aload_n 0, 1) := by decide +kernel
theorem dJ4_append_bf812_7 : decode cJ4_append_bf812 7 = .ok (.areturn, 1) := by decide +kernel
theorem hdJ4_append_bf812 : yJ4_append_bf812.cls ≠ "java/lang/invoke/MethodHandle" ∧ yJ4_append_bf812.cls ≠ "java/lang/invoke/VarHandle" ∧ (parseMethodDescriptor yJ4_append_bf812.desc).map (fun d => d.parameters.length) = some 1 := by decide +kernel
theorem mJ4_append_bf812 (l : Launch) (D : va_G) (g : xG) {h v n z x : Nat} {a : Nat → Int32} (hx : x < 100) (hn : n ≤ z) (hz : z ≤ 256) (hq : n + dgN x ≤ 110) (hf : sb_Fit a) : mR l D g yJ4_append_bf812 cJ4_append_bf812 2 (.object "java/lang/StringBuilder") ({ frames := 5, cells := 1, slots := 256, locals := 128 } : Room) [.ref h, .int (nI x)] [(h, .inr (5, sbF v n)), (v, .inl (g.2.1 1, z, .inl a))] none 1 256 (fun r w => r = h ∧ ∃ v2 z2 a2, w = [(h, .inr (5, sbF v2 (n + dgN x))), (v2, .inl (g.2.1 1, z2, .inl a2))] ∧ z2 ≤ 256 ∧ n + dgN x ≤ z2 ∧ sb_Fit a2 ∧ (∀ j, j < n → a2 j = a j) ∧ ∀ j, j < dgN x → a2 (n + j) = dgF x j) := by
  refine m_startR (Or.inl ⟨_, rfl⟩) (own := RJ4) (by decide +kernel) rfl rfl (Nat.le_of_ble_eq_true rfl) ?_
  intro p e s m args below meth c A Q C0 hE hend
  refine q_aload_n C0 (kk := 0) 0 rfl dJ4_append_bf812_0 ?_
  refine q_iload_n C0 (kk := 1) 1 rfl dJ4_append_bf812_1 ?_
  refine m_callPr C0 (w0 := [(h, .inr (5, sbF v n)), (v, .inl (g.2.1 1, z, .inl a))]) (wr := []) (As := [.int (nI x)]) (rest := []) (mJ5_append_c97b9 l D g hx hn hz hq hf) (List.Perm.refl _) oG_none w3_45 w3_46 w5_221 w2_161 w3_47 w1_1 (ci := 5) rfl ⟨by decide +kernel, hdJ5_append_c97b9.2.2⟩ rfl ⟨rfl, rfl⟩ ⟨Nat.le_of_ble_eq_true rfl, Nat.le_of_ble_eq_true rfl⟩ (Nat.le_of_ble_eq_true rfl) (Nat.le_of_ble_eq_true rfl) (rG_w C0 (q := (RJ4, TJ4, 4)) 0 rfl rfl) rfl (Nat.le_of_ble_eq_true rfl) dJ4_append_bf812_2 ?_
  rintro r w1 ⟨rfl, v2, z2, a2, rfl, gg⟩
  refine q_pop C0 rfl dJ4_append_bf812_5 ?_
  refine q_aload_n C0 (kk := 0) 0 rfl dJ4_append_bf812_6 ?_
  exact hend ⟨rfl, v2, z2, a2, rfl, gg⟩ dJ4_append_bf812_7

theorem dJ5_init_d00df_0 : decode cJ5_init_d00df 0 = .ok (.aload_n 0, 1) := by decide +kernel
theorem dJ5_init_d00df_1 : decode cJ5_init_d00df 1 = .ok (.invokespecial 3, 3) := by decide +kernel
theorem dJ5_init_d00df_4 : decode cJ5_init_d00df 4 = .ok (.getstatic 18, 3) := by decide +kernel
theorem dJ5_init_d00df_7 : decode cJ5_init_d00df 7 = .ok (.ifCond .eq 18, 3) := by decide +kernel
theorem dJ5_init_d00df_10 : decode cJ5_init_d00df 10 = .ok (.aload_n 0, 1) := by decide +kernel
theorem dJ5_init_d00df_11 : decode cJ5_init_d00df 11 = .ok (.iload_n 1, 1) := by decide +kernel
theorem dJ5_init_d00df_12 : decode cJ5_init_d00df 12 = .ok (.newarray .byte, 2) := by decide +kernel
theorem dJ5_init_d00df_14 : decode cJ5_init_d00df 14 = .ok (.putfield 15, 3) := by decide +kernel
theorem dJ5_init_d00df_17 : decode cJ5_init_d00df 17 = .ok (.aload_n 0, 1) := by decide +kernel
theorem dJ5_init_d00df_18 : decode cJ5_init_d00df 18 = .ok (.iconst 0, 1) := by decide +kernel
theorem dJ5_init_d00df_19 : decode cJ5_init_d00df 19 = .ok (.putfield 22, 3) := by decide +kernel
theorem dJ5_init_d00df_22 : decode cJ5_init_d00df 22 = .ok (.goto 16, 3) := by decide +kernel
theorem dJ5_init_d00df_38 : decode cJ5_init_d00df 38 = .ok (.return_, 1) := by decide +kernel
theorem hdJ5_init_d00df : yJ5_init_d00df.cls ≠ "java/lang/invoke/MethodHandle" ∧ yJ5_init_d00df.cls ≠ "java/lang/invoke/VarHandle" ∧ (parseMethodDescriptor yJ5_init_d00df.desc).map (fun d => d.parameters.length) = some 1 := by decide +kernel
theorem mJ5_init_d00df (l : Launch) (D : va_G) (g : xG) (h : Nat) : mV l D g yJ5_init_d00df cJ5_init_d00df 2 ({ frames := 1, cells := 1, slots := 16, locals := 12 } : Room) [.ref h, .int 16] [(h, .inr (5, [.null, .int 0, .int 0, .int 0]))] none 1 16 (fun w => ∃ v, w = [(h, .inr (5, sbF v 0)), (v, .inl (g.2.1 1, 16, .inl (fun _ => 0)))]) := by
  refine m_startV (own := RJ5) (by decide +kernel) rfl rfl (Nat.le_of_ble_eq_true rfl) ?_
  intro p e s m args below meth c A Q C0 hE hmn hend
  refine q_aload_n C0 (kk := 0) 0 rfl dJ5_init_d00df_0 ?_
  refine n_obj C0 w2_139 w1_77 w1_78 (Nat.le_of_ble_eq_true rfl) (Nat.le_of_ble_eq_true rfl) dJ5_init_d00df_1 ?_
  refine q_compact C0 w2_140 dJ5_init_d00df_4 ?_
  refine q_if_eq C0 (tgt := 25) (by decide) dJ5_init_d00df_7 (fun h => absurd h (by decide)) (fun _ => ?_)
  refine q_aload_n C0 (kk := 0) 0 rfl dJ5_init_d00df_10 ?_
  refine q_iload_n C0 (kk := 1) 1 rfl dJ5_init_d00df_11 ?_
  refine n_newi C0 1 (ty := .byte) rfl rfl (fun U cA h => h) w1_120 (N := 16) rfl (by decide) (by decide) (by decide) (Nat.le_of_ble_eq_true rfl) (Nat.le_of_ble_eq_true rfl) dJ5_init_d00df_12 (fun r => ?_)
  refine n_put C0 x_lays5 tyJ4 tyJ4_ok nmJ4 (q0 := 0) rfl rfl 0 (by decide) w2_149 rfl rfl rfl rfl (Nat.le_of_ble_eq_true rfl) dJ5_init_d00df_14 ?_
  refine q_aload_n C0 (kk := 0) 0 rfl dJ5_init_d00df_17 ?_
  refine q_iconst C0 (v := 0) dJ5_init_d00df_18 rfl ?_
  refine n_put C0 x_lays5 tyJ4 tyJ4_ok nmJ4 (q0 := 0) rfl rfl 1 (by decide) w2_150 rfl rfl rfl rfl (Nat.le_of_ble_eq_true rfl) dJ5_init_d00df_19 ?_
  refine q_goto C0 (tgt := 38) (by decide) dJ5_init_d00df_22 ?_
  exact hend ⟨r, rfl⟩ dJ5_init_d00df_38

theorem dJ4_init_da8c8_0 : decode cJ4_init_da8c8 0 = .ok (.aload_n 0, 1) := by decide +kernel
theorem dJ4_init_da8c8_1 : decode cJ4_init_da8c8 1 = .ok (.bipush 16, 2) := by decide +kernel
theorem dJ4_init_da8c8_3 : decode cJ4_init_da8c8 3 = .ok (.invokespecial 1, 3) := by decide +kernel
theorem dJ4_init_da8c8_6 : decode cJ4_init_da8c8 6 = .ok (.return_, 1) := by decide +kernel
theorem hdJ4_init_da8c8 : yJ4_init_da8c8.cls ≠ "java/lang/invoke/MethodHandle" ∧ yJ4_init_da8c8.cls ≠ "java/lang/invoke/VarHandle" ∧ (parseMethodDescriptor yJ4_init_da8c8.desc).map (fun d => d.parameters.length) = some 0 := by decide +kernel
theorem nJ4_init_da8c8 (l : Launch) (D : va_G) (g : xG) : nM l D g yJ4_init_da8c8 cJ4_init_da8c8 1 ({ frames := 2, cells := 1, slots := 16, locals := 33 } : Room) 5 [.null, .int 0, .int 0, .int 0] 1 16 (fun h w => ∃ v, w = [(h, .inr (5, sbF v 0)), (v, .inl (g.2.1 1, 16, .inl (fun _ => 0)))]) := by
  refine n_start (own := RJ4) (by decide +kernel) rfl rfl (Nat.le_of_ble_eq_true rfl) ?_
  intro p e s m args below meth c h A Q C0 hA1 hA2 hn hend
  refine q_aload_n C0 (kk := 0) 0 rfl dJ4_init_da8c8_0 ?_
  refine q_bipush C0 (v := 16) dJ4_init_da8c8_1 rfl ?_
  refine m_callIv C0 (w0 := [(h, .inr (5, [.null, .int 0, .int 0, .int 0]))]) (wr := []) (As := [.int 16]) (rest := []) (mJ5_init_d00df l D g h) (List.Perm.refl _) oG_none w2_136 w2_137 w2_138 rfl w1_1 hdJ5_init_d00df rfl ⟨rfl, rfl⟩ ⟨Nat.le_of_ble_eq_true rfl, Nat.le_of_ble_eq_true rfl⟩ (Nat.le_of_ble_eq_true rfl) (Nat.le_of_ble_eq_true rfl) rfl (Nat.le_of_ble_eq_true rfl) dJ4_init_da8c8_3 ?_
  rintro w1 ⟨v, rfl⟩
  exact hend ⟨v, rfl⟩ (fun _ h => h) (fun h => h) dJ4_init_da8c8_6
