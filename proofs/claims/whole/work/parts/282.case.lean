/-! the law's cases -/
set_option maxRecDepth 100000 in
set_option maxHeartbeats 4000000 in
theorem case_16 (l : Launch) (hlst : l.stackTraces = false) {p : Program} {e : Env} {s : State} {m : MethodId} {below : List Frame} {meth : Method} {c : Code} {cells slots : Nat} {Q : State → Prop} {b L i mm : Nat} {xs : Nat → Int32} {D : va_G} {g : xG} {M : xM} (h : LC p s m c b L xs D g) (hi : i + 6 ≤ L) (hR : RR mm M) (hm : mm < 536870912) (hc : cells + 6 ≤ 601024) (hs : slots + 36 ≤ 7293034)
    (kk : ∀ M2, RR (mm + 4000) M2 → WW p l e room_1 s m #[.ref b] below meth c (cells + 6) (slots + 36) Q 9 D g tbA 3076 (lvL b g i) [] M2) :
    WW p l e room_1 s m #[.ref b] below meth c cells slots Q 9 D g tbA 623 (lvL b g i) [] M := by
  obtain ⟨C0, hX, hbl, hbA, hL⟩ := id h
  have hT := C0.2.2.2.2.2.2.1
  obtain ⟨r, M1, M2, e1, e2, hR2⟩ := s_minutesToEnd hR (by omega) 
  refine r_aload_n C0 (kk := 1) 1 rfl dL_law_623 ?_
  refine r_callVi C0 (As := []) (rest := []) (c_X6_minutesToEnd l D g tbA hT fbA e1) w3_214 w3_215 w3_216 w1_1 w3_217 (x_rec4 C0 fbA.1) hd_X6_minutesToEnd rfl ⟨rfl, rfl⟩ ⟨Nat.le_of_ble_eq_true rfl, Nat.le_of_ble_eq_true rfl⟩ (show cells + 0 ≤ 601024 by omega) (show slots + 0 ≤ 7293034 by omega) rfl (Nat.le_of_ble_eq_true rfl) dL_law_624 ?_
  refine r_aload_n C0 (kk := 2) 2 rfl dL_law_627 ?_
  refine r_callVi C0 (As := []) (rest := [.int r]) (c_X7_minutesToEnd l D g tbA hT mdA e2) w7_121 w7_122 w7_123 w1_14 w7_124 (x_rec5 C0 mdA.1) hd_X7_minutesToEnd rfl ⟨rfl, rfl⟩ ⟨Nat.le_of_ble_eq_true rfl, Nat.le_of_ble_eq_true rfl⟩ (show cells + 0 ≤ 601024 by omega) (show slots + 0 ≤ 7293034 by omega) rfl (Nat.le_of_ble_eq_true rfl) dL_law_628 ?_
  refine r_icmp_eq C0 (tgt := 3076) (by decide) dL_law_631 (fun q => ?_) (fun q => absurd rfl q)
  refine WW.widen (k := cells + 6) (n := slots + 36) (by omega) (by omega) ?_
  exact kk _ (RR_mono hR2 (by omega))
set_option maxRecDepth 100000 in
set_option maxHeartbeats 4000000 in
theorem case_17 (l : Launch) (hlst : l.stackTraces = false) {p : Program} {e : Env} {s : State} {m : MethodId} {below : List Frame} {meth : Method} {c : Code} {cells slots : Nat} {Q : State → Prop} {b L i mm : Nat} {xs : Nat → Int32} {D : va_G} {g : xG} {M : xM} (h : LC p s m c b L xs D g) (hi : i + 6 ≤ L) (hR : RR mm M) (hm : mm < 536870912) (hc : cells + 6 ≤ 601024) (hs : slots + 36 ≤ 7293034)
    (kk : ∀ M2, RR (mm + 4000) M2 → WW p l e room_1 s m #[.ref b] below meth c (cells + 6) (slots + 36) Q 9 D g tbA 3076 (lvL b g i) [] M2) :
    WW p l e room_1 s m #[.ref b] below meth c cells slots Q 9 D g tbA 636 (lvL b g i) [] M := by
  obtain ⟨C0, hX, hbl, hbA, hL⟩ := id h
  have hT := C0.2.2.2.2.2.2.1
  obtain ⟨r, M1, M2, e1, e2, hR2⟩ := s_stallCount hR  
  refine r_aload_n C0 (kk := 1) 1 rfl dL_law_636 ?_
  refine r_callVi C0 (As := []) (rest := []) (c_X6_stallCount l D g tbA hT fbA e1) w3_218 w3_219 w3_220 w1_1 w3_221 (x_rec4 C0 fbA.1) hd_X6_stallCount rfl ⟨rfl, rfl⟩ ⟨Nat.le_of_ble_eq_true rfl, Nat.le_of_ble_eq_true rfl⟩ (show cells + 0 ≤ 601024 by omega) (show slots + 0 ≤ 7293034 by omega) rfl (Nat.le_of_ble_eq_true rfl) dL_law_637 ?_
  refine r_aload_n C0 (kk := 2) 2 rfl dL_law_640 ?_
  refine r_callVi C0 (As := []) (rest := [.int r]) (c_X7_stallCount l D g tbA hT mdA e2) w7_125 w7_126 w7_127 w1_14 w7_128 (x_rec5 C0 mdA.1) hd_X7_stallCount rfl ⟨rfl, rfl⟩ ⟨Nat.le_of_ble_eq_true rfl, Nat.le_of_ble_eq_true rfl⟩ (show cells + 0 ≤ 601024 by omega) (show slots + 0 ≤ 7293034 by omega) rfl (Nat.le_of_ble_eq_true rfl) dL_law_641 ?_
  refine r_icmp_eq C0 (tgt := 3076) (by decide) dL_law_644 (fun q => ?_) (fun q => absurd rfl q)
  refine WW.widen (k := cells + 6) (n := slots + 36) (by omega) (by omega) ?_
  exact kk _ (RR_mono hR2 (by omega))
set_option maxRecDepth 100000 in
set_option maxHeartbeats 4000000 in
theorem case_18 (l : Launch) (hlst : l.stackTraces = false) {p : Program} {e : Env} {s : State} {m : MethodId} {below : List Frame} {meth : Method} {c : Code} {cells slots : Nat} {Q : State → Prop} {b L i mm : Nat} {xs : Nat → Int32} {D : va_G} {g : xG} {M : xM} (h : LC p s m c b L xs D g) (hi : i + 6 ≤ L) (hR : RR mm M) (hm : mm < 536870912) (hc : cells + 6 ≤ 601024) (hs : slots + 36 ≤ 7293034)
    (kk : ∀ M2, RR (mm + 4000) M2 → WW p l e room_1 s m #[.ref b] below meth c (cells + 6) (slots + 36) Q 9 D g tbA 3076 (lvL b g i) [] M2) :
    WW p l e room_1 s m #[.ref b] below meth c cells slots Q 9 D g tbA 649 (lvL b g i) [] M := by
  obtain ⟨C0, hX, hbl, hbA, hL⟩ := id h
  have hT := C0.2.2.2.2.2.2.1
  obtain ⟨k, r, M1, bv, M2, res, Mo, e1, e2, hR2, hk, hq, hcase⟩ := okT_use (s_positionOf hR  (xs (i + 1))) (by decide)
  refine r_aload_n C0 (kk := 1) 1 rfl dL_law_649 ?_
  refine r_arg C0 hX hbl hbA (show i + 1 < L by omega) hL 0 4 rfl rfl (j := 1) rfl dL_law_650 dL_law_651 dL_law_653 dL_law_654 dL_law_655 ?_
  refine r_aload_n C0 (kk := 3) 3 rfl dL_law_656 ?_
  refine r_callSH C0 (As := [.ref (g.1 4 1664), .int (xs (i + 1)), .ref (g.1 9 5000)]) (rest := []) (c_L_positionOf l D g tbA hT hlst fbA oA e1 hk) w4_117 w4_118 w1_0 w4_119 hd_L_positionOf rfl ⟨rfl, rfl⟩ ⟨Nat.le_of_ble_eq_true rfl, Nat.le_of_ble_eq_true rfl⟩ (show cells + 1 ≤ 601024 by omega) (show slots + 6 * 1 ≤ 7293034 by omega) rfl (Nat.le_of_ble_eq_true rfl) dL_law_657 ?_
  refine r_istore C0 (lv2 := (5, .int res) :: lvL b g i) (by decide) rfl dL_law_660 ?_
  refine r_aload_n C0 (kk := 2) 3 rfl dL_law_662 ?_
  refine r_arg C0 hX hbl hbA (show i + 1 < L by omega) hL 1 5 rfl rfl (j := 1) rfl dL_law_663 dL_law_664 dL_law_666 dL_law_667 dL_law_668 ?_
  refine r_fcall C0 (As := [.int (xs (i + 1))]) (rest := []) (c_X7_positionOf l D g (tbX ++ tbM) (T_XM hT) mdXM e2) hq w7_129 w7_130 w7_131 w1_14 w7_132 (x_rec5 C0 mdA.1) hd_X7_positionOf rfl ⟨rfl, rfl⟩ ⟨Nat.le_of_ble_eq_true rfl, Nat.le_of_ble_eq_true rfl⟩ (show cells + 1 + 0 ≤ 601024 by omega) (show slots + 6 * 1 + 0 ≤ 7293034 by omega) rfl (Nat.le_of_ble_eq_true rfl) dL_law_669 ?_
  refine r_tail h hcase (show cells + 1 ≤ 601024 by omega) (show slots + 6 * 1 ≤ 7293034 by omega) dL_law_672 dL_law_674 dL_law_675 dL_law_678 dL_law_680 dL_law_685 dL_law_687 dL_law_690 dL_law_691 dL_law_692 dL_law_693 dL_law_695 dL_law_696 dL_law_697 dL_law_702 (by decide) ?_
  refine WW.widen (k := cells + 6) (n := slots + 36) (by omega) (by omega) ?_
  exact kk _ (RR_o (RR_mono hR2 (by omega)))
set_option maxRecDepth 100000 in
set_option maxHeartbeats 4000000 in
theorem case_19 (l : Launch) (hlst : l.stackTraces = false) {p : Program} {e : Env} {s : State} {m : MethodId} {below : List Frame} {meth : Method} {c : Code} {cells slots : Nat} {Q : State → Prop} {b L i mm : Nat} {xs : Nat → Int32} {D : va_G} {g : xG} {M : xM} (h : LC p s m c b L xs D g) (hi : i + 6 ≤ L) (hR : RR mm M) (hm : mm < 536870912) (hc : cells + 6 ≤ 601024) (hs : slots + 36 ≤ 7293034)
    (kk : ∀ M2, RR (mm + 4000) M2 → WW p l e room_1 s m #[.ref b] below meth c (cells + 6) (slots + 36) Q 9 D g tbA 3076 (lvL b g i) [] M2) :
    WW p l e room_1 s m #[.ref b] below meth c cells slots Q 9 D g tbA 705 (lvL b g i) [] M := by
  obtain ⟨C0, hX, hbl, hbA, hL⟩ := id h
  have hT := C0.2.2.2.2.2.2.1
  obtain ⟨k, r, M1, bv, M2, res, Mo, e1, e2, hR2, hk, hq, hcase⟩ := okT_use (s_lanternOf hR  (xs (i + 1))) (by decide)
  refine r_aload_n C0 (kk := 1) 1 rfl dL_law_705 ?_
  refine r_arg C0 hX hbl hbA (show i + 1 < L by omega) hL 0 4 rfl rfl (j := 1) rfl dL_law_706 dL_law_707 dL_law_709 dL_law_710 dL_law_711 ?_
  refine r_aload_n C0 (kk := 3) 3 rfl dL_law_712 ?_
  refine r_callSH C0 (As := [.ref (g.1 4 1664), .int (xs (i + 1)), .ref (g.1 9 5000)]) (rest := []) (c_L_lanternOf l D g tbA hT hlst fbA oA e1 hk) w4_149 w4_150 w1_0 w4_151 hd_L_lanternOf rfl ⟨rfl, rfl⟩ ⟨Nat.le_of_ble_eq_true rfl, Nat.le_of_ble_eq_true rfl⟩ (show cells + 1 ≤ 601024 by omega) (show slots + 6 * 1 ≤ 7293034 by omega) rfl (Nat.le_of_ble_eq_true rfl) dL_law_713 ?_
  refine r_istore C0 (lv2 := (5, .int res) :: lvL b g i) (by decide) rfl dL_law_716 ?_
  refine r_aload_n C0 (kk := 2) 3 rfl dL_law_718 ?_
  refine r_arg C0 hX hbl hbA (show i + 1 < L by omega) hL 1 5 rfl rfl (j := 1) rfl dL_law_719 dL_law_720 dL_law_722 dL_law_723 dL_law_724 ?_
  refine r_fcall C0 (As := [.int (xs (i + 1))]) (rest := []) (c_X7_lanternOf l D g (tbX ++ tbM) (T_XM hT) mdXM e2) hq w7_141 w7_142 w7_143 w1_14 w7_144 (x_rec5 C0 mdA.1) hd_X7_lanternOf rfl ⟨rfl, rfl⟩ ⟨Nat.le_of_ble_eq_true rfl, Nat.le_of_ble_eq_true rfl⟩ (show cells + 1 + 0 ≤ 601024 by omega) (show slots + 6 * 1 + 0 ≤ 7293034 by omega) rfl (Nat.le_of_ble_eq_true rfl) dL_law_725 ?_
  refine r_tail h hcase (show cells + 1 ≤ 601024 by omega) (show slots + 6 * 1 ≤ 7293034 by omega) dL_law_728 dL_law_730 dL_law_731 dL_law_734 dL_law_736 dL_law_741 dL_law_743 dL_law_746 dL_law_747 dL_law_748 dL_law_749 dL_law_751 dL_law_752 dL_law_753 dL_law_758 (by decide) ?_
  refine WW.widen (k := cells + 6) (n := slots + 36) (by omega) (by omega) ?_
  exact kk _ (RR_o (RR_mono hR2 (by omega)))
set_option maxRecDepth 100000 in
set_option maxHeartbeats 4000000 in
theorem case_20 (l : Launch) (hlst : l.stackTraces = false) {p : Program} {e : Env} {s : State} {m : MethodId} {below : List Frame} {meth : Method} {c : Code} {cells slots : Nat} {Q : State → Prop} {b L i mm : Nat} {xs : Nat → Int32} {D : va_G} {g : xG} {M : xM} (h : LC p s m c b L xs D g) (hi : i + 6 ≤ L) (hR : RR mm M) (hm : mm < 536870912) (hc : cells + 6 ≤ 601024) (hs : slots + 36 ≤ 7293034)
    (kk : ∀ M2, RR (mm + 4000) M2 → WW p l e room_1 s m #[.ref b] below meth c (cells + 6) (slots + 36) Q 9 D g tbA 3076 (lvL b g i) [] M2) :
    WW p l e room_1 s m #[.ref b] below meth c cells slots Q 9 D g tbA 761 (lvL b g i) [] M := by
  obtain ⟨C0, hX, hbl, hbA, hL⟩ := id h
  have hT := C0.2.2.2.2.2.2.1
  obtain ⟨k, r, M1, bv, M2, res, Mo, e1, e2, hR2, hk, hq, hcase⟩ := okT_use (s_textureOf hR  (xs (i + 1))) (by decide)
  refine r_aload_n C0 (kk := 1) 1 rfl dL_law_761 ?_
  refine r_arg C0 hX hbl hbA (show i + 1 < L by omega) hL 0 4 rfl rfl (j := 1) rfl dL_law_762 dL_law_763 dL_law_765 dL_law_766 dL_law_767 ?_
  refine r_aload_n C0 (kk := 3) 3 rfl dL_law_768 ?_
  refine r_callSH C0 (As := [.ref (g.1 4 1664), .int (xs (i + 1)), .ref (g.1 9 5000)]) (rest := []) (c_L_textureOf l D g tbA hT hlst fbA oA e1 hk) w4_156 w4_157 w1_0 w4_158 hd_L_textureOf rfl ⟨rfl, rfl⟩ ⟨Nat.le_of_ble_eq_true rfl, Nat.le_of_ble_eq_true rfl⟩ (show cells + 1 ≤ 601024 by omega) (show slots + 6 * 1 ≤ 7293034 by omega) rfl (Nat.le_of_ble_eq_true rfl) dL_law_769 ?_
  refine r_istore C0 (lv2 := (5, .int res) :: lvL b g i) (by decide) rfl dL_law_772 ?_
  refine r_aload_n C0 (kk := 2) 3 rfl dL_law_774 ?_
  refine r_arg C0 hX hbl hbA (show i + 1 < L by omega) hL 1 5 rfl rfl (j := 1) rfl dL_law_775 dL_law_776 dL_law_778 dL_law_779 dL_law_780 ?_
  refine r_fcall C0 (As := [.int (xs (i + 1))]) (rest := []) (c_X7_textureOf l D g (tbX ++ tbM) (T_XM hT) mdXM e2) hq w7_145 w7_146 w7_147 w1_14 w7_148 (x_rec5 C0 mdA.1) hd_X7_textureOf rfl ⟨rfl, rfl⟩ ⟨Nat.le_of_ble_eq_true rfl, Nat.le_of_ble_eq_true rfl⟩ (show cells + 1 + 0 ≤ 601024 by omega) (show slots + 6 * 1 + 0 ≤ 7293034 by omega) rfl (Nat.le_of_ble_eq_true rfl) dL_law_781 ?_
  refine r_tail h hcase (show cells + 1 ≤ 601024 by omega) (show slots + 6 * 1 ≤ 7293034 by omega) dL_law_784 dL_law_786 dL_law_787 dL_law_790 dL_law_792 dL_law_797 dL_law_799 dL_law_802 dL_law_803 dL_law_804 dL_law_805 dL_law_807 dL_law_808 dL_law_809 dL_law_814 (by decide) ?_
  refine WW.widen (k := cells + 6) (n := slots + 36) (by omega) (by omega) ?_
  exact kk _ (RR_o (RR_mono hR2 (by omega)))
set_option maxRecDepth 100000 in
set_option maxHeartbeats 4000000 in
theorem case_21 (l : Launch) (hlst : l.stackTraces = false) {p : Program} {e : Env} {s : State} {m : MethodId} {below : List Frame} {meth : Method} {c : Code} {cells slots : Nat} {Q : State → Prop} {b L i mm : Nat} {xs : Nat → Int32} {D : va_G} {g : xG} {M : xM} (h : LC p s m c b L xs D g) (hi : i + 6 ≤ L) (hR : RR mm M) (hm : mm < 536870912) (hc : cells + 6 ≤ 601024) (hs : slots + 36 ≤ 7293034)
    (kk : ∀ M2, RR (mm + 4000) M2 → WW p l e room_1 s m #[.ref b] below meth c (cells + 6) (slots + 36) Q 9 D g tbA 3076 (lvL b g i) [] M2) :
    WW p l e room_1 s m #[.ref b] below meth c cells slots Q 9 D g tbA 817 (lvL b g i) [] M := by
  obtain ⟨C0, hX, hbl, hbA, hL⟩ := id h
  have hT := C0.2.2.2.2.2.2.1
  obtain ⟨k, r, M1, bv, M2, res, Mo, e1, e2, hR2, hk, hq, hcase⟩ := okT_use (s_priceOf hR  (xs (i + 1))) (by decide)
  refine r_aload_n C0 (kk := 1) 1 rfl dL_law_817 ?_
  refine r_arg C0 hX hbl hbA (show i + 1 < L by omega) hL 0 4 rfl rfl (j := 1) rfl dL_law_818 dL_law_819 dL_law_821 dL_law_822 dL_law_823 ?_
  refine r_aload_n C0 (kk := 3) 3 rfl dL_law_824 ?_
  refine r_callSH C0 (As := [.ref (g.1 4 1664), .int (xs (i + 1)), .ref (g.1 9 5000)]) (rest := []) (c_L_priceOf l D g tbA hT hlst fbA oA e1 hk) w4_163 w4_164 w1_0 w4_165 hd_L_priceOf rfl ⟨rfl, rfl⟩ ⟨Nat.le_of_ble_eq_true rfl, Nat.le_of_ble_eq_true rfl⟩ (show cells + 1 ≤ 601024 by omega) (show slots + 6 * 1 ≤ 7293034 by omega) rfl (Nat.le_of_ble_eq_true rfl) dL_law_825 ?_
  refine r_istore C0 (lv2 := (5, .int res) :: lvL b g i) (by decide) rfl dL_law_828 ?_
  refine r_aload_n C0 (kk := 2) 3 rfl dL_law_830 ?_
  refine r_arg C0 hX hbl hbA (show i + 1 < L by omega) hL 1 5 rfl rfl (j := 1) rfl dL_law_831 dL_law_832 dL_law_834 dL_law_835 dL_law_836 ?_
  refine r_fcall C0 (As := [.int (xs (i + 1))]) (rest := []) (c_X7_priceOf l D g (tbX ++ tbM) (T_XM hT) mdXM e2) hq w7_149 w7_150 w7_151 w1_14 w7_152 (x_rec5 C0 mdA.1) hd_X7_priceOf rfl ⟨rfl, rfl⟩ ⟨Nat.le_of_ble_eq_true rfl, Nat.le_of_ble_eq_true rfl⟩ (show cells + 1 + 0 ≤ 601024 by omega) (show slots + 6 * 1 + 0 ≤ 7293034 by omega) rfl (Nat.le_of_ble_eq_true rfl) dL_law_837 ?_
  refine r_tail h hcase (show cells + 1 ≤ 601024 by omega) (show slots + 6 * 1 ≤ 7293034 by omega) dL_law_840 dL_law_842 dL_law_843 dL_law_846 dL_law_848 dL_law_853 dL_law_855 dL_law_858 dL_law_859 dL_law_860 dL_law_861 dL_law_863 dL_law_864 dL_law_865 dL_law_870 (by decide) ?_
  refine WW.widen (k := cells + 6) (n := slots + 36) (by omega) (by omega) ?_
  exact kk _ (RR_o (RR_mono hR2 (by omega)))
set_option maxRecDepth 100000 in
set_option maxHeartbeats 4000000 in
theorem case_22 (l : Launch) (hlst : l.stackTraces = false) {p : Program} {e : Env} {s : State} {m : MethodId} {below : List Frame} {meth : Method} {c : Code} {cells slots : Nat} {Q : State → Prop} {b L i mm : Nat} {xs : Nat → Int32} {D : va_G} {g : xG} {M : xM} (h : LC p s m c b L xs D g) (hi : i + 6 ≤ L) (hR : RR mm M) (hm : mm < 536870912) (hc : cells + 6 ≤ 601024) (hs : slots + 36 ≤ 7293034)
    (kk : ∀ M2, RR (mm + 4000) M2 → WW p l e room_1 s m #[.ref b] below meth c (cells + 6) (slots + 36) Q 9 D g tbA 3076 (lvL b g i) [] M2) :
    WW p l e room_1 s m #[.ref b] below meth c cells slots Q 9 D g tbA 873 (lvL b g i) [] M := by
  obtain ⟨C0, hX, hbl, hbA, hL⟩ := id h
  have hT := C0.2.2.2.2.2.2.1
  obtain ⟨k, r, M1, bv, M2, res, Mo, e1, e2, hR2, hk, hq, hcase⟩ := okT_use (s_stockOf hR  (xs (i + 1))) (by decide)
  refine r_aload_n C0 (kk := 1) 1 rfl dL_law_873 ?_
  refine r_arg C0 hX hbl hbA (show i + 1 < L by omega) hL 0 4 rfl rfl (j := 1) rfl dL_law_874 dL_law_875 dL_law_877 dL_law_878 dL_law_879 ?_
  refine r_aload_n C0 (kk := 3) 3 rfl dL_law_880 ?_
  refine r_callSH C0 (As := [.ref (g.1 4 1664), .int (xs (i + 1)), .ref (g.1 9 5000)]) (rest := []) (c_L_stockOf l D g tbA hT hlst fbA oA e1 hk) w4_170 w4_171 w1_0 w4_172 hd_L_stockOf rfl ⟨rfl, rfl⟩ ⟨Nat.le_of_ble_eq_true rfl, Nat.le_of_ble_eq_true rfl⟩ (show cells + 1 ≤ 601024 by omega) (show slots + 6 * 1 ≤ 7293034 by omega) rfl (Nat.le_of_ble_eq_true rfl) dL_law_881 ?_
  refine r_istore C0 (lv2 := (5, .int res) :: lvL b g i) (by decide) rfl dL_law_884 ?_
  refine r_aload_n C0 (kk := 2) 3 rfl dL_law_886 ?_
  refine r_arg C0 hX hbl hbA (show i + 1 < L by omega) hL 1 5 rfl rfl (j := 1) rfl dL_law_887 dL_law_888 dL_law_890 dL_law_891 dL_law_892 ?_
  refine r_fcall C0 (As := [.int (xs (i + 1))]) (rest := []) (c_X7_stockOf l D g (tbX ++ tbM) (T_XM hT) mdXM e2) hq w7_153 w7_154 w7_155 w1_14 w7_156 (x_rec5 C0 mdA.1) hd_X7_stockOf rfl ⟨rfl, rfl⟩ ⟨Nat.le_of_ble_eq_true rfl, Nat.le_of_ble_eq_true rfl⟩ (show cells + 1 + 0 ≤ 601024 by omega) (show slots + 6 * 1 + 0 ≤ 7293034 by omega) rfl (Nat.le_of_ble_eq_true rfl) dL_law_893 ?_
  refine r_tail h hcase (show cells + 1 ≤ 601024 by omega) (show slots + 6 * 1 ≤ 7293034 by omega) dL_law_896 dL_law_898 dL_law_899 dL_law_902 dL_law_904 dL_law_909 dL_law_911 dL_law_914 dL_law_915 dL_law_916 dL_law_917 dL_law_919 dL_law_920 dL_law_921 dL_law_926 (by decide) ?_
  refine WW.widen (k := cells + 6) (n := slots + 36) (by omega) (by omega) ?_
  exact kk _ (RR_o (RR_mono hR2 (by omega)))
set_option maxRecDepth 100000 in
set_option maxHeartbeats 4000000 in
theorem case_23 (l : Launch) (hlst : l.stackTraces = false) {p : Program} {e : Env} {s : State} {m : MethodId} {below : List Frame} {meth : Method} {c : Code} {cells slots : Nat} {Q : State → Prop} {b L i mm : Nat} {xs : Nat → Int32} {D : va_G} {g : xG} {M : xM} (h : LC p s m c b L xs D g) (hi : i + 6 ≤ L) (hR : RR mm M) (hm : mm < 536870912) (hc : cells + 6 ≤ 601024) (hs : slots + 36 ≤ 7293034)
    (kk : ∀ M2, RR (mm + 4000) M2 → WW p l e room_1 s m #[.ref b] below meth c (cells + 6) (slots + 36) Q 9 D g tbA 3076 (lvL b g i) [] M2) :
    WW p l e room_1 s m #[.ref b] below meth c cells slots Q 9 D g tbA 929 (lvL b g i) [] M := by
  obtain ⟨C0, hX, hbl, hbA, hL⟩ := id h
  have hT := C0.2.2.2.2.2.2.1
  obtain ⟨k, r, M1, bv, M2, res, Mo, e1, e2, hR2, hk, hq, hcase⟩ := okT_use (s_heldOf hR  (xs (i + 1))) (by decide)
  refine r_aload_n C0 (kk := 1) 1 rfl dL_law_929 ?_
  refine r_arg C0 hX hbl hbA (show i + 1 < L by omega) hL 0 4 rfl rfl (j := 1) rfl dL_law_930 dL_law_931 dL_law_933 dL_law_934 dL_law_935 ?_
  refine r_aload_n C0 (kk := 3) 3 rfl dL_law_936 ?_
  refine r_callSH C0 (As := [.ref (g.1 4 1664), .int (xs (i + 1)), .ref (g.1 9 5000)]) (rest := []) (c_L_heldOf l D g tbA hT hlst fbA oA e1 hk) w4_177 w4_178 w1_0 w4_179 hd_L_heldOf rfl ⟨rfl, rfl⟩ ⟨Nat.le_of_ble_eq_true rfl, Nat.le_of_ble_eq_true rfl⟩ (show cells + 1 ≤ 601024 by omega) (show slots + 6 * 1 ≤ 7293034 by omega) rfl (Nat.le_of_ble_eq_true rfl) dL_law_937 ?_
  refine r_istore C0 (lv2 := (5, .int res) :: lvL b g i) (by decide) rfl dL_law_940 ?_
  refine r_aload_n C0 (kk := 2) 3 rfl dL_law_942 ?_
  refine r_arg C0 hX hbl hbA (show i + 1 < L by omega) hL 1 5 rfl rfl (j := 1) rfl dL_law_943 dL_law_944 dL_law_946 dL_law_947 dL_law_948 ?_
  refine r_fcall C0 (As := [.int (xs (i + 1))]) (rest := []) (c_X7_heldOf l D g (tbX ++ tbM) (T_XM hT) mdXM e2) hq w7_157 w7_158 w7_159 w1_14 w7_160 (x_rec5 C0 mdA.1) hd_X7_heldOf rfl ⟨rfl, rfl⟩ ⟨Nat.le_of_ble_eq_true rfl, Nat.le_of_ble_eq_true rfl⟩ (show cells + 1 + 0 ≤ 601024 by omega) (show slots + 6 * 1 + 0 ≤ 7293034 by omega) rfl (Nat.le_of_ble_eq_true rfl) dL_law_949 ?_
  refine r_tail h hcase (show cells + 1 ≤ 601024 by omega) (show slots + 6 * 1 ≤ 7293034 by omega) dL_law_952 dL_law_954 dL_law_955 dL_law_958 dL_law_960 dL_law_965 dL_law_967 dL_law_970 dL_law_971 dL_law_972 dL_law_973 dL_law_975 dL_law_976 dL_law_977 dL_law_982 (by decide) ?_
  refine WW.widen (k := cells + 6) (n := slots + 36) (by omega) (by omega) ?_
  exact kk _ (RR_o (RR_mono hR2 (by omega)))
set_option maxRecDepth 100000 in
set_option maxHeartbeats 4000000 in
theorem case_24 (l : Launch) (hlst : l.stackTraces = false) {p : Program} {e : Env} {s : State} {m : MethodId} {below : List Frame} {meth : Method} {c : Code} {cells slots : Nat} {Q : State → Prop} {b L i mm : Nat} {xs : Nat → Int32} {D : va_G} {g : xG} {M : xM} (h : LC p s m c b L xs D g) (hi : i + 6 ≤ L) (hR : RR mm M) (hm : mm < 536870912) (hc : cells + 6 ≤ 601024) (hs : slots + 36 ≤ 7293034)
    (kk : ∀ M2, RR (mm + 4000) M2 → WW p l e room_1 s m #[.ref b] below meth c (cells + 6) (slots + 36) Q 9 D g tbA 3076 (lvL b g i) [] M2) :
    WW p l e room_1 s m #[.ref b] below meth c cells slots Q 9 D g tbA 985 (lvL b g i) [] M := by
  obtain ⟨C0, hX, hbl, hbA, hL⟩ := id h
  have hT := C0.2.2.2.2.2.2.1
  obtain ⟨k, r, M1, bv, M2, res, Mo, e1, e2, hR2, hk, hq, hcase⟩ := okT_use (s_soldOf hR  (xs (i + 1))) (by decide)
  refine r_aload_n C0 (kk := 1) 1 rfl dL_law_985 ?_
  refine r_arg C0 hX hbl hbA (show i + 1 < L by omega) hL 0 4 rfl rfl (j := 1) rfl dL_law_986 dL_law_987 dL_law_989 dL_law_990 dL_law_991 ?_
  refine r_aload_n C0 (kk := 3) 3 rfl dL_law_992 ?_
  refine r_callSH C0 (As := [.ref (g.1 4 1664), .int (xs (i + 1)), .ref (g.1 9 5000)]) (rest := []) (c_L_soldOf l D g tbA hT hlst fbA oA e1 hk) w4_184 w4_185 w1_0 w4_186 hd_L_soldOf rfl ⟨rfl, rfl⟩ ⟨Nat.le_of_ble_eq_true rfl, Nat.le_of_ble_eq_true rfl⟩ (show cells + 1 ≤ 601024 by omega) (show slots + 6 * 1 ≤ 7293034 by omega) rfl (Nat.le_of_ble_eq_true rfl) dL_law_993 ?_
  refine r_istore C0 (lv2 := (5, .int res) :: lvL b g i) (by decide) rfl dL_law_996 ?_
  refine r_aload_n C0 (kk := 2) 3 rfl dL_law_998 ?_
  refine r_arg C0 hX hbl hbA (show i + 1 < L by omega) hL 1 5 rfl rfl (j := 1) rfl dL_law_999 dL_law_1000 dL_law_1002 dL_law_1003 dL_law_1004 ?_
  refine r_fcall C0 (As := [.int (xs (i + 1))]) (rest := []) (c_X7_soldOf l D g (tbX ++ tbM) (T_XM hT) mdXM e2) hq w7_165 w7_166 w7_167 w1_14 w7_168 (x_rec5 C0 mdA.1) hd_X7_soldOf rfl ⟨rfl, rfl⟩ ⟨Nat.le_of_ble_eq_true rfl, Nat.le_of_ble_eq_true rfl⟩ (show cells + 1 + 0 ≤ 601024 by omega) (show slots + 6 * 1 + 0 ≤ 7293034 by omega) rfl (Nat.le_of_ble_eq_true rfl) dL_law_1005 ?_
  refine r_tail h hcase (show cells + 1 ≤ 601024 by omega) (show slots + 6 * 1 ≤ 7293034 by omega) dL_law_1008 dL_law_1010 dL_law_1011 dL_law_1014 dL_law_1016 dL_law_1021 dL_law_1023 dL_law_1026 dL_law_1027 dL_law_1028 dL_law_1029 dL_law_1031 dL_law_1032 dL_law_1033 dL_law_1038 (by decide) ?_
  refine WW.widen (k := cells + 6) (n := slots + 36) (by omega) (by omega) ?_
  exact kk _ (RR_o (RR_mono hR2 (by omega)))
set_option maxRecDepth 100000 in
set_option maxHeartbeats 4000000 in
theorem case_25 (l : Launch) (hlst : l.stackTraces = false) {p : Program} {e : Env} {s : State} {m : MethodId} {below : List Frame} {meth : Method} {c : Code} {cells slots : Nat} {Q : State → Prop} {b L i mm : Nat} {xs : Nat → Int32} {D : va_G} {g : xG} {M : xM} (h : LC p s m c b L xs D g) (hi : i + 6 ≤ L) (hR : RR mm M) (hm : mm < 536870912) (hc : cells + 6 ≤ 601024) (hs : slots + 36 ≤ 7293034)
    (kk : ∀ M2, RR (mm + 4000) M2 → WW p l e room_1 s m #[.ref b] below meth c (cells + 6) (slots + 36) Q 9 D g tbA 3076 (lvL b g i) [] M2) :
    WW p l e room_1 s m #[.ref b] below meth c cells slots Q 9 D g tbA 1041 (lvL b g i) [] M := by
  obtain ⟨C0, hX, hbl, hbA, hL⟩ := id h
  have hT := C0.2.2.2.2.2.2.1
  obtain ⟨k, r, M1, bv, M2, res, Mo, e1, e2, hR2, hk, hq, hcase⟩ := okT_use (s_lostOf hR  (xs (i + 1))) (by decide)
  refine r_aload_n C0 (kk := 1) 1 rfl dL_law_1041 ?_
  refine r_arg C0 hX hbl hbA (show i + 1 < L by omega) hL 0 4 rfl rfl (j := 1) rfl dL_law_1042 dL_law_1043 dL_law_1045 dL_law_1046 dL_law_1047 ?_
  refine r_aload_n C0 (kk := 3) 3 rfl dL_law_1048 ?_
  refine r_callSH C0 (As := [.ref (g.1 4 1664), .int (xs (i + 1)), .ref (g.1 9 5000)]) (rest := []) (c_L_lostOf l D g tbA hT hlst fbA oA e1 hk) w4_191 w4_192 w1_0 w4_193 hd_L_lostOf rfl ⟨rfl, rfl⟩ ⟨Nat.le_of_ble_eq_true rfl, Nat.le_of_ble_eq_true rfl⟩ (show cells + 1 ≤ 601024 by omega) (show slots + 6 * 1 ≤ 7293034 by omega) rfl (Nat.le_of_ble_eq_true rfl) dL_law_1049 ?_
  refine r_istore C0 (lv2 := (5, .int res) :: lvL b g i) (by decide) rfl dL_law_1052 ?_
  refine r_aload_n C0 (kk := 2) 3 rfl dL_law_1054 ?_
  refine r_arg C0 hX hbl hbA (show i + 1 < L by omega) hL 1 5 rfl rfl (j := 1) rfl dL_law_1055 dL_law_1056 dL_law_1058 dL_law_1059 dL_law_1060 ?_
  refine r_fcall C0 (As := [.int (xs (i + 1))]) (rest := []) (c_X7_lostOf l D g (tbX ++ tbM) (T_XM hT) mdXM e2) hq w7_169 w7_170 w7_171 w1_14 w7_172 (x_rec5 C0 mdA.1) hd_X7_lostOf rfl ⟨rfl, rfl⟩ ⟨Nat.le_of_ble_eq_true rfl, Nat.le_of_ble_eq_true rfl⟩ (show cells + 1 + 0 ≤ 601024 by omega) (show slots + 6 * 1 + 0 ≤ 7293034 by omega) rfl (Nat.le_of_ble_eq_true rfl) dL_law_1061 ?_
  refine r_tail h hcase (show cells + 1 ≤ 601024 by omega) (show slots + 6 * 1 ≤ 7293034 by omega) dL_law_1064 dL_law_1066 dL_law_1067 dL_law_1070 dL_law_1072 dL_law_1077 dL_law_1079 dL_law_1082 dL_law_1083 dL_law_1084 dL_law_1085 dL_law_1087 dL_law_1088 dL_law_1089 dL_law_1094 (by decide) ?_
  refine WW.widen (k := cells + 6) (n := slots + 36) (by omega) (by omega) ?_
  exact kk _ (RR_o (RR_mono hR2 (by omega)))
set_option maxRecDepth 100000 in
set_option maxHeartbeats 4000000 in
theorem case_26 (l : Launch) (hlst : l.stackTraces = false) {p : Program} {e : Env} {s : State} {m : MethodId} {below : List Frame} {meth : Method} {c : Code} {cells slots : Nat} {Q : State → Prop} {b L i mm : Nat} {xs : Nat → Int32} {D : va_G} {g : xG} {M : xM} (h : LC p s m c b L xs D g) (hi : i + 6 ≤ L) (hR : RR mm M) (hm : mm < 536870912) (hc : cells + 6 ≤ 601024) (hs : slots + 36 ≤ 7293034)
    (kk : ∀ M2, RR (mm + 4000) M2 → WW p l e room_1 s m #[.ref b] below meth c (cells + 6) (slots + 36) Q 9 D g tbA 3076 (lvL b g i) [] M2) :
    WW p l e room_1 s m #[.ref b] below meth c cells slots Q 9 D g tbA 1097 (lvL b g i) [] M := by
  obtain ⟨C0, hX, hbl, hbA, hL⟩ := id h
  have hT := C0.2.2.2.2.2.2.1
  obtain ⟨k, r, M1, bv, M2, res, Mo, e1, e2, hR2, hk, hq, hcase⟩ := okT_use (s_earnings hR  (xs (i + 1))) (by decide)
  refine r_aload_n C0 (kk := 1) 1 rfl dL_law_1097 ?_
  refine r_arg C0 hX hbl hbA (show i + 1 < L by omega) hL 0 4 rfl rfl (j := 1) rfl dL_law_1098 dL_law_1099 dL_law_1101 dL_law_1102 dL_law_1103 ?_
  refine r_aload_n C0 (kk := 3) 3 rfl dL_law_1104 ?_
  refine r_callSH C0 (As := [.ref (g.1 4 1664), .int (xs (i + 1)), .ref (g.1 9 5000)]) (rest := []) (c_L_earnings l D g tbA hT hlst fbA oA e1 hk) w4_198 w4_199 w1_0 w4_200 hd_L_earnings rfl ⟨rfl, rfl⟩ ⟨Nat.le_of_ble_eq_true rfl, Nat.le_of_ble_eq_true rfl⟩ (show cells + 1 ≤ 601024 by omega) (show slots + 6 * 1 ≤ 7293034 by omega) rfl (Nat.le_of_ble_eq_true rfl) dL_law_1105 ?_
  refine r_istore C0 (lv2 := (5, .int res) :: lvL b g i) (by decide) rfl dL_law_1108 ?_
  refine r_aload_n C0 (kk := 2) 3 rfl dL_law_1110 ?_
  refine r_arg C0 hX hbl hbA (show i + 1 < L by omega) hL 1 5 rfl rfl (j := 1) rfl dL_law_1111 dL_law_1112 dL_law_1114 dL_law_1115 dL_law_1116 ?_
  refine r_fcall C0 (As := [.int (xs (i + 1))]) (rest := []) (c_X7_earnings l D g (tbX ++ tbM) (T_XM hT) mdXM e2) hq w7_173 w7_174 w7_175 w1_14 w7_176 (x_rec5 C0 mdA.1) hd_X7_earnings rfl ⟨rfl, rfl⟩ ⟨Nat.le_of_ble_eq_true rfl, Nat.le_of_ble_eq_true rfl⟩ (show cells + 1 + 0 ≤ 601024 by omega) (show slots + 6 * 1 + 0 ≤ 7293034 by omega) rfl (Nat.le_of_ble_eq_true rfl) dL_law_1117 ?_
  refine r_tail h hcase (show cells + 1 ≤ 601024 by omega) (show slots + 6 * 1 ≤ 7293034 by omega) dL_law_1120 dL_law_1122 dL_law_1123 dL_law_1126 dL_law_1128 dL_law_1133 dL_law_1135 dL_law_1138 dL_law_1139 dL_law_1140 dL_law_1141 dL_law_1143 dL_law_1144 dL_law_1145 dL_law_1150 (by decide) ?_
  refine WW.widen (k := cells + 6) (n := slots + 36) (by omega) (by omega) ?_
  exact kk _ (RR_o (RR_mono hR2 (by omega)))
set_option maxRecDepth 100000 in
set_option maxHeartbeats 4000000 in
theorem case_27 (l : Launch) (hlst : l.stackTraces = false) {p : Program} {e : Env} {s : State} {m : MethodId} {below : List Frame} {meth : Method} {c : Code} {cells slots : Nat} {Q : State → Prop} {b L i mm : Nat} {xs : Nat → Int32} {D : va_G} {g : xG} {M : xM} (h : LC p s m c b L xs D g) (hi : i + 6 ≤ L) (hR : RR mm M) (hm : mm < 536870912) (hc : cells + 6 ≤ 601024) (hs : slots + 36 ≤ 7293034)
    (kk : ∀ M2, RR (mm + 4000) M2 → WW p l e room_1 s m #[.ref b] below meth c (cells + 6) (slots + 36) Q 9 D g tbA 3076 (lvL b g i) [] M2) :
    WW p l e room_1 s m #[.ref b] below meth c cells slots Q 9 D g tbA 1153 (lvL b g i) [] M := by
  obtain ⟨C0, hX, hbl, hbA, hL⟩ := id h
  have hT := C0.2.2.2.2.2.2.1
  obtain ⟨k, r, M1, bv, M2, res, Mo, e1, e2, hR2, hk, hq, hcase⟩ := okT_use (s_reach hR  (xs (i + 1)) (xs (i + 2))) (by decide)
  refine r_aload_n C0 (kk := 1) 1 rfl dL_law_1153 ?_
  refine r_arg C0 hX hbl hbA (show i + 1 < L by omega) hL 0 4 rfl rfl (j := 1) rfl dL_law_1154 dL_law_1155 dL_law_1157 dL_law_1158 dL_law_1159 ?_
  refine r_arg C0 hX hbl hbA (show i + 2 < L by omega) hL 0 4 rfl rfl (j := 2) rfl dL_law_1160 dL_law_1161 dL_law_1163 dL_law_1164 dL_law_1165 ?_
  refine r_aload_n C0 (kk := 3) 3 rfl dL_law_1166 ?_
  refine r_callSH C0 (As := [.ref (g.1 4 1664), .int (xs (i + 1)), .int (xs (i + 2)), .ref (g.1 9 5000)]) (rest := []) (c_L_reach l D g tbA hT hlst fbA oA e1 hk) w4_205 w4_206 w1_0 w4_207 hd_L_reach rfl ⟨rfl, rfl⟩ ⟨Nat.le_of_ble_eq_true rfl, Nat.le_of_ble_eq_true rfl⟩ (show cells + 2 ≤ 601024 by omega) (show slots + 6 * 2 ≤ 7293034 by omega) rfl (Nat.le_of_ble_eq_true rfl) dL_law_1167 ?_
  refine r_istore C0 (lv2 := (5, .int res) :: lvL b g i) (by decide) rfl dL_law_1170 ?_
  refine r_aload_n C0 (kk := 2) 3 rfl dL_law_1172 ?_
  refine r_arg C0 hX hbl hbA (show i + 1 < L by omega) hL 1 5 rfl rfl (j := 1) rfl dL_law_1173 dL_law_1174 dL_law_1176 dL_law_1177 dL_law_1178 ?_
  refine r_arg C0 hX hbl hbA (show i + 2 < L by omega) hL 1 5 rfl rfl (j := 2) rfl dL_law_1179 dL_law_1180 dL_law_1182 dL_law_1183 dL_law_1184 ?_
  refine r_fcall C0 (As := [.int (xs (i + 1)), .int (xs (i + 2))]) (rest := []) (c_X7_reach l D g (tbX ++ tbM) (T_XM hT) mdXM e2) hq w7_177 w7_178 w7_179 w1_14 w7_180 (x_rec5 C0 mdA.1) hd_X7_reach rfl ⟨rfl, rfl⟩ ⟨Nat.le_of_ble_eq_true rfl, Nat.le_of_ble_eq_true rfl⟩ (show cells + 2 + 0 ≤ 601024 by omega) (show slots + 6 * 2 + 0 ≤ 7293034 by omega) rfl (Nat.le_of_ble_eq_true rfl) dL_law_1185 ?_
  refine r_tail h hcase (show cells + 2 ≤ 601024 by omega) (show slots + 6 * 2 ≤ 7293034 by omega) dL_law_1188 dL_law_1190 dL_law_1191 dL_law_1194 dL_law_1196 dL_law_1201 dL_law_1203 dL_law_1206 dL_law_1207 dL_law_1208 dL_law_1209 dL_law_1211 dL_law_1212 dL_law_1213 dL_law_1218 (by decide) ?_
  refine WW.widen (k := cells + 6) (n := slots + 36) (by omega) (by omega) ?_
  exact kk _ (RR_o (RR_mono hR2 (by omega)))
set_option maxRecDepth 100000 in
set_option maxHeartbeats 4000000 in
theorem case_28 (l : Launch) (hlst : l.stackTraces = false) {p : Program} {e : Env} {s : State} {m : MethodId} {below : List Frame} {meth : Method} {c : Code} {cells slots : Nat} {Q : State → Prop} {b L i mm : Nat} {xs : Nat → Int32} {D : va_G} {g : xG} {M : xM} (h : LC p s m c b L xs D g) (hi : i + 6 ≤ L) (hR : RR mm M) (hm : mm < 536870912) (hc : cells + 6 ≤ 601024) (hs : slots + 36 ≤ 7293034)
    (kk : ∀ M2, RR (mm + 4000) M2 → WW p l e room_1 s m #[.ref b] below meth c (cells + 6) (slots + 36) Q 9 D g tbA 3076 (lvL b g i) [] M2) :
    WW p l e room_1 s m #[.ref b] below meth c cells slots Q 9 D g tbA 1221 (lvL b g i) [] M := by
  obtain ⟨C0, hX, hbl, hbA, hL⟩ := id h
  have hT := C0.2.2.2.2.2.2.1
  obtain ⟨k, r, M1, bv, M2, res, Mo, e1, e2, hR2, hk, hq, hcase⟩ := okT_use (s_seenFrom hR (by omega) (xs (i + 1))) (by decide)
  refine r_aload_n C0 (kk := 1) 1 rfl dL_law_1221 ?_
  refine r_arg C0 hX hbl hbA (show i + 1 < L by omega) hL 0 4 rfl rfl (j := 1) rfl dL_law_1222 dL_law_1223 dL_law_1225 dL_law_1226 dL_law_1227 ?_
  refine r_aload_n C0 (kk := 3) 3 rfl dL_law_1228 ?_
  refine r_callSH C0 (As := [.ref (g.1 4 1664), .int (xs (i + 1)), .ref (g.1 9 5000)]) (rest := []) (c_L_seenFrom l D g tbA hT hlst fbA oA e1 hk) w4_213 w4_214 w1_0 w4_215 hd_L_seenFrom rfl ⟨rfl, rfl⟩ ⟨Nat.le_of_ble_eq_true rfl, Nat.le_of_ble_eq_true rfl⟩ (show cells + 1 ≤ 601024 by omega) (show slots + 6 * 1 ≤ 7293034 by omega) rfl (Nat.le_of_ble_eq_true rfl) dL_law_1229 ?_
  refine r_istore C0 (lv2 := (5, .int res) :: lvL b g i) (by decide) rfl dL_law_1232 ?_
  refine r_aload_n C0 (kk := 2) 3 rfl dL_law_1234 ?_
  refine r_arg C0 hX hbl hbA (show i + 1 < L by omega) hL 1 5 rfl rfl (j := 1) rfl dL_law_1235 dL_law_1236 dL_law_1238 dL_law_1239 dL_law_1240 ?_
  refine r_fcall C0 (As := [.int (xs (i + 1))]) (rest := []) (c_X7_seenFrom l D g (tbX ++ tbM) (T_XM hT) mdXM e2) hq w7_181 w7_182 w7_183 w1_14 w7_184 (x_rec5 C0 mdA.1) hd_X7_seenFrom rfl ⟨rfl, rfl⟩ ⟨Nat.le_of_ble_eq_true rfl, Nat.le_of_ble_eq_true rfl⟩ (show cells + 1 + 0 ≤ 601024 by omega) (show slots + 6 * 1 + 0 ≤ 7293034 by omega) rfl (Nat.le_of_ble_eq_true rfl) dL_law_1241 ?_
  refine r_tail h hcase (show cells + 1 ≤ 601024 by omega) (show slots + 6 * 1 ≤ 7293034 by omega) dL_law_1244 dL_law_1246 dL_law_1247 dL_law_1250 dL_law_1252 dL_law_1257 dL_law_1259 dL_law_1262 dL_law_1263 dL_law_1264 dL_law_1265 dL_law_1267 dL_law_1268 dL_law_1269 dL_law_1274 (by decide) ?_
  refine WW.widen (k := cells + 6) (n := slots + 36) (by omega) (by omega) ?_
  exact kk _ (RR_o (RR_mono hR2 (by omega)))
set_option maxRecDepth 100000 in
set_option maxHeartbeats 4000000 in
theorem case_29 (l : Launch) (hlst : l.stackTraces = false) {p : Program} {e : Env} {s : State} {m : MethodId} {below : List Frame} {meth : Method} {c : Code} {cells slots : Nat} {Q : State → Prop} {b L i mm : Nat} {xs : Nat → Int32} {D : va_G} {g : xG} {M : xM} (h : LC p s m c b L xs D g) (hi : i + 6 ≤ L) (hR : RR mm M) (hm : mm < 536870912) (hc : cells + 6 ≤ 601024) (hs : slots + 36 ≤ 7293034)
    (kk : ∀ M2, RR (mm + 4000) M2 → WW p l e room_1 s m #[.ref b] below meth c (cells + 6) (slots + 36) Q 9 D g tbA 3076 (lvL b g i) [] M2) :
    WW p l e room_1 s m #[.ref b] below meth c cells slots Q 9 D g tbA 1277 (lvL b g i) [] M := by
  obtain ⟨C0, hX, hbl, hbA, hL⟩ := id h
  have hT := C0.2.2.2.2.2.2.1
  obtain ⟨r, M1, M2, e1, e2, hR2⟩ := s_buyerCount hR  
  refine r_aload_n C0 (kk := 1) 1 rfl dL_law_1277 ?_
  refine r_callVi C0 (As := []) (rest := []) (c_X6_buyerCount l D g tbA hT fbA e1) w3_222 w3_223 w3_224 w1_1 w3_225 (x_rec4 C0 fbA.1) hd_X6_buyerCount rfl ⟨rfl, rfl⟩ ⟨Nat.le_of_ble_eq_true rfl, Nat.le_of_ble_eq_true rfl⟩ (show cells + 0 ≤ 601024 by omega) (show slots + 0 ≤ 7293034 by omega) rfl (Nat.le_of_ble_eq_true rfl) dL_law_1278 ?_
  refine r_aload_n C0 (kk := 2) 2 rfl dL_law_1281 ?_
  refine r_callVi C0 (As := []) (rest := [.int r]) (c_X7_buyerCount l D g tbA hT mdA e2) w7_185 w7_186 w7_187 w1_14 w7_188 (x_rec5 C0 mdA.1) hd_X7_buyerCount rfl ⟨rfl, rfl⟩ ⟨Nat.le_of_ble_eq_true rfl, Nat.le_of_ble_eq_true rfl⟩ (show cells + 0 ≤ 601024 by omega) (show slots + 0 ≤ 7293034 by omega) rfl (Nat.le_of_ble_eq_true rfl) dL_law_1282 ?_
  refine r_icmp_eq C0 (tgt := 3076) (by decide) dL_law_1285 (fun q => ?_) (fun q => absurd rfl q)
  refine WW.widen (k := cells + 6) (n := slots + 36) (by omega) (by omega) ?_
  exact kk _ (RR_mono hR2 (by omega))
set_option maxRecDepth 100000 in
set_option maxHeartbeats 4000000 in
theorem case_30 (l : Launch) (hlst : l.stackTraces = false) {p : Program} {e : Env} {s : State} {m : MethodId} {below : List Frame} {meth : Method} {c : Code} {cells slots : Nat} {Q : State → Prop} {b L i mm : Nat} {xs : Nat → Int32} {D : va_G} {g : xG} {M : xM} (h : LC p s m c b L xs D g) (hi : i + 6 ≤ L) (hR : RR mm M) (hm : mm < 536870912) (hc : cells + 6 ≤ 601024) (hs : slots + 36 ≤ 7293034)
    (kk : ∀ M2, RR (mm + 4000) M2 → WW p l e room_1 s m #[.ref b] below meth c (cells + 6) (slots + 36) Q 9 D g tbA 3076 (lvL b g i) [] M2) :
    WW p l e room_1 s m #[.ref b] below meth c cells slots Q 9 D g tbA 1290 (lvL b g i) [] M := by
  obtain ⟨C0, hX, hbl, hbA, hL⟩ := id h
  have hT := C0.2.2.2.2.2.2.1
  obtain ⟨k, r, M1, bv, M2, res, Mo, e1, e2, hR2, hk, hq, hcase⟩ := okT_use (s_placeOf hR  (xs (i + 1))) (by decide)
  refine r_aload_n C0 (kk := 1) 1 rfl dL_law_1290 ?_
  refine r_arg C0 hX hbl hbA (show i + 1 < L by omega) hL 0 4 rfl rfl (j := 1) rfl dL_law_1291 dL_law_1292 dL_law_1294 dL_law_1295 dL_law_1296 ?_
  refine r_aload_n C0 (kk := 3) 3 rfl dL_law_1297 ?_
  refine r_callSH C0 (As := [.ref (g.1 4 1664), .int (xs (i + 1)), .ref (g.1 9 5000)]) (rest := []) (c_L_placeOf l D g tbA hT hlst fbA oA e1 hk) w4_226 w4_227 w1_0 w4_228 hd_L_placeOf rfl ⟨rfl, rfl⟩ ⟨Nat.le_of_ble_eq_true rfl, Nat.le_of_ble_eq_true rfl⟩ (show cells + 1 ≤ 601024 by omega) (show slots + 6 * 1 ≤ 7293034 by omega) rfl (Nat.le_of_ble_eq_true rfl) dL_law_1298 ?_
  refine r_istore C0 (lv2 := (5, .int res) :: lvL b g i) (by decide) rfl dL_law_1301 ?_
  refine r_aload_n C0 (kk := 2) 3 rfl dL_law_1303 ?_
  refine r_arg C0 hX hbl hbA (show i + 1 < L by omega) hL 1 5 rfl rfl (j := 1) rfl dL_law_1304 dL_law_1305 dL_law_1307 dL_law_1308 dL_law_1309 ?_
  refine r_fcall C0 (As := [.int (xs (i + 1))]) (rest := []) (c_X7_placeOf l D g (tbX ++ tbM) (T_XM hT) mdXM e2) hq w7_189 w7_190 w7_191 w1_14 w7_192 (x_rec5 C0 mdA.1) hd_X7_placeOf rfl ⟨rfl, rfl⟩ ⟨Nat.le_of_ble_eq_true rfl, Nat.le_of_ble_eq_true rfl⟩ (show cells + 1 + 0 ≤ 601024 by omega) (show slots + 6 * 1 + 0 ≤ 7293034 by omega) rfl (Nat.le_of_ble_eq_true rfl) dL_law_1310 ?_
  refine r_tail h hcase (show cells + 1 ≤ 601024 by omega) (show slots + 6 * 1 ≤ 7293034 by omega) dL_law_1313 dL_law_1315 dL_law_1316 dL_law_1319 dL_law_1321 dL_law_1326 dL_law_1328 dL_law_1331 dL_law_1332 dL_law_1333 dL_law_1334 dL_law_1336 dL_law_1337 dL_law_1338 dL_law_1343 (by decide) ?_
  refine WW.widen (k := cells + 6) (n := slots + 36) (by omega) (by omega) ?_
  exact kk _ (RR_o (RR_mono hR2 (by omega)))
set_option maxRecDepth 100000 in
set_option maxHeartbeats 4000000 in
theorem case_31 (l : Launch) (hlst : l.stackTraces = false) {p : Program} {e : Env} {s : State} {m : MethodId} {below : List Frame} {meth : Method} {c : Code} {cells slots : Nat} {Q : State → Prop} {b L i mm : Nat} {xs : Nat → Int32} {D : va_G} {g : xG} {M : xM} (h : LC p s m c b L xs D g) (hi : i + 6 ≤ L) (hR : RR mm M) (hm : mm < 536870912) (hc : cells + 6 ≤ 601024) (hs : slots + 36 ≤ 7293034)
    (kk : ∀ M2, RR (mm + 4000) M2 → WW p l e room_1 s m #[.ref b] below meth c (cells + 6) (slots + 36) Q 9 D g tbA 3076 (lvL b g i) [] M2) :
    WW p l e room_1 s m #[.ref b] below meth c cells slots Q 9 D g tbA 1346 (lvL b g i) [] M := by
  obtain ⟨C0, hX, hbl, hbA, hL⟩ := id h
  have hT := C0.2.2.2.2.2.2.1
  obtain ⟨k, r, M1, bv, M2, res, Mo, e1, e2, hR2, hk, hq, hcase⟩ := okT_use (s_coinsOf hR  (xs (i + 1))) (by decide)
  refine r_aload_n C0 (kk := 1) 1 rfl dL_law_1346 ?_
  refine r_arg C0 hX hbl hbA (show i + 1 < L by omega) hL 0 4 rfl rfl (j := 1) rfl dL_law_1347 dL_law_1348 dL_law_1350 dL_law_1351 dL_law_1352 ?_
  refine r_aload_n C0 (kk := 3) 3 rfl dL_law_1353 ?_
  refine r_callSH C0 (As := [.ref (g.1 4 1664), .int (xs (i + 1)), .ref (g.1 9 5000)]) (rest := []) (c_L_coinsOf l D g tbA hT hlst fbA oA e1 hk) w5_2 w5_3 w1_0 w5_4 hd_L_coinsOf rfl ⟨rfl, rfl⟩ ⟨Nat.le_of_ble_eq_true rfl, Nat.le_of_ble_eq_true rfl⟩ (show cells + 1 ≤ 601024 by omega) (show slots + 6 * 1 ≤ 7293034 by omega) rfl (Nat.le_of_ble_eq_true rfl) dL_law_1354 ?_
  refine r_istore C0 (lv2 := (5, .int res) :: lvL b g i) (by decide) rfl dL_law_1357 ?_
  refine r_aload_n C0 (kk := 2) 3 rfl dL_law_1359 ?_
  refine r_arg C0 hX hbl hbA (show i + 1 < L by omega) hL 1 5 rfl rfl (j := 1) rfl dL_law_1360 dL_law_1361 dL_law_1363 dL_law_1364 dL_law_1365 ?_
  refine r_fcall C0 (As := [.int (xs (i + 1))]) (rest := []) (c_X7_coinsOf l D g (tbX ++ tbM) (T_XM hT) mdXM e2) hq w7_201 w7_202 w7_203 w1_14 w7_204 (x_rec5 C0 mdA.1) hd_X7_coinsOf rfl ⟨rfl, rfl⟩ ⟨Nat.le_of_ble_eq_true rfl, Nat.le_of_ble_eq_true rfl⟩ (show cells + 1 + 0 ≤ 601024 by omega) (show slots + 6 * 1 + 0 ≤ 7293034 by omega) rfl (Nat.le_of_ble_eq_true rfl) dL_law_1366 ?_
  refine r_tail h hcase (show cells + 1 ≤ 601024 by omega) (show slots + 6 * 1 ≤ 7293034 by omega) dL_law_1369 dL_law_1371 dL_law_1372 dL_law_1375 dL_law_1377 dL_law_1382 dL_law_1384 dL_law_1387 dL_law_1388 dL_law_1389 dL_law_1390 dL_law_1392 dL_law_1393 dL_law_1394 dL_law_1399 (by decide) ?_
  refine WW.widen (k := cells + 6) (n := slots + 36) (by omega) (by omega) ?_
  exact kk _ (RR_o (RR_mono hR2 (by omega)))
