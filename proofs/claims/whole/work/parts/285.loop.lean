/-! the law's loop -/
theorem and63 (x : Int32) : ∃ j, j < 64 ∧ x &&& 63 = nI j := by
  refine ⟨(x &&& 63).toBitVec.toNat, ?_, ?_⟩
  · rw [Int32.toBitVec_and, BitVec.toNat_and]
    exact Nat.lt_of_le_of_lt Nat.and_le_right (by decide)
  · apply Int32.toBitVec_inj.mp
    show (x &&& 63).toBitVec = BitVec.ofNat 32 (x &&& 63).toBitVec.toNat
    simp
theorem sub6 : ∀ L, L < 6 → nI L - 6 < 0 := by decide +kernel
theorem gt_6 {L i : Nat} (hL : L ≤ 3072) (hi : i ≤ 4000) : (nI L - 6 < nI i) ↔ L < i + 6 := by
  by_cases h : L < 6
  · refine ⟨fun _ => by omega, fun _ => ?_⟩
    exact Int32.lt_of_lt_of_le (sub6 L h) (by have := nI_le (a := 0) (b := i) (by omega) (by omega); rwa [nI_0] at this)
  · have e : nI L - 6 = nI (L - 6) := by
      have h2 : nI (L - 6) + 6 = nI L := by
        rw [show (6 : Int32) = nI 6 from rfl, nI_add, show L - 6 + 6 = L by omega]
      rw [← h2, Int32.add_sub_cancel]
    rw [e, nI_ltI (by omega) (by omega)]
    omega
set_option maxRecDepth 100000 in
set_option maxHeartbeats 4000000 in
theorem law_loop (l : Launch) (hlst : l.stackTraces = false) {p : Program} {e : Env} {s : State} {m : MethodId} {below : List Frame} {meth : Method} {c : Code} {c0 s0 : Nat} {Q : State → Prop} {b L : Nat} {xs : Nat → Int32} {D : va_G} {g : xG} (h : LC p s m c b L xs D g) (hc0 : c0 ≤ 500000) (hs0 : s0 ≤ 5000000)
    (hE : ∀ (i cells slots : Nat) (M : xM), cells ≤ 601024 → slots ≤ 7293034 → WW p l e room_1 s m #[.ref b] below meth c cells slots Q 9 D g tbA 3082 (lvL b g i) [] M) :
    ∀ (n k : Nat) (M : xM), L + 1 ≤ 6 * k + n → k ≤ 513 → RR (4000 * (k + 1)) M → WW p l e room_1 s m #[.ref b] below meth c (c0 + 6 * k) (s0 + 36 * k) Q 9 D g tbA 23 (lvL b g (6 * k)) [] M := by
  intro n
  obtain ⟨C0, hX, hbl, hbA, hL⟩ := id h
  induction n with
  | zero =>
    intro k M hn hk hR
    refine r_iload C0 4 rfl dL_law_23 ?_
    refine r_aload_n C0 (kk := 0) 0 rfl dL_law_25 ?_
    refine r_sclen C0 hX hbl hbA dL_law_26 ?_
    refine r_bipush C0 (v := 6) dL_law_27 rfl ?_
    refine r_isub C0 dL_law_29 ?_
    refine r_icmp_gt C0 (tgt := 3082) (by decide) dL_law_30 (fun q => hE _ _ _ _ (by omega) (by omega)) (fun q => absurd ((gt_6 hL (by omega)).mpr (by omega)) q)
  | succ n ih =>
    intro k M hn hk hR
    refine r_iload C0 4 rfl dL_law_23 ?_
    refine r_aload_n C0 (kk := 0) 0 rfl dL_law_25 ?_
    refine r_sclen C0 hX hbl hbA dL_law_26 ?_
    refine r_bipush C0 (v := 6) dL_law_27 rfl ?_
    refine r_isub C0 dL_law_29 ?_
    refine r_icmp_gt C0 (tgt := 3082) (by decide) dL_law_30 (fun q => hE _ _ _ _ (by omega) (by omega)) (fun q => ?_)
    have hi : 6 * k + 6 ≤ L := by
      have : ¬ L < 6 * k + 6 := fun z => q ((gt_6 hL (i := 6 * k) (by omega)).mpr z)
      omega
    have hm : 4000 * (k + 1) < 536870912 := by omega
    have hc : c0 + 6 * k + 6 ≤ 601024 := by omega
    have hs : s0 + 36 * k + 36 ≤ 7293034 := by omega
    have kk : ∀ M2, RR (4000 * (k + 1) + 4000) M2 → WW p l e room_1 s m #[.ref b] below meth c (c0 + 6 * k + 6) (s0 + 36 * k + 36) Q 9 D g tbA 3076 (lvL b g (6 * k)) [] M2 := by
      intro M2 hR2
      refine r_iinc C0 4 rfl (v := nI (6 * (k + 1))) (show nI (6 * k) + Int32.ofInt 6 = nI (6 * (k + 1)) from nI_add (6 * k) 6) (by decide) (lv2 := [(4, .int (nI (6 * (k + 1)))), (0, .ref b), (1, .ref (g.1 4 1664)), (2, .ref (g.1 5 2500)), (3, .ref (g.1 9 5000))]) rfl dL_law_3076 ?_
      refine r_goto C0 (tgt := 23) (by decide) dL_law_3079 ?_
      refine WW.sub [1, 2, 3, 4, 0] rfl ?_
      have := ih (k + 1) M2 (by omega) (by omega) (by rw [show 4000 * (k + 1 + 1) = 4000 * (k + 1) + 4000 by omega]; exact hR2)
      rw [show c0 + 6 * k + 6 = c0 + 6 * (k + 1) by omega, show s0 + 36 * k + 36 = s0 + 36 * (k + 1) by omega]
      exact this
    refine r_aload_n C0 (kk := 0) 0 rfl dL_law_33 ?_
    refine r_iload C0 4 rfl dL_law_34 ?_
    refine r_sld C0 hX hbl hbA (vp_in_nI (show 6 * k < L by omega) (by omega)) dL_law_36 ?_
    refine r_bipush C0 (v := 63) dL_law_37 rfl ?_
    refine r_iand C0 dL_law_39 ?_
    obtain ⟨j, hj, ej⟩ := and63 (xs (nI (6 * k)).toNatClampNeg)
    match j, hj, ej with
    | 0, _, ej => exact r_tsc C0 (cst := 0) ej (by decide) (by decide) rfl (tgt := 312) (by decide) dL_law_40 (case_0 l hlst h hi hR hm hc hs kk)
    | 1, _, ej => exact r_tsc C0 (cst := 1) ej (by decide) (by decide) rfl (tgt := 385) (by decide) dL_law_40 (case_1 l hlst h hi hR hm hc hs kk)
    | 2, _, ej => exact r_tsc C0 (cst := 2) ej (by decide) (by decide) rfl (tgt := 398) (by decide) dL_law_40 (case_2 l hlst h hi hR hm hc hs kk)
    | 3, _, ej => exact r_tsc C0 (cst := 3) ej (by decide) (by decide) rfl (tgt := 411) (by decide) dL_law_40 (case_3 l hlst h hi hR hm hc hs kk)
    | 4, _, ej => exact r_tsc C0 (cst := 4) ej (by decide) (by decide) rfl (tgt := 424) (by decide) dL_law_40 (case_4 l hlst h hi hR hm hc hs kk)
    | 5, _, ej => exact r_tsc C0 (cst := 5) ej (by decide) (by decide) rfl (tgt := 437) (by decide) dL_law_40 (case_5 l hlst h hi hR hm hc hs kk)
    | 6, _, ej => exact r_tsc C0 (cst := 6) ej (by decide) (by decide) rfl (tgt := 450) (by decide) dL_law_40 (case_6 l hlst h hi hR hm hc hs kk)
    | 7, _, ej => exact r_tsc C0 (cst := 7) ej (by decide) (by decide) rfl (tgt := 463) (by decide) dL_law_40 (case_7 l hlst h hi hR hm hc hs kk)
    | 8, _, ej => exact r_tsc C0 (cst := 8) ej (by decide) (by decide) rfl (tgt := 476) (by decide) dL_law_40 (case_8 l hlst h hi hR hm hc hs kk)
    | 9, _, ej => exact r_tsc C0 (cst := 9) ej (by decide) (by decide) rfl (tgt := 489) (by decide) dL_law_40 (case_9 l hlst h hi hR hm hc hs kk)
    | 10, _, ej => exact r_tsc C0 (cst := 10) ej (by decide) (by decide) rfl (tgt := 502) (by decide) dL_law_40 (case_10 l hlst h hi hR hm hc hs kk)
    | 11, _, ej => exact r_tsc C0 (cst := 11) ej (by decide) (by decide) rfl (tgt := 558) (by decide) dL_law_40 (case_11 l hlst h hi hR hm hc hs kk)
    | 12, _, ej => exact r_tsc C0 (cst := 12) ej (by decide) (by decide) rfl (tgt := 571) (by decide) dL_law_40 (case_12 l hlst h hi hR hm hc hs kk)
    | 13, _, ej => exact r_tsc C0 (cst := 13) ej (by decide) (by decide) rfl (tgt := 584) (by decide) dL_law_40 (case_13 l hlst h hi hR hm hc hs kk)
    | 14, _, ej => exact r_tsc C0 (cst := 14) ej (by decide) (by decide) rfl (tgt := 597) (by decide) dL_law_40 (case_14 l hlst h hi hR hm hc hs kk)
    | 15, _, ej => exact r_tsc C0 (cst := 15) ej (by decide) (by decide) rfl (tgt := 610) (by decide) dL_law_40 (case_15 l hlst h hi hR hm hc hs kk)
    | 16, _, ej => exact r_tsc C0 (cst := 16) ej (by decide) (by decide) rfl (tgt := 623) (by decide) dL_law_40 (case_16 l hlst h hi hR hm hc hs kk)
    | 17, _, ej => exact r_tsc C0 (cst := 17) ej (by decide) (by decide) rfl (tgt := 636) (by decide) dL_law_40 (case_17 l hlst h hi hR hm hc hs kk)
    | 18, _, ej => exact r_tsc C0 (cst := 18) ej (by decide) (by decide) rfl (tgt := 649) (by decide) dL_law_40 (case_18 l hlst h hi hR hm hc hs kk)
    | 19, _, ej => exact r_tsc C0 (cst := 19) ej (by decide) (by decide) rfl (tgt := 705) (by decide) dL_law_40 (case_19 l hlst h hi hR hm hc hs kk)
    | 20, _, ej => exact r_tsc C0 (cst := 20) ej (by decide) (by decide) rfl (tgt := 761) (by decide) dL_law_40 (case_20 l hlst h hi hR hm hc hs kk)
    | 21, _, ej => exact r_tsc C0 (cst := 21) ej (by decide) (by decide) rfl (tgt := 817) (by decide) dL_law_40 (case_21 l hlst h hi hR hm hc hs kk)
    | 22, _, ej => exact r_tsc C0 (cst := 22) ej (by decide) (by decide) rfl (tgt := 873) (by decide) dL_law_40 (case_22 l hlst h hi hR hm hc hs kk)
    | 23, _, ej => exact r_tsc C0 (cst := 23) ej (by decide) (by decide) rfl (tgt := 929) (by decide) dL_law_40 (case_23 l hlst h hi hR hm hc hs kk)
    | 24, _, ej => exact r_tsc C0 (cst := 24) ej (by decide) (by decide) rfl (tgt := 985) (by decide) dL_law_40 (case_24 l hlst h hi hR hm hc hs kk)
    | 25, _, ej => exact r_tsc C0 (cst := 25) ej (by decide) (by decide) rfl (tgt := 1041) (by decide) dL_law_40 (case_25 l hlst h hi hR hm hc hs kk)
    | 26, _, ej => exact r_tsc C0 (cst := 26) ej (by decide) (by decide) rfl (tgt := 1097) (by decide) dL_law_40 (case_26 l hlst h hi hR hm hc hs kk)
    | 27, _, ej => exact r_tsc C0 (cst := 27) ej (by decide) (by decide) rfl (tgt := 1153) (by decide) dL_law_40 (case_27 l hlst h hi hR hm hc hs kk)
    | 28, _, ej => exact r_tsc C0 (cst := 28) ej (by decide) (by decide) rfl (tgt := 1221) (by decide) dL_law_40 (case_28 l hlst h hi hR hm hc hs kk)
    | 29, _, ej => exact r_tsc C0 (cst := 29) ej (by decide) (by decide) rfl (tgt := 1277) (by decide) dL_law_40 (case_29 l hlst h hi hR hm hc hs kk)
    | 30, _, ej => exact r_tsc C0 (cst := 30) ej (by decide) (by decide) rfl (tgt := 1290) (by decide) dL_law_40 (case_30 l hlst h hi hR hm hc hs kk)
    | 31, _, ej => exact r_tsc C0 (cst := 31) ej (by decide) (by decide) rfl (tgt := 1346) (by decide) dL_law_40 (case_31 l hlst h hi hR hm hc hs kk)
    | 32, _, ej => exact r_tsc C0 (cst := 32) ej (by decide) (by decide) rfl (tgt := 1402) (by decide) dL_law_40 (case_32 l hlst h hi hR hm hc hs kk)
    | 33, _, ej => exact r_tsc C0 (cst := 33) ej (by decide) (by decide) rfl (tgt := 1458) (by decide) dL_law_40 (case_33 l hlst h hi hR hm hc hs kk)
    | 34, _, ej => exact r_tsc C0 (cst := 34) ej (by decide) (by decide) rfl (tgt := 1514) (by decide) dL_law_40 (case_34 l hlst h hi hR hm hc hs kk)
    | 35, _, ej => exact r_tsc C0 (cst := 35) ej (by decide) (by decide) rfl (tgt := 1570) (by decide) dL_law_40 (case_35 l hlst h hi hR hm hc hs kk)
    | 36, _, ej => exact r_tsc C0 (cst := 36) ej (by decide) (by decide) rfl (tgt := 1626) (by decide) dL_law_40 (case_36 l hlst h hi hR hm hc hs kk)
    | 37, _, ej => exact r_tsc C0 (cst := 37) ej (by decide) (by decide) rfl (tgt := 1682) (by decide) dL_law_40 (case_37 l hlst h hi hR hm hc hs kk)
    | 38, _, ej => exact r_tsc C0 (cst := 38) ej (by decide) (by decide) rfl (tgt := 1738) (by decide) dL_law_40 (case_38 l hlst h hi hR hm hc hs kk)
    | 39, _, ej => exact r_tsc C0 (cst := 39) ej (by decide) (by decide) rfl (tgt := 1794) (by decide) dL_law_40 (case_39 l hlst h hi hR hm hc hs kk)
    | 40, _, ej => exact r_tsc C0 (cst := 40) ej (by decide) (by decide) rfl (tgt := 1862) (by decide) dL_law_40 (case_40 l hlst h hi hR hm hc hs kk)
    | 41, _, ej => exact r_tsc C0 (cst := 41) ej (by decide) (by decide) rfl (tgt := 1875) (by decide) dL_law_40 (case_41 l hlst h hi hR hm hc hs kk)
    | 42, _, ej => exact r_tsc C0 (cst := 42) ej (by decide) (by decide) rfl (tgt := 1888) (by decide) dL_law_40 (case_42 l hlst h hi hR hm hc hs kk)
    | 43, _, ej => exact r_tsc C0 (cst := 43) ej (by decide) (by decide) rfl (tgt := 1929) (by decide) dL_law_40 (case_43 l hlst h hi hR hm hc hs kk)
    | 44, _, ej => exact r_tsc C0 (cst := 44) ej (by decide) (by decide) rfl (tgt := 1972) (by decide) dL_law_40 (case_44 l hlst h hi hR hm hc hs kk)
    | 45, _, ej => exact r_tsc C0 (cst := 45) ej (by decide) (by decide) rfl (tgt := 2028) (by decide) dL_law_40 (case_45 l hlst h hi hR hm hc hs kk)
    | 46, _, ej => exact r_tsc C0 (cst := 46) ej (by decide) (by decide) rfl (tgt := 2096) (by decide) dL_law_40 (case_46 l hlst h hi hR hm hc hs kk)
    | 47, _, ej => exact r_tsc C0 (cst := 47) ej (by decide) (by decide) rfl (tgt := 2152) (by decide) dL_law_40 (case_47 l hlst h hi hR hm hc hs kk)
    | 48, _, ej => exact r_tsc C0 (cst := 48) ej (by decide) (by decide) rfl (tgt := 2208) (by decide) dL_law_40 (case_48 l hlst h hi hR hm hc hs kk)
    | 49, _, ej => exact r_tsc C0 (cst := 49) ej (by decide) (by decide) rfl (tgt := 2221) (by decide) dL_law_40 (case_49 l hlst h hi hR hm hc hs kk)
    | 50, _, ej => exact r_tsc C0 (cst := 50) ej (by decide) (by decide) rfl (tgt := 2234) (by decide) dL_law_40 (case_50 l hlst h hi hR hm hc hs kk)
    | 51, _, ej => exact r_tsc C0 (cst := 51) ej (by decide) (by decide) rfl (tgt := 2338) (by decide) dL_law_40 (case_51 l hlst h hi hR hm hc hs kk)
    | 52, _, ej => exact r_tsc C0 (cst := 52) ej (by decide) (by decide) rfl (tgt := 2430) (by decide) dL_law_40 (case_52 l hlst h hi hR hm hc hs kk)
    | 53, _, ej => exact r_tsc C0 (cst := 53) ej (by decide) (by decide) rfl (tgt := 2498) (by decide) dL_law_40 (case_53 l hlst h hi hR hm hc hs kk)
    | 54, _, ej => exact r_tsc C0 (cst := 54) ej (by decide) (by decide) rfl (tgt := 2566) (by decide) dL_law_40 (case_54 l hlst h hi hR hm hc hs kk)
    | 55, _, ej => exact r_tsc C0 (cst := 55) ej (by decide) (by decide) rfl (tgt := 2634) (by decide) dL_law_40 (case_55 l hlst h hi hR hm hc hs kk)
    | 56, _, ej => exact r_tsc C0 (cst := 56) ej (by decide) (by decide) rfl (tgt := 2702) (by decide) dL_law_40 (case_56 l hlst h hi hR hm hc hs kk)
    | 57, _, ej => exact r_tsc C0 (cst := 57) ej (by decide) (by decide) rfl (tgt := 2770) (by decide) dL_law_40 (case_57 l hlst h hi hR hm hc hs kk)
    | 58, _, ej => exact r_tsc C0 (cst := 58) ej (by decide) (by decide) rfl (tgt := 2826) (by decide) dL_law_40 (case_58 l hlst h hi hR hm hc hs kk)
    | 59, _, ej => exact r_tsc C0 (cst := 59) ej (by decide) (by decide) rfl (tgt := 2882) (by decide) dL_law_40 (case_59 l hlst h hi hR hm hc hs kk)
    | 60, _, ej => exact r_tsc C0 (cst := 60) ej (by decide) (by decide) rfl (tgt := 2926) (by decide) dL_law_40 (case_60 l hlst h hi hR hm hc hs kk)
    | 61, _, ej => exact r_tsc C0 (cst := 61) ej (by decide) (by decide) rfl (tgt := 2982) (by decide) dL_law_40 (case_61 l hlst h hi hR hm hc hs kk)
    | 62, _, ej => exact r_tsc C0 (cst := 62) ej (by decide) (by decide) rfl (tgt := 3038) (by decide) dL_law_40 (case_62 l hlst h hi hR hm hc hs kk)
    | 63, _, ej => exact r_tsc C0 (cst := 63) ej (by decide) (by decide) rfl (tgt := 3051) (by decide) dL_law_40 (case_63 l hlst h hi hR hm hc hs kk)
    | z + 64, hj, _ => exact absurd hj (by omega)
