/-! the law's walk, segment E -/
set_option maxRecDepth 100000 in
set_option maxHeartbeats 8000000 in
theorem c_LS_E {p : Program} {l : Launch} {e : Env} {s : State} {m0 : MethodId} {args : Array Value} {below : List Frame} {meth : Method} {c : Code} {cells slots : Nat} {Q : State → Prop} {b : Nat} {D : va_G} {g : xG} {tb : List xQ} (C0 : CC p s m0 args c cL_law 26 RL D g tb) (hc0 : cells + 0 ≤ room_1.cells) (hs0 : slots + 0 ≤ room_1.slots) {al : Int32} {step : Int32} {n : Nat} {m : Nat} {op : Int32} {rd : Int32} {si : Int32} {rg : Int32} (h1 : x_fb tb) (hA0 : ((6, 3000, n) : xQ) ∈ tb) (hA1 : ((6, 3016, n) : xQ) ∈ tb) (hA2 : ((6, 3032, n) : xQ) ∈ tb) (hA3 : ((6, 3048, n) : xQ) ∈ tb) (hA4 : ((6, 3064, m) : xQ) ∈ tb) (hA5 : ((6, 3080, m) : xQ) ∈ tb) (hA6 : ((6, 3096, m) : xQ) ∈ tb) (hA7 : ((6, 3112, m) : xQ) ∈ tb) (hA8 : ((6, 3128, m) : xQ) ∈ tb) (hA9 : ((6, 3144, m) : xQ) ∈ tb) {M M' : xM}  (hf : f_LS_E al op rd si rg M = some M')
    (hend : ∀ { M0 : xM}, (some (M0) : Option xM) = some M' → WW p l e room_1 s m0 args below meth c cells slots Q 26 D g tb 886 [(0, .ref b), (1, .ref (g.1 4 1664)), (2, .int step), (3, .int (nI n)), (4, .int (nI m)), (10, .ref (g.1 6 3000)), (11, .ref (g.1 6 3016)), (12, .ref (g.1 6 3032)), (13, .ref (g.1 6 3048)), (14, .ref (g.1 6 3064)), (15, .ref (g.1 6 3080)), (16, .ref (g.1 6 3096)), (17, .ref (g.1 6 3112)), (18, .ref (g.1 6 3128)), (19, .ref (g.1 6 3144))] [] M0) :
    WW p l e room_1 s m0 args below meth c cells slots Q 26 D g tb 813 [(20, .int al), (0, .ref b), (1, .ref (g.1 4 1664)), (2, .int step), (3, .int (nI n)), (4, .int (nI m)), (6, .int op), (7, .int rd), (8, .int si), (9, .int rg), (10, .ref (g.1 6 3000)), (11, .ref (g.1 6 3016)), (12, .ref (g.1 6 3032)), (13, .ref (g.1 6 3048)), (14, .ref (g.1 6 3064)), (15, .ref (g.1 6 3080)), (16, .ref (g.1 6 3096)), (17, .ref (g.1 6 3112)), (18, .ref (g.1 6 3128)), (19, .ref (g.1 6 3144))] [] M := by
  have hT := C0.2.2.2.2.2.2.1
  have B821 : ∀ (v8 : Int32)  (M : xM), f_LS_E_c821  al op rd rg v8 M = some M' → WW p l e room_1 s m0 args below meth c cells slots Q 26 D g tb 821 [(0, .ref b), (1, .ref (g.1 4 1664)), (2, .int step), (3, .int (nI n)), (4, .int (nI m)), (6, .int op), (7, .int rd), (8, .int v8), (9, .int rg), (10, .ref (g.1 6 3000)), (11, .ref (g.1 6 3016)), (12, .ref (g.1 6 3032)), (13, .ref (g.1 6 3048)), (14, .ref (g.1 6 3064)), (15, .ref (g.1 6 3080)), (16, .ref (g.1 6 3096)), (17, .ref (g.1 6 3112)), (18, .ref (g.1 6 3128)), (19, .ref (g.1 6 3144)), (20, .int al)] [] M := by
    intro   v8  M hf
    unfold f_LS_E_c821 at hf
    refine r_aload_n C0 (kk := 1) 1 rfl dL_law_821 ?_
    obtain ⟨r4, M3, hc2, hf⟩ := bd2_e hf
    refine r_callVi C0 (As := []) (rest := []) (c_X6_minute l D g tb hT h1 hc2) w1_27 w1_28 w1_29 w1_13 w1_30 (x_rec4 C0 h1.1) hd_X6_minute rfl ⟨rfl, rfl⟩ ⟨Nat.le_of_ble_eq_true rfl, Nat.le_of_ble_eq_true rfl⟩ hc0 hs0 rfl (Nat.le_of_ble_eq_true rfl) dL_law_822 ?_
    refine r_istore C0 (lv2 := [(21, .int r4), (0, .ref b), (1, .ref (g.1 4 1664)), (2, .int step), (3, .int (nI n)), (4, .int (nI m)), (6, .int op), (7, .int rd), (8, .int v8), (9, .int rg), (10, .ref (g.1 6 3000)), (11, .ref (g.1 6 3016)), (12, .ref (g.1 6 3032)), (13, .ref (g.1 6 3048)), (14, .ref (g.1 6 3064)), (15, .ref (g.1 6 3080)), (16, .ref (g.1 6 3096)), (17, .ref (g.1 6 3112)), (18, .ref (g.1 6 3128)), (19, .ref (g.1 6 3144)), (20, .int al)]) (by decide) rfl dL_law_825 ?_
    refine r_aload_n C0 (kk := 1) 2 rfl dL_law_827 ?_
    refine r_iconst C0 (v := 1) dL_law_828 rfl ?_
    obtain ⟨r7, M6, hc5, hf⟩ := bd2_e hf
    refine r_callVi C0 (As := [.int 1]) (rest := []) (c_X6_passMinutes l D g tb hT h1 hc5) w2_18 w2_19 w2_20 w1_13 w2_21 (x_rec4 C0 h1.1) hd_X6_passMinutes rfl ⟨rfl, rfl⟩ ⟨Nat.le_of_ble_eq_true rfl, Nat.le_of_ble_eq_true rfl⟩ hc0 hs0 rfl (Nat.le_of_ble_eq_true rfl) dL_law_829 ?_
    refine r_iload C0 20 rfl dL_law_832 ?_
    refine r_icmp_ne C0 (tgt := 884) (by decide) dL_law_834 (fun q8 => ?_) (fun q8 => ?_)
    · have hf := ie_f hf q8
      refine r_iconst C0 (v := 0) dL_law_884 rfl ?_
      exact none_ne hf
    · have hf := ie_t hf q8
      refine r_aload_n C0 (kk := 1) 2 rfl dL_law_837 ?_
      obtain ⟨r11, M10, hc9, hf⟩ := bd2_e hf
      refine r_callVi C0 (As := []) (rest := []) (c_X6_minute l D g tb hT h1 hc9) w1_27 w1_28 w1_29 w1_13 w1_30 (x_rec4 C0 h1.1) hd_X6_minute rfl ⟨rfl, rfl⟩ ⟨Nat.le_of_ble_eq_true rfl, Nat.le_of_ble_eq_true rfl⟩ hc0 hs0 rfl (Nat.le_of_ble_eq_true rfl) dL_law_838 ?_
      refine r_iload C0 0 rfl dL_law_841 ?_
      refine r_iconst C0 (v := 1) dL_law_843 rfl ?_
      refine r_iadd C0 dL_law_844 ?_
      refine r_icmp_ne C0 (tgt := 884) (by decide) dL_law_845 (fun q12 => ?_) (fun q12 => ?_)
      · have hf := ie_f hf q12
        refine r_iconst C0 (v := 0) dL_law_884 rfl ?_
        exact none_ne hf
      · have hf := ie_t hf q12
        refine r_aload_n C0 (kk := 1) 2 rfl dL_law_848 ?_
        obtain ⟨r15, M14, hc13, hf⟩ := bd2_e hf
        refine r_callVi C0 (As := []) (rest := []) (c_X6_isOpen l D g tb hT h1 hc13) w1_125 w1_126 w1_127 w1_13 w1_128 (x_rec4 C0 h1.1) hd_X6_isOpen rfl ⟨rfl, rfl⟩ ⟨Nat.le_of_ble_eq_true rfl, Nat.le_of_ble_eq_true rfl⟩ hc0 hs0 rfl (Nat.le_of_ble_eq_true rfl) dL_law_849 ?_
        refine r_iload C0 6 rfl dL_law_852 ?_
        refine r_icmp_ne C0 (tgt := 884) (by decide) dL_law_854 (fun q16 => ?_) (fun q16 => ?_)
        · have hf := ie_f hf q16
          refine r_iconst C0 (v := 0) dL_law_884 rfl ?_
          exact none_ne hf
        · have hf := ie_t hf q16
          refine r_aload_n C0 (kk := 1) 2 rfl dL_law_857 ?_
          obtain ⟨r19, M18, hc17, hf⟩ := bd2_e hf
          refine r_callVi C0 (As := []) (rest := []) (c_X6_isReady l D g tb hT h1 hc17) w1_129 w1_130 w1_131 w1_13 w1_132 (x_rec4 C0 h1.1) hd_X6_isReady rfl ⟨rfl, rfl⟩ ⟨Nat.le_of_ble_eq_true rfl, Nat.le_of_ble_eq_true rfl⟩ hc0 hs0 rfl (Nat.le_of_ble_eq_true rfl) dL_law_858 ?_
          refine r_iload C0 7 rfl dL_law_861 ?_
          refine r_icmp_ne C0 (tgt := 884) (by decide) dL_law_863 (fun q20 => ?_) (fun q20 => ?_)
          · have hf := ie_f hf q20
            refine r_iconst C0 (v := 0) dL_law_884 rfl ?_
            exact none_ne hf
          · have hf := ie_t hf q20
            refine r_aload_n C0 (kk := 1) 2 rfl dL_law_866 ?_
            obtain ⟨r23, M22, hc21, hf⟩ := bd2_e hf
            refine r_callVi C0 (As := []) (rest := []) (c_X6_openMinutes l D g tb hT h1 hc21) w1_133 w1_134 w1_135 w1_13 w1_136 (x_rec4 C0 h1.1) hd_X6_openMinutes rfl ⟨rfl, rfl⟩ ⟨Nat.le_of_ble_eq_true rfl, Nat.le_of_ble_eq_true rfl⟩ hc0 hs0 rfl (Nat.le_of_ble_eq_true rfl) dL_law_867 ?_
            refine r_iload C0 8 rfl dL_law_870 ?_
            refine r_icmp_ne C0 (tgt := 884) (by decide) dL_law_872 (fun q24 => ?_) (fun q24 => ?_)
            · have hf := ie_f hf q24
              refine r_iconst C0 (v := 0) dL_law_884 rfl ?_
              exact none_ne hf
            · have hf := ie_t hf q24
              refine r_aload_n C0 (kk := 1) 2 rfl dL_law_875 ?_
              obtain ⟨r27, M26, hc25, hf⟩ := bd2_e hf
              refine r_callVi C0 (As := []) (rest := []) (c_X6_ringings l D g tb hT h1 hc25) w1_137 w1_138 w1_139 w1_13 w1_140 (x_rec4 C0 h1.1) hd_X6_ringings rfl ⟨rfl, rfl⟩ ⟨Nat.le_of_ble_eq_true rfl, Nat.le_of_ble_eq_true rfl⟩ hc0 hs0 rfl (Nat.le_of_ble_eq_true rfl) dL_law_876 ?_
              refine r_iload C0 9 rfl dL_law_879 ?_
              refine r_icmp_eq C0 (tgt := 886) (by decide) dL_law_881 (fun q28 => ?_) (fun q28 => ?_)
              · have hf := ie_t hf q28
                refine WW.sub [1, 2, 3, 4, 5, 10, 11, 12, 13, 14, 15, 16, 17, 18, 19] rfl ?_
                exact hend hf
              · have hf := ie_f hf q28
                refine r_iconst C0 (v := 0) dL_law_884 rfl ?_
                exact none_ne hf
  unfold f_LS_E at hf
  refine r_iload C0 6 rfl dL_law_813 ?_
  refine r_if_eq C0 (tgt := 821) (by decide) dL_law_815 (fun q1 => ?_) (fun q1 => ?_)
  · have hf := ie_t hf q1
    refine WW.sub [1, 2, 3, 4, 5, 6, 7, 8, 9, 10, 11, 12, 13, 14, 15, 16, 17, 18, 19, 0] rfl ?_
    exact B821   _   _ hf
  · have hf := ie_f hf q1
    refine r_iincc C0 8 rfl (k0 := 1) (by decide) (by decide) (lv2 := [(8, .int (si + 1)), (20, .int al), (0, .ref b), (1, .ref (g.1 4 1664)), (2, .int step), (3, .int (nI n)), (4, .int (nI m)), (6, .int op), (7, .int rd), (9, .int rg), (10, .ref (g.1 6 3000)), (11, .ref (g.1 6 3016)), (12, .ref (g.1 6 3032)), (13, .ref (g.1 6 3048)), (14, .ref (g.1 6 3064)), (15, .ref (g.1 6 3080)), (16, .ref (g.1 6 3096)), (17, .ref (g.1 6 3112)), (18, .ref (g.1 6 3128)), (19, .ref (g.1 6 3144))]) rfl dL_law_818 ?_
    refine WW.sub [2, 3, 4, 5, 6, 7, 8, 0, 9, 10, 11, 12, 13, 14, 15, 16, 17, 18, 19, 1] rfl ?_
    exact B821   _   _ hf
