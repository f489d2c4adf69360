/-! the law's walk, segment F -/
set_option maxRecDepth 100000 in
set_option maxHeartbeats 8000000 in
theorem c_LS_F {p : Program} {l : Launch} {e : Env} {s : State} {m0 : MethodId} {args : Array Value} {below : List Frame} {meth : Method} {c : Code} {cells slots : Nat} {Q : State → Prop} {b : Nat} {D : va_G} {g : xG} {tb : List xQ} (C0 : CC p s m0 args c cL_law 26 RL D g tb) (hc0 : cells + 0 ≤ room_1.cells) (hs0 : slots + 0 ≤ room_1.slots) {step : Int32} {n : Nat} {m : Nat} (h1 : x_fb tb) (hA0 : ((6, 3000, n) : xQ) ∈ tb) (hA1 : ((6, 3016, n) : xQ) ∈ tb) (hA2 : ((6, 3032, n) : xQ) ∈ tb) (hA3 : ((6, 3048, n) : xQ) ∈ tb) (hA4 : ((6, 3064, m) : xQ) ∈ tb) (hA5 : ((6, 3080, m) : xQ) ∈ tb) (hA6 : ((6, 3096, m) : xQ) ∈ tb) (hA7 : ((6, 3112, m) : xQ) ∈ tb) (hA8 : ((6, 3128, m) : xQ) ∈ tb) (hA9 : ((6, 3144, m) : xQ) ∈ tb) {M M' : xM}  (hf : f_LS_F n m M = some M')
    (hend : ∀ { M0 : xM}, (some (M0) : Option xM) = some M' → WW p l e room_1 s m0 args below meth c cells slots Q 26 D g tb 1063 [(0, .ref b), (1, .ref (g.1 4 1664)), (2, .int step)] [] M0) :
    WW p l e room_1 s m0 args below meth c cells slots Q 26 D g tb 886 [(0, .ref b), (1, .ref (g.1 4 1664)), (2, .int step), (3, .int (nI n)), (4, .int (nI m)), (10, .ref (g.1 6 3000)), (11, .ref (g.1 6 3016)), (12, .ref (g.1 6 3032)), (13, .ref (g.1 6 3048)), (14, .ref (g.1 6 3064)), (15, .ref (g.1 6 3080)), (16, .ref (g.1 6 3096)), (17, .ref (g.1 6 3112)), (18, .ref (g.1 6 3128)), (19, .ref (g.1 6 3144))] [] M := by
  have hT := C0.2.2.2.2.2.2.1
  have B962 : ∀ (k962 : Int32 → xM → Option xM) (hk962 : ∀ (v22 : Int32)  (M : xM), k962 v22 M = some M' → WW p l e room_1 s m0 args below meth c cells slots Q 26 D g tb 962 [(0, .ref b), (1, .ref (g.1 4 1664)), (2, .int step), (4, .int (nI m)), (14, .ref (g.1 6 3064)), (15, .ref (g.1 6 3080)), (16, .ref (g.1 6 3096)), (17, .ref (g.1 6 3112)), (18, .ref (g.1 6 3128)), (19, .ref (g.1 6 3144)), (22, .int v22)] [] M), ∀ (v22 : Int32)  (M : xM), fb_LS_F_c962 k962 n m v22 M = some M' → WW p l e room_1 s m0 args below meth c cells slots Q 26 D g tb 962 [(0, .ref b), (1, .ref (g.1 4 1664)), (2, .int step), (4, .int (nI m)), (14, .ref (g.1 6 3064)), (15, .ref (g.1 6 3080)), (16, .ref (g.1 6 3096)), (17, .ref (g.1 6 3112)), (18, .ref (g.1 6 3128)), (19, .ref (g.1 6 3144)), (22, .int v22)] [] M := by
    intro k962 hk962 v22  M hf
    unfold fb_LS_F_c962 at hf
    refine r_iload C0 10 rfl dL_law_962 ?_
    refine r_iload C0 3 rfl dL_law_964 ?_
    refine r_icmp_ge C0 (tgt := 1063) (by decide) dL_law_966 (fun q22 => ?_) (fun q22 => ?_)
    · have hf := ie_t hf q22
      refine WW.sub [0, 1, 2] rfl ?_
      exact hend hf
    · have hf := ie_f hf q22
      refine r_aload_n C0 (kk := 1) 1 rfl dL_law_969 ?_
      refine r_iload C0 10 rfl dL_law_970 ?_
      obtain ⟨r25, M24, hc23, hf⟩ := bd2_e hf
      refine r_callVi C0 (As := [.int v22]) (rest := []) (c_X6_placeOf l D g tb hT h1 hc23) w1_206 w1_207 w1_208 w1_13 w1_209 (x_rec4 C0 h1.1) hd_X6_placeOf rfl ⟨rfl, rfl⟩ ⟨Nat.le_of_ble_eq_true rfl, Nat.le_of_ble_eq_true rfl⟩ hc0 hs0 rfl (Nat.le_of_ble_eq_true rfl) dL_law_972 ?_
      refine r_aload C0 4 rfl dL_law_975 ?_
      refine r_iload C0 10 rfl dL_law_977 ?_
      obtain ⟨q26, hf⟩ := gd_e hf
      refine r_ialdc C0 hA4 q26 rfl dL_law_979 ?_
      refine r_icmp_ne C0 (tgt := 1011) (by decide) dL_law_980 (fun q27 => ?_) (fun q27 => ?_)
      · have hf := ie_f hf q27
        refine r_iconst C0 (v := 0) dL_law_1011 rfl ?_
        exact none_ne hf
      · have hf := ie_t hf q27
        refine r_aload_n C0 (kk := 1) 1 rfl dL_law_983 ?_
        refine r_iload C0 10 rfl dL_law_984 ?_
        obtain ⟨r30, M29, hc28, hf⟩ := bd2_e hf
        refine r_callVi C0 (As := [.int v22]) (rest := []) (c_X6_coinsOf l D g tb hT h1 hc28) w1_219 w1_220 w1_221 w1_13 w1_222 (x_rec4 C0 h1.1) hd_X6_coinsOf rfl ⟨rfl, rfl⟩ ⟨Nat.le_of_ble_eq_true rfl, Nat.le_of_ble_eq_true rfl⟩ hc0 hs0 rfl (Nat.le_of_ble_eq_true rfl) dL_law_986 ?_
        refine r_aload C0 5 rfl dL_law_989 ?_
        refine r_iload C0 10 rfl dL_law_991 ?_
        obtain ⟨q31, hf⟩ := gd_e hf
        refine r_ialdc C0 hA5 q31 rfl dL_law_993 ?_
        refine r_icmp_ne C0 (tgt := 1011) (by decide) dL_law_994 (fun q32 => ?_) (fun q32 => ?_)
        · have hf := ie_f hf q32
          refine r_iconst C0 (v := 0) dL_law_1011 rfl ?_
          exact none_ne hf
        · have hf := ie_t hf q32
          refine r_aload_n C0 (kk := 1) 1 rfl dL_law_997 ?_
          refine r_iload C0 10 rfl dL_law_998 ?_
          obtain ⟨r35, M34, hc33, hf⟩ := bd2_e hf
          refine r_callVi C0 (As := [.int v22]) (rest := []) (c_X6_heldFrom l D g tb hT h1 hc33) w1_231 w1_232 w1_233 w1_13 w1_234 (x_rec4 C0 h1.1) hd_X6_heldFrom rfl ⟨rfl, rfl⟩ ⟨Nat.le_of_ble_eq_true rfl, Nat.le_of_ble_eq_true rfl⟩ hc0 hs0 rfl (Nat.le_of_ble_eq_true rfl) dL_law_1000 ?_
          refine r_aload C0 6 rfl dL_law_1003 ?_
          refine r_iload C0 10 rfl dL_law_1005 ?_
          obtain ⟨q36, hf⟩ := gd_e hf
          refine r_ialdc C0 hA6 q36 rfl dL_law_1007 ?_
          refine r_icmp_eq C0 (tgt := 1013) (by decide) dL_law_1008 (fun q37 => ?_) (fun q37 => ?_)
          · have hf := ie_t hf q37
            refine r_aload_n C0 (kk := 1) 1 rfl dL_law_1013 ?_
            refine r_iload C0 10 rfl dL_law_1014 ?_
            obtain ⟨r40, M39, hc38, hf⟩ := bd2_e hf
            refine r_callVi C0 (As := [.int v22]) (rest := []) (c_X6_debtOf l D g tb hT h1 hc38) w1_235 w1_236 w1_237 w1_13 w1_238 (x_rec4 C0 h1.1) hd_X6_debtOf rfl ⟨rfl, rfl⟩ ⟨Nat.le_of_ble_eq_true rfl, Nat.le_of_ble_eq_true rfl⟩ hc0 hs0 rfl (Nat.le_of_ble_eq_true rfl) dL_law_1016 ?_
            refine r_aload C0 7 rfl dL_law_1019 ?_
            refine r_iload C0 10 rfl dL_law_1021 ?_
            obtain ⟨q41, hf⟩ := gd_e hf
            refine r_ialdc C0 hA7 q41 rfl dL_law_1023 ?_
            refine r_icmp_ne C0 (tgt := 1055) (by decide) dL_law_1024 (fun q42 => ?_) (fun q42 => ?_)
            · have hf := ie_f hf q42
              refine r_iconst C0 (v := 0) dL_law_1055 rfl ?_
              exact none_ne hf
            · have hf := ie_t hf q42
              refine r_aload_n C0 (kk := 1) 1 rfl dL_law_1027 ?_
              refine r_iload C0 10 rfl dL_law_1028 ?_
              obtain ⟨r45, M44, hc43, hf⟩ := bd2_e hf
              refine r_callVi C0 (As := [.int v22]) (rest := []) (c_X6_avoidedBy l D g tb hT h1 hc43) w1_239 w2_0 w2_1 w1_13 w2_2 (x_rec4 C0 h1.1) hd_X6_avoidedBy rfl ⟨rfl, rfl⟩ ⟨Nat.le_of_ble_eq_true rfl, Nat.le_of_ble_eq_true rfl⟩ hc0 hs0 rfl (Nat.le_of_ble_eq_true rfl) dL_law_1030 ?_
              refine r_aload C0 8 rfl dL_law_1033 ?_
              refine r_iload C0 10 rfl dL_law_1035 ?_
              obtain ⟨q46, hf⟩ := gd_e hf
              refine r_ialdc C0 hA8 q46 rfl dL_law_1037 ?_
              refine r_icmp_ne C0 (tgt := 1055) (by decide) dL_law_1038 (fun q47 => ?_) (fun q47 => ?_)
              · have hf := ie_f hf q47
                refine r_iconst C0 (v := 0) dL_law_1055 rfl ?_
                exact none_ne hf
              · have hf := ie_t hf q47
                refine r_aload_n C0 (kk := 1) 1 rfl dL_law_1041 ?_
                refine r_iload C0 10 rfl dL_law_1042 ?_
                obtain ⟨r50, M49, hc48, hf⟩ := bd2_e hf
                refine r_callVi C0 (As := [.int v22]) (rest := []) (c_X6_boughtBy l D g tb hT h1 hc48) w2_3 w2_4 w2_5 w1_13 w2_6 (x_rec4 C0 h1.1) hd_X6_boughtBy rfl ⟨rfl, rfl⟩ ⟨Nat.le_of_ble_eq_true rfl, Nat.le_of_ble_eq_true rfl⟩ hc0 hs0 rfl (Nat.le_of_ble_eq_true rfl) dL_law_1044 ?_
                refine r_aload C0 9 rfl dL_law_1047 ?_
                refine r_iload C0 10 rfl dL_law_1049 ?_
                obtain ⟨q51, hf⟩ := gd_e hf
                refine r_ialdc C0 hA9 q51 rfl dL_law_1051 ?_
                refine r_icmp_eq C0 (tgt := 1057) (by decide) dL_law_1052 (fun q52 => ?_) (fun q52 => ?_)
                · have hf := ie_t hf q52
                  refine r_iincc C0 10 rfl (k0 := 1) (by decide) (by decide) (lv2 := [(22, .int (v22 + 1)), (0, .ref b), (1, .ref (g.1 4 1664)), (2, .int step), (4, .int (nI m)), (14, .ref (g.1 6 3064)), (15, .ref (g.1 6 3080)), (16, .ref (g.1 6 3096)), (17, .ref (g.1 6 3112)), (18, .ref (g.1 6 3128)), (19, .ref (g.1 6 3144))]) rfl dL_law_1057 ?_
                  refine r_goto C0 (tgt := 962) (by decide) dL_law_1060 ?_
                  refine WW.sub [1, 2, 3, 4, 5, 6, 7, 8, 9, 10, 0] rfl ?_
                  exact hk962 _   _ hf
                · have hf := ie_f hf q52
                  refine r_iconst C0 (v := 0) dL_law_1055 rfl ?_
                  exact none_ne hf
          · have hf := ie_f hf q37
            refine r_iconst C0 (v := 0) dL_law_1011 rfl ?_
            exact none_ne hf
  have L962 : ∀ (v22 : Int32)  (M : xM), f_LS_F_c962  n m v22 M = some M' → WW p l e room_1 s m0 args below meth c cells slots Q 26 D g tb 962 [(0, .ref b), (1, .ref (g.1 4 1664)), (2, .int step), (4, .int (nI m)), (14, .ref (g.1 6 3064)), (15, .ref (g.1 6 3080)), (16, .ref (g.1 6 3096)), (17, .ref (g.1 6 3112)), (18, .ref (g.1 6 3128)), (19, .ref (g.1 6 3144)), (22, .int v22)] [] M := lp_ind (P := fun f => ∀ (v22 : Int32)  (M : xM), f v22 M = some M' → WW p l e room_1 s m0 args below meth c cells slots Q 26 D g tb 962 [(0, .ref b), (1, .ref (g.1 4 1664)), (2, .int step), (4, .int (nI m)), (14, .ref (g.1 6 3064)), (15, .ref (g.1 6 3080)), (16, .ref (g.1 6 3096)), (17, .ref (g.1 6 3112)), (18, .ref (g.1 6 3128)), (19, .ref (g.1 6 3144)), (22, .int v22)] [] M) (fun _ _ h => none_ne h) (fun f hf => B962 f hf) FU
  have B889 : ∀ (k889 : Int32 → xM → Option xM) (hk889 : ∀ (v22 : Int32)  (M : xM), k889 v22 M = some M' → WW p l e room_1 s m0 args below meth c cells slots Q 26 D g tb 889 [(0, .ref b), (1, .ref (g.1 4 1664)), (2, .int step), (3, .int (nI n)), (4, .int (nI m)), (10, .ref (g.1 6 3000)), (11, .ref (g.1 6 3016)), (12, .ref (g.1 6 3032)), (13, .ref (g.1 6 3048)), (14, .ref (g.1 6 3064)), (15, .ref (g.1 6 3080)), (16, .ref (g.1 6 3096)), (17, .ref (g.1 6 3112)), (18, .ref (g.1 6 3128)), (19, .ref (g.1 6 3144)), (22, .int v22)] [] M), ∀ (v22 : Int32)  (M : xM), fb_LS_F_c889 k889 n m v22 M = some M' → WW p l e room_1 s m0 args below meth c cells slots Q 26 D g tb 889 [(0, .ref b), (1, .ref (g.1 4 1664)), (2, .int step), (3, .int (nI n)), (4, .int (nI m)), (10, .ref (g.1 6 3000)), (11, .ref (g.1 6 3016)), (12, .ref (g.1 6 3032)), (13, .ref (g.1 6 3048)), (14, .ref (g.1 6 3064)), (15, .ref (g.1 6 3080)), (16, .ref (g.1 6 3096)), (17, .ref (g.1 6 3112)), (18, .ref (g.1 6 3128)), (19, .ref (g.1 6 3144)), (22, .int v22)] [] M := by
    intro k889 hk889 v22  M hf
    unfold fb_LS_F_c889 at hf
    refine r_iload C0 15 rfl dL_law_889 ?_
    refine r_iload_n C0 (kk := 3) 3 rfl dL_law_891 ?_
    refine r_icmp_ge C0 (tgt := 959) (by decide) dL_law_892 (fun q1 => ?_) (fun q1 => ?_)
    · have hf := ie_t hf q1
      refine r_iconst C0 (v := 0) dL_law_959 rfl ?_
      refine r_istore C0 (lv2 := [(22, .int 0), (0, .ref b), (1, .ref (g.1 4 1664)), (2, .int step), (3, .int (nI n)), (4, .int (nI m)), (10, .ref (g.1 6 3000)), (11, .ref (g.1 6 3016)), (12, .ref (g.1 6 3032)), (13, .ref (g.1 6 3048)), (14, .ref (g.1 6 3064)), (15, .ref (g.1 6 3080)), (16, .ref (g.1 6 3096)), (17, .ref (g.1 6 3112)), (18, .ref (g.1 6 3128)), (19, .ref (g.1 6 3144))]) (by decide) rfl dL_law_960 ?_
      refine WW.sub [1, 2, 3, 5, 10, 11, 12, 13, 14, 15, 0] rfl ?_
      exact L962   _   _ hf
    · have hf := ie_f hf q1
      refine r_aload_n C0 (kk := 1) 1 rfl dL_law_895 ?_
      refine r_iload C0 15 rfl dL_law_896 ?_
      obtain ⟨r4, M3, hc2, hf⟩ := bd2_e hf
      refine r_callVi C0 (As := [.int v22]) (rest := []) (c_X6_stockOf l D g tb hT h1 hc2) w1_186 w1_187 w1_188 w1_13 w1_189 (x_rec4 C0 h1.1) hd_X6_stockOf rfl ⟨rfl, rfl⟩ ⟨Nat.le_of_ble_eq_true rfl, Nat.le_of_ble_eq_true rfl⟩ hc0 hs0 rfl (Nat.le_of_ble_eq_true rfl) dL_law_898 ?_
      refine r_aload C0 5 rfl dL_law_901 ?_
      refine r_iload C0 15 rfl dL_law_903 ?_
      obtain ⟨q5, hf⟩ := gd_e hf
      refine r_ialdc C0 hA0 q5 rfl dL_law_905 ?_
      refine r_icmp_ne C0 (tgt := 951) (by decide) dL_law_906 (fun q6 => ?_) (fun q6 => ?_)
      · have hf := ie_f hf q6
        refine r_iconst C0 (v := 0) dL_law_951 rfl ?_
        exact none_ne hf
      · have hf := ie_t hf q6
        refine r_aload_n C0 (kk := 1) 1 rfl dL_law_909 ?_
        refine r_iload C0 15 rfl dL_law_910 ?_
        obtain ⟨r9, M8, hc7, hf⟩ := bd2_e hf
        refine r_callVi C0 (As := [.int v22]) (rest := []) (c_X6_soldOf l D g tb hT h1 hc7) w1_190 w1_191 w1_192 w1_13 w1_193 (x_rec4 C0 h1.1) hd_X6_soldOf rfl ⟨rfl, rfl⟩ ⟨Nat.le_of_ble_eq_true rfl, Nat.le_of_ble_eq_true rfl⟩ hc0 hs0 rfl (Nat.le_of_ble_eq_true rfl) dL_law_912 ?_
        refine r_aload C0 6 rfl dL_law_915 ?_
        refine r_iload C0 15 rfl dL_law_917 ?_
        obtain ⟨q10, hf⟩ := gd_e hf
        refine r_ialdc C0 hA1 q10 rfl dL_law_919 ?_
        refine r_icmp_ne C0 (tgt := 951) (by decide) dL_law_920 (fun q11 => ?_) (fun q11 => ?_)
        · have hf := ie_f hf q11
          refine r_iconst C0 (v := 0) dL_law_951 rfl ?_
          exact none_ne hf
        · have hf := ie_t hf q11
          refine r_aload_n C0 (kk := 1) 1 rfl dL_law_923 ?_
          refine r_iload C0 15 rfl dL_law_924 ?_
          obtain ⟨r14, M13, hc12, hf⟩ := bd2_e hf
          refine r_callVi C0 (As := [.int v22]) (rest := []) (c_X6_lostOf l D g tb hT h1 hc12) w1_194 w1_195 w1_196 w1_13 w1_197 (x_rec4 C0 h1.1) hd_X6_lostOf rfl ⟨rfl, rfl⟩ ⟨Nat.le_of_ble_eq_true rfl, Nat.le_of_ble_eq_true rfl⟩ hc0 hs0 rfl (Nat.le_of_ble_eq_true rfl) dL_law_926 ?_
          refine r_aload C0 7 rfl dL_law_929 ?_
          refine r_iload C0 15 rfl dL_law_931 ?_
          obtain ⟨q15, hf⟩ := gd_e hf
          refine r_ialdc C0 hA2 q15 rfl dL_law_933 ?_
          refine r_icmp_ne C0 (tgt := 951) (by decide) dL_law_934 (fun q16 => ?_) (fun q16 => ?_)
          · have hf := ie_f hf q16
            refine r_iconst C0 (v := 0) dL_law_951 rfl ?_
            exact none_ne hf
          · have hf := ie_t hf q16
            refine r_aload_n C0 (kk := 1) 1 rfl dL_law_937 ?_
            refine r_iload C0 15 rfl dL_law_938 ?_
            obtain ⟨r19, M18, hc17, hf⟩ := bd2_e hf
            refine r_callVi C0 (As := [.int v22]) (rest := []) (c_X6_earnings l D g tb hT h1 hc17) w1_198 w1_199 w1_200 w1_13 w1_201 (x_rec4 C0 h1.1) hd_X6_earnings rfl ⟨rfl, rfl⟩ ⟨Nat.le_of_ble_eq_true rfl, Nat.le_of_ble_eq_true rfl⟩ hc0 hs0 rfl (Nat.le_of_ble_eq_true rfl) dL_law_940 ?_
            refine r_aload C0 8 rfl dL_law_943 ?_
            refine r_iload C0 15 rfl dL_law_945 ?_
            obtain ⟨q20, hf⟩ := gd_e hf
            refine r_ialdc C0 hA3 q20 rfl dL_law_947 ?_
            refine r_icmp_eq C0 (tgt := 953) (by decide) dL_law_948 (fun q21 => ?_) (fun q21 => ?_)
            · have hf := ie_t hf q21
              refine r_iincc C0 15 rfl (k0 := 1) (by decide) (by decide) (lv2 := [(22, .int (v22 + 1)), (0, .ref b), (1, .ref (g.1 4 1664)), (2, .int step), (3, .int (nI n)), (4, .int (nI m)), (10, .ref (g.1 6 3000)), (11, .ref (g.1 6 3016)), (12, .ref (g.1 6 3032)), (13, .ref (g.1 6 3048)), (14, .ref (g.1 6 3064)), (15, .ref (g.1 6 3080)), (16, .ref (g.1 6 3096)), (17, .ref (g.1 6 3112)), (18, .ref (g.1 6 3128)), (19, .ref (g.1 6 3144))]) rfl dL_law_953 ?_
              refine r_goto C0 (tgt := 889) (by decide) dL_law_956 ?_
              refine WW.sub [1, 2, 3, 4, 5, 6, 7, 8, 9, 10, 11, 12, 13, 14, 15, 0] rfl ?_
              exact hk889 _   _ hf
            · have hf := ie_f hf q21
              refine r_iconst C0 (v := 0) dL_law_951 rfl ?_
              exact none_ne hf
  have L889 : ∀ (v22 : Int32)  (M : xM), f_LS_F_c889  n m v22 M = some M' → WW p l e room_1 s m0 args below meth c cells slots Q 26 D g tb 889 [(0, .ref b), (1, .ref (g.1 4 1664)), (2, .int step), (3, .int (nI n)), (4, .int (nI m)), (10, .ref (g.1 6 3000)), (11, .ref (g.1 6 3016)), (12, .ref (g.1 6 3032)), (13, .ref (g.1 6 3048)), (14, .ref (g.1 6 3064)), (15, .ref (g.1 6 3080)), (16, .ref (g.1 6 3096)), (17, .ref (g.1 6 3112)), (18, .ref (g.1 6 3128)), (19, .ref (g.1 6 3144)), (22, .int v22)] [] M := lp_ind (P := fun f => ∀ (v22 : Int32)  (M : xM), f v22 M = some M' → WW p l e room_1 s m0 args below meth c cells slots Q 26 D g tb 889 [(0, .ref b), (1, .ref (g.1 4 1664)), (2, .int step), (3, .int (nI n)), (4, .int (nI m)), (10, .ref (g.1 6 3000)), (11, .ref (g.1 6 3016)), (12, .ref (g.1 6 3032)), (13, .ref (g.1 6 3048)), (14, .ref (g.1 6 3064)), (15, .ref (g.1 6 3080)), (16, .ref (g.1 6 3096)), (17, .ref (g.1 6 3112)), (18, .ref (g.1 6 3128)), (19, .ref (g.1 6 3144)), (22, .int v22)] [] M) (fun _ _ h => none_ne h) (fun f hf => B889 f hf) FU
  unfold f_LS_F at hf
  refine r_iconst C0 (v := 0) dL_law_886 rfl ?_
  refine r_istore C0 (lv2 := [(22, .int 0), (0, .ref b), (1, .ref (g.1 4 1664)), (2, .int step), (3, .int (nI n)), (4, .int (nI m)), (10, .ref (g.1 6 3000)), (11, .ref (g.1 6 3016)), (12, .ref (g.1 6 3032)), (13, .ref (g.1 6 3048)), (14, .ref (g.1 6 3064)), (15, .ref (g.1 6 3080)), (16, .ref (g.1 6 3096)), (17, .ref (g.1 6 3112)), (18, .ref (g.1 6 3128)), (19, .ref (g.1 6 3144))]) (by decide) rfl dL_law_887 ?_
  refine WW.sub [1, 2, 3, 4, 5, 6, 7, 8, 9, 10, 11, 12, 13, 14, 15, 0] rfl ?_
  exact L889   _   _ hf
