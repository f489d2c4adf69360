/-! the law's walk, segment B -/
set_option maxRecDepth 100000 in
set_option maxHeartbeats 8000000 in
theorem c_LS_B {p : Program} {l : Launch} {e : Env} {s : State} {m0 : MethodId} {args : Array Value} {below : List Frame} {meth : Method} {c : Code} {cells slots : Nat} {Q : State → Prop} {b : Nat} {D : va_G} {g : xG} {tb : List xQ} (C0 : CC p s m0 args c cL_law 26 RL D g tb) (hc0 : cells + 0 ≤ room_1.cells) (hs0 : slots + 0 ≤ room_1.slots) {step : Int32} {n : Nat} {m : Nat} {fog : Int32} {op : Int32} {rd : Int32} {si : Int32} {rg : Int32} (h1 : x_fb tb) (hA0 : ((6, 3000, n) : xQ) ∈ tb) (hA1 : ((6, 3016, n) : xQ) ∈ tb) (hA2 : ((6, 3032, n) : xQ) ∈ tb) (hA3 : ((6, 3048, n) : xQ) ∈ tb) (hA4 : ((6, 3064, m) : xQ) ∈ tb) (hA5 : ((6, 3080, m) : xQ) ∈ tb) (hA6 : ((6, 3096, m) : xQ) ∈ tb) (hA7 : ((6, 3112, m) : xQ) ∈ tb) (hA8 : ((6, 3128, m) : xQ) ∈ tb) (hA9 : ((6, 3144, m) : xQ) ∈ tb) {M M' : xM} {o6 : Int32} {o7 : Int32} {o8 : Int32} {o9 : Int32} (hf : f_LS_B n m fog op rd si rg M = some (o6, o7, o8, o9, M'))
    (hend : ∀ {w6 : Int32} {w7 : Int32} {w8 : Int32} {w9 : Int32} { M0 : xM}, (some (w6, w7, w8, w9, M0) : Option (Int32 × Int32 × Int32 × Int32 × xM)) = some (o6, o7, o8, o9, M') → WW p l e room_1 s m0 args below meth c cells slots Q 26 D g tb 392 [(6, .int w6), (7, .int w7), (8, .int w8), (9, .int w9), (0, .ref b), (1, .ref (g.1 4 1664)), (2, .int step), (3, .int (nI n)), (4, .int (nI m)), (5, .int fog), (10, .ref (g.1 6 3000)), (11, .ref (g.1 6 3016)), (12, .ref (g.1 6 3032)), (13, .ref (g.1 6 3048)), (14, .ref (g.1 6 3064)), (15, .ref (g.1 6 3080)), (16, .ref (g.1 6 3096)), (17, .ref (g.1 6 3112)), (18, .ref (g.1 6 3128)), (19, .ref (g.1 6 3144))] [] M0) :
    WW p l e room_1 s m0 args below meth c cells slots Q 26 D g tb 278 [(0, .ref b), (1, .ref (g.1 4 1664)), (2, .int step), (3, .int (nI n)), (4, .int (nI m)), (5, .int fog), (6, .int op), (7, .int rd), (8, .int si), (9, .int rg), (10, .ref (g.1 6 3000)), (11, .ref (g.1 6 3016)), (12, .ref (g.1 6 3032)), (13, .ref (g.1 6 3048)), (14, .ref (g.1 6 3064)), (15, .ref (g.1 6 3080)), (16, .ref (g.1 6 3096)), (17, .ref (g.1 6 3112)), (18, .ref (g.1 6 3128)), (19, .ref (g.1 6 3144))] [] M := by
  have hT := C0.2.2.2.2.2.2.1
  have B337 : ∀ (k310 : Int32 → Int32 → Int32 → Int32 → Int32 → xM → Option (Int32 × Int32 × Int32 × Int32 × xM)) (hk310 : ∀ (v6 : Int32) (v7 : Int32) (v8 : Int32) (v9 : Int32) (v20 : Int32)  (M : xM), k310 v6 v7 v8 v9 v20 M = some (o6, o7, o8, o9, M') → WW p l e room_1 s m0 args below meth c cells slots Q 26 D g tb 310 [(0, .ref b), (1, .ref (g.1 4 1664)), (2, .int step), (3, .int (nI n)), (4, .int (nI m)), (5, .int fog), (6, .int v6), (7, .int v7), (8, .int v8), (9, .int v9), (10, .ref (g.1 6 3000)), (11, .ref (g.1 6 3016)), (12, .ref (g.1 6 3032)), (13, .ref (g.1 6 3048)), (14, .ref (g.1 6 3064)), (15, .ref (g.1 6 3080)), (16, .ref (g.1 6 3096)), (17, .ref (g.1 6 3112)), (18, .ref (g.1 6 3128)), (19, .ref (g.1 6 3144)), (20, .int v20)] [] M), ∀ (v6 : Int32) (v7 : Int32) (v8 : Int32) (v9 : Int32) (v20 : Int32)  (M : xM), f_LS_B_c337 k310 n m fog v6 v7 v8 v9 v20 M = some (o6, o7, o8, o9, M') → WW p l e room_1 s m0 args below meth c cells slots Q 26 D g tb 337 [(0, .ref b), (1, .ref (g.1 4 1664)), (2, .int step), (3, .int (nI n)), (4, .int (nI m)), (5, .int fog), (6, .int v6), (7, .int v7), (8, .int v8), (9, .int v9), (10, .ref (g.1 6 3000)), (11, .ref (g.1 6 3016)), (12, .ref (g.1 6 3032)), (13, .ref (g.1 6 3048)), (14, .ref (g.1 6 3064)), (15, .ref (g.1 6 3080)), (16, .ref (g.1 6 3096)), (17, .ref (g.1 6 3112)), (18, .ref (g.1 6 3128)), (19, .ref (g.1 6 3144)), (20, .int v20)] [] M := by
    intro k310 hk310 v6 v7 v8 v9 v20  M hf
    unfold f_LS_B_c337 at hf
    refine r_aload C0 16 rfl dL_law_337 ?_
    refine r_iload C0 20 rfl dL_law_339 ?_
    refine r_iconst C0 (v := (-1)) dL_law_341 rfl ?_
    obtain ⟨q22, hf⟩ := gd_e hf
    refine r_iastc C0 hA6 q22 rfl dL_law_342 ?_
    refine r_aload C0 17 rfl dL_law_343 ?_
    refine r_iload C0 20 rfl dL_law_345 ?_
    refine r_iconst C0 (v := 0) dL_law_347 rfl ?_
    obtain ⟨q23, hf⟩ := gd_e hf
    refine r_iastc C0 hA7 q23 rfl dL_law_348 ?_
    refine r_aload C0 18 rfl dL_law_349 ?_
    refine r_iload C0 20 rfl dL_law_351 ?_
    refine r_iconst C0 (v := 0) dL_law_353 rfl ?_
    obtain ⟨q24, hf⟩ := gd_e hf
    refine r_iastc C0 hA8 q24 rfl dL_law_354 ?_
    refine r_iincc C0 20 rfl (k0 := 1) (by decide) (by decide) (lv2 := [(20, .int (v20 + 1)), (0, .ref b), (1, .ref (g.1 4 1664)), (2, .int step), (3, .int (nI n)), (4, .int (nI m)), (5, .int fog), (6, .int v6), (7, .int v7), (8, .int v8), (9, .int v9), (10, .ref (g.1 6 3000)), (11, .ref (g.1 6 3016)), (12, .ref (g.1 6 3032)), (13, .ref (g.1 6 3048)), (14, .ref (g.1 6 3064)), (15, .ref (g.1 6 3080)), (16, .ref (g.1 6 3096)), (17, .ref (g.1 6 3112)), (18, .ref (g.1 6 3128)), (19, .ref (g.1 6 3144))]) rfl dL_law_355 ?_
    refine r_goto C0 (tgt := 310) (by decide) dL_law_358 ?_
    refine WW.sub [1, 2, 3, 4, 5, 6, 7, 8, 9, 10, 11, 12, 13, 14, 15, 16, 17, 18, 19, 20, 0] rfl ?_
    exact hk310 _ _ _ _ _   _ hf
  have B310 : ∀ (k310 : Int32 → Int32 → Int32 → Int32 → Int32 → xM → Option (Int32 × Int32 × Int32 × Int32 × xM)) (hk310 : ∀ (v6 : Int32) (v7 : Int32) (v8 : Int32) (v9 : Int32) (v20 : Int32)  (M : xM), k310 v6 v7 v8 v9 v20 M = some (o6, o7, o8, o9, M') → WW p l e room_1 s m0 args below meth c cells slots Q 26 D g tb 310 [(0, .ref b), (1, .ref (g.1 4 1664)), (2, .int step), (3, .int (nI n)), (4, .int (nI m)), (5, .int fog), (6, .int v6), (7, .int v7), (8, .int v8), (9, .int v9), (10, .ref (g.1 6 3000)), (11, .ref (g.1 6 3016)), (12, .ref (g.1 6 3032)), (13, .ref (g.1 6 3048)), (14, .ref (g.1 6 3064)), (15, .ref (g.1 6 3080)), (16, .ref (g.1 6 3096)), (17, .ref (g.1 6 3112)), (18, .ref (g.1 6 3128)), (19, .ref (g.1 6 3144)), (20, .int v20)] [] M), ∀ (v6 : Int32) (v7 : Int32) (v8 : Int32) (v9 : Int32) (v20 : Int32)  (M : xM), fb_LS_B_c310 k310 n m fog v6 v7 v8 v9 v20 M = some (o6, o7, o8, o9, M') → WW p l e room_1 s m0 args below meth c cells slots Q 26 D g tb 310 [(0, .ref b), (1, .ref (g.1 4 1664)), (2, .int step), (3, .int (nI n)), (4, .int (nI m)), (5, .int fog), (6, .int v6), (7, .int v7), (8, .int v8), (9, .int v9), (10, .ref (g.1 6 3000)), (11, .ref (g.1 6 3016)), (12, .ref (g.1 6 3032)), (13, .ref (g.1 6 3048)), (14, .ref (g.1 6 3064)), (15, .ref (g.1 6 3080)), (16, .ref (g.1 6 3096)), (17, .ref (g.1 6 3112)), (18, .ref (g.1 6 3128)), (19, .ref (g.1 6 3144)), (20, .int v20)] [] M := by
    intro k310 hk310 v6 v7 v8 v9 v20  M hf
    unfold fb_LS_B_c310 at hf
    refine r_iload C0 20 rfl dL_law_310 ?_
    refine r_iload C0 4 rfl dL_law_312 ?_
    refine r_icmp_ge C0 (tgt := 361) (by decide) dL_law_314 (fun q16 => ?_) (fun q16 => ?_)
    · have hf := ie_t hf q16
      refine r_goto C0 (tgt := 392) (by decide) dL_law_361 ?_
      refine WW.sub [6, 7, 8, 9, 0, 1, 2, 3, 4, 5, 10, 11, 12, 13, 14, 15, 16, 17, 18, 19] rfl ?_
      exact hend hf
    · have hf := ie_f hf q16
      refine r_aload C0 16 rfl dL_law_317 ?_
      refine r_iload C0 20 rfl dL_law_319 ?_
      obtain ⟨q17, hf⟩ := gd_e hf
      refine r_ialdc C0 hA6 q17 rfl dL_law_321 ?_
      refine r_if_lt C0 (tgt := 337) (by decide) dL_law_322 (fun q18 => ?_) (fun q18 => ?_)
      · have hf := ie_t hf q18
        exact B337 k310 hk310 _ _ _ _ _   _ hf
      · have hf := ie_f hf q18
        refine r_aload C0 10 rfl dL_law_325 ?_
        refine r_aload C0 16 rfl dL_law_327 ?_
        refine r_iload C0 20 rfl dL_law_329 ?_
        obtain ⟨q19, hf⟩ := gd_e hf
        refine r_ialdc C0 hA6 q19 rfl dL_law_331 ?_
        refine r_dup2 C0 rfl rfl dL_law_332 ?_
        obtain ⟨q20, hf⟩ := gd_e hf
        refine r_ialdc C0 hA0 q20 rfl dL_law_333 ?_
        refine r_iconst C0 (v := 1) dL_law_334 rfl ?_
        refine r_iadd C0 dL_law_335 ?_
        obtain ⟨q21, hf⟩ := gd_e hf
        refine r_iastc C0 hA0 q21 rfl dL_law_336 ?_
        exact B337 k310 hk310 _ _ _ _ _   _ hf
  have L310 : ∀ (v6 : Int32) (v7 : Int32) (v8 : Int32) (v9 : Int32) (v20 : Int32)  (M : xM), f_LS_B_c310  n m fog v6 v7 v8 v9 v20 M = some (o6, o7, o8, o9, M') → WW p l e room_1 s m0 args below meth c cells slots Q 26 D g tb 310 [(0, .ref b), (1, .ref (g.1 4 1664)), (2, .int step), (3, .int (nI n)), (4, .int (nI m)), (5, .int fog), (6, .int v6), (7, .int v7), (8, .int v8), (9, .int v9), (10, .ref (g.1 6 3000)), (11, .ref (g.1 6 3016)), (12, .ref (g.1 6 3032)), (13, .ref (g.1 6 3048)), (14, .ref (g.1 6 3064)), (15, .ref (g.1 6 3080)), (16, .ref (g.1 6 3096)), (17, .ref (g.1 6 3112)), (18, .ref (g.1 6 3128)), (19, .ref (g.1 6 3144)), (20, .int v20)] [] M := lp_ind (P := fun f => ∀ (v6 : Int32) (v7 : Int32) (v8 : Int32) (v9 : Int32) (v20 : Int32)  (M : xM), f v6 v7 v8 v9 v20 M = some (o6, o7, o8, o9, M') → WW p l e room_1 s m0 args below meth c cells slots Q 26 D g tb 310 [(0, .ref b), (1, .ref (g.1 4 1664)), (2, .int step), (3, .int (nI n)), (4, .int (nI m)), (5, .int fog), (6, .int v6), (7, .int v7), (8, .int v8), (9, .int v9), (10, .ref (g.1 6 3000)), (11, .ref (g.1 6 3016)), (12, .ref (g.1 6 3032)), (13, .ref (g.1 6 3048)), (14, .ref (g.1 6 3064)), (15, .ref (g.1 6 3080)), (16, .ref (g.1 6 3096)), (17, .ref (g.1 6 3112)), (18, .ref (g.1 6 3128)), (19, .ref (g.1 6 3144)), (20, .int v20)] [] M) (fun _ _ _ _ _ _ h => none_ne h) (fun f hf => B310 f hf) FU
  have B301 : ∀ (v7 : Int32) (v9 : Int32)  (M : xM), f_LS_B_c301  n m fog v7 v9 M = some (o6, o7, o8, o9, M') → WW p l e room_1 s m0 args below meth c cells slots Q 26 D g tb 301 [(0, .ref b), (1, .ref (g.1 4 1664)), (2, .int step), (3, .int (nI n)), (4, .int (nI m)), (5, .int fog), (7, .int v7), (9, .int v9), (10, .ref (g.1 6 3000)), (11, .ref (g.1 6 3016)), (12, .ref (g.1 6 3032)), (13, .ref (g.1 6 3048)), (14, .ref (g.1 6 3064)), (15, .ref (g.1 6 3080)), (16, .ref (g.1 6 3096)), (17, .ref (g.1 6 3112)), (18, .ref (g.1 6 3128)), (19, .ref (g.1 6 3144))] [] M := by
    intro   v7 v9  M hf
    unfold f_LS_B_c301 at hf
    refine r_iconst C0 (v := 0) dL_law_301 rfl ?_
    refine r_istore C0 (lv2 := [(6, .int 0), (0, .ref b), (1, .ref (g.1 4 1664)), (2, .int step), (3, .int (nI n)), (4, .int (nI m)), (5, .int fog), (7, .int v7), (9, .int v9), (10, .ref (g.1 6 3000)), (11, .ref (g.1 6 3016)), (12, .ref (g.1 6 3032)), (13, .ref (g.1 6 3048)), (14, .ref (g.1 6 3064)), (15, .ref (g.1 6 3080)), (16, .ref (g.1 6 3096)), (17, .ref (g.1 6 3112)), (18, .ref (g.1 6 3128)), (19, .ref (g.1 6 3144))]) (by decide) rfl dL_law_302 ?_
    refine r_iconst C0 (v := 0) dL_law_304 rfl ?_
    refine r_istore C0 (lv2 := [(8, .int 0), (6, .int 0), (0, .ref b), (1, .ref (g.1 4 1664)), (2, .int step), (3, .int (nI n)), (4, .int (nI m)), (5, .int fog), (7, .int v7), (9, .int v9), (10, .ref (g.1 6 3000)), (11, .ref (g.1 6 3016)), (12, .ref (g.1 6 3032)), (13, .ref (g.1 6 3048)), (14, .ref (g.1 6 3064)), (15, .ref (g.1 6 3080)), (16, .ref (g.1 6 3096)), (17, .ref (g.1 6 3112)), (18, .ref (g.1 6 3128)), (19, .ref (g.1 6 3144))]) (by decide) rfl dL_law_305 ?_
    refine r_iconst C0 (v := 0) dL_law_307 rfl ?_
    refine r_istore C0 (lv2 := [(20, .int 0), (8, .int 0), (6, .int 0), (0, .ref b), (1, .ref (g.1 4 1664)), (2, .int step), (3, .int (nI n)), (4, .int (nI m)), (5, .int fog), (7, .int v7), (9, .int v9), (10, .ref (g.1 6 3000)), (11, .ref (g.1 6 3016)), (12, .ref (g.1 6 3032)), (13, .ref (g.1 6 3048)), (14, .ref (g.1 6 3064)), (15, .ref (g.1 6 3080)), (16, .ref (g.1 6 3096)), (17, .ref (g.1 6 3112)), (18, .ref (g.1 6 3128)), (19, .ref (g.1 6 3144))]) (by decide) rfl dL_law_308 ?_
    refine WW.sub [3, 4, 5, 6, 7, 8, 2, 9, 1, 10, 11, 12, 13, 14, 15, 16, 17, 18, 19, 20, 0] rfl ?_
    exact L310   _ _ _ _ _   _ hf
  have B364 : ∀ (v6 : Int32) (v7 : Int32) (v8 : Int32) (v9 : Int32)  (M : xM), f_LS_B_c364  n m fog v6 v7 v8 v9 M = some (o6, o7, o8, o9, M') → WW p l e room_1 s m0 args below meth c cells slots Q 26 D g tb 364 [(0, .ref b), (1, .ref (g.1 4 1664)), (2, .int step), (3, .int (nI n)), (4, .int (nI m)), (5, .int fog), (6, .int v6), (7, .int v7), (8, .int v8), (9, .int v9), (10, .ref (g.1 6 3000)), (11, .ref (g.1 6 3016)), (12, .ref (g.1 6 3032)), (13, .ref (g.1 6 3048)), (14, .ref (g.1 6 3064)), (15, .ref (g.1 6 3080)), (16, .ref (g.1 6 3096)), (17, .ref (g.1 6 3112)), (18, .ref (g.1 6 3128)), (19, .ref (g.1 6 3144))] [] M := by
    intro   v6 v7 v8 v9  M hf
    unfold f_LS_B_c364 at hf
    refine r_iload C0 6 rfl dL_law_364 ?_
    refine r_if_ne C0 (tgt := 392) (by decide) dL_law_366 (fun q10 => ?_) (fun q10 => ?_)
    · have hf := ie_f hf q10
      refine WW.sub [6, 7, 8, 9, 0, 1, 2, 3, 4, 5, 10, 11, 12, 13, 14, 15, 16, 17, 18, 19] rfl ?_
      exact hend hf
    · have hf := ie_t hf q10
      refine r_iload C0 7 rfl dL_law_369 ?_
      refine r_if_eq C0 (tgt := 392) (by decide) dL_law_371 (fun q11 => ?_) (fun q11 => ?_)
      · have hf := ie_t hf q11
        refine WW.sub [6, 7, 8, 9, 0, 1, 2, 3, 4, 5, 10, 11, 12, 13, 14, 15, 16, 17, 18, 19] rfl ?_
        exact hend hf
      · have hf := ie_f hf q11
        refine r_iload C0 5 rfl dL_law_374 ?_
        refine r_aload_n C0 (kk := 1) 1 rfl dL_law_376 ?_
        obtain ⟨r14, M13, hc12, hf⟩ := bd2_e hf
        refine r_callVi C0 (As := []) (rest := [.int fog]) (c_X6_threshold l D g tb hT h1 hc12) w1_35 w1_36 w1_37 w1_13 w1_38 (x_rec4 C0 h1.1) hd_X6_threshold rfl ⟨rfl, rfl⟩ ⟨Nat.le_of_ble_eq_true rfl, Nat.le_of_ble_eq_true rfl⟩ hc0 hs0 rfl (Nat.le_of_ble_eq_true rfl) dL_law_377 ?_
        refine r_icmp_lt C0 (tgt := 392) (by decide) dL_law_380 (fun q15 => ?_) (fun q15 => ?_)
        · have hf := ie_t hf q15
          refine WW.sub [6, 7, 8, 9, 0, 1, 2, 3, 4, 5, 10, 11, 12, 13, 14, 15, 16, 17, 18, 19] rfl ?_
          exact hend hf
        · have hf := ie_f hf q15
          refine r_iconst C0 (v := 1) dL_law_383 rfl ?_
          refine r_istore C0 (lv2 := [(6, .int 1), (0, .ref b), (1, .ref (g.1 4 1664)), (2, .int step), (3, .int (nI n)), (4, .int (nI m)), (5, .int fog), (7, .int v7), (8, .int v8), (9, .int v9), (10, .ref (g.1 6 3000)), (11, .ref (g.1 6 3016)), (12, .ref (g.1 6 3032)), (13, .ref (g.1 6 3048)), (14, .ref (g.1 6 3064)), (15, .ref (g.1 6 3080)), (16, .ref (g.1 6 3096)), (17, .ref (g.1 6 3112)), (18, .ref (g.1 6 3128)), (19, .ref (g.1 6 3144))]) (by decide) rfl dL_law_384 ?_
          refine r_iconst C0 (v := 0) dL_law_386 rfl ?_
          refine r_istore C0 (lv2 := [(7, .int 0), (6, .int 1), (0, .ref b), (1, .ref (g.1 4 1664)), (2, .int step), (3, .int (nI n)), (4, .int (nI m)), (5, .int fog), (8, .int v8), (9, .int v9), (10, .ref (g.1 6 3000)), (11, .ref (g.1 6 3016)), (12, .ref (g.1 6 3032)), (13, .ref (g.1 6 3048)), (14, .ref (g.1 6 3064)), (15, .ref (g.1 6 3080)), (16, .ref (g.1 6 3096)), (17, .ref (g.1 6 3112)), (18, .ref (g.1 6 3128)), (19, .ref (g.1 6 3144))]) (by decide) rfl dL_law_387 ?_
          refine r_iincc C0 9 rfl (k0 := 1) (by decide) (by decide) (lv2 := [(9, .int (v9 + 1)), (7, .int 0), (6, .int 1), (0, .ref b), (1, .ref (g.1 4 1664)), (2, .int step), (3, .int (nI n)), (4, .int (nI m)), (5, .int fog), (8, .int v8), (10, .ref (g.1 6 3000)), (11, .ref (g.1 6 3016)), (12, .ref (g.1 6 3032)), (13, .ref (g.1 6 3048)), (14, .ref (g.1 6 3064)), (15, .ref (g.1 6 3080)), (16, .ref (g.1 6 3096)), (17, .ref (g.1 6 3112)), (18, .ref (g.1 6 3128)), (19, .ref (g.1 6 3144))]) rfl dL_law_389 ?_
          refine WW.sub [2, 1, 9, 0, 3, 4, 5, 6, 7, 8, 10, 11, 12, 13, 14, 15, 16, 17, 18, 19] rfl ?_
          exact hend hf
  unfold f_LS_B at hf
  refine r_iload C0 6 rfl dL_law_278 ?_
  refine r_if_eq C0 (tgt := 364) (by decide) dL_law_280 (fun q1 => ?_) (fun q1 => ?_)
  · have hf := ie_t hf q1
    exact B364   _ _ _ _   _ hf
  · have hf := ie_f hf q1
    refine r_iload C0 5 rfl dL_law_283 ?_
    refine r_aload_n C0 (kk := 1) 1 rfl dL_law_285 ?_
    obtain ⟨r4, M3, hc2, hf⟩ := bd2_e hf
    refine r_callVi C0 (As := []) (rest := [.int fog]) (c_X6_threshold l D g tb hT h1 hc2) w1_35 w1_36 w1_37 w1_13 w1_38 (x_rec4 C0 h1.1) hd_X6_threshold rfl ⟨rfl, rfl⟩ ⟨Nat.le_of_ble_eq_true rfl, Nat.le_of_ble_eq_true rfl⟩ hc0 hs0 rfl (Nat.le_of_ble_eq_true rfl) dL_law_286 ?_
    refine r_icmp_lt C0 (tgt := 301) (by decide) dL_law_289 (fun q5 => ?_) (fun q5 => ?_)
    · have hf := ie_t hf q5
      refine WW.sub [0, 1, 2, 3, 4, 5, 7, 9, 10, 11, 12, 13, 14, 15, 16, 17, 18, 19] rfl ?_
      exact B301   _ _   _ hf
    · have hf := ie_f hf q5
      refine r_iload C0 8 rfl dL_law_292 ?_
      refine r_aload_n C0 (kk := 1) 1 rfl dL_law_294 ?_
      obtain ⟨r8, M7, hc6, hf⟩ := bd2_e hf
      refine r_callVi C0 (As := []) (rest := [.int si]) (c_X6_duration l D g tb hT h1 hc6) w1_39 w1_40 w1_41 w1_13 w1_42 (x_rec4 C0 h1.1) hd_X6_duration rfl ⟨rfl, rfl⟩ ⟨Nat.le_of_ble_eq_true rfl, Nat.le_of_ble_eq_true rfl⟩ hc0 hs0 rfl (Nat.le_of_ble_eq_true rfl) dL_law_295 ?_
      refine r_icmp_ne C0 (tgt := 364) (by decide) dL_law_298 (fun q9 => ?_) (fun q9 => ?_)
      · have hf := ie_f hf q9
        exact B364   _ _ _ _   _ hf
      · have hf := ie_t hf q9
        refine WW.sub [0, 1, 2, 3, 4, 5, 7, 9, 10, 11, 12, 13, 14, 15, 16, 17, 18, 19] rfl ?_
        exact B301   _ _   _ hf
