/-! the law's walk, segment C -/
set_option maxRecDepth 100000 in
set_option maxHeartbeats 8000000 in
theorem c_LS_C {p : Program} {l : Launch} {e : Env} {s : State} {m0 : MethodId} {args : Array Value} {below : List Frame} {meth : Method} {c : Code} {cells slots : Nat} {Q : State → Prop} {b : Nat} {D : va_G} {g : xG} {tb : List xQ} (C0 : CC p s m0 args c cL_law 26 RL D g tb) (hc0 : cells + 0 ≤ room_1.cells) (hs0 : slots + 0 ≤ room_1.slots) {step : Int32} {n : Nat} {m : Nat} {fog : Int32} {op : Int32} {rd : Int32} {si : Int32} {rg : Int32} (h1 : x_fb tb) (hA0 : ((6, 3000, n) : xQ) ∈ tb) (hA1 : ((6, 3016, n) : xQ) ∈ tb) (hA2 : ((6, 3032, n) : xQ) ∈ tb) (hA3 : ((6, 3048, n) : xQ) ∈ tb) (hA4 : ((6, 3064, m) : xQ) ∈ tb) (hA5 : ((6, 3080, m) : xQ) ∈ tb) (hA6 : ((6, 3096, m) : xQ) ∈ tb) (hA7 : ((6, 3112, m) : xQ) ∈ tb) (hA8 : ((6, 3128, m) : xQ) ∈ tb) (hA9 : ((6, 3144, m) : xQ) ∈ tb) {M M' : xM} {o20 : Int32} (hf : f_LS_C n m fog op M = some (o20, M'))
    (hend : ∀ {w20 : Int32} { M0 : xM}, (some (w20, M0) : Option (Int32 × xM)) = some (o20, M') → WW p l e room_1 s m0 args below meth c cells slots Q 26 D g tb 750 [(20, .int w20), (0, .ref b), (1, .ref (g.1 4 1664)), (2, .int step), (3, .int (nI n)), (4, .int (nI m)), (5, .int fog), (6, .int op), (7, .int rd), (8, .int si), (9, .int rg), (10, .ref (g.1 6 3000)), (11, .ref (g.1 6 3016)), (12, .ref (g.1 6 3032)), (13, .ref (g.1 6 3048)), (14, .ref (g.1 6 3064)), (15, .ref (g.1 6 3080)), (16, .ref (g.1 6 3096)), (17, .ref (g.1 6 3112)), (18, .ref (g.1 6 3128)), (19, .ref (g.1 6 3144))] [] M0) :
    WW p l e room_1 s m0 args below meth c cells slots Q 26 D g tb 392 [(0, .ref b), (1, .ref (g.1 4 1664)), (2, .int step), (3, .int (nI n)), (4, .int (nI m)), (5, .int fog), (6, .int op), (7, .int rd), (8, .int si), (9, .int rg), (10, .ref (g.1 6 3000)), (11, .ref (g.1 6 3016)), (12, .ref (g.1 6 3032)), (13, .ref (g.1 6 3048)), (14, .ref (g.1 6 3064)), (15, .ref (g.1 6 3080)), (16, .ref (g.1 6 3096)), (17, .ref (g.1 6 3112)), (18, .ref (g.1 6 3128)), (19, .ref (g.1 6 3144))] [] M := by
  have hT := C0.2.2.2.2.2.2.1
  have B516 : ∀ (k398 : Int32 → Int32 → xM → Option (Int32 × xM)) (k432 : Int32 → Int32 → Int32 → Int32 → xM → Option (Int32 × xM)) (hk398 : ∀ (v20 : Int32) (v21 : Int32)  (M : xM), k398 v20 v21 M = some (o20, M') → WW p l e room_1 s m0 args below meth c cells slots Q 26 D g tb 398 [(0, .ref b), (1, .ref (g.1 4 1664)), (2, .int step), (3, .int (nI n)), (4, .int (nI m)), (5, .int fog), (6, .int op), (7, .int rd), (8, .int si), (9, .int rg), (10, .ref (g.1 6 3000)), (11, .ref (g.1 6 3016)), (12, .ref (g.1 6 3032)), (13, .ref (g.1 6 3048)), (14, .ref (g.1 6 3064)), (15, .ref (g.1 6 3080)), (16, .ref (g.1 6 3096)), (17, .ref (g.1 6 3112)), (18, .ref (g.1 6 3128)), (19, .ref (g.1 6 3144)), (20, .int v20), (21, .int v21)] [] M) (hk432 : ∀ (v20 : Int32) (v21 : Int32) (v23 : Int32) (v24 : Int32)  (M : xM), k432 v20 v21 v23 v24 M = some (o20, M') → WW p l e room_1 s m0 args below meth c cells slots Q 26 D g tb 432 [(0, .ref b), (1, .ref (g.1 4 1664)), (2, .int step), (3, .int (nI n)), (4, .int (nI m)), (5, .int fog), (6, .int op), (7, .int rd), (8, .int si), (9, .int rg), (10, .ref (g.1 6 3000)), (11, .ref (g.1 6 3016)), (12, .ref (g.1 6 3032)), (13, .ref (g.1 6 3048)), (14, .ref (g.1 6 3064)), (15, .ref (g.1 6 3080)), (16, .ref (g.1 6 3096)), (17, .ref (g.1 6 3112)), (18, .ref (g.1 6 3128)), (19, .ref (g.1 6 3144)), (20, .int v20), (21, .int v21), (23, .int v23), (24, .int v24)] [] M), ∀ (v20 : Int32) (v21 : Int32) (v23 : Int32) (v24 : Int32)  (M : xM), f_LS_C_c516 k398 k432 n m fog op v20 v21 v23 v24 M = some (o20, M') → WW p l e room_1 s m0 args below meth c cells slots Q 26 D g tb 516 [(0, .ref b), (1, .ref (g.1 4 1664)), (2, .int step), (3, .int (nI n)), (4, .int (nI m)), (5, .int fog), (6, .int op), (7, .int rd), (8, .int si), (9, .int rg), (10, .ref (g.1 6 3000)), (11, .ref (g.1 6 3016)), (12, .ref (g.1 6 3032)), (13, .ref (g.1 6 3048)), (14, .ref (g.1 6 3064)), (15, .ref (g.1 6 3080)), (16, .ref (g.1 6 3096)), (17, .ref (g.1 6 3112)), (18, .ref (g.1 6 3128)), (19, .ref (g.1 6 3144)), (20, .int v20), (21, .int v21), (23, .int v23), (24, .int v24)] [] M := by
    intro k398 k432 hk398 hk432 v20 v21 v23 v24  M hf
    unfold f_LS_C_c516 at hf
    refine r_iincc C0 23 rfl (k0 := (-1)) (by decide) (by decide) (lv2 := [(24, .int (v24 + (-1))), (0, .ref b), (1, .ref (g.1 4 1664)), (2, .int step), (3, .int (nI n)), (4, .int (nI m)), (5, .int fog), (6, .int op), (7, .int rd), (8, .int si), (9, .int rg), (10, .ref (g.1 6 3000)), (11, .ref (g.1 6 3016)), (12, .ref (g.1 6 3032)), (13, .ref (g.1 6 3048)), (14, .ref (g.1 6 3064)), (15, .ref (g.1 6 3080)), (16, .ref (g.1 6 3096)), (17, .ref (g.1 6 3112)), (18, .ref (g.1 6 3128)), (19, .ref (g.1 6 3144)), (20, .int v20), (21, .int v21), (23, .int v23)]) rfl dL_law_516 ?_
    refine r_goto C0 (tgt := 432) (by decide) dL_law_519 ?_
    refine WW.sub [1, 2, 3, 4, 5, 6, 7, 8, 9, 10, 11, 12, 13, 14, 15, 16, 17, 18, 19, 20, 21, 22, 23, 0] rfl ?_
    exact hk432 _ _ _ _   _ hf
  have B512 : ∀ (k398 : Int32 → Int32 → xM → Option (Int32 × xM)) (k432 : Int32 → Int32 → Int32 → Int32 → xM → Option (Int32 × xM)) (hk398 : ∀ (v20 : Int32) (v21 : Int32)  (M : xM), k398 v20 v21 M = some (o20, M') → WW p l e room_1 s m0 args below meth c cells slots Q 26 D g tb 398 [(0, .ref b), (1, .ref (g.1 4 1664)), (2, .int step), (3, .int (nI n)), (4, .int (nI m)), (5, .int fog), (6, .int op), (7, .int rd), (8, .int si), (9, .int rg), (10, .ref (g.1 6 3000)), (11, .ref (g.1 6 3016)), (12, .ref (g.1 6 3032)), (13, .ref (g.1 6 3048)), (14, .ref (g.1 6 3064)), (15, .ref (g.1 6 3080)), (16, .ref (g.1 6 3096)), (17, .ref (g.1 6 3112)), (18, .ref (g.1 6 3128)), (19, .ref (g.1 6 3144)), (20, .int v20), (21, .int v21)] [] M) (hk432 : ∀ (v20 : Int32) (v21 : Int32) (v23 : Int32) (v24 : Int32)  (M : xM), k432 v20 v21 v23 v24 M = some (o20, M') → WW p l e room_1 s m0 args below meth c cells slots Q 26 D g tb 432 [(0, .ref b), (1, .ref (g.1 4 1664)), (2, .int step), (3, .int (nI n)), (4, .int (nI m)), (5, .int fog), (6, .int op), (7, .int rd), (8, .int si), (9, .int rg), (10, .ref (g.1 6 3000)), (11, .ref (g.1 6 3016)), (12, .ref (g.1 6 3032)), (13, .ref (g.1 6 3048)), (14, .ref (g.1 6 3064)), (15, .ref (g.1 6 3080)), (16, .ref (g.1 6 3096)), (17, .ref (g.1 6 3112)), (18, .ref (g.1 6 3128)), (19, .ref (g.1 6 3144)), (20, .int v20), (21, .int v21), (23, .int v23), (24, .int v24)] [] M), ∀ (v20 : Int32) (v21 : Int32) (v24 : Int32)  (M : xM), f_LS_C_c512 k398 k432 n m fog op v20 v21 v24 M = some (o20, M') → WW p l e room_1 s m0 args below meth c cells slots Q 26 D g tb 512 [(0, .ref b), (1, .ref (g.1 4 1664)), (2, .int step), (3, .int (nI n)), (4, .int (nI m)), (5, .int fog), (6, .int op), (7, .int rd), (8, .int si), (9, .int rg), (10, .ref (g.1 6 3000)), (11, .ref (g.1 6 3016)), (12, .ref (g.1 6 3032)), (13, .ref (g.1 6 3048)), (14, .ref (g.1 6 3064)), (15, .ref (g.1 6 3080)), (16, .ref (g.1 6 3096)), (17, .ref (g.1 6 3112)), (18, .ref (g.1 6 3128)), (19, .ref (g.1 6 3144)), (20, .int v20), (21, .int v21), (24, .int v24)] [] M := by
    intro k398 k432 hk398 hk432 v20 v21 v24  M hf
    unfold f_LS_C_c512 at hf
    refine r_iload C0 22 rfl dL_law_512 ?_
    refine r_istore C0 (lv2 := [(23, .int v24), (0, .ref b), (1, .ref (g.1 4 1664)), (2, .int step), (3, .int (nI n)), (4, .int (nI m)), (5, .int fog), (6, .int op), (7, .int rd), (8, .int si), (9, .int rg), (10, .ref (g.1 6 3000)), (11, .ref (g.1 6 3016)), (12, .ref (g.1 6 3032)), (13, .ref (g.1 6 3048)), (14, .ref (g.1 6 3064)), (15, .ref (g.1 6 3080)), (16, .ref (g.1 6 3096)), (17, .ref (g.1 6 3112)), (18, .ref (g.1 6 3128)), (19, .ref (g.1 6 3144)), (20, .int v20), (21, .int v21), (24, .int v24)]) (by decide) rfl dL_law_514 ?_
    refine WW.sub [1, 2, 3, 4, 5, 6, 7, 8, 9, 10, 11, 12, 13, 14, 15, 16, 17, 18, 19, 20, 21, 22, 0, 23] rfl ?_
    exact B516 k398 k432 hk398 hk432 _ _ _ _   _ hf
  have B744 : ∀ (k398 : Int32 → Int32 → xM → Option (Int32 × xM)) (hk398 : ∀ (v20 : Int32) (v21 : Int32)  (M : xM), k398 v20 v21 M = some (o20, M') → WW p l e room_1 s m0 args below meth c cells slots Q 26 D g tb 398 [(0, .ref b), (1, .ref (g.1 4 1664)), (2, .int step), (3, .int (nI n)), (4, .int (nI m)), (5, .int fog), (6, .int op), (7, .int rd), (8, .int si), (9, .int rg), (10, .ref (g.1 6 3000)), (11, .ref (g.1 6 3016)), (12, .ref (g.1 6 3032)), (13, .ref (g.1 6 3048)), (14, .ref (g.1 6 3064)), (15, .ref (g.1 6 3080)), (16, .ref (g.1 6 3096)), (17, .ref (g.1 6 3112)), (18, .ref (g.1 6 3128)), (19, .ref (g.1 6 3144)), (20, .int v20), (21, .int v21)] [] M), ∀ (v20 : Int32) (v21 : Int32)  (M : xM), f_LS_C_c744 k398 n m fog op v20 v21 M = some (o20, M') → WW p l e room_1 s m0 args below meth c cells slots Q 26 D g tb 744 [(0, .ref b), (1, .ref (g.1 4 1664)), (2, .int step), (3, .int (nI n)), (4, .int (nI m)), (5, .int fog), (6, .int op), (7, .int rd), (8, .int si), (9, .int rg), (10, .ref (g.1 6 3000)), (11, .ref (g.1 6 3016)), (12, .ref (g.1 6 3032)), (13, .ref (g.1 6 3048)), (14, .ref (g.1 6 3064)), (15, .ref (g.1 6 3080)), (16, .ref (g.1 6 3096)), (17, .ref (g.1 6 3112)), (18, .ref (g.1 6 3128)), (19, .ref (g.1 6 3144)), (20, .int v20), (21, .int v21)] [] M := by
    intro k398 hk398 v20 v21  M hf
    unfold f_LS_C_c744 at hf
    refine r_iincc C0 21 rfl (k0 := 1) (by decide) (by decide) (lv2 := [(21, .int (v21 + 1)), (0, .ref b), (1, .ref (g.1 4 1664)), (2, .int step), (3, .int (nI n)), (4, .int (nI m)), (5, .int fog), (6, .int op), (7, .int rd), (8, .int si), (9, .int rg), (10, .ref (g.1 6 3000)), (11, .ref (g.1 6 3016)), (12, .ref (g.1 6 3032)), (13, .ref (g.1 6 3048)), (14, .ref (g.1 6 3064)), (15, .ref (g.1 6 3080)), (16, .ref (g.1 6 3096)), (17, .ref (g.1 6 3112)), (18, .ref (g.1 6 3128)), (19, .ref (g.1 6 3144)), (20, .int v20)]) rfl dL_law_744 ?_
    refine r_goto C0 (tgt := 398) (by decide) dL_law_747 ?_
    refine WW.sub [1, 2, 3, 4, 5, 6, 7, 8, 9, 10, 11, 12, 13, 14, 15, 16, 17, 18, 19, 20, 21, 0] rfl ?_
    exact hk398 _ _   _ hf
  have B732 : ∀ (k398 : Int32 → Int32 → xM → Option (Int32 × xM)) (hk398 : ∀ (v20 : Int32) (v21 : Int32)  (M : xM), k398 v20 v21 M = some (o20, M') → WW p l e room_1 s m0 args below meth c cells slots Q 26 D g tb 398 [(0, .ref b), (1, .ref (g.1 4 1664)), (2, .int step), (3, .int (nI n)), (4, .int (nI m)), (5, .int fog), (6, .int op), (7, .int rd), (8, .int si), (9, .int rg), (10, .ref (g.1 6 3000)), (11, .ref (g.1 6 3016)), (12, .ref (g.1 6 3032)), (13, .ref (g.1 6 3048)), (14, .ref (g.1 6 3064)), (15, .ref (g.1 6 3080)), (16, .ref (g.1 6 3096)), (17, .ref (g.1 6 3112)), (18, .ref (g.1 6 3128)), (19, .ref (g.1 6 3144)), (20, .int v20), (21, .int v21)] [] M), ∀ (v20 : Int32) (v21 : Int32) (v23 : Int32)  (M : xM), f_LS_C_c732 k398 n m fog op v20 v21 v23 M = some (o20, M') → WW p l e room_1 s m0 args below meth c cells slots Q 26 D g tb 732 [(0, .ref b), (1, .ref (g.1 4 1664)), (2, .int step), (3, .int (nI n)), (4, .int (nI m)), (5, .int fog), (6, .int op), (7, .int rd), (8, .int si), (9, .int rg), (10, .ref (g.1 6 3000)), (11, .ref (g.1 6 3016)), (12, .ref (g.1 6 3032)), (13, .ref (g.1 6 3048)), (14, .ref (g.1 6 3064)), (15, .ref (g.1 6 3080)), (16, .ref (g.1 6 3096)), (17, .ref (g.1 6 3112)), (18, .ref (g.1 6 3128)), (19, .ref (g.1 6 3144)), (20, .int v20), (21, .int v21), (23, .int v23)] [] M := by
    intro k398 hk398 v20 v21 v23  M hf
    unfold f_LS_C_c732 at hf
    refine r_aload C0 18 rfl dL_law_732 ?_
    refine r_iload C0 21 rfl dL_law_734 ?_
    refine r_dup2 C0 rfl rfl dL_law_736 ?_
    obtain ⟨q81, hf⟩ := gd_e hf
    refine r_ialdc C0 hA8 q81 rfl dL_law_737 ?_
    refine r_iconst C0 (v := 1) dL_law_738 rfl ?_
    refine r_iload C0 22 rfl dL_law_739 ?_
    refine r_ishl C0 dL_law_741 ?_
    refine r_ior C0 dL_law_742 ?_
    obtain ⟨q82, hf⟩ := gd_e hf
    refine r_iastc C0 hA8 q82 rfl dL_law_743 ?_
    refine WW.sub [0, 1, 2, 3, 4, 5, 6, 7, 8, 9, 10, 11, 12, 13, 14, 15, 16, 17, 18, 19, 20, 21] rfl ?_
    exact B744 k398 hk398 _ _   _ hf
  have B541 : ∀ (k398 : Int32 → Int32 → xM → Option (Int32 × xM)) (k541 : Int32 → Int32 → Int32 → Int32 → Int32 → xM → Option (Int32 × xM)) (hk398 : ∀ (v20 : Int32) (v21 : Int32)  (M : xM), k398 v20 v21 M = some (o20, M') → WW p l e room_1 s m0 args below meth c cells slots Q 26 D g tb 398 [(0, .ref b), (1, .ref (g.1 4 1664)), (2, .int step), (3, .int (nI n)), (4, .int (nI m)), (5, .int fog), (6, .int op), (7, .int rd), (8, .int si), (9, .int rg), (10, .ref (g.1 6 3000)), (11, .ref (g.1 6 3016)), (12, .ref (g.1 6 3032)), (13, .ref (g.1 6 3048)), (14, .ref (g.1 6 3064)), (15, .ref (g.1 6 3080)), (16, .ref (g.1 6 3096)), (17, .ref (g.1 6 3112)), (18, .ref (g.1 6 3128)), (19, .ref (g.1 6 3144)), (20, .int v20), (21, .int v21)] [] M) (hk541 : ∀ (v20 : Int32) (v21 : Int32) (v22 : Int32) (v23 : Int32) (v24 : Int32)  (M : xM), k541 v20 v21 v22 v23 v24 M = some (o20, M') → WW p l e room_1 s m0 args below meth c cells slots Q 26 D g tb 541 [(0, .ref b), (1, .ref (g.1 4 1664)), (2, .int step), (3, .int (nI n)), (4, .int (nI m)), (5, .int fog), (6, .int op), (7, .int rd), (8, .int si), (9, .int rg), (10, .ref (g.1 6 3000)), (11, .ref (g.1 6 3016)), (12, .ref (g.1 6 3032)), (13, .ref (g.1 6 3048)), (14, .ref (g.1 6 3064)), (15, .ref (g.1 6 3080)), (16, .ref (g.1 6 3096)), (17, .ref (g.1 6 3112)), (18, .ref (g.1 6 3128)), (19, .ref (g.1 6 3144)), (20, .int v20), (21, .int v21), (22, .int v22), (23, .int v23), (24, .int v24)] [] M), ∀ (v20 : Int32) (v21 : Int32) (v22 : Int32) (v23 : Int32) (v24 : Int32)  (M : xM), fb_LS_C_c541 k398 k541 n m fog op v20 v21 v22 v23 v24 M = some (o20, M') → WW p l e room_1 s m0 args below meth c cells slots Q 26 D g tb 541 [(0, .ref b), (1, .ref (g.1 4 1664)), (2, .int step), (3, .int (nI n)), (4, .int (nI m)), (5, .int fog), (6, .int op), (7, .int rd), (8, .int si), (9, .int rg), (10, .ref (g.1 6 3000)), (11, .ref (g.1 6 3016)), (12, .ref (g.1 6 3032)), (13, .ref (g.1 6 3048)), (14, .ref (g.1 6 3064)), (15, .ref (g.1 6 3080)), (16, .ref (g.1 6 3096)), (17, .ref (g.1 6 3112)), (18, .ref (g.1 6 3128)), (19, .ref (g.1 6 3144)), (20, .int v20), (21, .int v21), (22, .int v22), (23, .int v23), (24, .int v24)] [] M := by
    intro k398 k541 hk398 hk541 v20 v21 v22 v23 v24  M hf
    unfold fb_LS_C_c541 at hf
    refine r_iload C0 24 rfl dL_law_541 ?_
    refine r_aload_n C0 (kk := 1) 1 rfl dL_law_543 ?_
    refine r_iload C0 21 rfl dL_law_544 ?_
    obtain ⟨r34, M33, hc32, hf⟩ := bd2_e hf
    refine r_callVi C0 (As := [.int v21]) (rest := [.int v24]) (c_X6_speedOf l D g tb hT h1 hc32) w1_227 w1_228 w1_229 w1_13 w1_230 (x_rec4 C0 h1.1) hd_X6_speedOf rfl ⟨rfl, rfl⟩ ⟨Nat.le_of_ble_eq_true rfl, Nat.le_of_ble_eq_true rfl⟩ hc0 hs0 rfl (Nat.le_of_ble_eq_true rfl) dL_law_546 ?_
    refine r_icmp_ge C0 (tgt := 576) (by decide) dL_law_549 (fun q35 => ?_) (fun q35 => ?_)
    · have hf := ie_t hf q35
      refine r_aload C0 14 rfl dL_law_576 ?_
      refine r_iload C0 21 rfl dL_law_578 ?_
      obtain ⟨q36, hf⟩ := gd_e hf
      refine r_ialdc C0 hA4 q36 rfl dL_law_580 ?_
      refine r_iload C0 22 rfl dL_law_581 ?_
      refine r_icmp_eq C0 (tgt := 589) (by decide) dL_law_583 (fun q37 => ?_) (fun q37 => ?_)
      · have hf := ie_t hf q37
        refine r_aload C0 16 rfl dL_law_589 ?_
        refine r_iload C0 21 rfl dL_law_591 ?_
        obtain ⟨q38, hf⟩ := gd_e hf
        refine r_ialdc C0 hA6 q38 rfl dL_law_593 ?_
        refine r_if_lt C0 (tgt := 665) (by decide) dL_law_594 (fun q39 => ?_) (fun q39 => ?_)
        · have hf := ie_t hf q39
          refine r_aload_n C0 (kk := 1) 1 rfl dL_law_665 ?_
          refine r_iload C0 23 rfl dL_law_666 ?_
          obtain ⟨r42, M41, hc40, hf⟩ := bd2_e hf
          refine r_callVi C0 (As := [.int v23]) (rest := []) (c_X6_textureOf l D g tb hT h1 hc40) w1_178 w1_179 w1_180 w1_13 w1_181 (x_rec4 C0 h1.1) hd_X6_textureOf rfl ⟨rfl, rfl⟩ ⟨Nat.le_of_ble_eq_true rfl, Nat.le_of_ble_eq_true rfl⟩ hc0 hs0 rfl (Nat.le_of_ble_eq_true rfl) dL_law_668 ?_
          refine r_aload_n C0 (kk := 1) 1 rfl dL_law_671 ?_
          refine r_iload C0 21 rfl dL_law_672 ?_
          obtain ⟨r45, M44, hc43, hf⟩ := bd2_e hf
          refine r_callVi C0 (As := [.int v21]) (rest := [.int r42]) (c_X6_wantedTexture l D g tb hT h1 hc43) w1_223 w1_224 w1_225 w1_13 w1_226 (x_rec4 C0 h1.1) hd_X6_wantedTexture rfl ⟨rfl, rfl⟩ ⟨Nat.le_of_ble_eq_true rfl, Nat.le_of_ble_eq_true rfl⟩ hc0 hs0 rfl (Nat.le_of_ble_eq_true rfl) dL_law_674 ?_
          refine r_icmp_ne C0 (tgt := 732) (by decide) dL_law_677 (fun q46 => ?_) (fun q46 => ?_)
          · have hf := ie_f hf q46
            refine WW.sub [0, 1, 2, 3, 4, 5, 6, 7, 8, 9, 10, 11, 12, 13, 14, 15, 16, 17, 18, 19, 20, 21, 23] rfl ?_
            exact B732 k398 hk398 _ _ _   _ hf
          · have hf := ie_t hf q46
            refine r_aload C0 10 rfl dL_law_680 ?_
            refine r_iload C0 23 rfl dL_law_682 ?_
            obtain ⟨q47, hf⟩ := gd_e hf
            refine r_ialdc C0 hA0 q47 rfl dL_law_684 ?_
            refine r_if_le C0 (tgt := 732) (by decide) dL_law_685 (fun q48 => ?_) (fun q48 => ?_)
            · have hf := ie_t hf q48
              refine WW.sub [0, 1, 2, 3, 4, 5, 6, 7, 8, 9, 10, 11, 12, 13, 14, 15, 16, 17, 18, 19, 20, 21, 23] rfl ?_
              exact B732 k398 hk398 _ _ _   _ hf
            · have hf := ie_f hf q48
              refine r_aload_n C0 (kk := 1) 1 rfl dL_law_688 ?_
              refine r_iload C0 23 rfl dL_law_689 ?_
              obtain ⟨r51, M50, hc49, hf⟩ := bd2_e hf
              refine r_callVi C0 (As := [.int v23]) (rest := []) (c_X6_priceOf l D g tb hT h1 hc49) w1_182 w1_183 w1_184 w1_13 w1_185 (x_rec4 C0 h1.1) hd_X6_priceOf rfl ⟨rfl, rfl⟩ ⟨Nat.le_of_ble_eq_true rfl, Nat.le_of_ble_eq_true rfl⟩ hc0 hs0 rfl (Nat.le_of_ble_eq_true rfl) dL_law_691 ?_
              refine r_aload C0 15 rfl dL_law_694 ?_
              refine r_iload C0 21 rfl dL_law_696 ?_
              obtain ⟨q52, hf⟩ := gd_e hf
              refine r_ialdc C0 hA5 q52 rfl dL_law_698 ?_
              refine r_icmp_gt C0 (tgt := 732) (by decide) dL_law_699 (fun q53 => ?_) (fun q53 => ?_)
              · have hf := ie_t hf q53
                refine WW.sub [0, 1, 2, 3, 4, 5, 6, 7, 8, 9, 10, 11, 12, 13, 14, 15, 16, 17, 18, 19, 20, 21, 23] rfl ?_
                exact B732 k398 hk398 _ _ _   _ hf
              · have hf := ie_f hf q53
                refine r_aload C0 10 rfl dL_law_702 ?_
                refine r_iload C0 23 rfl dL_law_704 ?_
                refine r_dup2 C0 rfl rfl dL_law_706 ?_
                obtain ⟨q54, hf⟩ := gd_e hf
                refine r_ialdc C0 hA0 q54 rfl dL_law_707 ?_
                refine r_iconst C0 (v := 1) dL_law_708 rfl ?_
                refine r_isub C0 dL_law_709 ?_
                obtain ⟨q55, hf⟩ := gd_e hf
                refine r_iastc C0 hA0 q55 rfl dL_law_710 ?_
                refine r_aload C0 16 rfl dL_law_711 ?_
                refine r_iload C0 21 rfl dL_law_713 ?_
                refine r_iload C0 23 rfl dL_law_715 ?_
                obtain ⟨q56, hf⟩ := gd_e hf
                refine r_iastc C0 hA6 q56 rfl dL_law_717 ?_
                refine r_aload C0 17 rfl dL_law_718 ?_
                refine r_iload C0 21 rfl dL_law_720 ?_
                refine r_aload_n C0 (kk := 1) 1 rfl dL_law_722 ?_
                refine r_iload C0 23 rfl dL_law_723 ?_
                obtain ⟨r59, M58, hc57, hf⟩ := bd2_e hf
                refine r_callVi C0 (As := [.int v23]) (rest := [.int v21, .ref (g.1 6 3112)]) (c_X6_priceOf l D g tb hT h1 hc57) w1_182 w1_183 w1_184 w1_13 w1_185 (x_rec4 C0 h1.1) hd_X6_priceOf rfl ⟨rfl, rfl⟩ ⟨Nat.le_of_ble_eq_true rfl, Nat.le_of_ble_eq_true rfl⟩ hc0 hs0 rfl (Nat.le_of_ble_eq_true rfl) dL_law_725 ?_
                obtain ⟨q60, hf⟩ := gd_e hf
                refine r_iastc C0 hA7 q60 rfl dL_law_728 ?_
                refine r_goto C0 (tgt := 744) (by decide) dL_law_729 ?_
                refine WW.sub [0, 1, 2, 3, 4, 5, 6, 7, 8, 9, 10, 11, 12, 13, 14, 15, 16, 17, 18, 19, 20, 21] rfl ?_
                exact B744 k398 hk398 _ _   _ hf
        · have hf := ie_f hf q39
          refine r_aload C0 11 rfl dL_law_597 ?_
          refine r_aload C0 16 rfl dL_law_599 ?_
          refine r_iload C0 21 rfl dL_law_601 ?_
          obtain ⟨q61, hf⟩ := gd_e hf
          refine r_ialdc C0 hA6 q61 rfl dL_law_603 ?_
          refine r_dup2 C0 rfl rfl dL_law_604 ?_
          obtain ⟨q62, hf⟩ := gd_e hf
          refine r_ialdc C0 hA1 q62 rfl dL_law_605 ?_
          refine r_iconst C0 (v := 1) dL_law_606 rfl ?_
          refine r_iadd C0 dL_law_607 ?_
          obtain ⟨q63, hf⟩ := gd_e hf
          refine r_iastc C0 hA1 q63 rfl dL_law_608 ?_
          refine r_aload C0 13 rfl dL_law_609 ?_
          refine r_aload C0 16 rfl dL_law_611 ?_
          refine r_iload C0 21 rfl dL_law_613 ?_
          obtain ⟨q64, hf⟩ := gd_e hf
          refine r_ialdc C0 hA6 q64 rfl dL_law_615 ?_
          refine r_dup2 C0 rfl rfl dL_law_616 ?_
          obtain ⟨q65, hf⟩ := gd_e hf
          refine r_ialdc C0 hA3 q65 rfl dL_law_617 ?_
          refine r_aload C0 17 rfl dL_law_618 ?_
          refine r_iload C0 21 rfl dL_law_620 ?_
          obtain ⟨q66, hf⟩ := gd_e hf
          refine r_ialdc C0 hA7 q66 rfl dL_law_622 ?_
          refine r_iadd C0 dL_law_623 ?_
          obtain ⟨q67, hf⟩ := gd_e hf
          refine r_iastc C0 hA3 q67 rfl dL_law_624 ?_
          refine r_aload C0 15 rfl dL_law_625 ?_
          refine r_iload C0 21 rfl dL_law_627 ?_
          refine r_dup2 C0 rfl rfl dL_law_629 ?_
          obtain ⟨q68, hf⟩ := gd_e hf
          refine r_ialdc C0 hA5 q68 rfl dL_law_630 ?_
          refine r_aload C0 17 rfl dL_law_631 ?_
          refine r_iload C0 21 rfl dL_law_633 ?_
          obtain ⟨q69, hf⟩ := gd_e hf
          refine r_ialdc C0 hA7 q69 rfl dL_law_635 ?_
          refine r_isub C0 dL_law_636 ?_
          obtain ⟨q70, hf⟩ := gd_e hf
          refine r_iastc C0 hA5 q70 rfl dL_law_637 ?_
          refine r_aload C0 19 rfl dL_law_638 ?_
          refine r_iload C0 21 rfl dL_law_640 ?_
          refine r_dup2 C0 rfl rfl dL_law_642 ?_
          obtain ⟨q71, hf⟩ := gd_e hf
          refine r_ialdc C0 hA9 q71 rfl dL_law_643 ?_
          refine r_iconst C0 (v := 1) dL_law_644 rfl ?_
          refine r_iadd C0 dL_law_645 ?_
          obtain ⟨q72, hf⟩ := gd_e hf
          refine r_iastc C0 hA9 q72 rfl dL_law_646 ?_
          refine r_iincc C0 20 rfl (k0 := 1) (by decide) (by decide) (lv2 := [(20, .int (v20 + 1)), (0, .ref b), (1, .ref (g.1 4 1664)), (2, .int step), (3, .int (nI n)), (4, .int (nI m)), (5, .int fog), (6, .int op), (7, .int rd), (8, .int si), (9, .int rg), (10, .ref (g.1 6 3000)), (11, .ref (g.1 6 3016)), (12, .ref (g.1 6 3032)), (13, .ref (g.1 6 3048)), (14, .ref (g.1 6 3064)), (15, .ref (g.1 6 3080)), (16, .ref (g.1 6 3096)), (17, .ref (g.1 6 3112)), (18, .ref (g.1 6 3128)), (19, .ref (g.1 6 3144)), (21, .int v21), (22, .int v22), (23, .int v23), (24, .int v24)]) rfl dL_law_647 ?_
          refine r_aload C0 17 rfl dL_law_650 ?_
          refine r_iload C0 21 rfl dL_law_652 ?_
          refine r_iconst C0 (v := (-1)) dL_law_654 rfl ?_
          obtain ⟨q73, hf⟩ := gd_e hf
          refine r_iastc C0 hA6 q73 rfl dL_law_655 ?_
          refine r_aload C0 18 rfl dL_law_656 ?_
          refine r_iload C0 21 rfl dL_law_658 ?_
          refine r_iconst C0 (v := 0) dL_law_660 rfl ?_
          obtain ⟨q74, hf⟩ := gd_e hf
          refine r_iastc C0 hA7 q74 rfl dL_law_661 ?_
          refine r_goto C0 (tgt := 744) (by decide) dL_law_662 ?_
          refine WW.sub [1, 2, 3, 4, 5, 6, 7, 8, 9, 10, 11, 12, 13, 14, 15, 16, 17, 18, 19, 20, 0, 21] rfl ?_
          exact B744 k398 hk398 _ _   _ hf
      · have hf := ie_f hf q37
        refine r_goto C0 (tgt := 744) (by decide) dL_law_586 ?_
        refine WW.sub [0, 1, 2, 3, 4, 5, 6, 7, 8, 9, 10, 11, 12, 13, 14, 15, 16, 17, 18, 19, 20, 21] rfl ?_
        exact B744 k398 hk398 _ _   _ hf
    · have hf := ie_f hf q35
      refine r_aload C0 14 rfl dL_law_552 ?_
      refine r_iload C0 21 rfl dL_law_554 ?_
      refine r_dup2 C0 rfl rfl dL_law_556 ?_
      obtain ⟨q75, hf⟩ := gd_e hf
      refine r_ialdc C0 hA4 q75 rfl dL_law_557 ?_
      refine r_iload C0 22 rfl dL_law_558 ?_
      refine r_aload C0 14 rfl dL_law_560 ?_
      refine r_iload C0 21 rfl dL_law_562 ?_
      obtain ⟨q76, hf⟩ := gd_e hf
      refine r_ialdc C0 hA4 q76 rfl dL_law_564 ?_
      obtain ⟨r79, M78, hc77, hf⟩ := bd2_e hf
      refine r_callSi C0 (As := [.int v22, .int (M33 (3064 + v21.toNatClampNeg))]) (rest := [.int (M33 (3064 + v21.toNatClampNeg)), .int v21, .ref (g.1 6 3064)]) (c_J6_compare_7cf53 l D g tb hT  hc77) w5_209 w5_210 w1_12 w5_211 hd_J6_compare_7cf53 rfl ⟨rfl, rfl⟩ ⟨Nat.le_of_ble_eq_true rfl, Nat.le_of_ble_eq_true rfl⟩ hc0 hs0 rfl (Nat.le_of_ble_eq_true rfl) dL_law_565 ?_
      refine r_iadd C0 dL_law_568 ?_
      obtain ⟨q80, hf⟩ := gd_e hf
      refine r_iastc C0 hA4 q80 rfl dL_law_569 ?_
      refine r_iincc C0 24 rfl (k0 := 1) (by decide) (by decide) (lv2 := [(24, .int (v24 + 1)), (0, .ref b), (1, .ref (g.1 4 1664)), (2, .int step), (3, .int (nI n)), (4, .int (nI m)), (5, .int fog), (6, .int op), (7, .int rd), (8, .int si), (9, .int rg), (10, .ref (g.1 6 3000)), (11, .ref (g.1 6 3016)), (12, .ref (g.1 6 3032)), (13, .ref (g.1 6 3048)), (14, .ref (g.1 6 3064)), (15, .ref (g.1 6 3080)), (16, .ref (g.1 6 3096)), (17, .ref (g.1 6 3112)), (18, .ref (g.1 6 3128)), (19, .ref (g.1 6 3144)), (20, .int v20), (21, .int v21), (22, .int v22), (23, .int v23)]) rfl dL_law_570 ?_
      refine r_goto C0 (tgt := 541) (by decide) dL_law_573 ?_
      refine WW.sub [1, 2, 3, 4, 5, 6, 7, 8, 9, 10, 11, 12, 13, 14, 15, 16, 17, 18, 19, 20, 21, 22, 23, 24, 0] rfl ?_
      exact hk541 _ _ _ _ _   _ hf
  have L541 : ∀ (k398 : Int32 → Int32 → xM → Option (Int32 × xM)) (hk398 : ∀ (v20 : Int32) (v21 : Int32)  (M : xM), k398 v20 v21 M = some (o20, M') → WW p l e room_1 s m0 args below meth c cells slots Q 26 D g tb 398 [(0, .ref b), (1, .ref (g.1 4 1664)), (2, .int step), (3, .int (nI n)), (4, .int (nI m)), (5, .int fog), (6, .int op), (7, .int rd), (8, .int si), (9, .int rg), (10, .ref (g.1 6 3000)), (11, .ref (g.1 6 3016)), (12, .ref (g.1 6 3032)), (13, .ref (g.1 6 3048)), (14, .ref (g.1 6 3064)), (15, .ref (g.1 6 3080)), (16, .ref (g.1 6 3096)), (17, .ref (g.1 6 3112)), (18, .ref (g.1 6 3128)), (19, .ref (g.1 6 3144)), (20, .int v20), (21, .int v21)] [] M), ∀ (v20 : Int32) (v21 : Int32) (v22 : Int32) (v23 : Int32) (v24 : Int32)  (M : xM), f_LS_C_c541 k398 n m fog op v20 v21 v22 v23 v24 M = some (o20, M') → WW p l e room_1 s m0 args below meth c cells slots Q 26 D g tb 541 [(0, .ref b), (1, .ref (g.1 4 1664)), (2, .int step), (3, .int (nI n)), (4, .int (nI m)), (5, .int fog), (6, .int op), (7, .int rd), (8, .int si), (9, .int rg), (10, .ref (g.1 6 3000)), (11, .ref (g.1 6 3016)), (12, .ref (g.1 6 3032)), (13, .ref (g.1 6 3048)), (14, .ref (g.1 6 3064)), (15, .ref (g.1 6 3080)), (16, .ref (g.1 6 3096)), (17, .ref (g.1 6 3112)), (18, .ref (g.1 6 3128)), (19, .ref (g.1 6 3144)), (20, .int v20), (21, .int v21), (22, .int v22), (23, .int v23), (24, .int v24)] [] M := fun k398 hk398 => lp_ind (P := fun f => ∀ (v20 : Int32) (v21 : Int32) (v22 : Int32) (v23 : Int32) (v24 : Int32)  (M : xM), f v20 v21 v22 v23 v24 M = some (o20, M') → WW p l e room_1 s m0 args below meth c cells slots Q 26 D g tb 541 [(0, .ref b), (1, .ref (g.1 4 1664)), (2, .int step), (3, .int (nI n)), (4, .int (nI m)), (5, .int fog), (6, .int op), (7, .int rd), (8, .int si), (9, .int rg), (10, .ref (g.1 6 3000)), (11, .ref (g.1 6 3016)), (12, .ref (g.1 6 3032)), (13, .ref (g.1 6 3048)), (14, .ref (g.1 6 3064)), (15, .ref (g.1 6 3080)), (16, .ref (g.1 6 3096)), (17, .ref (g.1 6 3112)), (18, .ref (g.1 6 3128)), (19, .ref (g.1 6 3144)), (20, .int v20), (21, .int v21), (22, .int v22), (23, .int v23), (24, .int v24)] [] M) (fun _ _ _ _ _ _ h => none_ne h) (fun f hf => B541 k398 f hk398 hf) FU
  have B538 : ∀ (k398 : Int32 → Int32 → xM → Option (Int32 × xM)) (hk398 : ∀ (v20 : Int32) (v21 : Int32)  (M : xM), k398 v20 v21 M = some (o20, M') → WW p l e room_1 s m0 args below meth c cells slots Q 26 D g tb 398 [(0, .ref b), (1, .ref (g.1 4 1664)), (2, .int step), (3, .int (nI n)), (4, .int (nI m)), (5, .int fog), (6, .int op), (7, .int rd), (8, .int si), (9, .int rg), (10, .ref (g.1 6 3000)), (11, .ref (g.1 6 3016)), (12, .ref (g.1 6 3032)), (13, .ref (g.1 6 3048)), (14, .ref (g.1 6 3064)), (15, .ref (g.1 6 3080)), (16, .ref (g.1 6 3096)), (17, .ref (g.1 6 3112)), (18, .ref (g.1 6 3128)), (19, .ref (g.1 6 3144)), (20, .int v20), (21, .int v21)] [] M), ∀ (v20 : Int32) (v21 : Int32) (v22 : Int32) (v23 : Int32)  (M : xM), f_LS_C_c538 k398 n m fog op v20 v21 v22 v23 M = some (o20, M') → WW p l e room_1 s m0 args below meth c cells slots Q 26 D g tb 538 [(0, .ref b), (1, .ref (g.1 4 1664)), (2, .int step), (3, .int (nI n)), (4, .int (nI m)), (5, .int fog), (6, .int op), (7, .int rd), (8, .int si), (9, .int rg), (10, .ref (g.1 6 3000)), (11, .ref (g.1 6 3016)), (12, .ref (g.1 6 3032)), (13, .ref (g.1 6 3048)), (14, .ref (g.1 6 3064)), (15, .ref (g.1 6 3080)), (16, .ref (g.1 6 3096)), (17, .ref (g.1 6 3112)), (18, .ref (g.1 6 3128)), (19, .ref (g.1 6 3144)), (20, .int v20), (21, .int v21), (22, .int v22), (23, .int v23)] [] M := by
    intro k398 hk398 v20 v21 v22 v23  M hf
    unfold f_LS_C_c538 at hf
    refine r_iconst C0 (v := 0) dL_law_538 rfl ?_
    refine r_istore C0 (lv2 := [(24, .int 0), (0, .ref b), (1, .ref (g.1 4 1664)), (2, .int step), (3, .int (nI n)), (4, .int (nI m)), (5, .int fog), (6, .int op), (7, .int rd), (8, .int si), (9, .int rg), (10, .ref (g.1 6 3000)), (11, .ref (g.1 6 3016)), (12, .ref (g.1 6 3032)), (13, .ref (g.1 6 3048)), (14, .ref (g.1 6 3064)), (15, .ref (g.1 6 3080)), (16, .ref (g.1 6 3096)), (17, .ref (g.1 6 3112)), (18, .ref (g.1 6 3128)), (19, .ref (g.1 6 3144)), (20, .int v20), (21, .int v21), (22, .int v22), (23, .int v23)]) (by decide) rfl dL_law_539 ?_
    refine WW.sub [1, 2, 3, 4, 5, 6, 7, 8, 9, 10, 11, 12, 13, 14, 15, 16, 17, 18, 19, 20, 21, 22, 23, 24, 0] rfl ?_
    exact L541 k398 hk398 _ _ _ _ _   _ hf
  have B432 : ∀ (k398 : Int32 → Int32 → xM → Option (Int32 × xM)) (k432 : Int32 → Int32 → Int32 → Int32 → xM → Option (Int32 × xM)) (hk398 : ∀ (v20 : Int32) (v21 : Int32)  (M : xM), k398 v20 v21 M = some (o20, M') → WW p l e room_1 s m0 args below meth c cells slots Q 26 D g tb 398 [(0, .ref b), (1, .ref (g.1 4 1664)), (2, .int step), (3, .int (nI n)), (4, .int (nI m)), (5, .int fog), (6, .int op), (7, .int rd), (8, .int si), (9, .int rg), (10, .ref (g.1 6 3000)), (11, .ref (g.1 6 3016)), (12, .ref (g.1 6 3032)), (13, .ref (g.1 6 3048)), (14, .ref (g.1 6 3064)), (15, .ref (g.1 6 3080)), (16, .ref (g.1 6 3096)), (17, .ref (g.1 6 3112)), (18, .ref (g.1 6 3128)), (19, .ref (g.1 6 3144)), (20, .int v20), (21, .int v21)] [] M) (hk432 : ∀ (v20 : Int32) (v21 : Int32) (v23 : Int32) (v24 : Int32)  (M : xM), k432 v20 v21 v23 v24 M = some (o20, M') → WW p l e room_1 s m0 args below meth c cells slots Q 26 D g tb 432 [(0, .ref b), (1, .ref (g.1 4 1664)), (2, .int step), (3, .int (nI n)), (4, .int (nI m)), (5, .int fog), (6, .int op), (7, .int rd), (8, .int si), (9, .int rg), (10, .ref (g.1 6 3000)), (11, .ref (g.1 6 3016)), (12, .ref (g.1 6 3032)), (13, .ref (g.1 6 3048)), (14, .ref (g.1 6 3064)), (15, .ref (g.1 6 3080)), (16, .ref (g.1 6 3096)), (17, .ref (g.1 6 3112)), (18, .ref (g.1 6 3128)), (19, .ref (g.1 6 3144)), (20, .int v20), (21, .int v21), (23, .int v23), (24, .int v24)] [] M), ∀ (v20 : Int32) (v21 : Int32) (v23 : Int32) (v24 : Int32)  (M : xM), fb_LS_C_c432 k398 k432 n m fog op v20 v21 v23 v24 M = some (o20, M') → WW p l e room_1 s m0 args below meth c cells slots Q 26 D g tb 432 [(0, .ref b), (1, .ref (g.1 4 1664)), (2, .int step), (3, .int (nI n)), (4, .int (nI m)), (5, .int fog), (6, .int op), (7, .int rd), (8, .int si), (9, .int rg), (10, .ref (g.1 6 3000)), (11, .ref (g.1 6 3016)), (12, .ref (g.1 6 3032)), (13, .ref (g.1 6 3048)), (14, .ref (g.1 6 3064)), (15, .ref (g.1 6 3080)), (16, .ref (g.1 6 3096)), (17, .ref (g.1 6 3112)), (18, .ref (g.1 6 3128)), (19, .ref (g.1 6 3144)), (20, .int v20), (21, .int v21), (23, .int v23), (24, .int v24)] [] M := by
    intro k398 k432 hk398 hk432 v20 v21 v23 v24  M hf
    unfold fb_LS_C_c432 at hf
    refine r_iload C0 23 rfl dL_law_432 ?_
    refine r_if_lt C0 (tgt := 522) (by decide) dL_law_434 (fun q8 => ?_) (fun q8 => ?_)
    · have hf := ie_t hf q8
      refine r_iload C0 22 rfl dL_law_522 ?_
      refine r_if_ge C0 (tgt := 530) (by decide) dL_law_524 (fun q9 => ?_) (fun q9 => ?_)
      · have hf := ie_t hf q9
        refine r_aload_n C0 (kk := 1) 1 rfl dL_law_530 ?_
        refine r_iload C0 22 rfl dL_law_531 ?_
        obtain ⟨r12, M11, hc10, hf⟩ := bd2_e hf
        refine r_callVi C0 (As := [.int v23]) (rest := []) (c_X6_positionOf l D g tb hT h1 hc10) w1_145 w1_146 w1_147 w1_13 w1_148 (x_rec4 C0 h1.1) hd_X6_positionOf rfl ⟨rfl, rfl⟩ ⟨Nat.le_of_ble_eq_true rfl, Nat.le_of_ble_eq_true rfl⟩ hc0 hs0 rfl (Nat.le_of_ble_eq_true rfl) dL_law_533 ?_
        refine r_istore C0 (lv2 := [(22, .int r12), (0, .ref b), (1, .ref (g.1 4 1664)), (2, .int step), (3, .int (nI n)), (4, .int (nI m)), (5, .int fog), (6, .int op), (7, .int rd), (8, .int si), (9, .int rg), (10, .ref (g.1 6 3000)), (11, .ref (g.1 6 3016)), (12, .ref (g.1 6 3032)), (13, .ref (g.1 6 3048)), (14, .ref (g.1 6 3064)), (15, .ref (g.1 6 3080)), (16, .ref (g.1 6 3096)), (17, .ref (g.1 6 3112)), (18, .ref (g.1 6 3128)), (19, .ref (g.1 6 3144)), (20, .int v20), (21, .int v21), (23, .int v23), (24, .int v24)]) (by decide) rfl dL_law_536 ?_
        refine WW.sub [1, 2, 3, 4, 5, 6, 7, 8, 9, 10, 11, 12, 13, 14, 15, 16, 17, 18, 19, 20, 21, 22, 0, 23] rfl ?_
        exact B538 k398 hk398 _ _ _ _   _ hf
      · have hf := ie_f hf q9
        refine r_goto C0 (tgt := 744) (by decide) dL_law_527 ?_
        refine WW.sub [0, 1, 2, 3, 4, 5, 6, 7, 8, 9, 10, 11, 12, 13, 14, 15, 16, 17, 18, 19, 20, 21] rfl ?_
        exact B744 k398 hk398 _ _   _ hf
    · have hf := ie_f hf q8
      refine r_aload_n C0 (kk := 1) 1 rfl dL_law_437 ?_
      refine r_iload C0 23 rfl dL_law_438 ?_
      obtain ⟨r15, M14, hc13, hf⟩ := bd2_e hf
      refine r_callVi C0 (As := [.int v24]) (rest := []) (c_X6_positionOf l D g tb hT h1 hc13) w1_145 w1_146 w1_147 w1_13 w1_148 (x_rec4 C0 h1.1) hd_X6_positionOf rfl ⟨rfl, rfl⟩ ⟨Nat.le_of_ble_eq_true rfl, Nat.le_of_ble_eq_true rfl⟩ hc0 hs0 rfl (Nat.le_of_ble_eq_true rfl) dL_law_440 ?_
      refine r_aload C0 14 rfl dL_law_443 ?_
      refine r_iload C0 21 rfl dL_law_445 ?_
      obtain ⟨q16, hf⟩ := gd_e hf
      refine r_ialdc C0 hA4 q16 rfl dL_law_447 ?_
      refine r_isub C0 dL_law_448 ?_
      refine r_abs C0 w5_212 w2_16 w1_6 w2_17 (Nat.le_of_ble_eq_true rfl) (Nat.le_of_ble_eq_true rfl) hc0 hs0 dL_law_449 ?_
      refine r_istore C0 (lv2 := [(25, .int (iabs (r15 - (M14 (3064 + v21.toNatClampNeg))))), (0, .ref b), (1, .ref (g.1 4 1664)), (2, .int step), (3, .int (nI n)), (4, .int (nI m)), (5, .int fog), (6, .int op), (7, .int rd), (8, .int si), (9, .int rg), (10, .ref (g.1 6 3000)), (11, .ref (g.1 6 3016)), (12, .ref (g.1 6 3032)), (13, .ref (g.1 6 3048)), (14, .ref (g.1 6 3064)), (15, .ref (g.1 6 3080)), (16, .ref (g.1 6 3096)), (17, .ref (g.1 6 3112)), (18, .ref (g.1 6 3128)), (19, .ref (g.1 6 3144)), (20, .int v20), (21, .int v21), (23, .int v23), (24, .int v24)]) (by decide) rfl dL_law_452 ?_
      refine r_aload C0 19 rfl dL_law_454 ?_
      refine r_iload C0 22 rfl dL_law_456 ?_
      obtain ⟨q17, hf⟩ := gd_e hf
      refine r_ialdc C0 hA8 q17 rfl dL_law_458 ?_
      refine r_iload C0 24 rfl dL_law_459 ?_
      refine r_ishr C0 dL_law_461 ?_
      refine r_iconst C0 (v := 1) dL_law_462 rfl ?_
      refine r_iand C0 dL_law_463 ?_
      refine r_iconst C0 (v := 1) dL_law_464 rfl ?_
      refine r_icmp_eq C0 (tgt := 516) (by decide) dL_law_465 (fun q18 => ?_) (fun q18 => ?_)
      · have hf := ie_t hf q18
        refine WW.sub [1, 2, 3, 4, 5, 6, 7, 8, 9, 10, 11, 12, 13, 14, 15, 16, 17, 18, 19, 20, 21, 22, 23, 24] rfl ?_
        exact B516 k398 k432 hk398 hk432 _ _ _ _   _ hf
      · have hf := ie_f hf q18
        refine r_iload C0 0 rfl dL_law_468 ?_
        refine r_aload_n C0 (kk := 1) 2 rfl dL_law_470 ?_
        refine r_iload C0 24 rfl dL_law_471 ?_
        obtain ⟨r21, M20, hc19, hf⟩ := bd2_e hf
        refine r_callVi C0 (As := [.int v24]) (rest := [.int (iabs (r15 - (M14 (3064 + v21.toNatClampNeg))))]) (c_X6_lanternOf l D g tb hT h1 hc19) w1_174 w1_175 w1_176 w1_13 w1_177 (x_rec4 C0 h1.1) hd_X6_lanternOf rfl ⟨rfl, rfl⟩ ⟨Nat.le_of_ble_eq_true rfl, Nat.le_of_ble_eq_true rfl⟩ hc0 hs0 rfl (Nat.le_of_ble_eq_true rfl) dL_law_473 ?_
        refine r_iload C0 6 rfl dL_law_476 ?_
        obtain ⟨r24, M23, hc22, hf⟩ := bd2_e hf
        refine r_callSi C0 (As := [.int r21, .int fog]) (rest := [.int (iabs (r15 - (M14 (3064 + v21.toNatClampNeg))))]) (c_L_reach l D g tb hT  hc22) w5_203 w5_204 w1_0 w5_205 hd_L_reach rfl ⟨rfl, rfl⟩ ⟨Nat.le_of_ble_eq_true rfl, Nat.le_of_ble_eq_true rfl⟩ hc0 hs0 rfl (Nat.le_of_ble_eq_true rfl) dL_law_478 ?_
        refine r_icmp_le C0 (tgt := 487) (by decide) dL_law_481 (fun q25 => ?_) (fun q25 => ?_)
        · have hf := ie_t hf q25
          refine r_iload C0 23 rfl dL_law_487 ?_
          refine r_if_lt C0 (tgt := 512) (by decide) dL_law_489 (fun q26 => ?_) (fun q26 => ?_)
          · have hf := ie_t hf q26
            refine WW.sub [1, 2, 3, 4, 5, 6, 7, 8, 9, 10, 11, 12, 13, 14, 15, 16, 17, 18, 19, 20, 21, 22, 24] rfl ?_
            exact B512 k398 k432 hk398 hk432 _ _ _   _ hf
          · have hf := ie_f hf q26
            refine r_iload C0 0 rfl dL_law_492 ?_
            refine r_aload_n C0 (kk := 1) 2 rfl dL_law_494 ?_
            refine r_iload C0 23 rfl dL_law_495 ?_
            obtain ⟨r29, M28, hc27, hf⟩ := bd2_e hf
            refine r_callVi C0 (As := [.int v23]) (rest := [.int (iabs (r15 - (M14 (3064 + v21.toNatClampNeg))))]) (c_X6_positionOf l D g tb hT h1 hc27) w1_145 w1_146 w1_147 w1_13 w1_148 (x_rec4 C0 h1.1) hd_X6_positionOf rfl ⟨rfl, rfl⟩ ⟨Nat.le_of_ble_eq_true rfl, Nat.le_of_ble_eq_true rfl⟩ hc0 hs0 rfl (Nat.le_of_ble_eq_true rfl) dL_law_497 ?_
            refine r_aload C0 15 rfl dL_law_500 ?_
            refine r_iload C0 22 rfl dL_law_502 ?_
            obtain ⟨q30, hf⟩ := gd_e hf
            refine r_ialdc C0 hA4 q30 rfl dL_law_504 ?_
            refine r_isub C0 dL_law_505 ?_
            refine r_abs C0 w5_212 w2_16 w1_6 w2_17 (Nat.le_of_ble_eq_true rfl) (Nat.le_of_ble_eq_true rfl) hc0 hs0 dL_law_506 ?_
            refine r_icmp_gt C0 (tgt := 516) (by decide) dL_law_509 (fun q31 => ?_) (fun q31 => ?_)
            · have hf := ie_t hf q31
              refine WW.sub [1, 2, 3, 4, 5, 6, 7, 8, 9, 10, 11, 12, 13, 14, 15, 16, 17, 18, 19, 20, 21, 22, 23, 24] rfl ?_
              exact B516 k398 k432 hk398 hk432 _ _ _ _   _ hf
            · have hf := ie_f hf q31
              refine WW.sub [1, 2, 3, 4, 5, 6, 7, 8, 9, 10, 11, 12, 13, 14, 15, 16, 17, 18, 19, 20, 21, 22, 24] rfl ?_
              exact B512 k398 k432 hk398 hk432 _ _ _   _ hf
        · have hf := ie_f hf q25
          refine r_goto C0 (tgt := 516) (by decide) dL_law_484 ?_
          refine WW.sub [1, 2, 3, 4, 5, 6, 7, 8, 9, 10, 11, 12, 13, 14, 15, 16, 17, 18, 19, 20, 21, 22, 23, 24] rfl ?_
          exact B516 k398 k432 hk398 hk432 _ _ _ _   _ hf
  have L432 : ∀ (k398 : Int32 → Int32 → xM → Option (Int32 × xM)) (hk398 : ∀ (v20 : Int32) (v21 : Int32)  (M : xM), k398 v20 v21 M = some (o20, M') → WW p l e room_1 s m0 args below meth c cells slots Q 26 D g tb 398 [(0, .ref b), (1, .ref (g.1 4 1664)), (2, .int step), (3, .int (nI n)), (4, .int (nI m)), (5, .int fog), (6, .int op), (7, .int rd), (8, .int si), (9, .int rg), (10, .ref (g.1 6 3000)), (11, .ref (g.1 6 3016)), (12, .ref (g.1 6 3032)), (13, .ref (g.1 6 3048)), (14, .ref (g.1 6 3064)), (15, .ref (g.1 6 3080)), (16, .ref (g.1 6 3096)), (17, .ref (g.1 6 3112)), (18, .ref (g.1 6 3128)), (19, .ref (g.1 6 3144)), (20, .int v20), (21, .int v21)] [] M), ∀ (v20 : Int32) (v21 : Int32) (v23 : Int32) (v24 : Int32)  (M : xM), f_LS_C_c432 k398 n m fog op v20 v21 v23 v24 M = some (o20, M') → WW p l e room_1 s m0 args below meth c cells slots Q 26 D g tb 432 [(0, .ref b), (1, .ref (g.1 4 1664)), (2, .int step), (3, .int (nI n)), (4, .int (nI m)), (5, .int fog), (6, .int op), (7, .int rd), (8, .int si), (9, .int rg), (10, .ref (g.1 6 3000)), (11, .ref (g.1 6 3016)), (12, .ref (g.1 6 3032)), (13, .ref (g.1 6 3048)), (14, .ref (g.1 6 3064)), (15, .ref (g.1 6 3080)), (16, .ref (g.1 6 3096)), (17, .ref (g.1 6 3112)), (18, .ref (g.1 6 3128)), (19, .ref (g.1 6 3144)), (20, .int v20), (21, .int v21), (23, .int v23), (24, .int v24)] [] M := fun k398 hk398 => lp_ind (P := fun f => ∀ (v20 : Int32) (v21 : Int32) (v23 : Int32) (v24 : Int32)  (M : xM), f v20 v21 v23 v24 M = some (o20, M') → WW p l e room_1 s m0 args below meth c cells slots Q 26 D g tb 432 [(0, .ref b), (1, .ref (g.1 4 1664)), (2, .int step), (3, .int (nI n)), (4, .int (nI m)), (5, .int fog), (6, .int op), (7, .int rd), (8, .int si), (9, .int rg), (10, .ref (g.1 6 3000)), (11, .ref (g.1 6 3016)), (12, .ref (g.1 6 3032)), (13, .ref (g.1 6 3048)), (14, .ref (g.1 6 3064)), (15, .ref (g.1 6 3080)), (16, .ref (g.1 6 3096)), (17, .ref (g.1 6 3112)), (18, .ref (g.1 6 3128)), (19, .ref (g.1 6 3144)), (20, .int v20), (21, .int v21), (23, .int v23), (24, .int v24)] [] M) (fun _ _ _ _ _ h => none_ne h) (fun f hf => B432 k398 f hk398 hf) FU
  have B398 : ∀ (k398 : Int32 → Int32 → xM → Option (Int32 × xM)) (hk398 : ∀ (v20 : Int32) (v21 : Int32)  (M : xM), k398 v20 v21 M = some (o20, M') → WW p l e room_1 s m0 args below meth c cells slots Q 26 D g tb 398 [(0, .ref b), (1, .ref (g.1 4 1664)), (2, .int step), (3, .int (nI n)), (4, .int (nI m)), (5, .int fog), (6, .int op), (7, .int rd), (8, .int si), (9, .int rg), (10, .ref (g.1 6 3000)), (11, .ref (g.1 6 3016)), (12, .ref (g.1 6 3032)), (13, .ref (g.1 6 3048)), (14, .ref (g.1 6 3064)), (15, .ref (g.1 6 3080)), (16, .ref (g.1 6 3096)), (17, .ref (g.1 6 3112)), (18, .ref (g.1 6 3128)), (19, .ref (g.1 6 3144)), (20, .int v20), (21, .int v21)] [] M), ∀ (v20 : Int32) (v21 : Int32)  (M : xM), fb_LS_C_c398 k398 n m fog op v20 v21 M = some (o20, M') → WW p l e room_1 s m0 args below meth c cells slots Q 26 D g tb 398 [(0, .ref b), (1, .ref (g.1 4 1664)), (2, .int step), (3, .int (nI n)), (4, .int (nI m)), (5, .int fog), (6, .int op), (7, .int rd), (8, .int si), (9, .int rg), (10, .ref (g.1 6 3000)), (11, .ref (g.1 6 3016)), (12, .ref (g.1 6 3032)), (13, .ref (g.1 6 3048)), (14, .ref (g.1 6 3064)), (15, .ref (g.1 6 3080)), (16, .ref (g.1 6 3096)), (17, .ref (g.1 6 3112)), (18, .ref (g.1 6 3128)), (19, .ref (g.1 6 3144)), (20, .int v20), (21, .int v21)] [] M := by
    intro k398 hk398 v20 v21  M hf
    unfold fb_LS_C_c398 at hf
    refine r_iload C0 21 rfl dL_law_398 ?_
    refine r_iload C0 4 rfl dL_law_400 ?_
    refine r_icmp_ge C0 (tgt := 750) (by decide) dL_law_402 (fun q1 => ?_) (fun q1 => ?_)
    · have hf := ie_t hf q1
      refine WW.sub [20, 0, 1, 2, 3, 4, 5, 6, 7, 8, 9, 10, 11, 12, 13, 14, 15, 16, 17, 18, 19] rfl ?_
      exact hend hf
    · have hf := ie_f hf q1
      refine r_iload C0 6 rfl dL_law_405 ?_
      refine r_if_eq C0 (tgt := 750) (by decide) dL_law_407 (fun q2 => ?_) (fun q2 => ?_)
      · have hf := ie_t hf q2
        refine WW.sub [20, 0, 1, 2, 3, 4, 5, 6, 7, 8, 9, 10, 11, 12, 13, 14, 15, 16, 17, 18, 19] rfl ?_
        exact hend hf
      · have hf := ie_f hf q2
        refine r_aload_n C0 (kk := 1) 1 rfl dL_law_410 ?_
        obtain ⟨r5, M4, hc3, hf⟩ := bd2_e hf
        refine r_callVi C0 (As := []) (rest := []) (c_X6_bellPosition l D g tb hT h1 hc3) w1_31 w1_32 w1_33 w1_13 w1_34 (x_rec4 C0 h1.1) hd_X6_bellPosition rfl ⟨rfl, rfl⟩ ⟨Nat.le_of_ble_eq_true rfl, Nat.le_of_ble_eq_true rfl⟩ hc0 hs0 rfl (Nat.le_of_ble_eq_true rfl) dL_law_411 ?_
        refine r_istore C0 (lv2 := [(22, .int r5), (0, .ref b), (1, .ref (g.1 4 1664)), (2, .int step), (3, .int (nI n)), (4, .int (nI m)), (5, .int fog), (6, .int op), (7, .int rd), (8, .int si), (9, .int rg), (10, .ref (g.1 6 3000)), (11, .ref (g.1 6 3016)), (12, .ref (g.1 6 3032)), (13, .ref (g.1 6 3048)), (14, .ref (g.1 6 3064)), (15, .ref (g.1 6 3080)), (16, .ref (g.1 6 3096)), (17, .ref (g.1 6 3112)), (18, .ref (g.1 6 3128)), (19, .ref (g.1 6 3144)), (20, .int v20), (21, .int v21)]) (by decide) rfl dL_law_414 ?_
        refine r_iconst C0 (v := (-1)) dL_law_416 rfl ?_
        refine r_istore C0 (lv2 := [(23, .int (-1)), (22, .int r5), (0, .ref b), (1, .ref (g.1 4 1664)), (2, .int step), (3, .int (nI n)), (4, .int (nI m)), (5, .int fog), (6, .int op), (7, .int rd), (8, .int si), (9, .int rg), (10, .ref (g.1 6 3000)), (11, .ref (g.1 6 3016)), (12, .ref (g.1 6 3032)), (13, .ref (g.1 6 3048)), (14, .ref (g.1 6 3064)), (15, .ref (g.1 6 3080)), (16, .ref (g.1 6 3096)), (17, .ref (g.1 6 3112)), (18, .ref (g.1 6 3128)), (19, .ref (g.1 6 3144)), (20, .int v20), (21, .int v21)]) (by decide) rfl dL_law_417 ?_
        refine r_aload C0 18 rfl dL_law_419 ?_
        refine r_iload C0 23 rfl dL_law_421 ?_
        obtain ⟨q6, hf⟩ := gd_e hf
        refine r_ialdc C0 hA6 q6 rfl dL_law_423 ?_
        refine r_if_ge C0 (tgt := 538) (by decide) dL_law_424 (fun q7 => ?_) (fun q7 => ?_)
        · have hf := ie_t hf q7
          refine WW.sub [2, 3, 4, 5, 6, 7, 8, 9, 10, 11, 12, 13, 14, 15, 16, 17, 18, 19, 20, 21, 22, 23, 1, 0] rfl ?_
          exact B538 k398 hk398 _ _ _ _   _ hf
        · have hf := ie_f hf q7
          refine r_iload_n C0 (kk := 3) 5 rfl dL_law_427 ?_
          refine r_iconst C0 (v := 1) dL_law_428 rfl ?_
          refine r_isub C0 dL_law_429 ?_
          refine r_istore C0 (lv2 := [(24, .int ((nI n) - 1)), (23, .int (-1)), (22, .int r5), (0, .ref b), (1, .ref (g.1 4 1664)), (2, .int step), (3, .int (nI n)), (4, .int (nI m)), (5, .int fog), (6, .int op), (7, .int rd), (8, .int si), (9, .int rg), (10, .ref (g.1 6 3000)), (11, .ref (g.1 6 3016)), (12, .ref (g.1 6 3032)), (13, .ref (g.1 6 3048)), (14, .ref (g.1 6 3064)), (15, .ref (g.1 6 3080)), (16, .ref (g.1 6 3096)), (17, .ref (g.1 6 3112)), (18, .ref (g.1 6 3128)), (19, .ref (g.1 6 3144)), (20, .int v20), (21, .int v21)]) (by decide) rfl dL_law_430 ?_
          refine WW.sub [3, 4, 5, 6, 7, 8, 9, 10, 11, 12, 13, 14, 15, 16, 17, 18, 19, 20, 21, 22, 23, 24, 1, 0] rfl ?_
          exact L432 k398 hk398 _ _ _ _   _ hf
  have L398 : ∀ (v20 : Int32) (v21 : Int32)  (M : xM), f_LS_C_c398  n m fog op v20 v21 M = some (o20, M') → WW p l e room_1 s m0 args below meth c cells slots Q 26 D g tb 398 [(0, .ref b), (1, .ref (g.1 4 1664)), (2, .int step), (3, .int (nI n)), (4, .int (nI m)), (5, .int fog), (6, .int op), (7, .int rd), (8, .int si), (9, .int rg), (10, .ref (g.1 6 3000)), (11, .ref (g.1 6 3016)), (12, .ref (g.1 6 3032)), (13, .ref (g.1 6 3048)), (14, .ref (g.1 6 3064)), (15, .ref (g.1 6 3080)), (16, .ref (g.1 6 3096)), (17, .ref (g.1 6 3112)), (18, .ref (g.1 6 3128)), (19, .ref (g.1 6 3144)), (20, .int v20), (21, .int v21)] [] M := lp_ind (P := fun f => ∀ (v20 : Int32) (v21 : Int32)  (M : xM), f v20 v21 M = some (o20, M') → WW p l e room_1 s m0 args below meth c cells slots Q 26 D g tb 398 [(0, .ref b), (1, .ref (g.1 4 1664)), (2, .int step), (3, .int (nI n)), (4, .int (nI m)), (5, .int fog), (6, .int op), (7, .int rd), (8, .int si), (9, .int rg), (10, .ref (g.1 6 3000)), (11, .ref (g.1 6 3016)), (12, .ref (g.1 6 3032)), (13, .ref (g.1 6 3048)), (14, .ref (g.1 6 3064)), (15, .ref (g.1 6 3080)), (16, .ref (g.1 6 3096)), (17, .ref (g.1 6 3112)), (18, .ref (g.1 6 3128)), (19, .ref (g.1 6 3144)), (20, .int v20), (21, .int v21)] [] M) (fun _ _ _ h => none_ne h) (fun f hf => B398 f hf) FU
  unfold f_LS_C at hf
  refine r_iconst C0 (v := 0) dL_law_392 rfl ?_
  refine r_istore C0 (lv2 := [(20, .int 0), (0, .ref b), (1, .ref (g.1 4 1664)), (2, .int step), (3, .int (nI n)), (4, .int (nI m)), (5, .int fog), (6, .int op), (7, .int rd), (8, .int si), (9, .int rg), (10, .ref (g.1 6 3000)), (11, .ref (g.1 6 3016)), (12, .ref (g.1 6 3032)), (13, .ref (g.1 6 3048)), (14, .ref (g.1 6 3064)), (15, .ref (g.1 6 3080)), (16, .ref (g.1 6 3096)), (17, .ref (g.1 6 3112)), (18, .ref (g.1 6 3128)), (19, .ref (g.1 6 3144))]) (by decide) rfl dL_law_393 ?_
  refine r_iconst C0 (v := 0) dL_law_395 rfl ?_
  refine r_istore C0 (lv2 := [(21, .int 0), (20, .int 0), (0, .ref b), (1, .ref (g.1 4 1664)), (2, .int step), (3, .int (nI n)), (4, .int (nI m)), (5, .int fog), (6, .int op), (7, .int rd), (8, .int si), (9, .int rg), (10, .ref (g.1 6 3000)), (11, .ref (g.1 6 3016)), (12, .ref (g.1 6 3032)), (13, .ref (g.1 6 3048)), (14, .ref (g.1 6 3064)), (15, .ref (g.1 6 3080)), (16, .ref (g.1 6 3096)), (17, .ref (g.1 6 3112)), (18, .ref (g.1 6 3128)), (19, .ref (g.1 6 3144))]) (by decide) rfl dL_law_396 ?_
  refine WW.sub [2, 3, 4, 5, 6, 7, 8, 9, 10, 11, 12, 13, 14, 15, 16, 17, 18, 19, 20, 21, 1, 0] rfl ?_
  exact L398   _ _   _ hf
