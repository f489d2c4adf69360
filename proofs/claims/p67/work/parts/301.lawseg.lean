/-! the law's walk, segment A -/
set_option maxRecDepth 100000 in
set_option maxHeartbeats 8000000 in
theorem c_LS_A {p : Program} {l : Launch} {e : Env} {s : State} {m0 : MethodId} {args : Array Value} {below : List Frame} {meth : Method} {c : Code} {cells slots : Nat} {Q : State → Prop} {b : Nat} {D : va_G} {g : xG} {tb : List xQ} (C0 : CC p s m0 args c cL_law 26 RL D g tb) (hc0 : cells + 0 ≤ room_1.cells) (hs0 : slots + 0 ≤ room_1.slots) {step : Int32} {n : Nat} {m : Nat} {fog : Int32} {op : Int32} {rd : Int32} {si : Int32} {rg : Int32} (h1 : x_fb tb) (hA0 : ((6, 3000, n) : xQ) ∈ tb) (hA1 : ((6, 3016, n) : xQ) ∈ tb) (hA2 : ((6, 3032, n) : xQ) ∈ tb) (hA3 : ((6, 3048, n) : xQ) ∈ tb) (hA4 : ((6, 3064, m) : xQ) ∈ tb) (hA5 : ((6, 3080, m) : xQ) ∈ tb) (hA6 : ((6, 3096, m) : xQ) ∈ tb) (hA7 : ((6, 3112, m) : xQ) ∈ tb) (hA8 : ((6, 3128, m) : xQ) ∈ tb) (hA9 : ((6, 3144, m) : xQ) ∈ tb) {M M' : xM}  (hf : f_LS_A n m M = some M')
    (hend : ∀ { M0 : xM}, (some (M0) : Option xM) = some M' → WW p l e room_1 s m0 args below meth c cells slots Q 26 D g tb 278 [(0, .ref b), (1, .ref (g.1 4 1664)), (2, .int step), (3, .int (nI n)), (4, .int (nI m)), (5, .int fog), (6, .int op), (7, .int rd), (8, .int si), (9, .int rg), (10, .ref (g.1 6 3000)), (11, .ref (g.1 6 3016)), (12, .ref (g.1 6 3032)), (13, .ref (g.1 6 3048)), (14, .ref (g.1 6 3064)), (15, .ref (g.1 6 3080)), (16, .ref (g.1 6 3096)), (17, .ref (g.1 6 3112)), (18, .ref (g.1 6 3128)), (19, .ref (g.1 6 3144))] [] M0) :
    WW p l e room_1 s m0 args below meth c cells slots Q 26 D g tb 137 [(0, .ref b), (1, .ref (g.1 4 1664)), (2, .int step), (3, .int (nI n)), (4, .int (nI m)), (5, .int fog), (6, .int op), (7, .int rd), (8, .int si), (9, .int rg), (10, .ref (g.1 6 3000)), (11, .ref (g.1 6 3016)), (12, .ref (g.1 6 3032)), (13, .ref (g.1 6 3048)), (14, .ref (g.1 6 3064)), (15, .ref (g.1 6 3080)), (16, .ref (g.1 6 3096)), (17, .ref (g.1 6 3112)), (18, .ref (g.1 6 3128)), (19, .ref (g.1 6 3144))] [] M := by
  have hT := C0.2.2.2.2.2.2.1
  have B199 : ∀ (k199 : Int32 → xM → Option xM) (hk199 : ∀ (v20 : Int32)  (M : xM), k199 v20 M = some M' → WW p l e room_1 s m0 args below meth c cells slots Q 26 D g tb 199 [(0, .ref b), (1, .ref (g.1 4 1664)), (2, .int step), (3, .int (nI n)), (4, .int (nI m)), (5, .int fog), (6, .int op), (7, .int rd), (8, .int si), (9, .int rg), (10, .ref (g.1 6 3000)), (11, .ref (g.1 6 3016)), (12, .ref (g.1 6 3032)), (13, .ref (g.1 6 3048)), (14, .ref (g.1 6 3064)), (15, .ref (g.1 6 3080)), (16, .ref (g.1 6 3096)), (17, .ref (g.1 6 3112)), (18, .ref (g.1 6 3128)), (19, .ref (g.1 6 3144)), (20, .int v20)] [] M), ∀ (v20 : Int32)  (M : xM), fb_LS_A_c199 k199 n m v20 M = some M' → WW p l e room_1 s m0 args below meth c cells slots Q 26 D g tb 199 [(0, .ref b), (1, .ref (g.1 4 1664)), (2, .int step), (3, .int (nI n)), (4, .int (nI m)), (5, .int fog), (6, .int op), (7, .int rd), (8, .int si), (9, .int rg), (10, .ref (g.1 6 3000)), (11, .ref (g.1 6 3016)), (12, .ref (g.1 6 3032)), (13, .ref (g.1 6 3048)), (14, .ref (g.1 6 3064)), (15, .ref (g.1 6 3080)), (16, .ref (g.1 6 3096)), (17, .ref (g.1 6 3112)), (18, .ref (g.1 6 3128)), (19, .ref (g.1 6 3144)), (20, .int v20)] [] M := by
    intro k199 hk199 v20  M hf
    unfold fb_LS_A_c199 at hf
    refine r_iload C0 20 rfl dL_law_199 ?_
    refine r_iload C0 4 rfl dL_law_201 ?_
    refine r_icmp_ge C0 (tgt := 278) (by decide) dL_law_203 (fun q18 => ?_) (fun q18 => ?_)
    · have hf := ie_t hf q18
      refine WW.sub [0, 1, 2, 3, 4, 5, 6, 7, 8, 9, 10, 11, 12, 13, 14, 15, 16, 17, 18, 19] rfl ?_
      exact hend hf
    · have hf := ie_f hf q18
      refine r_aload C0 14 rfl dL_law_206 ?_
      refine r_iload C0 20 rfl dL_law_208 ?_
      refine r_aload_n C0 (kk := 1) 1 rfl dL_law_210 ?_
      refine r_iload C0 20 rfl dL_law_211 ?_
      obtain ⟨r21, M20, hc19, hf⟩ := bd2_e hf
      refine r_callVi C0 (As := [.int v20]) (rest := [.int v20, .ref (g.1 6 3064)]) (c_X6_placeOf l D g tb hT h1 hc19) w1_206 w1_207 w1_208 w1_13 w1_209 (x_rec4 C0 h1.1) hd_X6_placeOf rfl ⟨rfl, rfl⟩ ⟨Nat.le_of_ble_eq_true rfl, Nat.le_of_ble_eq_true rfl⟩ hc0 hs0 rfl (Nat.le_of_ble_eq_true rfl) dL_law_213 ?_
      obtain ⟨q22, hf⟩ := gd_e hf
      refine r_iastc C0 hA4 q22 rfl dL_law_216 ?_
      refine r_aload C0 15 rfl dL_law_217 ?_
      refine r_iload C0 20 rfl dL_law_219 ?_
      refine r_aload_n C0 (kk := 1) 1 rfl dL_law_221 ?_
      refine r_iload C0 20 rfl dL_law_222 ?_
      obtain ⟨r25, M24, hc23, hf⟩ := bd2_e hf
      refine r_callVi C0 (As := [.int v20]) (rest := [.int v20, .ref (g.1 6 3080)]) (c_X6_coinsOf l D g tb hT h1 hc23) w1_219 w1_220 w1_221 w1_13 w1_222 (x_rec4 C0 h1.1) hd_X6_coinsOf rfl ⟨rfl, rfl⟩ ⟨Nat.le_of_ble_eq_true rfl, Nat.le_of_ble_eq_true rfl⟩ hc0 hs0 rfl (Nat.le_of_ble_eq_true rfl) dL_law_224 ?_
      obtain ⟨q26, hf⟩ := gd_e hf
      refine r_iastc C0 hA5 q26 rfl dL_law_227 ?_
      refine r_aload C0 16 rfl dL_law_228 ?_
      refine r_iload C0 20 rfl dL_law_230 ?_
      refine r_aload_n C0 (kk := 1) 1 rfl dL_law_232 ?_
      refine r_iload C0 20 rfl dL_law_233 ?_
      obtain ⟨r29, M28, hc27, hf⟩ := bd2_e hf
      refine r_callVi C0 (As := [.int v20]) (rest := [.int v20, .ref (g.1 6 3096)]) (c_X6_heldFrom l D g tb hT h1 hc27) w1_231 w1_232 w1_233 w1_13 w1_234 (x_rec4 C0 h1.1) hd_X6_heldFrom rfl ⟨rfl, rfl⟩ ⟨Nat.le_of_ble_eq_true rfl, Nat.le_of_ble_eq_true rfl⟩ hc0 hs0 rfl (Nat.le_of_ble_eq_true rfl) dL_law_235 ?_
      obtain ⟨q30, hf⟩ := gd_e hf
      refine r_iastc C0 hA6 q30 rfl dL_law_238 ?_
      refine r_aload C0 17 rfl dL_law_239 ?_
      refine r_iload C0 20 rfl dL_law_241 ?_
      refine r_aload_n C0 (kk := 1) 1 rfl dL_law_243 ?_
      refine r_iload C0 20 rfl dL_law_244 ?_
      obtain ⟨r33, M32, hc31, hf⟩ := bd2_e hf
      refine r_callVi C0 (As := [.int v20]) (rest := [.int v20, .ref (g.1 6 3112)]) (c_X6_debtOf l D g tb hT h1 hc31) w1_235 w1_236 w1_237 w1_13 w1_238 (x_rec4 C0 h1.1) hd_X6_debtOf rfl ⟨rfl, rfl⟩ ⟨Nat.le_of_ble_eq_true rfl, Nat.le_of_ble_eq_true rfl⟩ hc0 hs0 rfl (Nat.le_of_ble_eq_true rfl) dL_law_246 ?_
      obtain ⟨q34, hf⟩ := gd_e hf
      refine r_iastc C0 hA7 q34 rfl dL_law_249 ?_
      refine r_aload C0 18 rfl dL_law_250 ?_
      refine r_iload C0 20 rfl dL_law_252 ?_
      refine r_aload_n C0 (kk := 1) 1 rfl dL_law_254 ?_
      refine r_iload C0 20 rfl dL_law_255 ?_
      obtain ⟨r37, M36, hc35, hf⟩ := bd2_e hf
      refine r_callVi C0 (As := [.int v20]) (rest := [.int v20, .ref (g.1 6 3128)]) (c_X6_avoidedBy l D g tb hT h1 hc35) w1_239 w2_0 w2_1 w1_13 w2_2 (x_rec4 C0 h1.1) hd_X6_avoidedBy rfl ⟨rfl, rfl⟩ ⟨Nat.le_of_ble_eq_true rfl, Nat.le_of_ble_eq_true rfl⟩ hc0 hs0 rfl (Nat.le_of_ble_eq_true rfl) dL_law_257 ?_
      obtain ⟨q38, hf⟩ := gd_e hf
      refine r_iastc C0 hA8 q38 rfl dL_law_260 ?_
      refine r_aload C0 19 rfl dL_law_261 ?_
      refine r_iload C0 20 rfl dL_law_263 ?_
      refine r_aload_n C0 (kk := 1) 1 rfl dL_law_265 ?_
      refine r_iload C0 20 rfl dL_law_266 ?_
      obtain ⟨r41, M40, hc39, hf⟩ := bd2_e hf
      refine r_callVi C0 (As := [.int v20]) (rest := [.int v20, .ref (g.1 6 3144)]) (c_X6_boughtBy l D g tb hT h1 hc39) w2_3 w2_4 w2_5 w1_13 w2_6 (x_rec4 C0 h1.1) hd_X6_boughtBy rfl ⟨rfl, rfl⟩ ⟨Nat.le_of_ble_eq_true rfl, Nat.le_of_ble_eq_true rfl⟩ hc0 hs0 rfl (Nat.le_of_ble_eq_true rfl) dL_law_268 ?_
      obtain ⟨q42, hf⟩ := gd_e hf
      refine r_iastc C0 hA9 q42 rfl dL_law_271 ?_
      refine r_iincc C0 20 rfl (k0 := 1) (by decide) (by decide) (lv2 := [(20, .int (v20 + 1)), (0, .ref b), (1, .ref (g.1 4 1664)), (2, .int step), (3, .int (nI n)), (4, .int (nI m)), (5, .int fog), (6, .int op), (7, .int rd), (8, .int si), (9, .int rg), (10, .ref (g.1 6 3000)), (11, .ref (g.1 6 3016)), (12, .ref (g.1 6 3032)), (13, .ref (g.1 6 3048)), (14, .ref (g.1 6 3064)), (15, .ref (g.1 6 3080)), (16, .ref (g.1 6 3096)), (17, .ref (g.1 6 3112)), (18, .ref (g.1 6 3128)), (19, .ref (g.1 6 3144))]) rfl dL_law_272 ?_
      refine r_goto C0 (tgt := 199) (by decide) dL_law_275 ?_
      refine WW.sub [1, 2, 3, 4, 5, 6, 7, 8, 9, 10, 11, 12, 13, 14, 15, 16, 17, 18, 19, 20, 0] rfl ?_
      exact hk199 _   _ hf
  have L199 : ∀ (v20 : Int32)  (M : xM), f_LS_A_c199  n m v20 M = some M' → WW p l e room_1 s m0 args below meth c cells slots Q 26 D g tb 199 [(0, .ref b), (1, .ref (g.1 4 1664)), (2, .int step), (3, .int (nI n)), (4, .int (nI m)), (5, .int fog), (6, .int op), (7, .int rd), (8, .int si), (9, .int rg), (10, .ref (g.1 6 3000)), (11, .ref (g.1 6 3016)), (12, .ref (g.1 6 3032)), (13, .ref (g.1 6 3048)), (14, .ref (g.1 6 3064)), (15, .ref (g.1 6 3080)), (16, .ref (g.1 6 3096)), (17, .ref (g.1 6 3112)), (18, .ref (g.1 6 3128)), (19, .ref (g.1 6 3144)), (20, .int v20)] [] M := lp_ind (P := fun f => ∀ (v20 : Int32)  (M : xM), f v20 M = some M' → WW p l e room_1 s m0 args below meth c cells slots Q 26 D g tb 199 [(0, .ref b), (1, .ref (g.1 4 1664)), (2, .int step), (3, .int (nI n)), (4, .int (nI m)), (5, .int fog), (6, .int op), (7, .int rd), (8, .int si), (9, .int rg), (10, .ref (g.1 6 3000)), (11, .ref (g.1 6 3016)), (12, .ref (g.1 6 3032)), (13, .ref (g.1 6 3048)), (14, .ref (g.1 6 3064)), (15, .ref (g.1 6 3080)), (16, .ref (g.1 6 3096)), (17, .ref (g.1 6 3112)), (18, .ref (g.1 6 3128)), (19, .ref (g.1 6 3144)), (20, .int v20)] [] M) (fun _ _ h => none_ne h) (fun f hf => B199 f hf) FU
  have B140 : ∀ (k140 : Int32 → xM → Option xM) (hk140 : ∀ (v20 : Int32)  (M : xM), k140 v20 M = some M' → WW p l e room_1 s m0 args below meth c cells slots Q 26 D g tb 140 [(0, .ref b), (1, .ref (g.1 4 1664)), (2, .int step), (3, .int (nI n)), (4, .int (nI m)), (5, .int fog), (6, .int op), (7, .int rd), (8, .int si), (9, .int rg), (10, .ref (g.1 6 3000)), (11, .ref (g.1 6 3016)), (12, .ref (g.1 6 3032)), (13, .ref (g.1 6 3048)), (14, .ref (g.1 6 3064)), (15, .ref (g.1 6 3080)), (16, .ref (g.1 6 3096)), (17, .ref (g.1 6 3112)), (18, .ref (g.1 6 3128)), (19, .ref (g.1 6 3144)), (20, .int v20)] [] M), ∀ (v20 : Int32)  (M : xM), fb_LS_A_c140 k140 n m v20 M = some M' → WW p l e room_1 s m0 args below meth c cells slots Q 26 D g tb 140 [(0, .ref b), (1, .ref (g.1 4 1664)), (2, .int step), (3, .int (nI n)), (4, .int (nI m)), (5, .int fog), (6, .int op), (7, .int rd), (8, .int si), (9, .int rg), (10, .ref (g.1 6 3000)), (11, .ref (g.1 6 3016)), (12, .ref (g.1 6 3032)), (13, .ref (g.1 6 3048)), (14, .ref (g.1 6 3064)), (15, .ref (g.1 6 3080)), (16, .ref (g.1 6 3096)), (17, .ref (g.1 6 3112)), (18, .ref (g.1 6 3128)), (19, .ref (g.1 6 3144)), (20, .int v20)] [] M := by
    intro k140 hk140 v20  M hf
    unfold fb_LS_A_c140 at hf
    refine r_iload C0 20 rfl dL_law_140 ?_
    refine r_iload_n C0 (kk := 3) 3 rfl dL_law_142 ?_
    refine r_icmp_ge C0 (tgt := 196) (by decide) dL_law_143 (fun q1 => ?_) (fun q1 => ?_)
    · have hf := ie_t hf q1
      refine r_iconst C0 (v := 0) dL_law_196 rfl ?_
      refine r_istore C0 (lv2 := [(20, .int 0), (0, .ref b), (1, .ref (g.1 4 1664)), (2, .int step), (3, .int (nI n)), (4, .int (nI m)), (5, .int fog), (6, .int op), (7, .int rd), (8, .int si), (9, .int rg), (10, .ref (g.1 6 3000)), (11, .ref (g.1 6 3016)), (12, .ref (g.1 6 3032)), (13, .ref (g.1 6 3048)), (14, .ref (g.1 6 3064)), (15, .ref (g.1 6 3080)), (16, .ref (g.1 6 3096)), (17, .ref (g.1 6 3112)), (18, .ref (g.1 6 3128)), (19, .ref (g.1 6 3144))]) (by decide) rfl dL_law_197 ?_
      refine WW.sub [1, 2, 3, 4, 5, 6, 7, 8, 9, 10, 11, 12, 13, 14, 15, 16, 17, 18, 19, 20, 0] rfl ?_
      exact L199   _   _ hf
    · have hf := ie_f hf q1
      refine r_aload C0 10 rfl dL_law_146 ?_
      refine r_iload C0 20 rfl dL_law_148 ?_
      refine r_aload_n C0 (kk := 1) 1 rfl dL_law_150 ?_
      refine r_iload C0 20 rfl dL_law_151 ?_
      obtain ⟨r4, M3, hc2, hf⟩ := bd2_e hf
      refine r_callVi C0 (As := [.int v20]) (rest := [.int v20, .ref (g.1 6 3000)]) (c_X6_stockOf l D g tb hT h1 hc2) w1_186 w1_187 w1_188 w1_13 w1_189 (x_rec4 C0 h1.1) hd_X6_stockOf rfl ⟨rfl, rfl⟩ ⟨Nat.le_of_ble_eq_true rfl, Nat.le_of_ble_eq_true rfl⟩ hc0 hs0 rfl (Nat.le_of_ble_eq_true rfl) dL_law_153 ?_
      obtain ⟨q5, hf⟩ := gd_e hf
      refine r_iastc C0 hA0 q5 rfl dL_law_156 ?_
      refine r_aload C0 11 rfl dL_law_157 ?_
      refine r_iload C0 20 rfl dL_law_159 ?_
      refine r_aload_n C0 (kk := 1) 1 rfl dL_law_161 ?_
      refine r_iload C0 20 rfl dL_law_162 ?_
      obtain ⟨r8, M7, hc6, hf⟩ := bd2_e hf
      refine r_callVi C0 (As := [.int v20]) (rest := [.int v20, .ref (g.1 6 3016)]) (c_X6_soldOf l D g tb hT h1 hc6) w1_190 w1_191 w1_192 w1_13 w1_193 (x_rec4 C0 h1.1) hd_X6_soldOf rfl ⟨rfl, rfl⟩ ⟨Nat.le_of_ble_eq_true rfl, Nat.le_of_ble_eq_true rfl⟩ hc0 hs0 rfl (Nat.le_of_ble_eq_true rfl) dL_law_164 ?_
      obtain ⟨q9, hf⟩ := gd_e hf
      refine r_iastc C0 hA1 q9 rfl dL_law_167 ?_
      refine r_aload C0 12 rfl dL_law_168 ?_
      refine r_iload C0 20 rfl dL_law_170 ?_
      refine r_aload_n C0 (kk := 1) 1 rfl dL_law_172 ?_
      refine r_iload C0 20 rfl dL_law_173 ?_
      obtain ⟨r12, M11, hc10, hf⟩ := bd2_e hf
      refine r_callVi C0 (As := [.int v20]) (rest := [.int v20, .ref (g.1 6 3032)]) (c_X6_lostOf l D g tb hT h1 hc10) w1_194 w1_195 w1_196 w1_13 w1_197 (x_rec4 C0 h1.1) hd_X6_lostOf rfl ⟨rfl, rfl⟩ ⟨Nat.le_of_ble_eq_true rfl, Nat.le_of_ble_eq_true rfl⟩ hc0 hs0 rfl (Nat.le_of_ble_eq_true rfl) dL_law_175 ?_
      obtain ⟨q13, hf⟩ := gd_e hf
      refine r_iastc C0 hA2 q13 rfl dL_law_178 ?_
      refine r_aload C0 13 rfl dL_law_179 ?_
      refine r_iload C0 20 rfl dL_law_181 ?_
      refine r_aload_n C0 (kk := 1) 1 rfl dL_law_183 ?_
      refine r_iload C0 20 rfl dL_law_184 ?_
      obtain ⟨r16, M15, hc14, hf⟩ := bd2_e hf
      refine r_callVi C0 (As := [.int v20]) (rest := [.int v20, .ref (g.1 6 3048)]) (c_X6_earnings l D g tb hT h1 hc14) w1_198 w1_199 w1_200 w1_13 w1_201 (x_rec4 C0 h1.1) hd_X6_earnings rfl ⟨rfl, rfl⟩ ⟨Nat.le_of_ble_eq_true rfl, Nat.le_of_ble_eq_true rfl⟩ hc0 hs0 rfl (Nat.le_of_ble_eq_true rfl) dL_law_186 ?_
      obtain ⟨q17, hf⟩ := gd_e hf
      refine r_iastc C0 hA3 q17 rfl dL_law_189 ?_
      refine r_iincc C0 20 rfl (k0 := 1) (by decide) (by decide) (lv2 := [(20, .int (v20 + 1)), (0, .ref b), (1, .ref (g.1 4 1664)), (2, .int step), (3, .int (nI n)), (4, .int (nI m)), (5, .int fog), (6, .int op), (7, .int rd), (8, .int si), (9, .int rg), (10, .ref (g.1 6 3000)), (11, .ref (g.1 6 3016)), (12, .ref (g.1 6 3032)), (13, .ref (g.1 6 3048)), (14, .ref (g.1 6 3064)), (15, .ref (g.1 6 3080)), (16, .ref (g.1 6 3096)), (17, .ref (g.1 6 3112)), (18, .ref (g.1 6 3128)), (19, .ref (g.1 6 3144))]) rfl dL_law_190 ?_
      refine r_goto C0 (tgt := 140) (by decide) dL_law_193 ?_
      refine WW.sub [1, 2, 3, 4, 5, 6, 7, 8, 9, 10, 11, 12, 13, 14, 15, 16, 17, 18, 19, 20, 0] rfl ?_
      exact hk140 _   _ hf
  have L140 : ∀ (v20 : Int32)  (M : xM), f_LS_A_c140  n m v20 M = some M' → WW p l e room_1 s m0 args below meth c cells slots Q 26 D g tb 140 [(0, .ref b), (1, .ref (g.1 4 1664)), (2, .int step), (3, .int (nI n)), (4, .int (nI m)), (5, .int fog), (6, .int op), (7, .int rd), (8, .int si), (9, .int rg), (10, .ref (g.1 6 3000)), (11, .ref (g.1 6 3016)), (12, .ref (g.1 6 3032)), (13, .ref (g.1 6 3048)), (14, .ref (g.1 6 3064)), (15, .ref (g.1 6 3080)), (16, .ref (g.1 6 3096)), (17, .ref (g.1 6 3112)), (18, .ref (g.1 6 3128)), (19, .ref (g.1 6 3144)), (20, .int v20)] [] M := lp_ind (P := fun f => ∀ (v20 : Int32)  (M : xM), f v20 M = some M' → WW p l e room_1 s m0 args below meth c cells slots Q 26 D g tb 140 [(0, .ref b), (1, .ref (g.1 4 1664)), (2, .int step), (3, .int (nI n)), (4, .int (nI m)), (5, .int fog), (6, .int op), (7, .int rd), (8, .int si), (9, .int rg), (10, .ref (g.1 6 3000)), (11, .ref (g.1 6 3016)), (12, .ref (g.1 6 3032)), (13, .ref (g.1 6 3048)), (14, .ref (g.1 6 3064)), (15, .ref (g.1 6 3080)), (16, .ref (g.1 6 3096)), (17, .ref (g.1 6 3112)), (18, .ref (g.1 6 3128)), (19, .ref (g.1 6 3144)), (20, .int v20)] [] M) (fun _ _ h => none_ne h) (fun f hf => B140 f hf) FU
  unfold f_LS_A at hf
  refine r_iconst C0 (v := 0) dL_law_137 rfl ?_
  refine r_istore C0 (lv2 := [(20, .int 0), (0, .ref b), (1, .ref (g.1 4 1664)), (2, .int step), (3, .int (nI n)), (4, .int (nI m)), (5, .int fog), (6, .int op), (7, .int rd), (8, .int si), (9, .int rg), (10, .ref (g.1 6 3000)), (11, .ref (g.1 6 3016)), (12, .ref (g.1 6 3032)), (13, .ref (g.1 6 3048)), (14, .ref (g.1 6 3064)), (15, .ref (g.1 6 3080)), (16, .ref (g.1 6 3096)), (17, .ref (g.1 6 3112)), (18, .ref (g.1 6 3128)), (19, .ref (g.1 6 3144))]) (by decide) rfl dL_law_138 ?_
  refine WW.sub [1, 2, 3, 4, 5, 6, 7, 8, 9, 10, 11, 12, 13, 14, 15, 16, 17, 18, 19, 20, 0] rfl ?_
  exact L140   _   _ hf
