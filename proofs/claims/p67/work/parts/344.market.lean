/-! the law's market: the setup is loaded, stalls and buyers are added -/
set_option maxRecDepth 100000 in
set_option maxHeartbeats 8000000 in
theorem mk_buys {p : Program} {l : Launch} {e : Env} {s : State} {m : MethodId} {args : Array Value} {below : List Frame} {meth : Method} {c : Code} {Q : State → Prop} {D : va_G} {g : xG} {A : Nat → Prop} (C0 : NC p s m args c cL_market 9 RL D g A) (hL : g.1 27 0 < 1073741824) (hT : x_T g tbX) (hfb : x_fb tbX) {nB : Nat} (hnB : nB ≤ 6) {Pr : Nat → xM → Prop}
    (hS : ∀ i a b d q (M : xM), i < nB → a < 100 → b < 400 → d < 3 → 1 ≤ q → q ≤ 20 → Pr i M → ∃ M', f_X6_addBuyer (nI a) (nI b) (nI d) (nI q) M = some (nI i, M') ∧ Pr (i + 1) M')
    (hk : ∀ {M : xM} {lv : List (Nat × Value)}, Pr nB M → WN p l e rMk s m args below meth c 800 50000 Q 9 D A 372 lv [.ref (g.1 4 1664)] (x_ws g tbX M ++ [])) :
    ∀ (d i : Nat) (M : xM), i + d = nB → Pr i M → WN p l e rMk s m args below meth c 800 50000 Q 9 D A 295 [(0, .ref (g.1 26 0)), (4, .ref (g.1 4 1664)), (6, .int (nI nB)), (7, .int (nI i))] [] (x_ws g tbX M ++ [])
  | 0, i, M, hd, hP => by
    refine q_iload C0 3 rfl dL_market_295 ?_
    refine q_iload C0 2 rfl dL_market_297 ?_
    refine q_icmp_ge C0 (tgt := 370) (by decide) dL_market_299 (fun _ => ?_) (fun hh => absurd (nI_le (a := nB) (b := i) (by omega) (by omega)) hh)
    obtain rfl : i = nB := by omega
    refine q_aload C0 1 rfl dL_market_370 ?_
    exact hk hP
  | d + 1, i, M, hd, hP => by
    refine q_iload C0 3 rfl dL_market_295 ?_
    refine q_iload C0 2 rfl dL_market_297 ?_
    refine q_icmp_ge C0 (tgt := 370) (by decide) dL_market_299 (fun hh => absurd hh (nI_ge (a := i) (b := nB) (by omega) (by omega))) (fun _ => ?_)
    refine q_aload_n C0 (kk := 0) 0 rfl dL_market_302 ?_
    refine q_bipush C0 (v := 8) dL_market_303 rfl ?_
    refine q_iload C0 3 rfl dL_market_305 ?_
    refine q_iadd C0 dL_market_307 ?_
    rw [show ((8 + (nI i)) : Int32) = nI (8 + i) from nI_add 8 i]
    refine m_tabSi C0 (As := [.ref (g.1 26 0), .int (nI (8 + i))]) (rest := []) (c_L_cell l D g [] T_nil (k := 8 + i) (by omega) hL (M := fun _ => 0)) w2_121 w2_122 w1_0 w2_123 hd_L_cell rfl ⟨rfl, rfl⟩ ⟨Nat.le_of_ble_eq_true rfl, Nat.le_of_ble_eq_true rfl⟩ (Nat.le_of_ble_eq_true rfl) (Nat.le_of_ble_eq_true rfl) rfl (Nat.le_of_ble_eq_true rfl) dL_market_308 ?_
    refine q_istore C0 (lv2 := [(8, .int (cv g (8 + i))), (0, .ref (g.1 26 0)), (4, .ref (g.1 4 1664)), (6, .int (nI nB)), (7, .int (nI i))]) (by decide) rfl dL_market_311 ?_
    refine q_aload C0 2 rfl dL_market_313 ?_
    refine q_iload C0 0 rfl dL_market_315 ?_
    refine q_bipush C0 (v := 100) dL_market_317 rfl ?_
    obtain ⟨v1, hv1, ev1⟩ := in_val ((cv g (8 + i))) (N := 100) (by decide) (by decide)
    refine m_tabSi C0 (As := [.int ((cv g (8 + i))), .int (nI 100)]) (rest := [.ref (g.1 4 1664)]) (c_L_in l D g [] T_nil ev1) w2_127 w2_128 w1_0 w2_129 hd_L_in rfl ⟨rfl, rfl⟩ ⟨Nat.le_of_ble_eq_true rfl, Nat.le_of_ble_eq_true rfl⟩ (Nat.le_of_ble_eq_true rfl) (Nat.le_of_ble_eq_true rfl) rfl (Nat.le_of_ble_eq_true rfl) dL_market_319 ?_
    refine q_iload C0 0 rfl dL_market_322 ?_
    refine q_bipush C0 (v := 7) dL_market_324 rfl ?_
    refine q_ishr C0 dL_market_326 ?_
    refine q_sipush C0 (v := 400) dL_market_327 rfl ?_
    obtain ⟨v2, hv2, ev2⟩ := in_val (((cv g (8 + i)) >>> (7 &&& 31))) (N := 400) (by decide) (by decide)
    refine m_tabSi C0 (As := [.int (((cv g (8 + i)) >>> (7 &&& 31))), .int (nI 400)]) (rest := [.int (nI v1), .ref (g.1 4 1664)]) (c_L_in l D g [] T_nil ev2) w2_127 w2_128 w1_0 w2_129 hd_L_in rfl ⟨rfl, rfl⟩ ⟨Nat.le_of_ble_eq_true rfl, Nat.le_of_ble_eq_true rfl⟩ (Nat.le_of_ble_eq_true rfl) (Nat.le_of_ble_eq_true rfl) rfl (Nat.le_of_ble_eq_true rfl) dL_market_330 ?_
    refine q_iload C0 0 rfl dL_market_333 ?_
    refine q_bipush C0 (v := 15) dL_market_335 rfl ?_
    refine q_ishr C0 dL_market_337 ?_
    refine q_iconst C0 (v := 3) dL_market_338 rfl ?_
    obtain ⟨v3, hv3, ev3⟩ := in_val (((cv g (8 + i)) >>> (15 &&& 31))) (N := 3) (by decide) (by decide)
    refine m_tabSi C0 (As := [.int (((cv g (8 + i)) >>> (15 &&& 31))), .int (nI 3)]) (rest := [.int (nI v2), .int (nI v1), .ref (g.1 4 1664)]) (c_L_in l D g [] T_nil ev3) w2_127 w2_128 w1_0 w2_129 hd_L_in rfl ⟨rfl, rfl⟩ ⟨Nat.le_of_ble_eq_true rfl, Nat.le_of_ble_eq_true rfl⟩ (Nat.le_of_ble_eq_true rfl) (Nat.le_of_ble_eq_true rfl) rfl (Nat.le_of_ble_eq_true rfl) dL_market_339 ?_
    refine q_iconst C0 (v := 1) dL_market_342 rfl ?_
    refine q_iload C0 0 rfl dL_market_343 ?_
    refine q_bipush C0 (v := 17) dL_market_345 rfl ?_
    refine q_ishr C0 dL_market_347 ?_
    refine q_bipush C0 (v := 20) dL_market_348 rfl ?_
    obtain ⟨v4, hv4, ev4⟩ := in_val (((cv g (8 + i)) >>> (17 &&& 31))) (N := 20) (by decide) (by decide)
    refine m_tabSi C0 (As := [.int (((cv g (8 + i)) >>> (17 &&& 31))), .int (nI 20)]) (rest := [.int 1, .int (nI v3), .int (nI v2), .int (nI v1), .ref (g.1 4 1664)]) (c_L_in l D g [] T_nil ev4) w2_127 w2_128 w1_0 w2_129 hd_L_in rfl ⟨rfl, rfl⟩ ⟨Nat.le_of_ble_eq_true rfl, Nat.le_of_ble_eq_true rfl⟩ (Nat.le_of_ble_eq_true rfl) (Nat.le_of_ble_eq_true rfl) rfl (Nat.le_of_ble_eq_true rfl) dL_market_350 ?_
    refine q_iadd C0 dL_market_353 ?_
    rw [show ((1 + (nI v4)) : Int32) = nI (1 + v4) from nI_add 1 v4]
    obtain ⟨M2, hfs, hP2⟩ := hS i v1 v2 v3 (1 + v4) M (by omega) hv1 hv2 hv3 (by omega) (by omega) hP
    refine m_tabVi C0 (tb := tbX) (M := M) (M' := M2) (wr := []) (As := [.int (nI v1), .int (nI v2), .int (nI v3), .int (nI (1 + v4))]) (rest := []) (c_X6_addBuyer l D g tbX hT hfb hfs) (List.Perm.refl _) w5_163 w5_164 w5_165 w1_13 w5_166 (rG_t C0 hfb.1) hd_X6_addBuyer.2 rfl ⟨rfl, rfl⟩ ⟨Nat.le_of_ble_eq_true rfl, Nat.le_of_ble_eq_true rfl⟩ (Nat.le_of_ble_eq_true rfl) (Nat.le_of_ble_eq_true rfl) rfl (Nat.le_of_ble_eq_true rfl) dL_market_354 ?_
    refine q_iload C0 4 rfl dL_market_357 ?_
    refine q_icmp_eq C0 (tgt := 364) (by decide) dL_market_359 (fun _ => ?_) (fun hh => absurd rfl hh)
    refine q_iinc C0 4 rfl (v := nI (i + 1)) (inc1 i) (by decide) (lv2 := [(7, .int (nI (i + 1))), (8, .int (cv g (8 + i))), (0, .ref (g.1 26 0)), (4, .ref (g.1 4 1664)), (6, .int (nI nB))]) rfl dL_market_364 ?_
    refine q_goto C0 (tgt := 295) (by decide) dL_market_367 ?_
    refine WN.sub (lv2 := [(0, .ref (g.1 26 0)), (4, .ref (g.1 4 1664)), (6, .int (nI nB)), (7, .int (nI (i + 1)))]) [2, 3, 4, 0] rfl ?_
    exact mk_buys C0 hL hT hfb hnB hS hk d (i + 1) M2 (by omega) hP2
set_option maxRecDepth 100000 in
set_option maxHeartbeats 8000000 in
theorem mk_stalls {p : Program} {l : Launch} {e : Env} {s : State} {m : MethodId} {args : Array Value} {below : List Frame} {meth : Method} {c : Code} {Q : State → Prop} {D : va_G} {g : xG} {A : Nat → Prop} (C0 : NC p s m args c cL_market 9 RL D g A) (hL : g.1 27 0 < 1073741824) (hT : x_T g tbX) (hfb : x_fb tbX) {nS : Nat} (hnS : nS ≤ 6) {Pr : Nat → xM → Prop}
    (hS : ∀ i a b d q r (M : xM), i < nS → a < 100 → b < 4 → d < 3 → 1 ≤ q → q ≤ 60 → r < 20 → Pr i M → ∃ M', f_X6_addStall (nI a) (nI b) (nI d) (nI q) (nI r) M = some (nI i, M') ∧ Pr (i + 1) M')
    (hk : ∀ {M : xM}, Pr nS M → WN p l e rMk s m args below meth c 800 50000 Q 9 D A 279 [(0, .ref (g.1 26 0)), (1, .int (cv g 0)), (4, .ref (g.1 4 1664))] [] (x_ws g tbX M ++ [])) :
    ∀ (d i : Nat) (M : xM), i + d = nS → Pr i M → WN p l e rMk s m args below meth c 800 50000 Q 9 D A 197 [(0, .ref (g.1 26 0)), (1, .int (cv g 0)), (4, .ref (g.1 4 1664)), (5, .int (nI nS)), (6, .int (nI i))] [] (x_ws g tbX M ++ [])
  | 0, i, M, hd, hP => by
    refine q_iload C0 4 rfl dL_market_197 ?_
    refine q_iload C0 3 rfl dL_market_199 ?_
    refine q_icmp_ge C0 (tgt := 279) (by decide) dL_market_201 (fun _ => ?_) (fun hh => absurd (nI_le (a := nS) (b := i) (by omega) (by omega)) hh)
    obtain rfl : i = nS := by omega
    refine WN.sub (lv2 := [(0, .ref (g.1 26 0)), (1, .int (cv g 0)), (4, .ref (g.1 4 1664))]) [0, 1, 2] rfl ?_
    exact hk hP
  | d + 1, i, M, hd, hP => by
    refine q_iload C0 4 rfl dL_market_197 ?_
    refine q_iload C0 3 rfl dL_market_199 ?_
    refine q_icmp_ge C0 (tgt := 279) (by decide) dL_market_201 (fun hh => absurd hh (nI_ge (a := i) (b := nS) (by omega) (by omega))) (fun _ => ?_)
    refine q_aload_n C0 (kk := 0) 0 rfl dL_market_204 ?_
    refine q_iconst C0 (v := 2) dL_market_205 rfl ?_
    refine q_iload C0 4 rfl dL_market_206 ?_
    refine q_iadd C0 dL_market_208 ?_
    rw [show ((2 + (nI i)) : Int32) = nI (2 + i) from nI_add 2 i]
    refine m_tabSi C0 (As := [.ref (g.1 26 0), .int (nI (2 + i))]) (rest := []) (c_L_cell l D g [] T_nil (k := 2 + i) (by omega) hL (M := fun _ => 0)) w2_121 w2_122 w1_0 w2_123 hd_L_cell rfl ⟨rfl, rfl⟩ ⟨Nat.le_of_ble_eq_true rfl, Nat.le_of_ble_eq_true rfl⟩ (Nat.le_of_ble_eq_true rfl) (Nat.le_of_ble_eq_true rfl) rfl (Nat.le_of_ble_eq_true rfl) dL_market_209 ?_
    refine q_istore C0 (lv2 := [(7, .int (cv g (2 + i))), (0, .ref (g.1 26 0)), (1, .int (cv g 0)), (4, .ref (g.1 4 1664)), (5, .int (nI nS)), (6, .int (nI i))]) (by decide) rfl dL_market_212 ?_
    refine q_aload C0 3 rfl dL_market_214 ?_
    refine q_iload C0 0 rfl dL_market_216 ?_
    refine q_bipush C0 (v := 100) dL_market_218 rfl ?_
    obtain ⟨v1, hv1, ev1⟩ := in_val ((cv g (2 + i))) (N := 100) (by decide) (by decide)
    refine m_tabSi C0 (As := [.int ((cv g (2 + i))), .int (nI 100)]) (rest := [.ref (g.1 4 1664)]) (c_L_in l D g [] T_nil ev1) w2_127 w2_128 w1_0 w2_129 hd_L_in rfl ⟨rfl, rfl⟩ ⟨Nat.le_of_ble_eq_true rfl, Nat.le_of_ble_eq_true rfl⟩ (Nat.le_of_ble_eq_true rfl) (Nat.le_of_ble_eq_true rfl) rfl (Nat.le_of_ble_eq_true rfl) dL_market_220 ?_
    refine q_iload C0 0 rfl dL_market_223 ?_
    refine q_bipush C0 (v := 7) dL_market_225 rfl ?_
    refine q_ishr C0 dL_market_227 ?_
    refine q_iconst C0 (v := 4) dL_market_228 rfl ?_
    obtain ⟨v2, hv2, ev2⟩ := in_val (((cv g (2 + i)) >>> (7 &&& 31))) (N := 4) (by decide) (by decide)
    refine m_tabSi C0 (As := [.int (((cv g (2 + i)) >>> (7 &&& 31))), .int (nI 4)]) (rest := [.int (nI v1), .ref (g.1 4 1664)]) (c_L_in l D g [] T_nil ev2) w2_127 w2_128 w1_0 w2_129 hd_L_in rfl ⟨rfl, rfl⟩ ⟨Nat.le_of_ble_eq_true rfl, Nat.le_of_ble_eq_true rfl⟩ (Nat.le_of_ble_eq_true rfl) (Nat.le_of_ble_eq_true rfl) rfl (Nat.le_of_ble_eq_true rfl) dL_market_229 ?_
    refine q_iload C0 0 rfl dL_market_232 ?_
    refine q_bipush C0 (v := 9) dL_market_234 rfl ?_
    refine q_ishr C0 dL_market_236 ?_
    refine q_iconst C0 (v := 3) dL_market_237 rfl ?_
    obtain ⟨v3, hv3, ev3⟩ := in_val (((cv g (2 + i)) >>> (9 &&& 31))) (N := 3) (by decide) (by decide)
    refine m_tabSi C0 (As := [.int (((cv g (2 + i)) >>> (9 &&& 31))), .int (nI 3)]) (rest := [.int (nI v2), .int (nI v1), .ref (g.1 4 1664)]) (c_L_in l D g [] T_nil ev3) w2_127 w2_128 w1_0 w2_129 hd_L_in rfl ⟨rfl, rfl⟩ ⟨Nat.le_of_ble_eq_true rfl, Nat.le_of_ble_eq_true rfl⟩ (Nat.le_of_ble_eq_true rfl) (Nat.le_of_ble_eq_true rfl) rfl (Nat.le_of_ble_eq_true rfl) dL_market_238 ?_
    refine q_iconst C0 (v := 1) dL_market_241 rfl ?_
    refine q_iload C0 0 rfl dL_market_242 ?_
    refine q_bipush C0 (v := 11) dL_market_244 rfl ?_
    refine q_ishr C0 dL_market_246 ?_
    refine q_bipush C0 (v := 60) dL_market_247 rfl ?_
    obtain ⟨v4, hv4, ev4⟩ := in_val (((cv g (2 + i)) >>> (11 &&& 31))) (N := 60) (by decide) (by decide)
    refine m_tabSi C0 (As := [.int (((cv g (2 + i)) >>> (11 &&& 31))), .int (nI 60)]) (rest := [.int 1, .int (nI v3), .int (nI v2), .int (nI v1), .ref (g.1 4 1664)]) (c_L_in l D g [] T_nil ev4) w2_127 w2_128 w1_0 w2_129 hd_L_in rfl ⟨rfl, rfl⟩ ⟨Nat.le_of_ble_eq_true rfl, Nat.le_of_ble_eq_true rfl⟩ (Nat.le_of_ble_eq_true rfl) (Nat.le_of_ble_eq_true rfl) rfl (Nat.le_of_ble_eq_true rfl) dL_market_249 ?_
    refine q_iadd C0 dL_market_252 ?_
    rw [show ((1 + (nI v4)) : Int32) = nI (1 + v4) from nI_add 1 v4]
    refine q_iload C0 0 rfl dL_market_253 ?_
    refine q_bipush C0 (v := 17) dL_market_255 rfl ?_
    refine q_ishr C0 dL_market_257 ?_
    refine q_bipush C0 (v := 20) dL_market_258 rfl ?_
    obtain ⟨v5, hv5, ev5⟩ := in_val (((cv g (2 + i)) >>> (17 &&& 31))) (N := 20) (by decide) (by decide)
    refine m_tabSi C0 (As := [.int (((cv g (2 + i)) >>> (17 &&& 31))), .int (nI 20)]) (rest := [.int (nI (1 + v4)), .int (nI v3), .int (nI v2), .int (nI v1), .ref (g.1 4 1664)]) (c_L_in l D g [] T_nil ev5) w2_127 w2_128 w1_0 w2_129 hd_L_in rfl ⟨rfl, rfl⟩ ⟨Nat.le_of_ble_eq_true rfl, Nat.le_of_ble_eq_true rfl⟩ (Nat.le_of_ble_eq_true rfl) (Nat.le_of_ble_eq_true rfl) rfl (Nat.le_of_ble_eq_true rfl) dL_market_260 ?_
    obtain ⟨M2, hfs, hP2⟩ := hS i v1 v2 v3 (1 + v4) v5 M (by omega) hv1 hv2 hv3 (by omega) (by omega) hv5 hP
    refine m_tabVi C0 (tb := tbX) (M := M) (M' := M2) (wr := []) (As := [.int (nI v1), .int (nI v2), .int (nI v3), .int (nI (1 + v4)), .int (nI v5)]) (rest := []) (c_X6_addStall l D g tbX hT hfb hfs) (List.Perm.refl _) w5_142 w5_143 w5_144 w1_13 w5_145 (rG_t C0 hfb.1) hd_X6_addStall.2 rfl ⟨rfl, rfl⟩ ⟨Nat.le_of_ble_eq_true rfl, Nat.le_of_ble_eq_true rfl⟩ (Nat.le_of_ble_eq_true rfl) (Nat.le_of_ble_eq_true rfl) rfl (Nat.le_of_ble_eq_true rfl) dL_market_263 ?_
    refine q_iload C0 5 rfl dL_market_266 ?_
    refine q_icmp_eq C0 (tgt := 273) (by decide) dL_market_268 (fun _ => ?_) (fun hh => absurd rfl hh)
    refine q_iinc C0 5 rfl (v := nI (i + 1)) (inc1 i) (by decide) (lv2 := [(6, .int (nI (i + 1))), (7, .int (cv g (2 + i))), (0, .ref (g.1 26 0)), (1, .int (cv g 0)), (4, .ref (g.1 4 1664)), (5, .int (nI nS))]) rfl dL_market_273 ?_
    refine q_goto C0 (tgt := 197) (by decide) dL_market_276 ?_
    refine WN.sub (lv2 := [(0, .ref (g.1 26 0)), (1, .int (cv g 0)), (4, .ref (g.1 4 1664)), (5, .int (nI nS)), (6, .int (nI (i + 1)))]) [2, 3, 4, 5, 0] rfl ?_
    exact mk_stalls C0 hL hT hfb hnS hS hk d (i + 1) M2 (by omega) hP2
set_option maxRecDepth 100000 in
set_option maxHeartbeats 8000000 in
theorem mk_rest {p : Program} {l : Launch} {e : Env} {s : State} {m : MethodId} {args : Array Value} {below : List Frame} {meth : Method} {c : Code} {Q : State → Prop} {D : va_G} {g : xG} {A : Nat → Prop} (C0 : NC p s m args c cL_market 9 RL D g A) (hL : g.1 27 0 < 1073741824) (hT : x_T g tbX) (hfb : x_fb tbX) {Pq : Nat → Nat → xM → Prop} {M : xM}
    (hSt : ∀ i a b d q r (M : xM), i < 6 → a < 100 → b < 4 → d < 3 → 1 ≤ q → q ≤ 60 → r < 20 → Pq i 0 M → ∃ M', f_X6_addStall (nI a) (nI b) (nI d) (nI q) (nI r) M = some (nI i, M') ∧ Pq (i + 1) 0 M')
    (hBu : ∀ n i a b d q (M : xM), 1 ≤ n → n ≤ 6 → i < 6 → a < 100 → b < 400 → d < 3 → 1 ≤ q → q ≤ 20 → Pq n i M → ∃ M', f_X6_addBuyer (nI a) (nI b) (nI d) (nI q) M = some (nI i, M') ∧ Pq n (i + 1) M')
    (hFT : ∃ M2, f_X6_loadSetup M = some (0, M2) ∧ Pq 0 0 M2)
    (hk : ∀ {M : xM} {lv : List (Nat × Value)} {ns nb : Nat}, 1 ≤ ns → ns ≤ 6 → 1 ≤ nb → nb ≤ 6 → Pq ns nb M → WN p l e rMk s m args below meth c 800 50000 Q 9 D A 372 lv [.ref (g.1 4 1664)] (x_ws g tbX M)) :
    WN p l e rMk s m args below meth c 800 50000 Q 9 D A 171 [(0, .ref (g.1 26 0)), (1, .int (cv g 0)), (4, .ref (g.1 4 1664))] [] (x_ws g tbX M) := by
  obtain ⟨M2, hl, hP0⟩ := hFT
  refine WN.eqw (List.append_nil _).symm ?_
  refine q_aload C0 2 rfl dL_market_171 ?_
  refine m_tabVi C0 (tb := tbX) (M := M) (M' := M2) (wr := []) (As := []) (rest := []) (c_X6_loadSetup l D g tbX hT hfb hl) (List.Perm.refl _) w5_138 w5_139 w5_140 w1_13 w5_141 (rG_t C0 hfb.1) hd_X6_loadSetup.2 rfl ⟨rfl, rfl⟩ ⟨Nat.le_of_ble_eq_true rfl, Nat.le_of_ble_eq_true rfl⟩ (Nat.le_of_ble_eq_true rfl) (Nat.le_of_ble_eq_true rfl) rfl (Nat.le_of_ble_eq_true rfl) dL_market_173 ?_
  refine q_if_eq C0 (tgt := 181) (by decide) dL_market_176 (fun _ => ?_) (fun hh => absurd rfl hh)
  refine q_iconst C0 (v := 1) dL_market_181 rfl ?_
  refine q_iload_n C0 (kk := 1) 1 rfl dL_market_182 ?_
  refine q_bipush C0 (v := 17) dL_market_183 rfl ?_
  refine q_ishr C0 dL_market_185 ?_
  refine q_bipush C0 (v := 6) dL_market_186 rfl ?_
  obtain ⟨u1, hu1, eu1⟩ := in_val (((cv g 0) >>> (17 &&& 31))) (N := 6) (by decide) (by decide)
  refine m_tabSi C0 (As := [.int (((cv g 0) >>> (17 &&& 31))), .int (nI 6)]) (rest := [.int 1]) (c_L_in l D g [] T_nil eu1) w2_127 w2_128 w1_0 w2_129 hd_L_in rfl ⟨rfl, rfl⟩ ⟨Nat.le_of_ble_eq_true rfl, Nat.le_of_ble_eq_true rfl⟩ (Nat.le_of_ble_eq_true rfl) (Nat.le_of_ble_eq_true rfl) rfl (Nat.le_of_ble_eq_true rfl) dL_market_188 ?_
  refine q_iadd C0 dL_market_191 ?_
  rw [show ((1 + (nI u1)) : Int32) = nI (1 + u1) from nI_add 1 u1]
  refine q_istore C0 (lv2 := [(5, .int (nI (1 + u1))), (0, .ref (g.1 26 0)), (1, .int (cv g 0)), (4, .ref (g.1 4 1664))]) (by decide) rfl dL_market_192 ?_
  refine q_iconst C0 (v := 0) dL_market_194 rfl ?_
  refine q_istore C0 (lv2 := [(6, .int 0), (5, .int (nI (1 + u1))), (0, .ref (g.1 26 0)), (1, .int (cv g 0)), (4, .ref (g.1 4 1664))]) (by decide) rfl dL_market_195 ?_
  refine WN.sub (lv2 := [(0, .ref (g.1 26 0)), (1, .int (cv g 0)), (4, .ref (g.1 4 1664)), (5, .int (nI (1 + u1))), (6, .int 0)]) [2, 3, 4, 1, 0] rfl ?_
  refine mk_stalls C0 hL hT hfb (nS := 1 + u1) (by omega) (Pr := fun i M => Pq i 0 M) (fun i a b d q r M hi ha hb hd hq1 hq2 hr hP => hSt i a b d q r M (by omega) ha hb hd hq1 hq2 hr hP) (fun {M3} hP3 => ?_) (1 + u1) 0 M2 (by omega) hP0
  refine q_iconst C0 (v := 1) dL_market_279 rfl ?_
  refine q_iload_n C0 (kk := 1) 1 rfl dL_market_280 ?_
  refine q_bipush C0 (v := 20) dL_market_281 rfl ?_
  refine q_ishr C0 dL_market_283 ?_
  refine q_bipush C0 (v := 6) dL_market_284 rfl ?_
  obtain ⟨u2, hu2, eu2⟩ := in_val (((cv g 0) >>> (20 &&& 31))) (N := 6) (by decide) (by decide)
  refine m_tabSi C0 (As := [.int (((cv g 0) >>> (20 &&& 31))), .int (nI 6)]) (rest := [.int 1]) (c_L_in l D g [] T_nil eu2) w2_127 w2_128 w1_0 w2_129 hd_L_in rfl ⟨rfl, rfl⟩ ⟨Nat.le_of_ble_eq_true rfl, Nat.le_of_ble_eq_true rfl⟩ (Nat.le_of_ble_eq_true rfl) (Nat.le_of_ble_eq_true rfl) rfl (Nat.le_of_ble_eq_true rfl) dL_market_286 ?_
  refine q_iadd C0 dL_market_289 ?_
  rw [show ((1 + (nI u2)) : Int32) = nI (1 + u2) from nI_add 1 u2]
  refine q_istore C0 (lv2 := [(6, .int (nI (1 + u2))), (0, .ref (g.1 26 0)), (1, .int (cv g 0)), (4, .ref (g.1 4 1664))]) (by decide) rfl dL_market_290 ?_
  refine q_iconst C0 (v := 0) dL_market_292 rfl ?_
  refine q_istore C0 (lv2 := [(7, .int 0), (6, .int (nI (1 + u2))), (0, .ref (g.1 26 0)), (1, .int (cv g 0)), (4, .ref (g.1 4 1664))]) (by decide) rfl dL_market_293 ?_
  refine WN.sub (lv2 := [(0, .ref (g.1 26 0)), (4, .ref (g.1 4 1664)), (6, .int (nI (1 + u2))), (7, .int 0)]) [2, 4, 1, 0] rfl ?_
  refine mk_buys C0 hL hT hfb (nB := 1 + u2) (by omega) (Pr := fun i M => Pq (1 + u1) i M) (fun i a b d q M hi ha hb hd hq1 hq2 hP => hBu (1 + u1) i a b d q M (by omega) (by omega) (by omega) ha hb hd hq1 hq2 hP) (fun {M4 lv} hP4 => ?_) (1 + u2) 0 M3 (by omega) hP3
  refine WN.eqw (List.append_nil _) ?_
  exact hk (ns := 1 + u1) (nb := 1 + u2) (by omega) (by omega) (by omega) (by omega) hP4
