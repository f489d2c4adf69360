/-! the law's cases -/
set_option maxRecDepth 100000 in
set_option maxHeartbeats 4000000 in
theorem case_48 (l : Launch) (hlst : l.stackTraces = false) {p : Program} {e : Env} {s : State} {m : MethodId} {below : List Frame} {meth : Method} {c : Code} {cells slots : Nat} {Q : State → Prop} {b L i mm : Nat} {xs : Nat → Int32} {D : va_G} {g : xG} {M : xM} (h : LC p s m c b L xs D g) (hi : i + 6 ≤ L) (hR : RR mm M) (hm : mm < 536870912) (hc : cells + 6 ≤ 601024) (hs : slots + 36 ≤ 7293034)
    (kk : ∀ M2, RR (mm + 4000) M2 → WW p l e room_1 s m #[.ref b] below meth c (cells + 6) (slots + 36) Q 9 D g tbA 3076 (lvL b g i) [] M2) :
    WW p l e room_1 s m #[.ref b] below meth c cells slots Q 9 D g tbA 2208 (lvL b g i) [] M := by
  obtain ⟨C0, hX, hbl, hbA, hL⟩ := id h
  have hT := C0.2.2.2.2.2.2.1
  obtain ⟨r, M1, M2, e1, e2, hR2⟩ := s_nextPayer hR (by omega) 
  refine r_aload_n C0 (kk := 1) 1 rfl dL_law_2208 ?_
  refine r_callVi C0 (As := []) (rest := []) (c_X6_nextPayer l D g tbA hT fbA e1) w4_15 w4_16 w4_17 w1_1 w4_18 (x_rec4 C0 fbA.1) hd_X6_nextPayer rfl ⟨rfl, rfl⟩ ⟨Nat.le_of_ble_eq_true rfl, Nat.le_of_ble_eq_true rfl⟩ (show cells + 0 ≤ 601024 by omega) (show slots + 0 ≤ 7293034 by omega) rfl (Nat.le_of_ble_eq_true rfl) dL_law_2209 ?_
  refine r_aload_n C0 (kk := 2) 2 rfl dL_law_2212 ?_
  refine r_callVi C0 (As := []) (rest := [.int r]) (c_X7_nextPayer l D g tbA hT mdA e2) w8_22 w8_23 w8_24 w1_14 w8_25 (x_rec5 C0 mdA.1) hd_X7_nextPayer rfl ⟨rfl, rfl⟩ ⟨Nat.le_of_ble_eq_true rfl, Nat.le_of_ble_eq_true rfl⟩ (show cells + 0 ≤ 601024 by omega) (show slots + 0 ≤ 7293034 by omega) rfl (Nat.le_of_ble_eq_true rfl) dL_law_2213 ?_
  refine r_icmp_eq C0 (tgt := 3076) (by decide) dL_law_2216 (fun q => ?_) (fun q => absurd rfl q)
  refine WW.widen (k := cells + 6) (n := slots + 36) (by omega) (by omega) ?_
  exact kk _ (RR_mono hR2 (by omega))
set_option maxRecDepth 100000 in
set_option maxHeartbeats 4000000 in
theorem case_49 (l : Launch) (hlst : l.stackTraces = false) {p : Program} {e : Env} {s : State} {m : MethodId} {below : List Frame} {meth : Method} {c : Code} {cells slots : Nat} {Q : State → Prop} {b L i mm : Nat} {xs : Nat → Int32} {D : va_G} {g : xG} {M : xM} (h : LC p s m c b L xs D g) (hi : i + 6 ≤ L) (hR : RR mm M) (hm : mm < 536870912) (hc : cells + 6 ≤ 601024) (hs : slots + 36 ≤ 7293034)
    (kk : ∀ M2, RR (mm + 4000) M2 → WW p l e room_1 s m #[.ref b] below meth c (cells + 6) (slots + 36) Q 9 D g tbA 3076 (lvL b g i) [] M2) :
    WW p l e room_1 s m #[.ref b] below meth c cells slots Q 9 D g tbA 2221 (lvL b g i) [] M := by
  obtain ⟨C0, hX, hbl, hbA, hL⟩ := id h
  have hT := C0.2.2.2.2.2.2.1
  obtain ⟨r, M1, M2, e1, e2, hR2⟩ := s_bestBellPosition hR (by omega) 
  refine r_aload_n C0 (kk := 1) 1 rfl dL_law_2221 ?_
  refine r_callVi C0 (As := []) (rest := []) (c_X6_bestBellPosition l D g tbA hT fbA e1) w4_20 w4_21 w4_22 w1_1 w4_23 (x_rec4 C0 fbA.1) hd_X6_bestBellPosition rfl ⟨rfl, rfl⟩ ⟨Nat.le_of_ble_eq_true rfl, Nat.le_of_ble_eq_true rfl⟩ (show cells + 0 ≤ 601024 by omega) (show slots + 0 ≤ 7293034 by omega) rfl (Nat.le_of_ble_eq_true rfl) dL_law_2222 ?_
  refine r_aload_n C0 (kk := 2) 2 rfl dL_law_2225 ?_
  refine r_callVi C0 (As := []) (rest := [.int r]) (c_X7_bestBellPosition l D g tbA hT mdA e2) w8_26 w8_27 w8_28 w1_14 w8_29 (x_rec5 C0 mdA.1) hd_X7_bestBellPosition rfl ⟨rfl, rfl⟩ ⟨Nat.le_of_ble_eq_true rfl, Nat.le_of_ble_eq_true rfl⟩ (show cells + 0 ≤ 601024 by omega) (show slots + 0 ≤ 7293034 by omega) rfl (Nat.le_of_ble_eq_true rfl) dL_law_2226 ?_
  refine r_icmp_eq C0 (tgt := 3076) (by decide) dL_law_2229 (fun q => ?_) (fun q => absurd rfl q)
  refine WW.widen (k := cells + 6) (n := slots + 36) (by omega) (by omega) ?_
  exact kk _ (RR_mono hR2 (by omega))
set_option maxRecDepth 100000 in
set_option maxHeartbeats 4000000 in
theorem case_50 (l : Launch) (hlst : l.stackTraces = false) {p : Program} {e : Env} {s : State} {m : MethodId} {below : List Frame} {meth : Method} {c : Code} {cells slots : Nat} {Q : State → Prop} {b L i mm : Nat} {xs : Nat → Int32} {D : va_G} {g : xG} {M : xM} (h : LC p s m c b L xs D g) (hi : i + 6 ≤ L) (hR : RR mm M) (hm : mm < 536870912) (hc : cells + 6 ≤ 601024) (hs : slots + 36 ≤ 7293034)
    (kk : ∀ M2, RR (mm + 4000) M2 → WW p l e room_1 s m #[.ref b] below meth c (cells + 6) (slots + 36) Q 9 D g tbA 3076 (lvL b g i) [] M2) :
    WW p l e room_1 s m #[.ref b] below meth c cells slots Q 9 D g tbA 2234 (lvL b g i) [] M := by
  obtain ⟨C0, hX, hbl, hbA, hL⟩ := id h
  have hT := C0.2.2.2.2.2.2.1
  obtain ⟨k, r, M1, bv, M2, res, Mo, e1, e2, hR2, hk, hq, hcase⟩ := okT_use (s_addStall hR  (xs (i + 1)) (xs (i + 2)) (xs (i + 3)) (xs (i + 4)) (xs (i + 5))) (by decide)
  refine r_aload_n C0 (kk := 1) 1 rfl dL_law_2234 ?_
  refine r_arg C0 hX hbl hbA (show i + 1 < L by omega) hL 0 4 rfl rfl (j := 1) rfl dL_law_2235 dL_law_2236 dL_law_2238 dL_law_2239 dL_law_2240 ?_
  refine r_arg C0 hX hbl hbA (show i + 2 < L by omega) hL 0 4 rfl rfl (j := 2) rfl dL_law_2241 dL_law_2242 dL_law_2244 dL_law_2245 dL_law_2246 ?_
  refine r_arg C0 hX hbl hbA (show i + 3 < L by omega) hL 0 4 rfl rfl (j := 3) rfl dL_law_2247 dL_law_2248 dL_law_2250 dL_law_2251 dL_law_2252 ?_
  refine r_arg C0 hX hbl hbA (show i + 4 < L by omega) hL 0 4 rfl rfl (j := 4) rfl dL_law_2253 dL_law_2254 dL_law_2256 dL_law_2257 dL_law_2258 ?_
  refine r_arg C0 hX hbl hbA (show i + 5 < L by omega) hL 0 4 rfl rfl (j := 5) rfl dL_law_2259 dL_law_2260 dL_law_2262 dL_law_2263 dL_law_2264 ?_
  refine r_aload_n C0 (kk := 3) 3 rfl dL_law_2265 ?_
  refine r_callSH C0 (As := [.ref (g.1 4 1664), .int (xs (i + 1)), .int (xs (i + 2)), .int (xs (i + 3)), .int (xs (i + 4)), .int (xs (i + 5)), .ref (g.1 9 5000)]) (rest := []) (c_L_addStall l D g tbA hT hlst fbA oA e1 hk) w5_96 w5_97 w1_0 w5_98 hd_L_addStall rfl ⟨rfl, rfl⟩ ⟨Nat.le_of_ble_eq_true rfl, Nat.le_of_ble_eq_true rfl⟩ (show cells + 6 ≤ 601024 by omega) (show slots + 6 * 6 ≤ 7293034 by omega) rfl (Nat.le_of_ble_eq_true rfl) dL_law_2266 ?_
  refine r_istore C0 (lv2 := (5, .int res) :: lvL b g i) (by decide) rfl dL_law_2269 ?_
  refine r_aload_n C0 (kk := 2) 3 rfl dL_law_2271 ?_
  refine r_arg C0 hX hbl hbA (show i + 1 < L by omega) hL 1 5 rfl rfl (j := 1) rfl dL_law_2272 dL_law_2273 dL_law_2275 dL_law_2276 dL_law_2277 ?_
  refine r_arg C0 hX hbl hbA (show i + 2 < L by omega) hL 1 5 rfl rfl (j := 2) rfl dL_law_2278 dL_law_2279 dL_law_2281 dL_law_2282 dL_law_2283 ?_
  refine r_arg C0 hX hbl hbA (show i + 3 < L by omega) hL 1 5 rfl rfl (j := 3) rfl dL_law_2284 dL_law_2285 dL_law_2287 dL_law_2288 dL_law_2289 ?_
  refine r_arg C0 hX hbl hbA (show i + 4 < L by omega) hL 1 5 rfl rfl (j := 4) rfl dL_law_2290 dL_law_2291 dL_law_2293 dL_law_2294 dL_law_2295 ?_
  refine r_arg C0 hX hbl hbA (show i + 5 < L by omega) hL 1 5 rfl rfl (j := 5) rfl dL_law_2296 dL_law_2297 dL_law_2299 dL_law_2300 dL_law_2301 ?_
  refine r_fcall C0 (As := [.int (xs (i + 1)), .int (xs (i + 2)), .int (xs (i + 3)), .int (xs (i + 4)), .int (xs (i + 5))]) (rest := []) (c_X7_addStall l D g (tbX ++ tbM) (T_XM hT) mdXM e2) hq w8_50 w8_51 w8_52 w1_14 w8_53 (x_rec5 C0 mdA.1) hd_X7_addStall rfl ⟨rfl, rfl⟩ ⟨Nat.le_of_ble_eq_true rfl, Nat.le_of_ble_eq_true rfl⟩ (show cells + 6 + 0 ≤ 601024 by omega) (show slots + 6 * 6 + 0 ≤ 7293034 by omega) rfl (Nat.le_of_ble_eq_true rfl) dL_law_2302 ?_
  refine r_tail h hcase (show cells + 6 ≤ 601024 by omega) (show slots + 6 * 6 ≤ 7293034 by omega) dL_law_2305 dL_law_2307 dL_law_2308 dL_law_2311 dL_law_2313 dL_law_2318 dL_law_2320 dL_law_2323 dL_law_2324 dL_law_2325 dL_law_2326 dL_law_2328 dL_law_2329 dL_law_2330 dL_law_2335 (by decide) ?_
  refine WW.widen (k := cells + 6) (n := slots + 36) (by omega) (by omega) ?_
  exact kk _ (RR_o (RR_mono hR2 (by omega)))
set_option maxRecDepth 100000 in
set_option maxHeartbeats 4000000 in
theorem case_51 (l : Launch) (hlst : l.stackTraces = false) {p : Program} {e : Env} {s : State} {m : MethodId} {below : List Frame} {meth : Method} {c : Code} {cells slots : Nat} {Q : State → Prop} {b L i mm : Nat} {xs : Nat → Int32} {D : va_G} {g : xG} {M : xM} (h : LC p s m c b L xs D g) (hi : i + 6 ≤ L) (hR : RR mm M) (hm : mm < 536870912) (hc : cells + 6 ≤ 601024) (hs : slots + 36 ≤ 7293034)
    (kk : ∀ M2, RR (mm + 4000) M2 → WW p l e room_1 s m #[.ref b] below meth c (cells + 6) (slots + 36) Q 9 D g tbA 3076 (lvL b g i) [] M2) :
    WW p l e room_1 s m #[.ref b] below meth c cells slots Q 9 D g tbA 2338 (lvL b g i) [] M := by
  obtain ⟨C0, hX, hbl, hbA, hL⟩ := id h
  have hT := C0.2.2.2.2.2.2.1
  obtain ⟨k, r, M1, bv, M2, res, Mo, e1, e2, hR2, hk, hq, hcase⟩ := okT_use (s_addBuyer hR  (xs (i + 1)) (xs (i + 2)) (xs (i + 3)) (xs (i + 4))) (by decide)
  refine r_aload_n C0 (kk := 1) 1 rfl dL_law_2338 ?_
  refine r_arg C0 hX hbl hbA (show i + 1 < L by omega) hL 0 4 rfl rfl (j := 1) rfl dL_law_2339 dL_law_2340 dL_law_2342 dL_law_2343 dL_law_2344 ?_
  refine r_arg C0 hX hbl hbA (show i + 2 < L by omega) hL 0 4 rfl rfl (j := 2) rfl dL_law_2345 dL_law_2346 dL_law_2348 dL_law_2349 dL_law_2350 ?_
  refine r_arg C0 hX hbl hbA (show i + 3 < L by omega) hL 0 4 rfl rfl (j := 3) rfl dL_law_2351 dL_law_2352 dL_law_2354 dL_law_2355 dL_law_2356 ?_
  refine r_arg C0 hX hbl hbA (show i + 4 < L by omega) hL 0 4 rfl rfl (j := 4) rfl dL_law_2357 dL_law_2358 dL_law_2360 dL_law_2361 dL_law_2362 ?_
  refine r_aload_n C0 (kk := 3) 3 rfl dL_law_2363 ?_
  refine r_callSH C0 (As := [.ref (g.1 4 1664), .int (xs (i + 1)), .int (xs (i + 2)), .int (xs (i + 3)), .int (xs (i + 4)), .ref (g.1 9 5000)]) (rest := []) (c_L_addBuyer l D g tbA hT hlst fbA oA e1 hk) w5_121 w5_122 w1_0 w5_123 hd_L_addBuyer rfl ⟨rfl, rfl⟩ ⟨Nat.le_of_ble_eq_true rfl, Nat.le_of_ble_eq_true rfl⟩ (show cells + 5 ≤ 601024 by omega) (show slots + 6 * 5 ≤ 7293034 by omega) rfl (Nat.le_of_ble_eq_true rfl) dL_law_2364 ?_
  refine r_istore C0 (lv2 := (5, .int res) :: lvL b g i) (by decide) rfl dL_law_2367 ?_
  refine r_aload_n C0 (kk := 2) 3 rfl dL_law_2369 ?_
  refine r_arg C0 hX hbl hbA (show i + 1 < L by omega) hL 1 5 rfl rfl (j := 1) rfl dL_law_2370 dL_law_2371 dL_law_2373 dL_law_2374 dL_law_2375 ?_
  refine r_arg C0 hX hbl hbA (show i + 2 < L by omega) hL 1 5 rfl rfl (j := 2) rfl dL_law_2376 dL_law_2377 dL_law_2379 dL_law_2380 dL_law_2381 ?_
  refine r_arg C0 hX hbl hbA (show i + 3 < L by omega) hL 1 5 rfl rfl (j := 3) rfl dL_law_2382 dL_law_2383 dL_law_2385 dL_law_2386 dL_law_2387 ?_
  refine r_arg C0 hX hbl hbA (show i + 4 < L by omega) hL 1 5 rfl rfl (j := 4) rfl dL_law_2388 dL_law_2389 dL_law_2391 dL_law_2392 dL_law_2393 ?_
  refine r_fcall C0 (As := [.int (xs (i + 1)), .int (xs (i + 2)), .int (xs (i + 3)), .int (xs (i + 4))]) (rest := []) (c_X7_addBuyer l D g (tbX ++ tbM) (T_XM hT) mdXM e2) hq w8_58 w8_59 w8_60 w1_14 w8_61 (x_rec5 C0 mdA.1) hd_X7_addBuyer rfl ⟨rfl, rfl⟩ ⟨Nat.le_of_ble_eq_true rfl, Nat.le_of_ble_eq_true rfl⟩ (show cells + 5 + 0 ≤ 601024 by omega) (show slots + 6 * 5 + 0 ≤ 7293034 by omega) rfl (Nat.le_of_ble_eq_true rfl) dL_law_2394 ?_
  refine r_tail h hcase (show cells + 5 ≤ 601024 by omega) (show slots + 6 * 5 ≤ 7293034 by omega) dL_law_2397 dL_law_2399 dL_law_2400 dL_law_2403 dL_law_2405 dL_law_2410 dL_law_2412 dL_law_2415 dL_law_2416 dL_law_2417 dL_law_2418 dL_law_2420 dL_law_2421 dL_law_2422 dL_law_2427 (by decide) ?_
  refine WW.widen (k := cells + 6) (n := slots + 36) (by omega) (by omega) ?_
  exact kk _ (RR_o (RR_mono hR2 (by omega)))
set_option maxRecDepth 100000 in
set_option maxHeartbeats 4000000 in
theorem case_52 (l : Launch) (hlst : l.stackTraces = false) {p : Program} {e : Env} {s : State} {m : MethodId} {below : List Frame} {meth : Method} {c : Code} {cells slots : Nat} {Q : State → Prop} {b L i mm : Nat} {xs : Nat → Int32} {D : va_G} {g : xG} {M : xM} (h : LC p s m c b L xs D g) (hi : i + 6 ≤ L) (hR : RR mm M) (hm : mm < 536870912) (hc : cells + 6 ≤ 601024) (hs : slots + 36 ≤ 7293034)
    (kk : ∀ M2, RR (mm + 4000) M2 → WW p l e room_1 s m #[.ref b] below meth c (cells + 6) (slots + 36) Q 9 D g tbA 3076 (lvL b g i) [] M2) :
    WW p l e room_1 s m #[.ref b] below meth c cells slots Q 9 D g tbA 2430 (lvL b g i) [] M := by
  obtain ⟨C0, hX, hbl, hbA, hL⟩ := id h
  have hT := C0.2.2.2.2.2.2.1
  obtain ⟨k, r, M1, bv, M2, res, Mo, e1, e2, hR2, hk, hq, hcase⟩ := okT_use (s_setPrice hR  (xs (i + 1)) (xs (i + 2))) (by decide)
  refine r_aload_n C0 (kk := 1) 1 rfl dL_law_2430 ?_
  refine r_arg C0 hX hbl hbA (show i + 1 < L by omega) hL 0 4 rfl rfl (j := 1) rfl dL_law_2431 dL_law_2432 dL_law_2434 dL_law_2435 dL_law_2436 ?_
  refine r_arg C0 hX hbl hbA (show i + 2 < L by omega) hL 0 4 rfl rfl (j := 2) rfl dL_law_2437 dL_law_2438 dL_law_2440 dL_law_2441 dL_law_2442 ?_
  refine r_aload_n C0 (kk := 3) 3 rfl dL_law_2443 ?_
  refine r_callSH C0 (As := [.ref (g.1 4 1664), .int (xs (i + 1)), .int (xs (i + 2)), .ref (g.1 9 5000)]) (rest := []) (c_L_setPrice l D g tbA hT hlst fbA oA e1 hk) w5_130 w5_131 w1_0 w5_132 hd_L_setPrice rfl ⟨rfl, rfl⟩ ⟨Nat.le_of_ble_eq_true rfl, Nat.le_of_ble_eq_true rfl⟩ (show cells + 2 ≤ 601024 by omega) (show slots + 6 * 2 ≤ 7293034 by omega) rfl (Nat.le_of_ble_eq_true rfl) dL_law_2444 ?_
  refine r_istore C0 (lv2 := (5, .int res) :: lvL b g i) (by decide) rfl dL_law_2447 ?_
  refine r_aload_n C0 (kk := 2) 3 rfl dL_law_2449 ?_
  refine r_arg C0 hX hbl hbA (show i + 1 < L by omega) hL 1 5 rfl rfl (j := 1) rfl dL_law_2450 dL_law_2451 dL_law_2453 dL_law_2454 dL_law_2455 ?_
  refine r_arg C0 hX hbl hbA (show i + 2 < L by omega) hL 1 5 rfl rfl (j := 2) rfl dL_law_2456 dL_law_2457 dL_law_2459 dL_law_2460 dL_law_2461 ?_
  refine r_fcall C0 (As := [.int (xs (i + 1)), .int (xs (i + 2))]) (rest := []) (c_X7_setPrice l D g (tbX ++ tbM) (T_XM hT) mdXM e2) hq w8_62 w8_63 w8_64 w1_14 w8_65 (x_rec5 C0 mdA.1) hd_X7_setPrice rfl ⟨rfl, rfl⟩ ⟨Nat.le_of_ble_eq_true rfl, Nat.le_of_ble_eq_true rfl⟩ (show cells + 2 + 0 ≤ 601024 by omega) (show slots + 6 * 2 + 0 ≤ 7293034 by omega) rfl (Nat.le_of_ble_eq_true rfl) dL_law_2462 ?_
  refine r_tail h hcase (show cells + 2 ≤ 601024 by omega) (show slots + 6 * 2 ≤ 7293034 by omega) dL_law_2465 dL_law_2467 dL_law_2468 dL_law_2471 dL_law_2473 dL_law_2478 dL_law_2480 dL_law_2483 dL_law_2484 dL_law_2485 dL_law_2486 dL_law_2488 dL_law_2489 dL_law_2490 dL_law_2495 (by decide) ?_
  refine WW.widen (k := cells + 6) (n := slots + 36) (by omega) (by omega) ?_
  exact kk _ (RR_o (RR_mono hR2 (by omega)))
set_option maxRecDepth 100000 in
set_option maxHeartbeats 4000000 in
theorem case_53 (l : Launch) (hlst : l.stackTraces = false) {p : Program} {e : Env} {s : State} {m : MethodId} {below : List Frame} {meth : Method} {c : Code} {cells slots : Nat} {Q : State → Prop} {b L i mm : Nat} {xs : Nat → Int32} {D : va_G} {g : xG} {M : xM} (h : LC p s m c b L xs D g) (hi : i + 6 ≤ L) (hR : RR mm M) (hm : mm < 536870912) (hc : cells + 6 ≤ 601024) (hs : slots + 36 ≤ 7293034)
    (kk : ∀ M2, RR (mm + 4000) M2 → WW p l e room_1 s m #[.ref b] below meth c (cells + 6) (slots + 36) Q 9 D g tbA 3076 (lvL b g i) [] M2) :
    WW p l e room_1 s m #[.ref b] below meth c cells slots Q 9 D g tbA 2498 (lvL b g i) [] M := by
  obtain ⟨C0, hX, hbl, hbA, hL⟩ := id h
  have hT := C0.2.2.2.2.2.2.1
  obtain ⟨k, r, M1, bv, M2, res, Mo, e1, e2, hR2, hk, hq, hcase⟩ := okT_use (s_addStock hR  (xs (i + 1)) (xs (i + 2))) (by decide)
  refine r_aload_n C0 (kk := 1) 1 rfl dL_law_2498 ?_
  refine r_arg C0 hX hbl hbA (show i + 1 < L by omega) hL 0 4 rfl rfl (j := 1) rfl dL_law_2499 dL_law_2500 dL_law_2502 dL_law_2503 dL_law_2504 ?_
  refine r_arg C0 hX hbl hbA (show i + 2 < L by omega) hL 0 4 rfl rfl (j := 2) rfl dL_law_2505 dL_law_2506 dL_law_2508 dL_law_2509 dL_law_2510 ?_
  refine r_aload_n C0 (kk := 3) 3 rfl dL_law_2511 ?_
  refine r_callSH C0 (As := [.ref (g.1 4 1664), .int (xs (i + 1)), .int (xs (i + 2)), .ref (g.1 9 5000)]) (rest := []) (c_L_addStock l D g tbA hT hlst fbA oA e1 hk) w5_137 w5_138 w1_0 w5_139 hd_L_addStock rfl ⟨rfl, rfl⟩ ⟨Nat.le_of_ble_eq_true rfl, Nat.le_of_ble_eq_true rfl⟩ (show cells + 3 ≤ 601024 by omega) (show slots + 6 * 3 ≤ 7293034 by omega) rfl (Nat.le_of_ble_eq_true rfl) dL_law_2512 ?_
  refine r_istore C0 (lv2 := (5, .int res) :: lvL b g i) (by decide) rfl dL_law_2515 ?_
  refine r_aload_n C0 (kk := 2) 3 rfl dL_law_2517 ?_
  refine r_arg C0 hX hbl hbA (show i + 1 < L by omega) hL 1 5 rfl rfl (j := 1) rfl dL_law_2518 dL_law_2519 dL_law_2521 dL_law_2522 dL_law_2523 ?_
  refine r_arg C0 hX hbl hbA (show i + 2 < L by omega) hL 1 5 rfl rfl (j := 2) rfl dL_law_2524 dL_law_2525 dL_law_2527 dL_law_2528 dL_law_2529 ?_
  refine r_fcall C0 (As := [.int (xs (i + 1)), .int (xs (i + 2))]) (rest := []) (c_X7_addStock l D g (tbX ++ tbM) (T_XM hT) mdXM e2) hq w8_66 w8_67 w8_68 w1_14 w8_69 (x_rec5 C0 mdA.1) hd_X7_addStock rfl ⟨rfl, rfl⟩ ⟨Nat.le_of_ble_eq_true rfl, Nat.le_of_ble_eq_true rfl⟩ (show cells + 3 + 0 ≤ 601024 by omega) (show slots + 6 * 3 + 0 ≤ 7293034 by omega) rfl (Nat.le_of_ble_eq_true rfl) dL_law_2530 ?_
  refine r_tail h hcase (show cells + 3 ≤ 601024 by omega) (show slots + 6 * 3 ≤ 7293034 by omega) dL_law_2533 dL_law_2535 dL_law_2536 dL_law_2539 dL_law_2541 dL_law_2546 dL_law_2548 dL_law_2551 dL_law_2552 dL_law_2553 dL_law_2554 dL_law_2556 dL_law_2557 dL_law_2558 dL_law_2563 (by decide) ?_
  refine WW.widen (k := cells + 6) (n := slots + 36) (by omega) (by omega) ?_
  exact kk _ (RR_o (RR_mono hR2 (by omega)))
set_option maxRecDepth 100000 in
set_option maxHeartbeats 4000000 in
theorem case_54 (l : Launch) (hlst : l.stackTraces = false) {p : Program} {e : Env} {s : State} {m : MethodId} {below : List Frame} {meth : Method} {c : Code} {cells slots : Nat} {Q : State → Prop} {b L i mm : Nat} {xs : Nat → Int32} {D : va_G} {g : xG} {M : xM} (h : LC p s m c b L xs D g) (hi : i + 6 ≤ L) (hR : RR mm M) (hm : mm < 536870912) (hc : cells + 6 ≤ 601024) (hs : slots + 36 ≤ 7293034)
    (kk : ∀ M2, RR (mm + 4000) M2 → WW p l e room_1 s m #[.ref b] below meth c (cells + 6) (slots + 36) Q 9 D g tbA 3076 (lvL b g i) [] M2) :
    WW p l e room_1 s m #[.ref b] below meth c cells slots Q 9 D g tbA 2566 (lvL b g i) [] M := by
  obtain ⟨C0, hX, hbl, hbA, hL⟩ := id h
  have hT := C0.2.2.2.2.2.2.1
  obtain ⟨k, r, M1, bv, M2, res, Mo, e1, e2, hR2, hk, hq, hcase⟩ := okT_use (s_setLantern hR  (xs (i + 1)) (xs (i + 2))) (by decide)
  refine r_aload_n C0 (kk := 1) 1 rfl dL_law_2566 ?_
  refine r_arg C0 hX hbl hbA (show i + 1 < L by omega) hL 0 4 rfl rfl (j := 1) rfl dL_law_2567 dL_law_2568 dL_law_2570 dL_law_2571 dL_law_2572 ?_
  refine r_arg C0 hX hbl hbA (show i + 2 < L by omega) hL 0 4 rfl rfl (j := 2) rfl dL_law_2573 dL_law_2574 dL_law_2576 dL_law_2577 dL_law_2578 ?_
  refine r_aload_n C0 (kk := 3) 3 rfl dL_law_2579 ?_
  refine r_callSH C0 (As := [.ref (g.1 4 1664), .int (xs (i + 1)), .int (xs (i + 2)), .ref (g.1 9 5000)]) (rest := []) (c_L_setLantern l D g tbA hT hlst fbA oA e1 hk) w5_147 w5_148 w1_0 w5_149 hd_L_setLantern rfl ⟨rfl, rfl⟩ ⟨Nat.le_of_ble_eq_true rfl, Nat.le_of_ble_eq_true rfl⟩ (show cells + 2 ≤ 601024 by omega) (show slots + 6 * 2 ≤ 7293034 by omega) rfl (Nat.le_of_ble_eq_true rfl) dL_law_2580 ?_
  refine r_istore C0 (lv2 := (5, .int res) :: lvL b g i) (by decide) rfl dL_law_2583 ?_
  refine r_aload_n C0 (kk := 2) 3 rfl dL_law_2585 ?_
  refine r_arg C0 hX hbl hbA (show i + 1 < L by omega) hL 1 5 rfl rfl (j := 1) rfl dL_law_2586 dL_law_2587 dL_law_2589 dL_law_2590 dL_law_2591 ?_
  refine r_arg C0 hX hbl hbA (show i + 2 < L by omega) hL 1 5 rfl rfl (j := 2) rfl dL_law_2592 dL_law_2593 dL_law_2595 dL_law_2596 dL_law_2597 ?_
  refine r_fcall C0 (As := [.int (xs (i + 1)), .int (xs (i + 2))]) (rest := []) (c_X7_setLantern l D g (tbX ++ tbM) (T_XM hT) mdXM e2) hq w8_70 w8_71 w8_72 w1_14 w8_73 (x_rec5 C0 mdA.1) hd_X7_setLantern rfl ⟨rfl, rfl⟩ ⟨Nat.le_of_ble_eq_true rfl, Nat.le_of_ble_eq_true rfl⟩ (show cells + 2 + 0 ≤ 601024 by omega) (show slots + 6 * 2 + 0 ≤ 7293034 by omega) rfl (Nat.le_of_ble_eq_true rfl) dL_law_2598 ?_
  refine r_tail h hcase (show cells + 2 ≤ 601024 by omega) (show slots + 6 * 2 ≤ 7293034 by omega) dL_law_2601 dL_law_2603 dL_law_2604 dL_law_2607 dL_law_2609 dL_law_2614 dL_law_2616 dL_law_2619 dL_law_2620 dL_law_2621 dL_law_2622 dL_law_2624 dL_law_2625 dL_law_2626 dL_law_2631 (by decide) ?_
  refine WW.widen (k := cells + 6) (n := slots + 36) (by omega) (by omega) ?_
  exact kk _ (RR_o (RR_mono hR2 (by omega)))
set_option maxRecDepth 100000 in
set_option maxHeartbeats 4000000 in
theorem case_55 (l : Launch) (hlst : l.stackTraces = false) {p : Program} {e : Env} {s : State} {m : MethodId} {below : List Frame} {meth : Method} {c : Code} {cells slots : Nat} {Q : State → Prop} {b L i mm : Nat} {xs : Nat → Int32} {D : va_G} {g : xG} {M : xM} (h : LC p s m c b L xs D g) (hi : i + 6 ≤ L) (hR : RR mm M) (hm : mm < 536870912) (hc : cells + 6 ≤ 601024) (hs : slots + 36 ≤ 7293034)
    (kk : ∀ M2, RR (mm + 4000) M2 → WW p l e room_1 s m #[.ref b] below meth c (cells + 6) (slots + 36) Q 9 D g tbA 3076 (lvL b g i) [] M2) :
    WW p l e room_1 s m #[.ref b] below meth c cells slots Q 9 D g tbA 2634 (lvL b g i) [] M := by
  obtain ⟨C0, hX, hbl, hbA, hL⟩ := id h
  have hT := C0.2.2.2.2.2.2.1
  obtain ⟨k, r, M1, bv, M2, res, Mo, e1, e2, hR2, hk, hq, hcase⟩ := okT_use (s_moveStall hR  (xs (i + 1)) (xs (i + 2))) (by decide)
  refine r_aload_n C0 (kk := 1) 1 rfl dL_law_2634 ?_
  refine r_arg C0 hX hbl hbA (show i + 1 < L by omega) hL 0 4 rfl rfl (j := 1) rfl dL_law_2635 dL_law_2636 dL_law_2638 dL_law_2639 dL_law_2640 ?_
  refine r_arg C0 hX hbl hbA (show i + 2 < L by omega) hL 0 4 rfl rfl (j := 2) rfl dL_law_2641 dL_law_2642 dL_law_2644 dL_law_2645 dL_law_2646 ?_
  refine r_aload_n C0 (kk := 3) 3 rfl dL_law_2647 ?_
  refine r_callSH C0 (As := [.ref (g.1 4 1664), .int (xs (i + 1)), .int (xs (i + 2)), .ref (g.1 9 5000)]) (rest := []) (c_L_moveStall l D g tbA hT hlst fbA oA e1 hk) w5_154 w5_155 w1_0 w5_156 hd_L_moveStall rfl ⟨rfl, rfl⟩ ⟨Nat.le_of_ble_eq_true rfl, Nat.le_of_ble_eq_true rfl⟩ (show cells + 2 ≤ 601024 by omega) (show slots + 6 * 2 ≤ 7293034 by omega) rfl (Nat.le_of_ble_eq_true rfl) dL_law_2648 ?_
  refine r_istore C0 (lv2 := (5, .int res) :: lvL b g i) (by decide) rfl dL_law_2651 ?_
  refine r_aload_n C0 (kk := 2) 3 rfl dL_law_2653 ?_
  refine r_arg C0 hX hbl hbA (show i + 1 < L by omega) hL 1 5 rfl rfl (j := 1) rfl dL_law_2654 dL_law_2655 dL_law_2657 dL_law_2658 dL_law_2659 ?_
  refine r_arg C0 hX hbl hbA (show i + 2 < L by omega) hL 1 5 rfl rfl (j := 2) rfl dL_law_2660 dL_law_2661 dL_law_2663 dL_law_2664 dL_law_2665 ?_
  refine r_fcall C0 (As := [.int (xs (i + 1)), .int (xs (i + 2))]) (rest := []) (c_X7_moveStall l D g (tbX ++ tbM) (T_XM hT) mdXM e2) hq w8_74 w8_75 w8_76 w1_14 w8_77 (x_rec5 C0 mdA.1) hd_X7_moveStall rfl ⟨rfl, rfl⟩ ⟨Nat.le_of_ble_eq_true rfl, Nat.le_of_ble_eq_true rfl⟩ (show cells + 2 + 0 ≤ 601024 by omega) (show slots + 6 * 2 + 0 ≤ 7293034 by omega) rfl (Nat.le_of_ble_eq_true rfl) dL_law_2666 ?_
  refine r_tail h hcase (show cells + 2 ≤ 601024 by omega) (show slots + 6 * 2 ≤ 7293034 by omega) dL_law_2669 dL_law_2671 dL_law_2672 dL_law_2675 dL_law_2677 dL_law_2682 dL_law_2684 dL_law_2687 dL_law_2688 dL_law_2689 dL_law_2690 dL_law_2692 dL_law_2693 dL_law_2694 dL_law_2699 (by decide) ?_
  refine WW.widen (k := cells + 6) (n := slots + 36) (by omega) (by omega) ?_
  exact kk _ (RR_o (RR_mono hR2 (by omega)))
set_option maxRecDepth 100000 in
set_option maxHeartbeats 4000000 in
theorem case_56 (l : Launch) (hlst : l.stackTraces = false) {p : Program} {e : Env} {s : State} {m : MethodId} {below : List Frame} {meth : Method} {c : Code} {cells slots : Nat} {Q : State → Prop} {b L i mm : Nat} {xs : Nat → Int32} {D : va_G} {g : xG} {M : xM} (h : LC p s m c b L xs D g) (hi : i + 6 ≤ L) (hR : RR mm M) (hm : mm < 536870912) (hc : cells + 6 ≤ 601024) (hs : slots + 36 ≤ 7293034)
    (kk : ∀ M2, RR (mm + 4000) M2 → WW p l e room_1 s m #[.ref b] below meth c (cells + 6) (slots + 36) Q 9 D g tbA 3076 (lvL b g i) [] M2) :
    WW p l e room_1 s m #[.ref b] below meth c cells slots Q 9 D g tbA 2702 (lvL b g i) [] M := by
  obtain ⟨C0, hX, hbl, hbA, hL⟩ := id h
  have hT := C0.2.2.2.2.2.2.1
  obtain ⟨k, r, M1, bv, M2, res, Mo, e1, e2, hR2, hk, hq, hcase⟩ := okT_use (s_setFog hR  (xs (i + 1)) (xs (i + 2))) (by decide)
  refine r_aload_n C0 (kk := 1) 1 rfl dL_law_2702 ?_
  refine r_arg C0 hX hbl hbA (show i + 1 < L by omega) hL 0 4 rfl rfl (j := 1) rfl dL_law_2703 dL_law_2704 dL_law_2706 dL_law_2707 dL_law_2708 ?_
  refine r_arg C0 hX hbl hbA (show i + 2 < L by omega) hL 0 4 rfl rfl (j := 2) rfl dL_law_2709 dL_law_2710 dL_law_2712 dL_law_2713 dL_law_2714 ?_
  refine r_aload_n C0 (kk := 3) 3 rfl dL_law_2715 ?_
  refine r_callSH C0 (As := [.ref (g.1 4 1664), .int (xs (i + 1)), .int (xs (i + 2)), .ref (g.1 9 5000)]) (rest := []) (c_L_setFog l D g tbA hT hlst fbA oA e1 hk) w5_161 w5_162 w1_0 w5_163 hd_L_setFog rfl ⟨rfl, rfl⟩ ⟨Nat.le_of_ble_eq_true rfl, Nat.le_of_ble_eq_true rfl⟩ (show cells + 1 ≤ 601024 by omega) (show slots + 6 * 1 ≤ 7293034 by omega) rfl (Nat.le_of_ble_eq_true rfl) dL_law_2716 ?_
  refine r_istore C0 (lv2 := (5, .int res) :: lvL b g i) (by decide) rfl dL_law_2719 ?_
  refine r_aload_n C0 (kk := 2) 3 rfl dL_law_2721 ?_
  refine r_arg C0 hX hbl hbA (show i + 1 < L by omega) hL 1 5 rfl rfl (j := 1) rfl dL_law_2722 dL_law_2723 dL_law_2725 dL_law_2726 dL_law_2727 ?_
  refine r_arg C0 hX hbl hbA (show i + 2 < L by omega) hL 1 5 rfl rfl (j := 2) rfl dL_law_2728 dL_law_2729 dL_law_2731 dL_law_2732 dL_law_2733 ?_
  refine r_fcall C0 (As := [.int (xs (i + 1)), .int (xs (i + 2))]) (rest := []) (c_X7_setFog l D g (tbX ++ tbM) (T_XM hT) mdXM e2) hq w8_78 w8_79 w8_80 w1_14 w8_81 (x_rec5 C0 mdA.1) hd_X7_setFog rfl ⟨rfl, rfl⟩ ⟨Nat.le_of_ble_eq_true rfl, Nat.le_of_ble_eq_true rfl⟩ (show cells + 1 + 0 ≤ 601024 by omega) (show slots + 6 * 1 + 0 ≤ 7293034 by omega) rfl (Nat.le_of_ble_eq_true rfl) dL_law_2734 ?_
  refine r_tail h hcase (show cells + 1 ≤ 601024 by omega) (show slots + 6 * 1 ≤ 7293034 by omega) dL_law_2737 dL_law_2739 dL_law_2740 dL_law_2743 dL_law_2745 dL_law_2750 dL_law_2752 dL_law_2755 dL_law_2756 dL_law_2757 dL_law_2758 dL_law_2760 dL_law_2761 dL_law_2762 dL_law_2767 (by decide) ?_
  refine WW.widen (k := cells + 6) (n := slots + 36) (by omega) (by omega) ?_
  exact kk _ (RR_o (RR_mono hR2 (by omega)))
set_option maxRecDepth 100000 in
set_option maxHeartbeats 4000000 in
theorem case_57 (l : Launch) (hlst : l.stackTraces = false) {p : Program} {e : Env} {s : State} {m : MethodId} {below : List Frame} {meth : Method} {c : Code} {cells slots : Nat} {Q : State → Prop} {b L i mm : Nat} {xs : Nat → Int32} {D : va_G} {g : xG} {M : xM} (h : LC p s m c b L xs D g) (hi : i + 6 ≤ L) (hR : RR mm M) (hm : mm < 536870912) (hc : cells + 6 ≤ 601024) (hs : slots + 36 ≤ 7293034)
    (kk : ∀ M2, RR (mm + 4000) M2 → WW p l e room_1 s m #[.ref b] below meth c (cells + 6) (slots + 36) Q 9 D g tbA 3076 (lvL b g i) [] M2) :
    WW p l e room_1 s m #[.ref b] below meth c cells slots Q 9 D g tbA 2770 (lvL b g i) [] M := by
  obtain ⟨C0, hX, hbl, hbA, hL⟩ := id h
  have hT := C0.2.2.2.2.2.2.1
  obtain ⟨k, r, M1, bv, M2, res, Mo, e1, e2, hR2, hk, hq, hcase⟩ := okT_use (s_putBack hR  (xs (i + 1))) (by decide)
  refine r_aload_n C0 (kk := 1) 1 rfl dL_law_2770 ?_
  refine r_arg C0 hX hbl hbA (show i + 1 < L by omega) hL 0 4 rfl rfl (j := 1) rfl dL_law_2771 dL_law_2772 dL_law_2774 dL_law_2775 dL_law_2776 ?_
  refine r_aload_n C0 (kk := 3) 3 rfl dL_law_2777 ?_
  refine r_callSH C0 (As := [.ref (g.1 4 1664), .int (xs (i + 1)), .ref (g.1 9 5000)]) (rest := []) (c_L_putBack l D g tbA hT hlst fbA oA e1 hk) w5_169 w5_170 w1_0 w5_171 hd_L_putBack rfl ⟨rfl, rfl⟩ ⟨Nat.le_of_ble_eq_true rfl, Nat.le_of_ble_eq_true rfl⟩ (show cells + 2 ≤ 601024 by omega) (show slots + 6 * 2 ≤ 7293034 by omega) rfl (Nat.le_of_ble_eq_true rfl) dL_law_2778 ?_
  refine r_istore C0 (lv2 := (5, .int res) :: lvL b g i) (by decide) rfl dL_law_2781 ?_
  refine r_aload_n C0 (kk := 2) 3 rfl dL_law_2783 ?_
  refine r_arg C0 hX hbl hbA (show i + 1 < L by omega) hL 1 5 rfl rfl (j := 1) rfl dL_law_2784 dL_law_2785 dL_law_2787 dL_law_2788 dL_law_2789 ?_
  refine r_fcall C0 (As := [.int (xs (i + 1))]) (rest := []) (c_X7_putBack l D g (tbX ++ tbM) (T_XM hT) mdXM e2) hq w8_82 w8_83 w8_84 w1_14 w8_85 (x_rec5 C0 mdA.1) hd_X7_putBack rfl ⟨rfl, rfl⟩ ⟨Nat.le_of_ble_eq_true rfl, Nat.le_of_ble_eq_true rfl⟩ (show cells + 2 + 0 ≤ 601024 by omega) (show slots + 6 * 2 + 0 ≤ 7293034 by omega) rfl (Nat.le_of_ble_eq_true rfl) dL_law_2790 ?_
  refine r_tail h hcase (show cells + 2 ≤ 601024 by omega) (show slots + 6 * 2 ≤ 7293034 by omega) dL_law_2793 dL_law_2795 dL_law_2796 dL_law_2799 dL_law_2801 dL_law_2806 dL_law_2808 dL_law_2811 dL_law_2812 dL_law_2813 dL_law_2814 dL_law_2816 dL_law_2817 dL_law_2818 dL_law_2823 (by decide) ?_
  refine WW.widen (k := cells + 6) (n := slots + 36) (by omega) (by omega) ?_
  exact kk _ (RR_o (RR_mono hR2 (by omega)))
set_option maxRecDepth 100000 in
set_option maxHeartbeats 4000000 in
theorem case_58 (l : Launch) (hlst : l.stackTraces = false) {p : Program} {e : Env} {s : State} {m : MethodId} {below : List Frame} {meth : Method} {c : Code} {cells slots : Nat} {Q : State → Prop} {b L i mm : Nat} {xs : Nat → Int32} {D : va_G} {g : xG} {M : xM} (h : LC p s m c b L xs D g) (hi : i + 6 ≤ L) (hR : RR mm M) (hm : mm < 536870912) (hc : cells + 6 ≤ 601024) (hs : slots + 36 ≤ 7293034)
    (kk : ∀ M2, RR (mm + 4000) M2 → WW p l e room_1 s m #[.ref b] below meth c (cells + 6) (slots + 36) Q 9 D g tbA 3076 (lvL b g i) [] M2) :
    WW p l e room_1 s m #[.ref b] below meth c cells slots Q 9 D g tbA 2826 (lvL b g i) [] M := by
  obtain ⟨C0, hX, hbl, hbA, hL⟩ := id h
  have hT := C0.2.2.2.2.2.2.1
  obtain ⟨k, r, M1, bv, M2, res, Mo, e1, e2, hR2, hk, hq, hcase⟩ := okT_use (s_passMinutes hR (by omega) (xs (i + 1))) (by decide)
  refine r_aload_n C0 (kk := 1) 1 rfl dL_law_2826 ?_
  refine r_arg C0 hX hbl hbA (show i + 1 < L by omega) hL 0 4 rfl rfl (j := 1) rfl dL_law_2827 dL_law_2828 dL_law_2830 dL_law_2831 dL_law_2832 ?_
  refine r_aload_n C0 (kk := 3) 3 rfl dL_law_2833 ?_
  refine r_callSH C0 (As := [.ref (g.1 4 1664), .int (xs (i + 1)), .ref (g.1 9 5000)]) (rest := []) (c_L_passMinutes l D g tbA hT hlst fbA oA e1 hk) w5_178 w5_179 w1_0 w5_180 hd_L_passMinutes rfl ⟨rfl, rfl⟩ ⟨Nat.le_of_ble_eq_true rfl, Nat.le_of_ble_eq_true rfl⟩ (show cells + 1 ≤ 601024 by omega) (show slots + 6 * 1 ≤ 7293034 by omega) rfl (Nat.le_of_ble_eq_true rfl) dL_law_2834 ?_
  refine r_istore C0 (lv2 := (5, .int res) :: lvL b g i) (by decide) rfl dL_law_2837 ?_
  refine r_aload_n C0 (kk := 2) 3 rfl dL_law_2839 ?_
  refine r_arg C0 hX hbl hbA (show i + 1 < L by omega) hL 1 5 rfl rfl (j := 1) rfl dL_law_2840 dL_law_2841 dL_law_2843 dL_law_2844 dL_law_2845 ?_
  refine r_fcall C0 (As := [.int (xs (i + 1))]) (rest := []) (c_X7_passMinutes l D g (tbX ++ tbM) (T_XM hT) mdXM e2) hq w8_86 w8_87 w8_88 w1_14 w8_89 (x_rec5 C0 mdA.1) hd_X7_passMinutes rfl ⟨rfl, rfl⟩ ⟨Nat.le_of_ble_eq_true rfl, Nat.le_of_ble_eq_true rfl⟩ (show cells + 1 + 0 ≤ 601024 by omega) (show slots + 6 * 1 + 0 ≤ 7293034 by omega) rfl (Nat.le_of_ble_eq_true rfl) dL_law_2846 ?_
  refine r_tail h hcase (show cells + 1 ≤ 601024 by omega) (show slots + 6 * 1 ≤ 7293034 by omega) dL_law_2849 dL_law_2851 dL_law_2852 dL_law_2855 dL_law_2857 dL_law_2862 dL_law_2864 dL_law_2867 dL_law_2868 dL_law_2869 dL_law_2870 dL_law_2872 dL_law_2873 dL_law_2874 dL_law_2879 (by decide) ?_
  refine WW.widen (k := cells + 6) (n := slots + 36) (by omega) (by omega) ?_
  exact kk _ (RR_o (RR_mono hR2 (by omega)))
set_option maxRecDepth 100000 in
set_option maxHeartbeats 4000000 in
theorem case_59 (l : Launch) (hlst : l.stackTraces = false) {p : Program} {e : Env} {s : State} {m : MethodId} {below : List Frame} {meth : Method} {c : Code} {cells slots : Nat} {Q : State → Prop} {b L i mm : Nat} {xs : Nat → Int32} {D : va_G} {g : xG} {M : xM} (h : LC p s m c b L xs D g) (hi : i + 6 ≤ L) (hR : RR mm M) (hm : mm < 536870912) (hc : cells + 6 ≤ 601024) (hs : slots + 36 ≤ 7293034)
    (kk : ∀ M2, RR (mm + 4000) M2 → WW p l e room_1 s m #[.ref b] below meth c (cells + 6) (slots + 36) Q 9 D g tbA 3076 (lvL b g i) [] M2) :
    WW p l e room_1 s m #[.ref b] below meth c cells slots Q 9 D g tbA 2882 (lvL b g i) [] M := by
  obtain ⟨C0, hX, hbl, hbA, hL⟩ := id h
  have hT := C0.2.2.2.2.2.2.1
  obtain ⟨k, r, M1, bv, M2, res, Mo, e1, e2, hR2, hk, hq, hcase⟩ := okT_use (s_undo hR  ) (by decide)
  refine r_aload_n C0 (kk := 1) 1 rfl dL_law_2882 ?_
  refine r_aload_n C0 (kk := 3) 3 rfl dL_law_2883 ?_
  refine r_callSH C0 (As := [.ref (g.1 4 1664), .ref (g.1 9 5000)]) (rest := []) (c_L_undo l D g tbA hT hlst fbA oA e1 hk) w5_185 w5_186 w1_0 w5_187 hd_L_undo rfl ⟨rfl, rfl⟩ ⟨Nat.le_of_ble_eq_true rfl, Nat.le_of_ble_eq_true rfl⟩ (show cells + 1 ≤ 601024 by omega) (show slots + 6 * 1 ≤ 7293034 by omega) rfl (Nat.le_of_ble_eq_true rfl) dL_law_2884 ?_
  refine r_istore C0 (lv2 := (5, .int res) :: lvL b g i) (by decide) rfl dL_law_2887 ?_
  refine r_aload_n C0 (kk := 2) 3 rfl dL_law_2889 ?_
  refine r_fcall C0 (As := []) (rest := []) (c_X7_undo l D g (tbX ++ tbM) (T_XM hT) mdXM e2) hq w8_90 w8_91 w8_92 w1_14 w8_93 (x_rec5 C0 mdA.1) hd_X7_undo rfl ⟨rfl, rfl⟩ ⟨Nat.le_of_ble_eq_true rfl, Nat.le_of_ble_eq_true rfl⟩ (show cells + 1 + 0 ≤ 601024 by omega) (show slots + 6 * 1 + 0 ≤ 7293034 by omega) rfl (Nat.le_of_ble_eq_true rfl) dL_law_2890 ?_
  refine r_tail h hcase (show cells + 1 ≤ 601024 by omega) (show slots + 6 * 1 ≤ 7293034 by omega) dL_law_2893 dL_law_2895 dL_law_2896 dL_law_2899 dL_law_2901 dL_law_2906 dL_law_2908 dL_law_2911 dL_law_2912 dL_law_2913 dL_law_2914 dL_law_2916 dL_law_2917 dL_law_2918 dL_law_2923 (by decide) ?_
  refine WW.widen (k := cells + 6) (n := slots + 36) (by omega) (by omega) ?_
  exact kk _ (RR_o (RR_mono hR2 (by omega)))
set_option maxRecDepth 100000 in
set_option maxHeartbeats 4000000 in
theorem case_60 (l : Launch) (hlst : l.stackTraces = false) {p : Program} {e : Env} {s : State} {m : MethodId} {below : List Frame} {meth : Method} {c : Code} {cells slots : Nat} {Q : State → Prop} {b L i mm : Nat} {xs : Nat → Int32} {D : va_G} {g : xG} {M : xM} (h : LC p s m c b L xs D g) (hi : i + 6 ≤ L) (hR : RR mm M) (hm : mm < 536870912) (hc : cells + 6 ≤ 601024) (hs : slots + 36 ≤ 7293034)
    (kk : ∀ M2, RR (mm + 4000) M2 → WW p l e room_1 s m #[.ref b] below meth c (cells + 6) (slots + 36) Q 9 D g tbA 3076 (lvL b g i) [] M2) :
    WW p l e room_1 s m #[.ref b] below meth c cells slots Q 9 D g tbA 2926 (lvL b g i) [] M := by
  obtain ⟨C0, hX, hbl, hbA, hL⟩ := id h
  have hT := C0.2.2.2.2.2.2.1
  obtain ⟨k, r, M1, bv, M2, res, Mo, e1, e2, hR2, hk, hq, hcase⟩ := okT_use (s_save hR  (xs (i + 1))) (by decide)
  refine r_aload_n C0 (kk := 1) 1 rfl dL_law_2926 ?_
  refine r_arg C0 hX hbl hbA (show i + 1 < L by omega) hL 0 4 rfl rfl (j := 1) rfl dL_law_2927 dL_law_2928 dL_law_2930 dL_law_2931 dL_law_2932 ?_
  refine r_aload_n C0 (kk := 3) 3 rfl dL_law_2933 ?_
  refine r_callSH C0 (As := [.ref (g.1 4 1664), .int (xs (i + 1)), .ref (g.1 9 5000)]) (rest := []) (c_L_save l D g tbA hT hlst fbA oA e1 hk) w5_193 w5_194 w1_0 w5_195 hd_L_save rfl ⟨rfl, rfl⟩ ⟨Nat.le_of_ble_eq_true rfl, Nat.le_of_ble_eq_true rfl⟩ (show cells + 1 ≤ 601024 by omega) (show slots + 6 * 1 ≤ 7293034 by omega) rfl (Nat.le_of_ble_eq_true rfl) dL_law_2934 ?_
  refine r_istore C0 (lv2 := (5, .int res) :: lvL b g i) (by decide) rfl dL_law_2937 ?_
  refine r_aload_n C0 (kk := 2) 3 rfl dL_law_2939 ?_
  refine r_arg C0 hX hbl hbA (show i + 1 < L by omega) hL 1 5 rfl rfl (j := 1) rfl dL_law_2940 dL_law_2941 dL_law_2943 dL_law_2944 dL_law_2945 ?_
  refine r_fcall C0 (As := [.int (xs (i + 1))]) (rest := []) (c_X7_save l D g (tbX ++ tbM) (T_XM hT) mdXM e2) hq w8_94 w8_95 w8_96 w1_14 w8_97 (x_rec5 C0 mdA.1) hd_X7_save rfl ⟨rfl, rfl⟩ ⟨Nat.le_of_ble_eq_true rfl, Nat.le_of_ble_eq_true rfl⟩ (show cells + 1 + 0 ≤ 601024 by omega) (show slots + 6 * 1 + 0 ≤ 7293034 by omega) rfl (Nat.le_of_ble_eq_true rfl) dL_law_2946 ?_
  refine r_tail h hcase (show cells + 1 ≤ 601024 by omega) (show slots + 6 * 1 ≤ 7293034 by omega) dL_law_2949 dL_law_2951 dL_law_2952 dL_law_2955 dL_law_2957 dL_law_2962 dL_law_2964 dL_law_2967 dL_law_2968 dL_law_2969 dL_law_2970 dL_law_2972 dL_law_2973 dL_law_2974 dL_law_2979 (by decide) ?_
  refine WW.widen (k := cells + 6) (n := slots + 36) (by omega) (by omega) ?_
  exact kk _ (RR_o (RR_mono hR2 (by omega)))
set_option maxRecDepth 100000 in
set_option maxHeartbeats 4000000 in
theorem case_61 (l : Launch) (hlst : l.stackTraces = false) {p : Program} {e : Env} {s : State} {m : MethodId} {below : List Frame} {meth : Method} {c : Code} {cells slots : Nat} {Q : State → Prop} {b L i mm : Nat} {xs : Nat → Int32} {D : va_G} {g : xG} {M : xM} (h : LC p s m c b L xs D g) (hi : i + 6 ≤ L) (hR : RR mm M) (hm : mm < 536870912) (hc : cells + 6 ≤ 601024) (hs : slots + 36 ≤ 7293034)
    (kk : ∀ M2, RR (mm + 4000) M2 → WW p l e room_1 s m #[.ref b] below meth c (cells + 6) (slots + 36) Q 9 D g tbA 3076 (lvL b g i) [] M2) :
    WW p l e room_1 s m #[.ref b] below meth c cells slots Q 9 D g tbA 2982 (lvL b g i) [] M := by
  obtain ⟨C0, hX, hbl, hbA, hL⟩ := id h
  have hT := C0.2.2.2.2.2.2.1
  obtain ⟨k, r, M1, bv, M2, res, Mo, e1, e2, hR2, hk, hq, hcase⟩ := okT_use (s_restore hR  (xs (i + 1))) (by decide)
  refine r_aload_n C0 (kk := 1) 1 rfl dL_law_2982 ?_
  refine r_arg C0 hX hbl hbA (show i + 1 < L by omega) hL 0 4 rfl rfl (j := 1) rfl dL_law_2983 dL_law_2984 dL_law_2986 dL_law_2987 dL_law_2988 ?_
  refine r_aload_n C0 (kk := 3) 3 rfl dL_law_2989 ?_
  refine r_callSH C0 (As := [.ref (g.1 4 1664), .int (xs (i + 1)), .ref (g.1 9 5000)]) (rest := []) (c_L_restore l D g tbA hT hlst fbA oA e1 hk) w5_200 w5_201 w1_0 w5_202 hd_L_restore rfl ⟨rfl, rfl⟩ ⟨Nat.le_of_ble_eq_true rfl, Nat.le_of_ble_eq_true rfl⟩ (show cells + 2 ≤ 601024 by omega) (show slots + 6 * 2 ≤ 7293034 by omega) rfl (Nat.le_of_ble_eq_true rfl) dL_law_2990 ?_
  refine r_istore C0 (lv2 := (5, .int res) :: lvL b g i) (by decide) rfl dL_law_2993 ?_
  refine r_aload_n C0 (kk := 2) 3 rfl dL_law_2995 ?_
  refine r_arg C0 hX hbl hbA (show i + 1 < L by omega) hL 1 5 rfl rfl (j := 1) rfl dL_law_2996 dL_law_2997 dL_law_2999 dL_law_3000 dL_law_3001 ?_
  refine r_fcall C0 (As := [.int (xs (i + 1))]) (rest := []) (c_X7_restore l D g (tbX ++ tbM) (T_XM hT) mdXM e2) hq w8_98 w8_99 w8_100 w1_14 w8_101 (x_rec5 C0 mdA.1) hd_X7_restore rfl ⟨rfl, rfl⟩ ⟨Nat.le_of_ble_eq_true rfl, Nat.le_of_ble_eq_true rfl⟩ (show cells + 2 + 0 ≤ 601024 by omega) (show slots + 6 * 2 + 0 ≤ 7293034 by omega) rfl (Nat.le_of_ble_eq_true rfl) dL_law_3002 ?_
  refine r_tail h hcase (show cells + 2 ≤ 601024 by omega) (show slots + 6 * 2 ≤ 7293034 by omega) dL_law_3005 dL_law_3007 dL_law_3008 dL_law_3011 dL_law_3013 dL_law_3018 dL_law_3020 dL_law_3023 dL_law_3024 dL_law_3025 dL_law_3026 dL_law_3028 dL_law_3029 dL_law_3030 dL_law_3035 (by decide) ?_
  refine WW.widen (k := cells + 6) (n := slots + 36) (by omega) (by omega) ?_
  exact kk _ (RR_o (RR_mono hR2 (by omega)))
set_option maxRecDepth 100000 in
set_option maxHeartbeats 4000000 in
theorem case_62 (l : Launch) (hlst : l.stackTraces = false) {p : Program} {e : Env} {s : State} {m : MethodId} {below : List Frame} {meth : Method} {c : Code} {cells slots : Nat} {Q : State → Prop} {b L i mm : Nat} {xs : Nat → Int32} {D : va_G} {g : xG} {M : xM} (h : LC p s m c b L xs D g) (hi : i + 6 ≤ L) (hR : RR mm M) (hm : mm < 536870912) (hc : cells + 6 ≤ 601024) (hs : slots + 36 ≤ 7293034)
    (kk : ∀ M2, RR (mm + 4000) M2 → WW p l e room_1 s m #[.ref b] below meth c (cells + 6) (slots + 36) Q 9 D g tbA 3076 (lvL b g i) [] M2) :
    WW p l e room_1 s m #[.ref b] below meth c cells slots Q 9 D g tbA 3038 (lvL b g i) [] M := by
  obtain ⟨C0, hX, hbl, hbA, hL⟩ := id h
  have hT := C0.2.2.2.2.2.2.1
  obtain ⟨r, M1, M2, e1, e2, hR2⟩ := s_writeRope hR  
  refine r_aload_n C0 (kk := 1) 1 rfl dL_law_3038 ?_
  refine r_callVi C0 (As := []) (rest := []) (c_X6_writeRope l D g tbA hT fbA e1) w4_24 w4_25 w4_26 w1_1 w4_27 (x_rec4 C0 fbA.1) hd_X6_writeRope rfl ⟨rfl, rfl⟩ ⟨Nat.le_of_ble_eq_true rfl, Nat.le_of_ble_eq_true rfl⟩ (show cells + 0 ≤ 601024 by omega) (show slots + 0 ≤ 7293034 by omega) rfl (Nat.le_of_ble_eq_true rfl) dL_law_3039 ?_
  refine r_aload_n C0 (kk := 2) 2 rfl dL_law_3042 ?_
  refine r_callVi C0 (As := []) (rest := [.int r]) (c_X7_writeRope l D g tbA hT mdA e2) w8_102 w8_103 w8_104 w1_14 w8_105 (x_rec5 C0 mdA.1) hd_X7_writeRope rfl ⟨rfl, rfl⟩ ⟨Nat.le_of_ble_eq_true rfl, Nat.le_of_ble_eq_true rfl⟩ (show cells + 0 ≤ 601024 by omega) (show slots + 0 ≤ 7293034 by omega) rfl (Nat.le_of_ble_eq_true rfl) dL_law_3043 ?_
  refine r_icmp_eq C0 (tgt := 3076) (by decide) dL_law_3046 (fun q => ?_) (fun q => absurd rfl q)
  refine WW.widen (k := cells + 6) (n := slots + 36) (by omega) (by omega) ?_
  exact kk _ (RR_mono hR2 (by omega))
set_option maxRecDepth 100000 in
set_option maxHeartbeats 4000000 in
theorem case_63 (l : Launch) (hlst : l.stackTraces = false) {p : Program} {e : Env} {s : State} {m : MethodId} {below : List Frame} {meth : Method} {c : Code} {cells slots : Nat} {Q : State → Prop} {b L i mm : Nat} {xs : Nat → Int32} {D : va_G} {g : xG} {M : xM} (h : LC p s m c b L xs D g) (hi : i + 6 ≤ L) (hR : RR mm M) (hm : mm < 536870912) (hc : cells + 6 ≤ 601024) (hs : slots + 36 ≤ 7293034)
    (kk : ∀ M2, RR (mm + 4000) M2 → WW p l e room_1 s m #[.ref b] below meth c (cells + 6) (slots + 36) Q 9 D g tbA 3076 (lvL b g i) [] M2) :
    WW p l e room_1 s m #[.ref b] below meth c cells slots Q 9 D g tbA 3051 (lvL b g i) [] M := by
  obtain ⟨C0, hX, hbl, hbA, hL⟩ := id h
  have hT := C0.2.2.2.2.2.2.1
  obtain ⟨r, M1, M2, e1, e2, hR2⟩ := s_outputByte hR  (xs (i + 1))
  refine r_aload_n C0 (kk := 1) 1 rfl dL_law_3051 ?_
  refine r_arg C0 hX hbl hbA (show i + 1 < L by omega) hL 0 4 rfl rfl (j := 1) rfl dL_law_3052 dL_law_3053 dL_law_3055 dL_law_3056 dL_law_3057 ?_
  refine r_callVi C0 (As := [.int (xs (i + 1))]) (rest := []) (c_X6_outputByte l D g tbA hT fbA e1) w4_32 w4_33 w4_34 w1_1 w4_35 (x_rec4 C0 fbA.1) hd_X6_outputByte rfl ⟨rfl, rfl⟩ ⟨Nat.le_of_ble_eq_true rfl, Nat.le_of_ble_eq_true rfl⟩ (show cells + 0 ≤ 601024 by omega) (show slots + 0 ≤ 7293034 by omega) rfl (Nat.le_of_ble_eq_true rfl) dL_law_3058 ?_
  refine r_aload_n C0 (kk := 2) 2 rfl dL_law_3061 ?_
  refine r_arg C0 hX hbl hbA (show i + 1 < L by omega) hL 0 4 rfl rfl (j := 1) rfl dL_law_3062 dL_law_3063 dL_law_3065 dL_law_3066 dL_law_3067 ?_
  refine r_callVi C0 (As := [.int (xs (i + 1))]) (rest := [.int r]) (c_X7_outputByte l D g tbA hT mdA e2) w8_110 w8_111 w8_112 w1_14 w8_113 (x_rec5 C0 mdA.1) hd_X7_outputByte rfl ⟨rfl, rfl⟩ ⟨Nat.le_of_ble_eq_true rfl, Nat.le_of_ble_eq_true rfl⟩ (show cells + 0 ≤ 601024 by omega) (show slots + 0 ≤ 7293034 by omega) rfl (Nat.le_of_ble_eq_true rfl) dL_law_3068 ?_
  refine r_icmp_eq C0 (tgt := 3076) (by decide) dL_law_3071 (fun q => ?_) (fun q => absurd rfl q)
  refine WW.widen (k := cells + 6) (n := slots + 36) (by omega) (by omega) ?_
  exact kk _ (RR_mono hR2 (by omega))
