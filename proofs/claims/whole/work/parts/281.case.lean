/-! the law's cases -/
set_option maxRecDepth 100000 in
set_option maxHeartbeats 4000000 in
theorem case_0 (l : Launch) (hlst : l.stackTraces = false) {p : Program} {e : Env} {s : State} {m : MethodId} {below : List Frame} {meth : Method} {c : Code} {cells slots : Nat} {Q : State → Prop} {b L i mm : Nat} {xs : Nat → Int32} {D : va_G} {g : xG} {M : xM} (h : LC p s m c b L xs D g) (hi : i + 6 ≤ L) (hR : RR mm M) (hm : mm < 536870912) (hc : cells + 6 ≤ 601024) (hs : slots + 36 ≤ 7293034)
    (kk : ∀ M2, RR (mm + 4000) M2 → WW p l e room_1 s m #[.ref b] below meth c (cells + 6) (slots + 36) Q 9 D g tbA 3076 (lvL b g i) [] M2) :
    WW p l e room_1 s m #[.ref b] below meth c cells slots Q 9 D g tbA 312 (lvL b g i) [] M := by
  obtain ⟨C0, hX, hbl, hbA, hL⟩ := id h
  have hT := C0.2.2.2.2.2.2.1
  obtain ⟨r, M1, M2, e1, e2, hR2⟩ := s_feed hR  (xs (i + 1)) (xs (i + 2)) (xs (i + 3)) (xs (i + 4)) (xs (i + 5))
  refine r_aload_n C0 (kk := 1) 1 rfl dL_law_312 ?_
  refine r_arg C0 hX hbl hbA (show i + 1 < L by omega) hL 0 4 rfl rfl (j := 1) rfl dL_law_313 dL_law_314 dL_law_316 dL_law_317 dL_law_318 ?_
  refine r_arg C0 hX hbl hbA (show i + 2 < L by omega) hL 0 4 rfl rfl (j := 2) rfl dL_law_319 dL_law_320 dL_law_322 dL_law_323 dL_law_324 ?_
  refine r_arg C0 hX hbl hbA (show i + 3 < L by omega) hL 0 4 rfl rfl (j := 3) rfl dL_law_325 dL_law_326 dL_law_328 dL_law_329 dL_law_330 ?_
  refine r_arg C0 hX hbl hbA (show i + 4 < L by omega) hL 0 4 rfl rfl (j := 4) rfl dL_law_331 dL_law_332 dL_law_334 dL_law_335 dL_law_336 ?_
  refine r_arg C0 hX hbl hbA (show i + 5 < L by omega) hL 0 4 rfl rfl (j := 5) rfl dL_law_337 dL_law_338 dL_law_340 dL_law_341 dL_law_342 ?_
  refine r_callVi C0 (As := [.int (xs (i + 1)), .int (xs (i + 2)), .int (xs (i + 3)), .int (xs (i + 4)), .int (xs (i + 5))]) (rest := []) (c_X6_feed l D g tbA hT fbA e1) w3_137 w3_138 w3_139 w1_1 w3_140 (x_rec4 C0 fbA.1) hd_X6_feed rfl ⟨rfl, rfl⟩ ⟨Nat.le_of_ble_eq_true rfl, Nat.le_of_ble_eq_true rfl⟩ (show cells + 0 ≤ 601024 by omega) (show slots + 0 ≤ 7293034 by omega) rfl (Nat.le_of_ble_eq_true rfl) dL_law_343 ?_
  refine r_aload_n C0 (kk := 2) 2 rfl dL_law_346 ?_
  refine r_arg C0 hX hbl hbA (show i + 1 < L by omega) hL 0 4 rfl rfl (j := 1) rfl dL_law_347 dL_law_348 dL_law_350 dL_law_351 dL_law_352 ?_
  refine r_arg C0 hX hbl hbA (show i + 2 < L by omega) hL 0 4 rfl rfl (j := 2) rfl dL_law_353 dL_law_354 dL_law_356 dL_law_357 dL_law_358 ?_
  refine r_arg C0 hX hbl hbA (show i + 3 < L by omega) hL 0 4 rfl rfl (j := 3) rfl dL_law_359 dL_law_360 dL_law_362 dL_law_363 dL_law_364 ?_
  refine r_arg C0 hX hbl hbA (show i + 4 < L by omega) hL 0 4 rfl rfl (j := 4) rfl dL_law_365 dL_law_366 dL_law_368 dL_law_369 dL_law_370 ?_
  refine r_arg C0 hX hbl hbA (show i + 5 < L by omega) hL 0 4 rfl rfl (j := 5) rfl dL_law_371 dL_law_372 dL_law_374 dL_law_375 dL_law_376 ?_
  refine r_callVi C0 (As := [.int (xs (i + 1)), .int (xs (i + 2)), .int (xs (i + 3)), .int (xs (i + 4)), .int (xs (i + 5))]) (rest := [.int r]) (c_X7_feed l D g tbA hT mdA e2) w7_41 w7_42 w7_43 w1_14 w7_44 (x_rec5 C0 mdA.1) hd_X7_feed rfl ⟨rfl, rfl⟩ ⟨Nat.le_of_ble_eq_true rfl, Nat.le_of_ble_eq_true rfl⟩ (show cells + 0 ≤ 601024 by omega) (show slots + 0 ≤ 7293034 by omega) rfl (Nat.le_of_ble_eq_true rfl) dL_law_377 ?_
  refine r_icmp_eq C0 (tgt := 3076) (by decide) dL_law_380 (fun q => ?_) (fun q => absurd rfl q)
  refine WW.widen (k := cells + 6) (n := slots + 36) (by omega) (by omega) ?_
  exact kk _ (RR_mono hR2 (by omega))
set_option maxRecDepth 100000 in
set_option maxHeartbeats 4000000 in
theorem case_1 (l : Launch) (hlst : l.stackTraces = false) {p : Program} {e : Env} {s : State} {m : MethodId} {below : List Frame} {meth : Method} {c : Code} {cells slots : Nat} {Q : State → Prop} {b L i mm : Nat} {xs : Nat → Int32} {D : va_G} {g : xG} {M : xM} (h : LC p s m c b L xs D g) (hi : i + 6 ≤ L) (hR : RR mm M) (hm : mm < 536870912) (hc : cells + 6 ≤ 601024) (hs : slots + 36 ≤ 7293034)
    (kk : ∀ M2, RR (mm + 4000) M2 → WW p l e room_1 s m #[.ref b] below meth c (cells + 6) (slots + 36) Q 9 D g tbA 3076 (lvL b g i) [] M2) :
    WW p l e room_1 s m #[.ref b] below meth c cells slots Q 9 D g tbA 385 (lvL b g i) [] M := by
  obtain ⟨C0, hX, hbl, hbA, hL⟩ := id h
  have hT := C0.2.2.2.2.2.2.1
  obtain ⟨r, M1, M2, e1, e2, hR2⟩ := s_loadSetup hR  
  refine r_aload_n C0 (kk := 1) 1 rfl dL_law_385 ?_
  refine r_callVi C0 (As := []) (rest := []) (c_X6_loadSetup l D g tbA hT fbA e1) w3_148 w3_149 w3_150 w1_1 w3_151 (x_rec4 C0 fbA.1) hd_X6_loadSetup rfl ⟨rfl, rfl⟩ ⟨Nat.le_of_ble_eq_true rfl, Nat.le_of_ble_eq_true rfl⟩ (show cells + 0 ≤ 601024 by omega) (show slots + 0 ≤ 7293034 by omega) rfl (Nat.le_of_ble_eq_true rfl) dL_law_386 ?_
  refine r_aload_n C0 (kk := 2) 2 rfl dL_law_389 ?_
  refine r_callVi C0 (As := []) (rest := [.int r]) (c_X7_loadSetup l D g tbA hT mdA e2) w7_48 w5_234 w5_235 w1_14 w5_236 (x_rec5 C0 mdA.1) hd_X7_loadSetup rfl ⟨rfl, rfl⟩ ⟨Nat.le_of_ble_eq_true rfl, Nat.le_of_ble_eq_true rfl⟩ (show cells + 0 ≤ 601024 by omega) (show slots + 0 ≤ 7293034 by omega) rfl (Nat.le_of_ble_eq_true rfl) dL_law_390 ?_
  refine r_icmp_eq C0 (tgt := 3076) (by decide) dL_law_393 (fun q => ?_) (fun q => absurd rfl q)
  refine WW.widen (k := cells + 6) (n := slots + 36) (by omega) (by omega) ?_
  exact kk _ (RR_mono hR2 (by omega))
set_option maxRecDepth 100000 in
set_option maxHeartbeats 4000000 in
theorem case_2 (l : Launch) (hlst : l.stackTraces = false) {p : Program} {e : Env} {s : State} {m : MethodId} {below : List Frame} {meth : Method} {c : Code} {cells slots : Nat} {Q : State → Prop} {b L i mm : Nat} {xs : Nat → Int32} {D : va_G} {g : xG} {M : xM} (h : LC p s m c b L xs D g) (hi : i + 6 ≤ L) (hR : RR mm M) (hm : mm < 536870912) (hc : cells + 6 ≤ 601024) (hs : slots + 36 ≤ 7293034)
    (kk : ∀ M2, RR (mm + 4000) M2 → WW p l e room_1 s m #[.ref b] below meth c (cells + 6) (slots + 36) Q 9 D g tbA 3076 (lvL b g i) [] M2) :
    WW p l e room_1 s m #[.ref b] below meth c cells slots Q 9 D g tbA 398 (lvL b g i) [] M := by
  obtain ⟨C0, hX, hbl, hbA, hL⟩ := id h
  have hT := C0.2.2.2.2.2.2.1
  obtain ⟨r, M1, M2, e1, e2, hR2⟩ := s_runScript hR (by omega) 
  refine r_aload_n C0 (kk := 1) 1 rfl dL_law_398 ?_
  refine r_callVi C0 (As := []) (rest := []) (c_X6_runScript l D g tbA hT fbA e1) w3_152 w3_153 w3_154 w1_1 w3_155 (x_rec4 C0 fbA.1) hd_X6_runScript rfl ⟨rfl, rfl⟩ ⟨Nat.le_of_ble_eq_true rfl, Nat.le_of_ble_eq_true rfl⟩ (show cells + 0 ≤ 601024 by omega) (show slots + 0 ≤ 7293034 by omega) rfl (Nat.le_of_ble_eq_true rfl) dL_law_399 ?_
  refine r_aload_n C0 (kk := 2) 2 rfl dL_law_402 ?_
  refine r_callVi C0 (As := []) (rest := [.int r]) (c_X7_runScript l D g tbA hT mdA e2) w7_49 w7_50 w7_51 w1_14 w7_52 (x_rec5 C0 mdA.1) hd_X7_runScript rfl ⟨rfl, rfl⟩ ⟨Nat.le_of_ble_eq_true rfl, Nat.le_of_ble_eq_true rfl⟩ (show cells + 0 ≤ 601024 by omega) (show slots + 0 ≤ 7293034 by omega) rfl (Nat.le_of_ble_eq_true rfl) dL_law_403 ?_
  refine r_icmp_eq C0 (tgt := 3076) (by decide) dL_law_406 (fun q => ?_) (fun q => absurd rfl q)
  refine WW.widen (k := cells + 6) (n := slots + 36) (by omega) (by omega) ?_
  exact kk _ (RR_mono hR2 (by omega))
set_option maxRecDepth 100000 in
set_option maxHeartbeats 4000000 in
theorem case_3 (l : Launch) (hlst : l.stackTraces = false) {p : Program} {e : Env} {s : State} {m : MethodId} {below : List Frame} {meth : Method} {c : Code} {cells slots : Nat} {Q : State → Prop} {b L i mm : Nat} {xs : Nat → Int32} {D : va_G} {g : xG} {M : xM} (h : LC p s m c b L xs D g) (hi : i + 6 ≤ L) (hR : RR mm M) (hm : mm < 536870912) (hc : cells + 6 ≤ 601024) (hs : slots + 36 ≤ 7293034)
    (kk : ∀ M2, RR (mm + 4000) M2 → WW p l e room_1 s m #[.ref b] below meth c (cells + 6) (slots + 36) Q 9 D g tbA 3076 (lvL b g i) [] M2) :
    WW p l e room_1 s m #[.ref b] below meth c cells slots Q 9 D g tbA 411 (lvL b g i) [] M := by
  obtain ⟨C0, hX, hbl, hbA, hL⟩ := id h
  have hT := C0.2.2.2.2.2.2.1
  obtain ⟨r, M1, M2, e1, e2, hR2⟩ := s_errorCode hR  
  refine r_aload_n C0 (kk := 1) 1 rfl dL_law_411 ?_
  refine r_callVi C0 (As := []) (rest := []) (c_X6_errorCode l D g tbA hT fbA e1) w3_163 w3_164 w3_165 w1_1 w3_166 (x_rec4 C0 fbA.1) hd_X6_errorCode rfl ⟨rfl, rfl⟩ ⟨Nat.le_of_ble_eq_true rfl, Nat.le_of_ble_eq_true rfl⟩ (show cells + 0 ≤ 601024 by omega) (show slots + 0 ≤ 7293034 by omega) rfl (Nat.le_of_ble_eq_true rfl) dL_law_412 ?_
  refine r_aload_n C0 (kk := 2) 2 rfl dL_law_415 ?_
  refine r_callVi C0 (As := []) (rest := [.int r]) (c_X7_errorCode l D g tbA hT mdA e2) w7_57 w7_58 w7_59 w1_14 w7_60 (x_rec5 C0 mdA.1) hd_X7_errorCode rfl ⟨rfl, rfl⟩ ⟨Nat.le_of_ble_eq_true rfl, Nat.le_of_ble_eq_true rfl⟩ (show cells + 0 ≤ 601024 by omega) (show slots + 0 ≤ 7293034 by omega) rfl (Nat.le_of_ble_eq_true rfl) dL_law_416 ?_
  refine r_icmp_eq C0 (tgt := 3076) (by decide) dL_law_419 (fun q => ?_) (fun q => absurd rfl q)
  refine WW.widen (k := cells + 6) (n := slots + 36) (by omega) (by omega) ?_
  exact kk _ (RR_mono hR2 (by omega))
set_option maxRecDepth 100000 in
set_option maxHeartbeats 4000000 in
theorem case_4 (l : Launch) (hlst : l.stackTraces = false) {p : Program} {e : Env} {s : State} {m : MethodId} {below : List Frame} {meth : Method} {c : Code} {cells slots : Nat} {Q : State → Prop} {b L i mm : Nat} {xs : Nat → Int32} {D : va_G} {g : xG} {M : xM} (h : LC p s m c b L xs D g) (hi : i + 6 ≤ L) (hR : RR mm M) (hm : mm < 536870912) (hc : cells + 6 ≤ 601024) (hs : slots + 36 ≤ 7293034)
    (kk : ∀ M2, RR (mm + 4000) M2 → WW p l e room_1 s m #[.ref b] below meth c (cells + 6) (slots + 36) Q 9 D g tbA 3076 (lvL b g i) [] M2) :
    WW p l e room_1 s m #[.ref b] below meth c cells slots Q 9 D g tbA 424 (lvL b g i) [] M := by
  obtain ⟨C0, hX, hbl, hbA, hL⟩ := id h
  have hT := C0.2.2.2.2.2.2.1
  obtain ⟨r, M1, M2, e1, e2, hR2⟩ := s_errorPosition hR  
  refine r_aload_n C0 (kk := 1) 1 rfl dL_law_424 ?_
  refine r_callVi C0 (As := []) (rest := []) (c_X6_errorPosition l D g tbA hT fbA e1) w3_167 w3_168 w3_169 w1_1 w3_170 (x_rec4 C0 fbA.1) hd_X6_errorPosition rfl ⟨rfl, rfl⟩ ⟨Nat.le_of_ble_eq_true rfl, Nat.le_of_ble_eq_true rfl⟩ (show cells + 0 ≤ 601024 by omega) (show slots + 0 ≤ 7293034 by omega) rfl (Nat.le_of_ble_eq_true rfl) dL_law_425 ?_
  refine r_aload_n C0 (kk := 2) 2 rfl dL_law_428 ?_
  refine r_callVi C0 (As := []) (rest := [.int r]) (c_X7_errorPosition l D g tbA hT mdA e2) w7_65 w7_66 w7_67 w1_14 w7_68 (x_rec5 C0 mdA.1) hd_X7_errorPosition rfl ⟨rfl, rfl⟩ ⟨Nat.le_of_ble_eq_true rfl, Nat.le_of_ble_eq_true rfl⟩ (show cells + 0 ≤ 601024 by omega) (show slots + 0 ≤ 7293034 by omega) rfl (Nat.le_of_ble_eq_true rfl) dL_law_429 ?_
  refine r_icmp_eq C0 (tgt := 3076) (by decide) dL_law_432 (fun q => ?_) (fun q => absurd rfl q)
  refine WW.widen (k := cells + 6) (n := slots + 36) (by omega) (by omega) ?_
  exact kk _ (RR_mono hR2 (by omega))
set_option maxRecDepth 100000 in
set_option maxHeartbeats 4000000 in
theorem case_5 (l : Launch) (hlst : l.stackTraces = false) {p : Program} {e : Env} {s : State} {m : MethodId} {below : List Frame} {meth : Method} {c : Code} {cells slots : Nat} {Q : State → Prop} {b L i mm : Nat} {xs : Nat → Int32} {D : va_G} {g : xG} {M : xM} (h : LC p s m c b L xs D g) (hi : i + 6 ≤ L) (hR : RR mm M) (hm : mm < 536870912) (hc : cells + 6 ≤ 601024) (hs : slots + 36 ≤ 7293034)
    (kk : ∀ M2, RR (mm + 4000) M2 → WW p l e room_1 s m #[.ref b] below meth c (cells + 6) (slots + 36) Q 9 D g tbA 3076 (lvL b g i) [] M2) :
    WW p l e room_1 s m #[.ref b] below meth c cells slots Q 9 D g tbA 437 (lvL b g i) [] M := by
  obtain ⟨C0, hX, hbl, hbA, hL⟩ := id h
  have hT := C0.2.2.2.2.2.2.1
  obtain ⟨r, M1, M2, e1, e2, hR2⟩ := s_minute hR  
  refine r_aload_n C0 (kk := 1) 1 rfl dL_law_437 ?_
  refine r_callVi C0 (As := []) (rest := []) (c_X6_minute l D g tbA hT fbA e1) w3_171 w3_172 w3_173 w1_1 w3_174 (x_rec4 C0 fbA.1) hd_X6_minute rfl ⟨rfl, rfl⟩ ⟨Nat.le_of_ble_eq_true rfl, Nat.le_of_ble_eq_true rfl⟩ (show cells + 0 ≤ 601024 by omega) (show slots + 0 ≤ 7293034 by omega) rfl (Nat.le_of_ble_eq_true rfl) dL_law_438 ?_
  refine r_aload_n C0 (kk := 2) 2 rfl dL_law_441 ?_
  refine r_callVi C0 (As := []) (rest := [.int r]) (c_X7_minute l D g tbA hT mdA e2) w7_69 w7_70 w7_71 w1_14 w7_72 (x_rec5 C0 mdA.1) hd_X7_minute rfl ⟨rfl, rfl⟩ ⟨Nat.le_of_ble_eq_true rfl, Nat.le_of_ble_eq_true rfl⟩ (show cells + 0 ≤ 601024 by omega) (show slots + 0 ≤ 7293034 by omega) rfl (Nat.le_of_ble_eq_true rfl) dL_law_442 ?_
  refine r_icmp_eq C0 (tgt := 3076) (by decide) dL_law_445 (fun q => ?_) (fun q => absurd rfl q)
  refine WW.widen (k := cells + 6) (n := slots + 36) (by omega) (by omega) ?_
  exact kk _ (RR_mono hR2 (by omega))
set_option maxRecDepth 100000 in
set_option maxHeartbeats 4000000 in
theorem case_6 (l : Launch) (hlst : l.stackTraces = false) {p : Program} {e : Env} {s : State} {m : MethodId} {below : List Frame} {meth : Method} {c : Code} {cells slots : Nat} {Q : State → Prop} {b L i mm : Nat} {xs : Nat → Int32} {D : va_G} {g : xG} {M : xM} (h : LC p s m c b L xs D g) (hi : i + 6 ≤ L) (hR : RR mm M) (hm : mm < 536870912) (hc : cells + 6 ≤ 601024) (hs : slots + 36 ≤ 7293034)
    (kk : ∀ M2, RR (mm + 4000) M2 → WW p l e room_1 s m #[.ref b] below meth c (cells + 6) (slots + 36) Q 9 D g tbA 3076 (lvL b g i) [] M2) :
    WW p l e room_1 s m #[.ref b] below meth c cells slots Q 9 D g tbA 450 (lvL b g i) [] M := by
  obtain ⟨C0, hX, hbl, hbA, hL⟩ := id h
  have hT := C0.2.2.2.2.2.2.1
  obtain ⟨r, M1, M2, e1, e2, hR2⟩ := s_bellPosition hR  
  refine r_aload_n C0 (kk := 1) 1 rfl dL_law_450 ?_
  refine r_callVi C0 (As := []) (rest := []) (c_X6_bellPosition l D g tbA hT fbA e1) w3_175 w3_176 w3_177 w1_1 w3_178 (x_rec4 C0 fbA.1) hd_X6_bellPosition rfl ⟨rfl, rfl⟩ ⟨Nat.le_of_ble_eq_true rfl, Nat.le_of_ble_eq_true rfl⟩ (show cells + 0 ≤ 601024 by omega) (show slots + 0 ≤ 7293034 by omega) rfl (Nat.le_of_ble_eq_true rfl) dL_law_451 ?_
  refine r_aload_n C0 (kk := 2) 2 rfl dL_law_454 ?_
  refine r_callVi C0 (As := []) (rest := [.int r]) (c_X7_bellPosition l D g tbA hT mdA e2) w7_73 w7_74 w7_75 w1_14 w7_76 (x_rec5 C0 mdA.1) hd_X7_bellPosition rfl ⟨rfl, rfl⟩ ⟨Nat.le_of_ble_eq_true rfl, Nat.le_of_ble_eq_true rfl⟩ (show cells + 0 ≤ 601024 by omega) (show slots + 0 ≤ 7293034 by omega) rfl (Nat.le_of_ble_eq_true rfl) dL_law_455 ?_
  refine r_icmp_eq C0 (tgt := 3076) (by decide) dL_law_458 (fun q => ?_) (fun q => absurd rfl q)
  refine WW.widen (k := cells + 6) (n := slots + 36) (by omega) (by omega) ?_
  exact kk _ (RR_mono hR2 (by omega))
set_option maxRecDepth 100000 in
set_option maxHeartbeats 4000000 in
theorem case_7 (l : Launch) (hlst : l.stackTraces = false) {p : Program} {e : Env} {s : State} {m : MethodId} {below : List Frame} {meth : Method} {c : Code} {cells slots : Nat} {Q : State → Prop} {b L i mm : Nat} {xs : Nat → Int32} {D : va_G} {g : xG} {M : xM} (h : LC p s m c b L xs D g) (hi : i + 6 ≤ L) (hR : RR mm M) (hm : mm < 536870912) (hc : cells + 6 ≤ 601024) (hs : slots + 36 ≤ 7293034)
    (kk : ∀ M2, RR (mm + 4000) M2 → WW p l e room_1 s m #[.ref b] below meth c (cells + 6) (slots + 36) Q 9 D g tbA 3076 (lvL b g i) [] M2) :
    WW p l e room_1 s m #[.ref b] below meth c cells slots Q 9 D g tbA 463 (lvL b g i) [] M := by
  obtain ⟨C0, hX, hbl, hbA, hL⟩ := id h
  have hT := C0.2.2.2.2.2.2.1
  obtain ⟨r, M1, M2, e1, e2, hR2⟩ := s_threshold hR  
  refine r_aload_n C0 (kk := 1) 1 rfl dL_law_463 ?_
  refine r_callVi C0 (As := []) (rest := []) (c_X6_threshold l D g tbA hT fbA e1) w3_179 w3_180 w3_181 w1_1 w3_182 (x_rec4 C0 fbA.1) hd_X6_threshold rfl ⟨rfl, rfl⟩ ⟨Nat.le_of_ble_eq_true rfl, Nat.le_of_ble_eq_true rfl⟩ (show cells + 0 ≤ 601024 by omega) (show slots + 0 ≤ 7293034 by omega) rfl (Nat.le_of_ble_eq_true rfl) dL_law_464 ?_
  refine r_aload_n C0 (kk := 2) 2 rfl dL_law_467 ?_
  refine r_callVi C0 (As := []) (rest := [.int r]) (c_X7_threshold l D g tbA hT mdA e2) w7_77 w7_78 w7_79 w1_14 w7_80 (x_rec5 C0 mdA.1) hd_X7_threshold rfl ⟨rfl, rfl⟩ ⟨Nat.le_of_ble_eq_true rfl, Nat.le_of_ble_eq_true rfl⟩ (show cells + 0 ≤ 601024 by omega) (show slots + 0 ≤ 7293034 by omega) rfl (Nat.le_of_ble_eq_true rfl) dL_law_468 ?_
  refine r_icmp_eq C0 (tgt := 3076) (by decide) dL_law_471 (fun q => ?_) (fun q => absurd rfl q)
  refine WW.widen (k := cells + 6) (n := slots + 36) (by omega) (by omega) ?_
  exact kk _ (RR_mono hR2 (by omega))
set_option maxRecDepth 100000 in
set_option maxHeartbeats 4000000 in
theorem case_8 (l : Launch) (hlst : l.stackTraces = false) {p : Program} {e : Env} {s : State} {m : MethodId} {below : List Frame} {meth : Method} {c : Code} {cells slots : Nat} {Q : State → Prop} {b L i mm : Nat} {xs : Nat → Int32} {D : va_G} {g : xG} {M : xM} (h : LC p s m c b L xs D g) (hi : i + 6 ≤ L) (hR : RR mm M) (hm : mm < 536870912) (hc : cells + 6 ≤ 601024) (hs : slots + 36 ≤ 7293034)
    (kk : ∀ M2, RR (mm + 4000) M2 → WW p l e room_1 s m #[.ref b] below meth c (cells + 6) (slots + 36) Q 9 D g tbA 3076 (lvL b g i) [] M2) :
    WW p l e room_1 s m #[.ref b] below meth c cells slots Q 9 D g tbA 476 (lvL b g i) [] M := by
  obtain ⟨C0, hX, hbl, hbA, hL⟩ := id h
  have hT := C0.2.2.2.2.2.2.1
  obtain ⟨r, M1, M2, e1, e2, hR2⟩ := s_duration hR  
  refine r_aload_n C0 (kk := 1) 1 rfl dL_law_476 ?_
  refine r_callVi C0 (As := []) (rest := []) (c_X6_duration l D g tbA hT fbA e1) w3_183 w3_184 w3_185 w1_1 w3_186 (x_rec4 C0 fbA.1) hd_X6_duration rfl ⟨rfl, rfl⟩ ⟨Nat.le_of_ble_eq_true rfl, Nat.le_of_ble_eq_true rfl⟩ (show cells + 0 ≤ 601024 by omega) (show slots + 0 ≤ 7293034 by omega) rfl (Nat.le_of_ble_eq_true rfl) dL_law_477 ?_
  refine r_aload_n C0 (kk := 2) 2 rfl dL_law_480 ?_
  refine r_callVi C0 (As := []) (rest := [.int r]) (c_X7_duration l D g tbA hT mdA e2) w7_81 w7_82 w7_83 w1_14 w7_84 (x_rec5 C0 mdA.1) hd_X7_duration rfl ⟨rfl, rfl⟩ ⟨Nat.le_of_ble_eq_true rfl, Nat.le_of_ble_eq_true rfl⟩ (show cells + 0 ≤ 601024 by omega) (show slots + 0 ≤ 7293034 by omega) rfl (Nat.le_of_ble_eq_true rfl) dL_law_481 ?_
  refine r_icmp_eq C0 (tgt := 3076) (by decide) dL_law_484 (fun q => ?_) (fun q => absurd rfl q)
  refine WW.widen (k := cells + 6) (n := slots + 36) (by omega) (by omega) ?_
  exact kk _ (RR_mono hR2 (by omega))
set_option maxRecDepth 100000 in
set_option maxHeartbeats 4000000 in
theorem case_9 (l : Launch) (hlst : l.stackTraces = false) {p : Program} {e : Env} {s : State} {m : MethodId} {below : List Frame} {meth : Method} {c : Code} {cells slots : Nat} {Q : State → Prop} {b L i mm : Nat} {xs : Nat → Int32} {D : va_G} {g : xG} {M : xM} (h : LC p s m c b L xs D g) (hi : i + 6 ≤ L) (hR : RR mm M) (hm : mm < 536870912) (hc : cells + 6 ≤ 601024) (hs : slots + 36 ≤ 7293034)
    (kk : ∀ M2, RR (mm + 4000) M2 → WW p l e room_1 s m #[.ref b] below meth c (cells + 6) (slots + 36) Q 9 D g tbA 3076 (lvL b g i) [] M2) :
    WW p l e room_1 s m #[.ref b] below meth c cells slots Q 9 D g tbA 489 (lvL b g i) [] M := by
  obtain ⟨C0, hX, hbl, hbA, hL⟩ := id h
  have hT := C0.2.2.2.2.2.2.1
  obtain ⟨r, M1, M2, e1, e2, hR2⟩ := s_undoCount hR  
  refine r_aload_n C0 (kk := 1) 1 rfl dL_law_489 ?_
  refine r_callVi C0 (As := []) (rest := []) (c_X6_undoCount l D g tbA hT fbA e1) w3_187 w3_188 w3_189 w1_1 w3_190 (x_rec4 C0 fbA.1) hd_X6_undoCount rfl ⟨rfl, rfl⟩ ⟨Nat.le_of_ble_eq_true rfl, Nat.le_of_ble_eq_true rfl⟩ (show cells + 0 ≤ 601024 by omega) (show slots + 0 ≤ 7293034 by omega) rfl (Nat.le_of_ble_eq_true rfl) dL_law_490 ?_
  refine r_aload_n C0 (kk := 2) 2 rfl dL_law_493 ?_
  refine r_callVi C0 (As := []) (rest := [.int r]) (c_X7_undoCount l D g tbA hT mdA e2) w7_85 w7_86 w7_87 w1_14 w7_88 (x_rec5 C0 mdA.1) hd_X7_undoCount rfl ⟨rfl, rfl⟩ ⟨Nat.le_of_ble_eq_true rfl, Nat.le_of_ble_eq_true rfl⟩ (show cells + 0 ≤ 601024 by omega) (show slots + 0 ≤ 7293034 by omega) rfl (Nat.le_of_ble_eq_true rfl) dL_law_494 ?_
  refine r_icmp_eq C0 (tgt := 3076) (by decide) dL_law_497 (fun q => ?_) (fun q => absurd rfl q)
  refine WW.widen (k := cells + 6) (n := slots + 36) (by omega) (by omega) ?_
  exact kk _ (RR_mono hR2 (by omega))
set_option maxRecDepth 100000 in
set_option maxHeartbeats 4000000 in
theorem case_10 (l : Launch) (hlst : l.stackTraces = false) {p : Program} {e : Env} {s : State} {m : MethodId} {below : List Frame} {meth : Method} {c : Code} {cells slots : Nat} {Q : State → Prop} {b L i mm : Nat} {xs : Nat → Int32} {D : va_G} {g : xG} {M : xM} (h : LC p s m c b L xs D g) (hi : i + 6 ≤ L) (hR : RR mm M) (hm : mm < 536870912) (hc : cells + 6 ≤ 601024) (hs : slots + 36 ≤ 7293034)
    (kk : ∀ M2, RR (mm + 4000) M2 → WW p l e room_1 s m #[.ref b] below meth c (cells + 6) (slots + 36) Q 9 D g tbA 3076 (lvL b g i) [] M2) :
    WW p l e room_1 s m #[.ref b] below meth c cells slots Q 9 D g tbA 502 (lvL b g i) [] M := by
  obtain ⟨C0, hX, hbl, hbA, hL⟩ := id h
  have hT := C0.2.2.2.2.2.2.1
  obtain ⟨k, r, M1, bv, M2, res, Mo, e1, e2, hR2, hk, hq, hcase⟩ := okT_use (s_fogIn hR  (xs (i + 1))) (by decide)
  refine r_aload_n C0 (kk := 1) 1 rfl dL_law_502 ?_
  refine r_arg C0 hX hbl hbA (show i + 1 < L by omega) hL 0 4 rfl rfl (j := 1) rfl dL_law_503 dL_law_504 dL_law_506 dL_law_507 dL_law_508 ?_
  refine r_aload_n C0 (kk := 3) 3 rfl dL_law_509 ?_
  refine r_callSH C0 (As := [.ref (g.1 4 1664), .int (xs (i + 1)), .ref (g.1 9 5000)]) (rest := []) (c_L_fogIn l D g tbA hT hlst fbA oA e1 hk) w4_36 w4_37 w1_0 w4_38 hd_L_fogIn rfl ⟨rfl, rfl⟩ ⟨Nat.le_of_ble_eq_true rfl, Nat.le_of_ble_eq_true rfl⟩ (show cells + 1 ≤ 601024 by omega) (show slots + 6 * 1 ≤ 7293034 by omega) rfl (Nat.le_of_ble_eq_true rfl) dL_law_510 ?_
  refine r_istore C0 (lv2 := (5, .int res) :: lvL b g i) (by decide) rfl dL_law_513 ?_
  refine r_aload_n C0 (kk := 2) 3 rfl dL_law_515 ?_
  refine r_arg C0 hX hbl hbA (show i + 1 < L by omega) hL 1 5 rfl rfl (j := 1) rfl dL_law_516 dL_law_517 dL_law_519 dL_law_520 dL_law_521 ?_
  refine r_fcall C0 (As := [.int (xs (i + 1))]) (rest := []) (c_X7_fogIn l D g (tbX ++ tbM) (T_XM hT) mdXM e2) hq w7_89 w7_90 w7_91 w1_14 w7_92 (x_rec5 C0 mdA.1) hd_X7_fogIn rfl ⟨rfl, rfl⟩ ⟨Nat.le_of_ble_eq_true rfl, Nat.le_of_ble_eq_true rfl⟩ (show cells + 1 + 0 ≤ 601024 by omega) (show slots + 6 * 1 + 0 ≤ 7293034 by omega) rfl (Nat.le_of_ble_eq_true rfl) dL_law_522 ?_
  refine r_tail h hcase (show cells + 1 ≤ 601024 by omega) (show slots + 6 * 1 ≤ 7293034 by omega) dL_law_525 dL_law_527 dL_law_528 dL_law_531 dL_law_533 dL_law_538 dL_law_540 dL_law_543 dL_law_544 dL_law_545 dL_law_546 dL_law_548 dL_law_549 dL_law_550 dL_law_555 (by decide) ?_
  refine WW.widen (k := cells + 6) (n := slots + 36) (by omega) (by omega) ?_
  exact kk _ (RR_o (RR_mono hR2 (by omega)))
set_option maxRecDepth 100000 in
set_option maxHeartbeats 4000000 in
theorem case_11 (l : Launch) (hlst : l.stackTraces = false) {p : Program} {e : Env} {s : State} {m : MethodId} {below : List Frame} {meth : Method} {c : Code} {cells slots : Nat} {Q : State → Prop} {b L i mm : Nat} {xs : Nat → Int32} {D : va_G} {g : xG} {M : xM} (h : LC p s m c b L xs D g) (hi : i + 6 ≤ L) (hR : RR mm M) (hm : mm < 536870912) (hc : cells + 6 ≤ 601024) (hs : slots + 36 ≤ 7293034)
    (kk : ∀ M2, RR (mm + 4000) M2 → WW p l e room_1 s m #[.ref b] below meth c (cells + 6) (slots + 36) Q 9 D g tbA 3076 (lvL b g i) [] M2) :
    WW p l e room_1 s m #[.ref b] below meth c cells slots Q 9 D g tbA 558 (lvL b g i) [] M := by
  obtain ⟨C0, hX, hbl, hbA, hL⟩ := id h
  have hT := C0.2.2.2.2.2.2.1
  obtain ⟨r, M1, M2, e1, e2, hR2⟩ := s_isOpen hR  
  refine r_aload_n C0 (kk := 1) 1 rfl dL_law_558 ?_
  refine r_callVi C0 (As := []) (rest := []) (c_X6_isOpen l D g tbA hT fbA e1) w3_191 w3_192 w3_193 w1_1 w3_194 (x_rec4 C0 fbA.1) hd_X6_isOpen rfl ⟨rfl, rfl⟩ ⟨Nat.le_of_ble_eq_true rfl, Nat.le_of_ble_eq_true rfl⟩ (show cells + 0 ≤ 601024 by omega) (show slots + 0 ≤ 7293034 by omega) rfl (Nat.le_of_ble_eq_true rfl) dL_law_559 ?_
  refine r_aload_n C0 (kk := 2) 2 rfl dL_law_562 ?_
  refine r_callVi C0 (As := []) (rest := [.int r]) (c_X7_isOpen l D g tbA hT mdA e2) w7_97 w7_98 w7_99 w1_14 w7_100 (x_rec5 C0 mdA.1) hd_X7_isOpen rfl ⟨rfl, rfl⟩ ⟨Nat.le_of_ble_eq_true rfl, Nat.le_of_ble_eq_true rfl⟩ (show cells + 0 ≤ 601024 by omega) (show slots + 0 ≤ 7293034 by omega) rfl (Nat.le_of_ble_eq_true rfl) dL_law_563 ?_
  refine r_icmp_eq C0 (tgt := 3076) (by decide) dL_law_566 (fun q => ?_) (fun q => absurd rfl q)
  refine WW.widen (k := cells + 6) (n := slots + 36) (by omega) (by omega) ?_
  exact kk _ (RR_mono hR2 (by omega))
set_option maxRecDepth 100000 in
set_option maxHeartbeats 4000000 in
theorem case_12 (l : Launch) (hlst : l.stackTraces = false) {p : Program} {e : Env} {s : State} {m : MethodId} {below : List Frame} {meth : Method} {c : Code} {cells slots : Nat} {Q : State → Prop} {b L i mm : Nat} {xs : Nat → Int32} {D : va_G} {g : xG} {M : xM} (h : LC p s m c b L xs D g) (hi : i + 6 ≤ L) (hR : RR mm M) (hm : mm < 536870912) (hc : cells + 6 ≤ 601024) (hs : slots + 36 ≤ 7293034)
    (kk : ∀ M2, RR (mm + 4000) M2 → WW p l e room_1 s m #[.ref b] below meth c (cells + 6) (slots + 36) Q 9 D g tbA 3076 (lvL b g i) [] M2) :
    WW p l e room_1 s m #[.ref b] below meth c cells slots Q 9 D g tbA 571 (lvL b g i) [] M := by
  obtain ⟨C0, hX, hbl, hbA, hL⟩ := id h
  have hT := C0.2.2.2.2.2.2.1
  obtain ⟨r, M1, M2, e1, e2, hR2⟩ := s_isReady hR  
  refine r_aload_n C0 (kk := 1) 1 rfl dL_law_571 ?_
  refine r_callVi C0 (As := []) (rest := []) (c_X6_isReady l D g tbA hT fbA e1) w3_195 w3_196 w3_197 w1_1 w3_198 (x_rec4 C0 fbA.1) hd_X6_isReady rfl ⟨rfl, rfl⟩ ⟨Nat.le_of_ble_eq_true rfl, Nat.le_of_ble_eq_true rfl⟩ (show cells + 0 ≤ 601024 by omega) (show slots + 0 ≤ 7293034 by omega) rfl (Nat.le_of_ble_eq_true rfl) dL_law_572 ?_
  refine r_aload_n C0 (kk := 2) 2 rfl dL_law_575 ?_
  refine r_callVi C0 (As := []) (rest := [.int r]) (c_X7_isReady l D g tbA hT mdA e2) w7_101 w7_102 w7_103 w1_14 w7_104 (x_rec5 C0 mdA.1) hd_X7_isReady rfl ⟨rfl, rfl⟩ ⟨Nat.le_of_ble_eq_true rfl, Nat.le_of_ble_eq_true rfl⟩ (show cells + 0 ≤ 601024 by omega) (show slots + 0 ≤ 7293034 by omega) rfl (Nat.le_of_ble_eq_true rfl) dL_law_576 ?_
  refine r_icmp_eq C0 (tgt := 3076) (by decide) dL_law_579 (fun q => ?_) (fun q => absurd rfl q)
  refine WW.widen (k := cells + 6) (n := slots + 36) (by omega) (by omega) ?_
  exact kk _ (RR_mono hR2 (by omega))
set_option maxRecDepth 100000 in
set_option maxHeartbeats 4000000 in
theorem case_13 (l : Launch) (hlst : l.stackTraces = false) {p : Program} {e : Env} {s : State} {m : MethodId} {below : List Frame} {meth : Method} {c : Code} {cells slots : Nat} {Q : State → Prop} {b L i mm : Nat} {xs : Nat → Int32} {D : va_G} {g : xG} {M : xM} (h : LC p s m c b L xs D g) (hi : i + 6 ≤ L) (hR : RR mm M) (hm : mm < 536870912) (hc : cells + 6 ≤ 601024) (hs : slots + 36 ≤ 7293034)
    (kk : ∀ M2, RR (mm + 4000) M2 → WW p l e room_1 s m #[.ref b] below meth c (cells + 6) (slots + 36) Q 9 D g tbA 3076 (lvL b g i) [] M2) :
    WW p l e room_1 s m #[.ref b] below meth c cells slots Q 9 D g tbA 584 (lvL b g i) [] M := by
  obtain ⟨C0, hX, hbl, hbA, hL⟩ := id h
  have hT := C0.2.2.2.2.2.2.1
  obtain ⟨r, M1, M2, e1, e2, hR2⟩ := s_openMinutes hR  
  refine r_aload_n C0 (kk := 1) 1 rfl dL_law_584 ?_
  refine r_callVi C0 (As := []) (rest := []) (c_X6_openMinutes l D g tbA hT fbA e1) w3_199 w3_200 w3_201 w1_1 w3_202 (x_rec4 C0 fbA.1) hd_X6_openMinutes rfl ⟨rfl, rfl⟩ ⟨Nat.le_of_ble_eq_true rfl, Nat.le_of_ble_eq_true rfl⟩ (show cells + 0 ≤ 601024 by omega) (show slots + 0 ≤ 7293034 by omega) rfl (Nat.le_of_ble_eq_true rfl) dL_law_585 ?_
  refine r_aload_n C0 (kk := 2) 2 rfl dL_law_588 ?_
  refine r_callVi C0 (As := []) (rest := [.int r]) (c_X7_openMinutes l D g tbA hT mdA e2) w7_105 w7_106 w7_107 w1_14 w7_108 (x_rec5 C0 mdA.1) hd_X7_openMinutes rfl ⟨rfl, rfl⟩ ⟨Nat.le_of_ble_eq_true rfl, Nat.le_of_ble_eq_true rfl⟩ (show cells + 0 ≤ 601024 by omega) (show slots + 0 ≤ 7293034 by omega) rfl (Nat.le_of_ble_eq_true rfl) dL_law_589 ?_
  refine r_icmp_eq C0 (tgt := 3076) (by decide) dL_law_592 (fun q => ?_) (fun q => absurd rfl q)
  refine WW.widen (k := cells + 6) (n := slots + 36) (by omega) (by omega) ?_
  exact kk _ (RR_mono hR2 (by omega))
set_option maxRecDepth 100000 in
set_option maxHeartbeats 4000000 in
theorem case_14 (l : Launch) (hlst : l.stackTraces = false) {p : Program} {e : Env} {s : State} {m : MethodId} {below : List Frame} {meth : Method} {c : Code} {cells slots : Nat} {Q : State → Prop} {b L i mm : Nat} {xs : Nat → Int32} {D : va_G} {g : xG} {M : xM} (h : LC p s m c b L xs D g) (hi : i + 6 ≤ L) (hR : RR mm M) (hm : mm < 536870912) (hc : cells + 6 ≤ 601024) (hs : slots + 36 ≤ 7293034)
    (kk : ∀ M2, RR (mm + 4000) M2 → WW p l e room_1 s m #[.ref b] below meth c (cells + 6) (slots + 36) Q 9 D g tbA 3076 (lvL b g i) [] M2) :
    WW p l e room_1 s m #[.ref b] below meth c cells slots Q 9 D g tbA 597 (lvL b g i) [] M := by
  obtain ⟨C0, hX, hbl, hbA, hL⟩ := id h
  have hT := C0.2.2.2.2.2.2.1
  obtain ⟨r, M1, M2, e1, e2, hR2⟩ := s_ringings hR  
  refine r_aload_n C0 (kk := 1) 1 rfl dL_law_597 ?_
  refine r_callVi C0 (As := []) (rest := []) (c_X6_ringings l D g tbA hT fbA e1) w3_203 w3_204 w3_205 w1_1 w3_206 (x_rec4 C0 fbA.1) hd_X6_ringings rfl ⟨rfl, rfl⟩ ⟨Nat.le_of_ble_eq_true rfl, Nat.le_of_ble_eq_true rfl⟩ (show cells + 0 ≤ 601024 by omega) (show slots + 0 ≤ 7293034 by omega) rfl (Nat.le_of_ble_eq_true rfl) dL_law_598 ?_
  refine r_aload_n C0 (kk := 2) 2 rfl dL_law_601 ?_
  refine r_callVi C0 (As := []) (rest := [.int r]) (c_X7_ringings l D g tbA hT mdA e2) w7_109 w7_110 w7_111 w1_14 w7_112 (x_rec5 C0 mdA.1) hd_X7_ringings rfl ⟨rfl, rfl⟩ ⟨Nat.le_of_ble_eq_true rfl, Nat.le_of_ble_eq_true rfl⟩ (show cells + 0 ≤ 601024 by omega) (show slots + 0 ≤ 7293034 by omega) rfl (Nat.le_of_ble_eq_true rfl) dL_law_602 ?_
  refine r_icmp_eq C0 (tgt := 3076) (by decide) dL_law_605 (fun q => ?_) (fun q => absurd rfl q)
  refine WW.widen (k := cells + 6) (n := slots + 36) (by omega) (by omega) ?_
  exact kk _ (RR_mono hR2 (by omega))
set_option maxRecDepth 100000 in
set_option maxHeartbeats 4000000 in
theorem case_15 (l : Launch) (hlst : l.stackTraces = false) {p : Program} {e : Env} {s : State} {m : MethodId} {below : List Frame} {meth : Method} {c : Code} {cells slots : Nat} {Q : State → Prop} {b L i mm : Nat} {xs : Nat → Int32} {D : va_G} {g : xG} {M : xM} (h : LC p s m c b L xs D g) (hi : i + 6 ≤ L) (hR : RR mm M) (hm : mm < 536870912) (hc : cells + 6 ≤ 601024) (hs : slots + 36 ≤ 7293034)
    (kk : ∀ M2, RR (mm + 4000) M2 → WW p l e room_1 s m #[.ref b] below meth c (cells + 6) (slots + 36) Q 9 D g tbA 3076 (lvL b g i) [] M2) :
    WW p l e room_1 s m #[.ref b] below meth c cells slots Q 9 D g tbA 610 (lvL b g i) [] M := by
  obtain ⟨C0, hX, hbl, hbA, hL⟩ := id h
  have hT := C0.2.2.2.2.2.2.1
  obtain ⟨r, M1, M2, e1, e2, hR2⟩ := s_minutesToBell hR (by omega) 
  refine r_aload_n C0 (kk := 1) 1 rfl dL_law_610 ?_
  refine r_callVi C0 (As := []) (rest := []) (c_X6_minutesToBell l D g tbA hT fbA e1) w3_207 w3_208 w3_209 w1_1 w3_210 (x_rec4 C0 fbA.1) hd_X6_minutesToBell rfl ⟨rfl, rfl⟩ ⟨Nat.le_of_ble_eq_true rfl, Nat.le_of_ble_eq_true rfl⟩ (show cells + 0 ≤ 601024 by omega) (show slots + 0 ≤ 7293034 by omega) rfl (Nat.le_of_ble_eq_true rfl) dL_law_611 ?_
  refine r_aload_n C0 (kk := 2) 2 rfl dL_law_614 ?_
  refine r_callVi C0 (As := []) (rest := [.int r]) (c_X7_minutesToBell l D g tbA hT mdA e2) w7_113 w7_114 w7_115 w1_14 w7_116 (x_rec5 C0 mdA.1) hd_X7_minutesToBell rfl ⟨rfl, rfl⟩ ⟨Nat.le_of_ble_eq_true rfl, Nat.le_of_ble_eq_true rfl⟩ (show cells + 0 ≤ 601024 by omega) (show slots + 0 ≤ 7293034 by omega) rfl (Nat.le_of_ble_eq_true rfl) dL_law_615 ?_
  refine r_icmp_eq C0 (tgt := 3076) (by decide) dL_law_618 (fun q => ?_) (fun q => absurd rfl q)
  refine WW.widen (k := cells + 6) (n := slots + 36) (by omega) (by omega) ?_
  exact kk _ (RR_mono hR2 (by omega))
