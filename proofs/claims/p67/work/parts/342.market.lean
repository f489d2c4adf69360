/-! the law's market: the text of a setup -/
theorem dL_market_0 : decode cL_market 0 = .ok (.aload_n 0, 1) := by decide +kernel
theorem dL_market_1 : decode cL_market 1 = .ok (.iconst 0, 1) := by decide +kernel
theorem dL_market_2 : decode cL_market 2 = .ok (.invokestatic 37, 3) := by decide +kernel
theorem dL_market_5 : decode cL_market 5 = .ok (.istore_n 1, 1) := by decide +kernel
theorem dL_market_6 : decode cL_market 6 = .ok (.iconst 1, 1) := by decide +kernel
theorem dL_market_7 : decode cL_market 7 = .ok (.iload_n 1, 1) := by decide +kernel
theorem dL_market_8 : decode cL_market 8 = .ok (.bipush 12, 2) := by decide +kernel
theorem dL_market_10 : decode cL_market 10 = .ok (.invokestatic 43, 3) := by decide +kernel
theorem dL_market_13 : decode cL_market 13 = .ok (.iadd, 1) := by decide +kernel
theorem dL_market_14 : decode cL_market 14 = .ok (.istore_n 2, 1) := by decide +kernel
theorem dL_market_15 : decode cL_market 15 = .ok (.new 14, 3) := by decide +kernel
theorem dL_market_18 : decode cL_market 18 = .ok (.dup, 1) := by decide +kernel
theorem dL_market_19 : decode cL_market 19 = .ok (.invokespecial 16, 3) := by decide +kernel
theorem dL_market_22 : decode cL_market 22 = .ok (.ldc 47, 2) := by decide +kernel
theorem dL_market_24 : decode cL_market 24 = .ok (.invokevirtual 17, 3) := by decide +kernel
theorem dL_market_27 : decode cL_market 27 = .ok (.iconst 1, 1) := by decide +kernel
theorem dL_market_28 : decode cL_market 28 = .ok (.iload_n 1, 1) := by decide +kernel
theorem dL_market_29 : decode cL_market 29 = .ok (.iconst 4, 1) := by decide +kernel
theorem dL_market_30 : decode cL_market 30 = .ok (.ishr, 1) := by decide +kernel
theorem dL_market_31 : decode cL_market 31 = .ok (.bipush 9, 2) := by decide +kernel
theorem dL_market_33 : decode cL_market 33 = .ok (.invokestatic 43, 3) := by decide +kernel
theorem dL_market_36 : decode cL_market 36 = .ok (.iadd, 1) := by decide +kernel
theorem dL_market_37 : decode cL_market 37 = .ok (.invokevirtual 49, 3) := by decide +kernel
theorem dL_market_40 : decode cL_market 40 = .ok (.ldc 21, 2) := by decide +kernel
theorem dL_market_42 : decode cL_market 42 = .ok (.invokevirtual 17, 3) := by decide +kernel
theorem dL_market_45 : decode cL_market 45 = .ok (.iconst 1, 1) := by decide +kernel
theorem dL_market_46 : decode cL_market 46 = .ok (.iload_n 1, 1) := by decide +kernel
theorem dL_market_47 : decode cL_market 47 = .ok (.bipush 8, 2) := by decide +kernel
theorem dL_market_49 : decode cL_market 49 = .ok (.ishr, 1) := by decide +kernel
theorem dL_market_50 : decode cL_market 50 = .ok (.bipush 40, 2) := by decide +kernel
theorem dL_market_52 : decode cL_market 52 = .ok (.invokestatic 43, 3) := by decide +kernel
theorem dL_market_55 : decode cL_market 55 = .ok (.iadd, 1) := by decide +kernel
theorem dL_market_56 : decode cL_market 56 = .ok (.invokevirtual 49, 3) := by decide +kernel
theorem dL_market_59 : decode cL_market 59 = .ok (.ldc 21, 2) := by decide +kernel
theorem dL_market_61 : decode cL_market 61 = .ok (.invokevirtual 17, 3) := by decide +kernel
theorem dL_market_64 : decode cL_market 64 = .ok (.iload_n 1, 1) := by decide +kernel
theorem dL_market_65 : decode cL_market 65 = .ok (.bipush 13, 2) := by decide +kernel
theorem dL_market_67 : decode cL_market 67 = .ok (.ishr, 1) := by decide +kernel
theorem dL_market_68 : decode cL_market 68 = .ok (.bipush 100, 2) := by decide +kernel
theorem dL_market_70 : decode cL_market 70 = .ok (.invokestatic 43, 3) := by decide +kernel
theorem dL_market_73 : decode cL_market 73 = .ok (.invokevirtual 49, 3) := by decide +kernel
theorem dL_market_76 : decode cL_market 76 = .ok (.ldc 52, 2) := by decide +kernel
theorem dL_market_78 : decode cL_market 78 = .ok (.invokevirtual 17, 3) := by decide +kernel
theorem dL_market_81 : decode cL_market 81 = .ok (.invokevirtual 23, 3) := by decide +kernel
theorem dL_market_84 : decode cL_market 84 = .ok (.astore_n 3, 1) := by decide +kernel
theorem dL_market_85 : decode cL_market 85 = .ok (.iconst 0, 1) := by decide +kernel
theorem dL_market_86 : decode cL_market 86 = .ok (.istore 4, 2) := by decide +kernel
theorem dL_market_88 : decode cL_market 88 = .ok (.iload 4, 2) := by decide +kernel
theorem dL_market_90 : decode cL_market 90 = .ok (.iload_n 2, 1) := by decide +kernel
theorem dL_market_91 : decode cL_market 91 = .ok (.if_icmp .ge 47, 3) := by decide +kernel
theorem dL_market_94 : decode cL_market 94 = .ok (.new 14, 3) := by decide +kernel
theorem dL_market_97 : decode cL_market 97 = .ok (.dup, 1) := by decide +kernel
theorem dL_market_98 : decode cL_market 98 = .ok (.invokespecial 16, 3) := by decide +kernel
theorem dL_market_101 : decode cL_market 101 = .ok (.aload_n 3, 1) := by decide +kernel
theorem dL_market_102 : decode cL_market 102 = .ok (.invokevirtual 17, 3) := by decide +kernel
theorem dL_market_105 : decode cL_market 105 = .ok (.ldc 21, 2) := by decide +kernel
theorem dL_market_107 : decode cL_market 107 = .ok (.invokevirtual 17, 3) := by decide +kernel
theorem dL_market_110 : decode cL_market 110 = .ok (.aload_n 0, 1) := by decide +kernel
theorem dL_market_111 : decode cL_market 111 = .ok (.iconst 1, 1) := by decide +kernel
theorem dL_market_112 : decode cL_market 112 = .ok (.invokestatic 37, 3) := by decide +kernel
theorem dL_market_115 : decode cL_market 115 = .ok (.iconst 2, 1) := by decide +kernel
theorem dL_market_116 : decode cL_market 116 = .ok (.iload 4, 2) := by decide +kernel
theorem dL_market_118 : decode cL_market 118 = .ok (.imul, 1) := by decide +kernel
theorem dL_market_119 : decode cL_market 119 = .ok (.ishr, 1) := by decide +kernel
theorem dL_market_120 : decode cL_market 120 = .ok (.bipush 10, 2) := by decide +kernel
theorem dL_market_122 : decode cL_market 122 = .ok (.invokestatic 43, 3) := by decide +kernel
theorem dL_market_125 : decode cL_market 125 = .ok (.invokevirtual 49, 3) := by decide +kernel
theorem dL_market_128 : decode cL_market 128 = .ok (.invokevirtual 23, 3) := by decide +kernel
theorem dL_market_131 : decode cL_market 131 = .ok (.astore_n 3, 1) := by decide +kernel
theorem dL_market_132 : decode cL_market 132 = .ok (.iinc 4 1, 3) := by decide +kernel
theorem dL_market_135 : decode cL_market 135 = .ok (.goto (-47), 3) := by decide +kernel
theorem dL_market_138 : decode cL_market 138 = .ok (.new 32, 3) := by decide +kernel
theorem dL_market_141 : decode cL_market 141 = .ok (.dup, 1) := by decide +kernel
theorem dL_market_142 : decode cL_market 142 = .ok (.invokespecial 54, 3) := by decide +kernel
theorem dL_market_145 : decode cL_market 145 = .ok (.astore 4, 2) := by decide +kernel
theorem dL_market_147 : decode cL_market 147 = .ok (.aload 4, 2) := by decide +kernel
theorem dL_market_149 : decode cL_market 149 = .ok (.new 14, 3) := by decide +kernel
theorem dL_market_152 : decode cL_market 152 = .ok (.dup, 1) := by decide +kernel
theorem dL_market_153 : decode cL_market 153 = .ok (.invokespecial 16, 3) := by decide +kernel
theorem dL_market_156 : decode cL_market 156 = .ok (.aload_n 3, 1) := by decide +kernel
theorem dL_market_157 : decode cL_market 157 = .ok (.invokevirtual 17, 3) := by decide +kernel
theorem dL_market_160 : decode cL_market 160 = .ok (.ldc 55, 2) := by decide +kernel
theorem dL_market_162 : decode cL_market 162 = .ok (.invokevirtual 17, 3) := by decide +kernel
theorem dL_market_165 : decode cL_market 165 = .ok (.invokevirtual 23, 3) := by decide +kernel
theorem dL_market_168 : decode cL_market 168 = .ok (.invokestatic 57, 3) := by decide +kernel
theorem dL_market_171 : decode cL_market 171 = .ok (.aload 4, 2) := by decide +kernel
theorem dL_market_173 : decode cL_market 173 = .ok (.invokevirtual 61, 3) := by decide +kernel
theorem dL_market_176 : decode cL_market 176 = .ok (.ifCond .eq 5, 3) := by decide +kernel
theorem dL_market_179 : decode cL_market 179 = .ok (.aconst_null, 1) := by decide +kernel
theorem dL_market_180 : decode cL_market 180 = .ok (.areturn, 1) := by decide +kernel
theorem dL_market_181 : decode cL_market 181 = .ok (.iconst 1, 1) := by decide +kernel
theorem dL_market_182 : decode cL_market 182 = .ok (.iload_n 1, 1) := by decide +kernel
theorem dL_market_183 : decode cL_market 183 = .ok (.bipush 17, 2) := by decide +kernel
theorem dL_market_185 : decode cL_market 185 = .ok (.ishr, 1) := by decide +kernel
theorem dL_market_186 : decode cL_market 186 = .ok (.bipush 6, 2) := by decide +kernel
theorem dL_market_188 : decode cL_market 188 = .ok (.invokestatic 43, 3) := by decide +kernel
theorem dL_market_191 : decode cL_market 191 = .ok (.iadd, 1) := by decide +kernel
theorem dL_market_192 : decode cL_market 192 = .ok (.istore 5, 2) := by decide +kernel
theorem dL_market_194 : decode cL_market 194 = .ok (.iconst 0, 1) := by decide +kernel
theorem dL_market_195 : decode cL_market 195 = .ok (.istore 6, 2) := by decide +kernel
theorem dL_market_197 : decode cL_market 197 = .ok (.iload 6, 2) := by decide +kernel
theorem dL_market_199 : decode cL_market 199 = .ok (.iload 5, 2) := by decide +kernel
theorem dL_market_201 : decode cL_market 201 = .ok (.if_icmp .ge 78, 3) := by decide +kernel
theorem dL_market_204 : decode cL_market 204 = .ok (.aload_n 0, 1) := by decide +kernel
theorem dL_market_205 : decode cL_market 205 = .ok (.iconst 2, 1) := by decide +kernel
theorem dL_market_206 : decode cL_market 206 = .ok (.iload 6, 2) := by decide +kernel
theorem dL_market_208 : decode cL_market 208 = .ok (.iadd, 1) := by decide +kernel
theorem dL_market_209 : decode cL_market 209 = .ok (.invokestatic 37, 3) := by decide +kernel
theorem dL_market_212 : decode cL_market 212 = .ok (.istore 7, 2) := by decide +kernel
theorem dL_market_214 : decode cL_market 214 = .ok (.aload 4, 2) := by decide +kernel
theorem dL_market_216 : decode cL_market 216 = .ok (.iload 7, 2) := by decide +kernel
theorem dL_market_218 : decode cL_market 218 = .ok (.bipush 100, 2) := by decide +kernel
theorem dL_market_220 : decode cL_market 220 = .ok (.invokestatic 43, 3) := by decide +kernel
theorem dL_market_223 : decode cL_market 223 = .ok (.iload 7, 2) := by decide +kernel
theorem dL_market_225 : decode cL_market 225 = .ok (.bipush 7, 2) := by decide +kernel
theorem dL_market_227 : decode cL_market 227 = .ok (.ishr, 1) := by decide +kernel
theorem dL_market_228 : decode cL_market 228 = .ok (.iconst 4, 1) := by decide +kernel
theorem dL_market_229 : decode cL_market 229 = .ok (.invokestatic 43, 3) := by decide +kernel
theorem dL_market_232 : decode cL_market 232 = .ok (.iload 7, 2) := by decide +kernel
theorem dL_market_234 : decode cL_market 234 = .ok (.bipush 9, 2) := by decide +kernel
theorem dL_market_236 : decode cL_market 236 = .ok (.ishr, 1) := by decide +kernel
theorem dL_market_237 : decode cL_market 237 = .ok (.iconst 3, 1) := by decide +kernel
theorem dL_market_238 : decode cL_market 238 = .ok (.invokestatic 43, 3) := by decide +kernel
theorem dL_market_241 : decode cL_market 241 = .ok (.iconst 1, 1) := by decide +kernel
theorem dL_market_242 : decode cL_market 242 = .ok (.iload 7, 2) := by decide +kernel
theorem dL_market_244 : decode cL_market 244 = .ok (.bipush 11, 2) := by decide +kernel
theorem dL_market_246 : decode cL_market 246 = .ok (.ishr, 1) := by decide +kernel
theorem dL_market_247 : decode cL_market 247 = .ok (.bipush 60, 2) := by decide +kernel
theorem dL_market_249 : decode cL_market 249 = .ok (.invokestatic 43, 3) := by decide +kernel
theorem dL_market_252 : decode cL_market 252 = .ok (.iadd, 1) := by decide +kernel
theorem dL_market_253 : decode cL_market 253 = .ok (.iload 7, 2) := by decide +kernel
theorem dL_market_255 : decode cL_market 255 = .ok (.bipush 17, 2) := by decide +kernel
theorem dL_market_257 : decode cL_market 257 = .ok (.ishr, 1) := by decide +kernel
theorem dL_market_258 : decode cL_market 258 = .ok (.bipush 20, 2) := by decide +kernel
theorem dL_market_260 : decode cL_market 260 = .ok (.invokestatic 43, 3) := by decide +kernel
theorem dL_market_263 : decode cL_market 263 = .ok (.invokevirtual 64, 3) := by decide +kernel
theorem dL_market_266 : decode cL_market 266 = .ok (.iload 6, 2) := by decide +kernel
theorem dL_market_268 : decode cL_market 268 = .ok (.if_icmp .eq 5, 3) := by decide +kernel
theorem dL_market_271 : decode cL_market 271 = .ok (.aconst_null, 1) := by decide +kernel
theorem dL_market_272 : decode cL_market 272 = .ok (.areturn, 1) := by decide +kernel
theorem dL_market_273 : decode cL_market 273 = .ok (.iinc 6 1, 3) := by decide +kernel
theorem dL_market_276 : decode cL_market 276 = .ok (.goto (-79), 3) := by decide +kernel
theorem dL_market_279 : decode cL_market 279 = .ok (.iconst 1, 1) := by decide +kernel
theorem dL_market_280 : decode cL_market 280 = .ok (.iload_n 1, 1) := by decide +kernel
theorem dL_market_281 : decode cL_market 281 = .ok (.bipush 20, 2) := by decide +kernel
theorem dL_market_283 : decode cL_market 283 = .ok (.ishr, 1) := by decide +kernel
theorem dL_market_284 : decode cL_market 284 = .ok (.bipush 6, 2) := by decide +kernel
theorem dL_market_286 : decode cL_market 286 = .ok (.invokestatic 43, 3) := by decide +kernel
theorem dL_market_289 : decode cL_market 289 = .ok (.iadd, 1) := by decide +kernel
theorem dL_market_290 : decode cL_market 290 = .ok (.istore 6, 2) := by decide +kernel
theorem dL_market_292 : decode cL_market 292 = .ok (.iconst 0, 1) := by decide +kernel
theorem dL_market_293 : decode cL_market 293 = .ok (.istore 7, 2) := by decide +kernel
theorem dL_market_295 : decode cL_market 295 = .ok (.iload 7, 2) := by decide +kernel
theorem dL_market_297 : decode cL_market 297 = .ok (.iload 6, 2) := by decide +kernel
theorem dL_market_299 : decode cL_market 299 = .ok (.if_icmp .ge 71, 3) := by decide +kernel
theorem dL_market_302 : decode cL_market 302 = .ok (.aload_n 0, 1) := by decide +kernel
theorem dL_market_303 : decode cL_market 303 = .ok (.bipush 8, 2) := by decide +kernel
theorem dL_market_305 : decode cL_market 305 = .ok (.iload 7, 2) := by decide +kernel
theorem dL_market_307 : decode cL_market 307 = .ok (.iadd, 1) := by decide +kernel
theorem dL_market_308 : decode cL_market 308 = .ok (.invokestatic 37, 3) := by decide +kernel
theorem dL_market_311 : decode cL_market 311 = .ok (.istore 8, 2) := by decide +kernel
theorem dL_market_313 : decode cL_market 313 = .ok (.aload 4, 2) := by decide +kernel
theorem dL_market_315 : decode cL_market 315 = .ok (.iload 8, 2) := by decide +kernel
theorem dL_market_317 : decode cL_market 317 = .ok (.bipush 100, 2) := by decide +kernel
theorem dL_market_319 : decode cL_market 319 = .ok (.invokestatic 43, 3) := by decide +kernel
theorem dL_market_322 : decode cL_market 322 = .ok (.iload 8, 2) := by decide +kernel
theorem dL_market_324 : decode cL_market 324 = .ok (.bipush 7, 2) := by decide +kernel
theorem dL_market_326 : decode cL_market 326 = .ok (.ishr, 1) := by decide +kernel
theorem dL_market_327 : decode cL_market 327 = .ok (.sipush 400, 3) := by decide +kernel
theorem dL_market_330 : decode cL_market 330 = .ok (.invokestatic 43, 3) := by decide +kernel
theorem dL_market_333 : decode cL_market 333 = .ok (.iload 8, 2) := by decide +kernel
theorem dL_market_335 : decode cL_market 335 = .ok (.bipush 15, 2) := by decide +kernel
theorem dL_market_337 : decode cL_market 337 = .ok (.ishr, 1) := by decide +kernel
theorem dL_market_338 : decode cL_market 338 = .ok (.iconst 3, 1) := by decide +kernel
theorem dL_market_339 : decode cL_market 339 = .ok (.invokestatic 43, 3) := by decide +kernel
theorem dL_market_342 : decode cL_market 342 = .ok (.iconst 1, 1) := by decide +kernel
theorem dL_market_343 : decode cL_market 343 = .ok (.iload 8, 2) := by decide +kernel
theorem dL_market_345 : decode cL_market 345 = .ok (.bipush 17, 2) := by decide +kernel
theorem dL_market_347 : decode cL_market 347 = .ok (.ishr, 1) := by decide +kernel
theorem dL_market_348 : decode cL_market 348 = .ok (.bipush 20, 2) := by decide +kernel
theorem dL_market_350 : decode cL_market 350 = .ok (.invokestatic 43, 3) := by decide +kernel
theorem dL_market_353 : decode cL_market 353 = .ok (.iadd, 1) := by decide +kernel
theorem dL_market_354 : decode cL_market 354 = .ok (.invokevirtual 67, 3) := by decide +kernel
theorem dL_market_357 : decode cL_market 357 = .ok (.iload 7, 2) := by decide +kernel
theorem dL_market_359 : decode cL_market 359 = .ok (.if_icmp .eq 5, 3) := by decide +kernel
theorem dL_market_362 : decode cL_market 362 = .ok (.aconst_null, 1) := by decide +kernel
theorem dL_market_363 : decode cL_market 363 = .ok (.areturn, 1) := by decide +kernel
theorem dL_market_364 : decode cL_market 364 = .ok (.iinc 7 1, 3) := by decide +kernel
theorem dL_market_367 : decode cL_market 367 = .ok (.goto (-72), 3) := by decide +kernel
theorem dL_market_370 : decode cL_market 370 = .ok (.aload 4, 2) := by decide +kernel
theorem dL_market_372 : decode cL_market 372 = .ok (.areturn, 1) := by decide +kernel
def rMk : Room := { frames := 12, cells := 2000, slots := 60000, locals := 520 }
def cv (g : xG) (k : Nat) : Int32 := if k < g.1 27 0 then x_scr g k else 0
theorem in_val (x : Int32) {N : Nat} (hN : 0 < N) (hN2 : N ≤ 400) : ∃ v, v < N ∧ f_L_in x (nI N) (fun _ => 0) = some (nI v, fun _ => 0) := l_in x hN (by omega) _
theorem SL_len : (SL 10).length = 7 ∧ (SL 11).length = 1 ∧ (SL 12).length = 4 ∧ (SL 13).length = 1 := by decide +kernel
theorem DL_le (x : Nat) : (DL x).length ≤ 2 := by
  rw [DL_len]
  unfold dgN
  split <;> omega
/-- the head of the text -/
def MKH (D1 D2 D3 : Nat) : List Nat := SL 10 ++ DL D1 ++ SL 11 ++ DL D2 ++ SL 11 ++ DL D3 ++ SL 12
theorem MKH_len (D1 D2 D3 : Nat) : (MKH D1 D2 D3).length ≤ 19 := by
  have a := SL_len
  have b := DL_le D1
  have c := DL_le D2
  have d := DL_le D3
  unfold MKH
  simp only [List.length_append]
  omega
set_option maxRecDepth 100000 in
set_option maxHeartbeats 8000000 in
theorem mk_head {p : Program} {l : Launch} {e : Env} {s : State} {m : MethodId} {args : Array Value} {below : List Frame} {meth : Method} {c : Code} {Q : State → Prop} {D : va_G} {g : xG} {A : Nat → Prop} (C0 : NC p s m args c cL_market 9 RL D g A) (hL : g.1 27 0 < 1073741824)
    (hk : ∀ {v1 : Nat}, v1 < 12 → ∀ {D1 D2 D3 x : Nat} {w : va_W}, (1 ≤ D1 ∧ D1 ≤ 9) → (1 ≤ D2 ∧ D2 ≤ 40) → D3 < 100 → STL g x (MKH D1 D2 D3) w → WN p l e rMk s m args below meth c 20 4000 Q 9 D A 88 [(0, .ref (g.1 26 0)), (1, .int (cv g 0)), (2, .int (nI (1 + v1))), (3, .ref x), (4, .int 0)] [] w) :
    WN p l e rMk s m args below meth c 0 0 Q 9 D A 0 [(0, .ref (g.1 26 0))] [] [] := by
  refine q_aload_n C0 (kk := 0) 0 rfl dL_market_0 ?_
  refine q_iconst C0 (v := 0) dL_market_1 rfl ?_
  refine m_tabSi C0 (As := [.ref (g.1 26 0), .int (nI (0))]) (rest := []) (c_L_cell l D g [] T_nil (k := 0) (by omega) hL (M := fun _ => 0)) w2_121 w2_122 w1_0 w2_123 hd_L_cell rfl ⟨rfl, rfl⟩ ⟨Nat.le_of_ble_eq_true rfl, Nat.le_of_ble_eq_true rfl⟩ (Nat.le_of_ble_eq_true rfl) (Nat.le_of_ble_eq_true rfl) rfl (Nat.le_of_ble_eq_true rfl) dL_market_2 ?_
  refine q_istore_n C0 (kk := 1) (lv2 := [(1, .int (cv g (0))), (0, .ref (g.1 26 0))]) (by decide) rfl dL_market_5 ?_
  refine q_iconst C0 (v := 1) dL_market_6 rfl ?_
  refine q_iload_n C0 (kk := 1) 0 rfl dL_market_7 ?_
  refine q_bipush C0 (v := 12) dL_market_8 rfl ?_
  obtain ⟨v1, hv1, ev1⟩ := in_val ((cv g (0))) (N := 12) (by decide) (by decide)
  refine m_tabSi C0 (As := [.int ((cv g (0))), .int (nI 12)]) (rest := [.int 1]) (c_L_in l D g [] T_nil ev1) w2_127 w2_128 w1_0 w2_129 hd_L_in rfl ⟨rfl, rfl⟩ ⟨Nat.le_of_ble_eq_true rfl, Nat.le_of_ble_eq_true rfl⟩ (Nat.le_of_ble_eq_true rfl) (Nat.le_of_ble_eq_true rfl) rfl (Nat.le_of_ble_eq_true rfl) dL_market_10 ?_
  refine q_iadd C0 dL_market_13 ?_
  rw [show ((1 + (nI v1)) : Int32) = nI (1 + v1) from nI_add 1 v1]
  refine q_istore_n C0 (kk := 2) (lv2 := [(2, .int (nI (1 + v1))), (1, .int (cv g (0))), (0, .ref (g.1 26 0))]) (by decide) rfl dL_market_14 ?_
  refine t_new C0 ⟨Nat.le_of_ble_eq_true rfl, Nat.le_of_ble_eq_true rfl⟩ (Nat.le_of_ble_eq_true rfl) (Nat.le_of_ble_eq_true rfl) (Nat.le_of_ble_eq_true rfl) dL_market_15 dL_market_18 dL_market_19 ?_
  intro h w1 S0
  have la := SL_len
  refine q_ldcs C0 (si := 10) rfl dL_market_22 ?_
  refine t_appC C0 10 (by decide) (by decide) S0 (by simp only [List.length_append, List.length_nil]; omega) ⟨Nat.le_of_ble_eq_true rfl, Nat.le_of_ble_eq_true rfl⟩ (Nat.le_of_ble_eq_true rfl) (Nat.le_of_ble_eq_true rfl) (Nat.le_of_ble_eq_true rfl) dL_market_24 ?_
  intro w1 S0
  refine q_iconst C0 (v := 1) dL_market_27 rfl ?_
  refine q_iload_n C0 (kk := 1) 1 rfl dL_market_28 ?_
  refine q_iconst C0 (v := 4) dL_market_29 rfl ?_
  refine q_ishr C0 dL_market_30 ?_
  refine q_bipush C0 (v := 9) dL_market_31 rfl ?_
  obtain ⟨v2, hv2, ev2⟩ := in_val (((cv g (0)) >>> (4 &&& 31))) (N := 9) (by decide) (by decide)
  refine m_tabSi C0 (As := [.int (((cv g (0)) >>> (4 &&& 31))), .int (nI 9)]) (rest := [.int 1, .ref h]) (c_L_in l D g [] T_nil ev2) w2_127 w2_128 w1_0 w2_129 hd_L_in rfl ⟨rfl, rfl⟩ ⟨Nat.le_of_ble_eq_true rfl, Nat.le_of_ble_eq_true rfl⟩ (Nat.le_of_ble_eq_true rfl) (Nat.le_of_ble_eq_true rfl) rfl (Nat.le_of_ble_eq_true rfl) dL_market_33 ?_
  refine q_iadd C0 dL_market_36 ?_
  rw [show ((1 + (nI v2)) : Int32) = nI (1 + v2) from nI_add 1 v2]
  have lb := DL_le (1 + v2)
  refine t_appN C0 (by omega) S0 (by simp only [List.length_append, List.length_nil]; omega) ⟨Nat.le_of_ble_eq_true rfl, Nat.le_of_ble_eq_true rfl⟩ (Nat.le_of_ble_eq_true rfl) (Nat.le_of_ble_eq_true rfl) (Nat.le_of_ble_eq_true rfl) dL_market_37 ?_
  intro w1 S0
  refine q_ldcs C0 (si := 11) rfl dL_market_40 ?_
  refine t_appC C0 11 (by decide) (by decide) S0 (by simp only [List.length_append, List.length_nil]; omega) ⟨Nat.le_of_ble_eq_true rfl, Nat.le_of_ble_eq_true rfl⟩ (Nat.le_of_ble_eq_true rfl) (Nat.le_of_ble_eq_true rfl) (Nat.le_of_ble_eq_true rfl) dL_market_42 ?_
  intro w1 S0
  refine q_iconst C0 (v := 1) dL_market_45 rfl ?_
  refine q_iload_n C0 (kk := 1) 1 rfl dL_market_46 ?_
  refine q_bipush C0 (v := 8) dL_market_47 rfl ?_
  refine q_ishr C0 dL_market_49 ?_
  refine q_bipush C0 (v := 40) dL_market_50 rfl ?_
  obtain ⟨v3, hv3, ev3⟩ := in_val (((cv g (0)) >>> (8 &&& 31))) (N := 40) (by decide) (by decide)
  refine m_tabSi C0 (As := [.int (((cv g (0)) >>> (8 &&& 31))), .int (nI 40)]) (rest := [.int 1, .ref h]) (c_L_in l D g [] T_nil ev3) w2_127 w2_128 w1_0 w2_129 hd_L_in rfl ⟨rfl, rfl⟩ ⟨Nat.le_of_ble_eq_true rfl, Nat.le_of_ble_eq_true rfl⟩ (Nat.le_of_ble_eq_true rfl) (Nat.le_of_ble_eq_true rfl) rfl (Nat.le_of_ble_eq_true rfl) dL_market_52 ?_
  refine q_iadd C0 dL_market_55 ?_
  rw [show ((1 + (nI v3)) : Int32) = nI (1 + v3) from nI_add 1 v3]
  have lc := DL_le (1 + v3)
  refine t_appN C0 (by omega) S0 (by simp only [List.length_append, List.length_nil]; omega) ⟨Nat.le_of_ble_eq_true rfl, Nat.le_of_ble_eq_true rfl⟩ (Nat.le_of_ble_eq_true rfl) (Nat.le_of_ble_eq_true rfl) (Nat.le_of_ble_eq_true rfl) dL_market_56 ?_
  intro w1 S0
  refine q_ldcs C0 (si := 11) rfl dL_market_59 ?_
  refine t_appC C0 11 (by decide) (by decide) S0 (by simp only [List.length_append, List.length_nil]; omega) ⟨Nat.le_of_ble_eq_true rfl, Nat.le_of_ble_eq_true rfl⟩ (Nat.le_of_ble_eq_true rfl) (Nat.le_of_ble_eq_true rfl) (Nat.le_of_ble_eq_true rfl) dL_market_61 ?_
  intro w1 S0
  refine q_iload_n C0 (kk := 1) 1 rfl dL_market_64 ?_
  refine q_bipush C0 (v := 13) dL_market_65 rfl ?_
  refine q_ishr C0 dL_market_67 ?_
  refine q_bipush C0 (v := 100) dL_market_68 rfl ?_
  obtain ⟨v4, hv4, ev4⟩ := in_val (((cv g (0)) >>> (13 &&& 31))) (N := 100) (by decide) (by decide)
  refine m_tabSi C0 (As := [.int (((cv g (0)) >>> (13 &&& 31))), .int (nI 100)]) (rest := [.ref h]) (c_L_in l D g [] T_nil ev4) w2_127 w2_128 w1_0 w2_129 hd_L_in rfl ⟨rfl, rfl⟩ ⟨Nat.le_of_ble_eq_true rfl, Nat.le_of_ble_eq_true rfl⟩ (Nat.le_of_ble_eq_true rfl) (Nat.le_of_ble_eq_true rfl) rfl (Nat.le_of_ble_eq_true rfl) dL_market_70 ?_
  have ld := DL_le v4
  refine t_appN C0 (by omega) S0 (by simp only [List.length_append, List.length_nil]; omega) ⟨Nat.le_of_ble_eq_true rfl, Nat.le_of_ble_eq_true rfl⟩ (Nat.le_of_ble_eq_true rfl) (Nat.le_of_ble_eq_true rfl) (Nat.le_of_ble_eq_true rfl) dL_market_73 ?_
  intro w1 S0
  refine q_ldcs C0 (si := 12) rfl dL_market_76 ?_
  refine t_appC C0 12 (by decide) (by decide) S0 (by simp only [List.length_append, List.length_nil]; omega) ⟨Nat.le_of_ble_eq_true rfl, Nat.le_of_ble_eq_true rfl⟩ (Nat.le_of_ble_eq_true rfl) (Nat.le_of_ble_eq_true rfl) (Nat.le_of_ble_eq_true rfl) dL_market_78 ?_
  intro w1 S0
  refine t_toS C0 S0 ⟨Nat.le_of_ble_eq_true rfl, Nat.le_of_ble_eq_true rfl⟩ (Nat.le_of_ble_eq_true rfl) (Nat.le_of_ble_eq_true rfl) (Nat.le_of_ble_eq_true rfl) dL_market_81 ?_
  intro x w1 T0
  refine q_astore_n C0 (kk := 3) (lv2 := [(3, .ref x), (2, .int (nI (1 + v1))), (1, .int (cv g (0))), (0, .ref (g.1 26 0))]) (by decide) rfl dL_market_84 ?_
  refine q_iconst C0 (v := 0) dL_market_85 rfl ?_
  refine q_istore C0 (lv2 := [(4, .int 0), (3, .ref x), (2, .int (nI (1 + v1))), (1, .int (cv g (0))), (0, .ref (g.1 26 0))]) (by decide) rfl dL_market_86 ?_
  refine WN.eqw (List.append_nil _) ?_
  refine WN.sub (lv2 := [(0, .ref (g.1 26 0)), (1, .int (cv g (0))), (2, .int (nI (1 + v1))), (3, .ref x), (4, .int 0)]) [4, 3, 2, 1, 0] rfl ?_
  refine WN.widen (k := 20) (n := 4000) (Nat.le_of_ble_eq_true rfl) (Nat.le_of_ble_eq_true rfl) ?_
  exact hk (v1 := v1) (by omega) (D1 := 1 + v2) (D2 := 1 + v3) (D3 := v4) (by omega) (by omega) (by omega) T0
set_option maxRecDepth 100000 in
set_option maxHeartbeats 8000000 in
theorem mk_fog {p : Program} {l : Launch} {e : Env} {s : State} {m : MethodId} {args : Array Value} {below : List Frame} {meth : Method} {c : Code} {Q : State → Prop} {D : va_G} {g : xG} {A : Nat → Prop} (C0 : NC p s m args c cL_market 9 RL D g A) (hL : g.1 27 0 < 1073741824) {nf : Nat} {hnf : nf ≤ 12} {Pr : Nat → List Nat → Prop} (hP0 : ∀ i L d, i < nf → d < 10 → Pr i L → Pr (i + 1) (L ++ SL 11 ++ DL d))
    (hk : ∀ {L : List Nat} {x : Nat} {w : va_W} {cells slots : Nat}, cells ≤ 300 → slots ≤ 20000 → Pr nf L → STL g x L w → WN p l e rMk s m args below meth c cells slots Q 9 D A 138 [(0, .ref (g.1 26 0)), (1, .int (cv g 0)), (3, .ref x)] [] w) :
    ∀ (d i : Nat) (L : List Nat) (x : Nat) (w : va_W) (cells slots : Nat), i + d = nf → cells + 8 * d ≤ 300 → slots + 1100 * d ≤ 20000 → L.length ≤ 19 + 2 * i → Pr i L → STL g x L w → WN p l e rMk s m args below meth c cells slots Q 9 D A 88 [(0, .ref (g.1 26 0)), (1, .int (cv g 0)), (2, .int (nI nf)), (3, .ref x), (4, .int (nI i))] [] w
  | 0, i, L, x, w, cells, slots, hd, hc, hs, hl, hP, hT => by
    refine q_iload C0 4 rfl dL_market_88 ?_
    refine q_iload_n C0 (kk := 2) 2 rfl dL_market_90 ?_
    refine q_icmp_ge C0 (tgt := 138) (by decide) dL_market_91 (fun _ => ?_) (fun hh => absurd (nI_le (a := nf) (b := i) (by omega) (by omega)) hh)
    obtain rfl : i = nf := by omega
    refine WN.sub (lv2 := [(0, .ref (g.1 26 0)), (1, .int (cv g 0)), (3, .ref x)]) [0, 1, 3] rfl ?_
    exact hk (by omega) (by omega) hP hT
  | d + 1, i, L, x, w, cells, slots, hd, hc, hs, hl, hP, hT => by
    refine q_iload C0 4 rfl dL_market_88 ?_
    refine q_iload_n C0 (kk := 2) 2 rfl dL_market_90 ?_
    refine q_icmp_ge C0 (tgt := 138) (by decide) dL_market_91 (fun hh => absurd hh (nI_ge (a := i) (b := nf) (by omega) (by omega))) (fun _ => ?_)
    obtain ⟨y, b, rfl, hb⟩ := hT
    have la := SL_len
    refine t_new C0 ⟨Nat.le_of_ble_eq_true rfl, Nat.le_of_ble_eq_true rfl⟩ (by show _ ≤ 2000; omega) (by show _ ≤ 60000; omega) (Nat.le_of_ble_eq_true rfl) dL_market_94 dL_market_97 dL_market_98 ?_
    intro h w1 S0
    refine q_aload_n C0 (kk := 3) 3 rfl dL_market_101 ?_
    refine t_appT C0 (q := (x, y, L.length, b)) (L2 := L) S0 (by simp only [List.length_nil]; omega) rfl hb.1 hb.2 (oG_L C0 List.mem_cons_self (List.mem_cons_of_mem _ List.mem_cons_self) (by omega)) ⟨Nat.le_of_ble_eq_true rfl, Nat.le_of_ble_eq_true rfl⟩ (by show _ ≤ 2000; omega) (by show _ ≤ 60000; omega) (Nat.le_of_ble_eq_true rfl) dL_market_102 ?_
    intro w1 S0
    rw [List.nil_append] at S0
    refine q_ldcs C0 (si := 11) rfl dL_market_105 ?_
    refine t_appC C0 11 (by decide) (by decide) S0 (by omega) ⟨Nat.le_of_ble_eq_true rfl, Nat.le_of_ble_eq_true rfl⟩ (by show _ ≤ 2000; omega) (by show _ ≤ 60000; omega) (Nat.le_of_ble_eq_true rfl) dL_market_107 ?_
    intro w1 S0
    refine q_aload_n C0 (kk := 0) 0 rfl dL_market_110 ?_
    refine q_iconst C0 (v := 1) dL_market_111 rfl ?_
    refine m_tabSi C0 (As := [.ref (g.1 26 0), .int (nI (1))]) (rest := [.ref h]) (c_L_cell l D g [] T_nil (k := 1) (by omega) hL (M := fun _ => 0)) w2_121 w2_122 w1_0 w2_123 hd_L_cell rfl ⟨rfl, rfl⟩ ⟨Nat.le_of_ble_eq_true rfl, Nat.le_of_ble_eq_true rfl⟩ (by show _ ≤ 2000; omega) (by show _ ≤ 60000; omega) rfl (Nat.le_of_ble_eq_true rfl) dL_market_112 ?_
    refine q_iconst C0 (v := 2) dL_market_115 rfl ?_
    refine q_iload C0 4 rfl dL_market_116 ?_
    refine q_imul C0 dL_market_118 ?_
    refine q_ishr C0 dL_market_119 ?_
    refine q_bipush C0 (v := 10) dL_market_120 rfl ?_
    obtain ⟨v, hv, ev⟩ := in_val (((cv g (1)) >>> ((2 * (nI i)) &&& 31))) (N := 10) (by decide) (by decide)
    refine m_tabSi C0 (As := [.int (((cv g (1)) >>> ((2 * (nI i)) &&& 31))), .int (nI 10)]) (rest := [.ref h]) (c_L_in l D g [] T_nil ev) w2_127 w2_128 w1_0 w2_129 hd_L_in rfl ⟨rfl, rfl⟩ ⟨Nat.le_of_ble_eq_true rfl, Nat.le_of_ble_eq_true rfl⟩ (by show _ ≤ 2000; omega) (by show _ ≤ 60000; omega) rfl (Nat.le_of_ble_eq_true rfl) dL_market_122 ?_
    have lb := DL_le v
    refine t_appN C0 (by omega) S0 (by simp only [List.length_append]; omega) ⟨Nat.le_of_ble_eq_true rfl, Nat.le_of_ble_eq_true rfl⟩ (by show _ ≤ 2000; omega) (by show _ ≤ 60000; omega) (Nat.le_of_ble_eq_true rfl) dL_market_125 ?_
    intro w1 S0
    refine t_toS C0 S0 ⟨Nat.le_of_ble_eq_true rfl, Nat.le_of_ble_eq_true rfl⟩ (by show _ ≤ 2000; omega) (by show _ ≤ 60000; omega) (Nat.le_of_ble_eq_true rfl) dL_market_128 ?_
    intro x2 w1 T0
    refine q_astore_n C0 (kk := 3) (lv2 := [(3, .ref x2), (0, .ref (g.1 26 0)), (1, .int (cv g 0)), (2, .int (nI nf)), (4, .int (nI i))]) (by decide) rfl dL_market_131 ?_
    refine q_iinc C0 4 rfl (v := nI (i + 1)) (inc1 i) (by decide) (lv2 := [(4, .int (nI (i + 1))), (3, .ref x2), (0, .ref (g.1 26 0)), (1, .int (cv g 0)), (2, .int (nI nf))]) rfl dL_market_132 ?_
    refine q_goto C0 (tgt := 88) (by decide) dL_market_135 ?_
    refine WN.sub (lv2 := [(0, .ref (g.1 26 0)), (1, .int (cv g 0)), (2, .int (nI nf)), (3, .ref x2), (4, .int (nI (i + 1)))]) [2, 3, 4, 1, 0] rfl ?_
    refine WN.less (List.sublist_append_left _ _) ?_
    have lc : (DL v).length = 1 := by
      rw [DL_len]
      exact if_pos hv
    have hln : (L ++ SL 11 ++ DL v).length ≤ 19 + 2 * (i + 1) := by
      simp only [List.length_append]
      omega
    refine mk_fog C0 hL (hnf := hnf) hP0 hk d (i + 1) _ x2 _ _ _ ?_ ?_ ?_ hln (hP0 i L v (by omega) hv hP) T0
    · omega
    · omega
    · omega
