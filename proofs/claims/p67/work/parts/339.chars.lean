/-! strings read byte by byte; the class called beside other cells -/
theorem chr : ∀ x, x < 128 → nI x &&& 255 = nI x ∧ ((nI x).toUInt32 % 65536).toInt32 = nI x ∧ narrow .char (.int (nI x)) = .int (nI x) := by decide +kernel
theorem fit_c : ∀ x, x < 128 → fits .byte (.int (nI x)) = true := by decide +kernel
theorem fit_sb : ∀ i, i < 40 → ∀ b ∈ x_byt i, fits .byte (.int b) = true := by decide +kernel
theorem fit_sb' {i : Nat} (hi : i < 40) : sb_Fit (x_sb i) := by
  intro j
  unfold x_sb
  rw [List.getD_eq_getElem?_getD]
  cases h : (x_byt i)[j]? with
  | none => exact sb_fit0 0
  | some b => exact fit_sb i hi b (List.mem_of_getElem? h)
theorem chk_val {i n : Nat} (h : i < n) (hn : n < 2147483648) (M : xM) : f_J0_checkIndex_df160 (nI i) (nI n) M = some M := by
  unfold f_J0_checkIndex_df160 f_J3_checkIndex_8e157
  rw [if_neg (nI_pos (by omega)), if_pos (nI_lt h (by omega))]
  rfl
section MT
variable {p : Program} {l : Launch} {e : Env} {R : Room} {s : State} {m : MethodId} {args : Array Value} {below : List Frame} {meth : Method} {c : Code} {cells slots : Nat} {Q : State → Prop}
variable {cc : ByteArray} {nL : Nat} {own : String} {D : va_G} {g : xG} {A : Nat → Prop} {pc : Nat} {lv : List (Nat × Value)} {st : List Value} {ws wr : va_W} {tb : List xQ} {M M' : xM}
/-- the class's addresses in place of the first ones -/
theorem NC.a {a : Nat → Nat → Nat} (C0 : NC p s m args c cc nL own D g A) (h : ∀ k z, 20 ≤ k → a k z = g.1 k z) : NC p s m args c cc nL own D (a, g.2) A :=
  ⟨C0.1, C0.2.1, C0.2.2.1, C0.2.2.2.1, C0.2.2.2.2.1, C0.2.2.2.2.2.1, C0.2.2.2.2.2.2.1, C0.2.2.2.2.2.2.2.1, x_KS2_a h C0.2.2.2.2.2.2.2.2⟩
theorem tb_pre (C0 : NC p s m args c cc nL own D g A) {H : Heap} {locs : List Loc} (h1 : va_P D xCl (x_ws g tb M ++ wr) H) (h2 : va_D A (x_ws g tb M ++ wr)) (h3 : va_S A s.heap H locs) : (∀ z, x_A g tb H.size z → A z) ∧ ∀ U : State, U.heap = H → s.WarmedH U.vm → U.heap.size = H.size ∧ x_B D g tb M U := by
  have hF : ∀ z, x_A g tb H.size z → A z := by
    intro z hz
    rcases hz with ⟨r, hr, e⟩ | hz
    · rw [e]
      exact (D_iff.mp h2).2 (x_ad g r, x_cell g M r) (List.mem_append_left _ (List.mem_map.mpr ⟨r, hr, rfl⟩))
    · exact C0.2.2.2.2.2.2.2.1 z (Nat.le_trans h3.1 hz)
  refine ⟨hF, fun U hU hW => ?_⟩
  have h := x_KS2.to C0.2.2.2.2.2.2.2.2 h3 (B := x_A g tb H.size) hF hU hW
  subst hU
  exact ⟨rfl, (P_app.mp h1).1, va_K.moved hW.alike C0.2.2.2.2.2.1, h⟩
theorem tb_post {H H2 : Heap} (h1 : va_P D xCl (x_ws g tb M ++ wr) H) (h2 : va_D A (x_ws g tb M ++ wr)) (hk : ∀ q : Nat, q < H.size → ¬ x_A g tb H.size q → H2[q]? = H[q]?) (hP1 : x_H D g tb M' H2) : va_P D xCl (x_ws g tb M' ++ wr) H2 ∧ va_D A (x_ws g tb M' ++ wr) := by
  have hne := fr_ne h1 h2
  refine ⟨P_app.mpr ⟨hP1, P_iff.mpr (fun z hz => ?_)⟩, D_addr (by rw [List.map_append, List.map_append, ws_fst, ws_fst]) h2⟩
  refine (P_iff.mp (P_app.mp h1).2 z hz).kept (hk z.1 (hne z hz).1 (fun hA => (hne z hz).2 ?_))
  rcases hA with ⟨r, hr, e⟩ | hA
  · obtain ⟨i, hi⟩ := List.getElem?_of_mem hr
    exact Or.inl ⟨i, x_cell g M r, by rw [e]; exact x_ws_at hi⟩
  · exact Or.inr hA
theorem m_tabVi (C0 : NC p s m args c cc nL own D g A) {y : MethodName} {bytes : ByteArray} {maxL idx n : Nat} {rm : Room} {As rest stk : List Value} {C : String} {a : Nat} {ret : FieldType} {r : Int32} (hM : cI l D g tb y bytes maxL ret rm (.ref a :: As) M r M') (hp : ws.Perm (x_ws g tb M ++ wr)) (w1 : Cond.methodLink own idx y ∈ xA) (w2 : Cond.instanceMethod y ∈ xA) (w3 : Cond.selects C y y ∈ xA) (w4 : Cond.initialized y.cls ∈ xA) (w5 : Cond.code y bytes maxL (some ret) ∈ xA) (hrec : rG s A D (x_ws g tb M ++ wr) C a) (hdd : y.cls ≠ "java/lang/invoke/MethodHandle" ∧ y.cls ≠ "java/lang/invoke/VarHandle" ∧ (parseMethodDescriptor y.desc).map (fun d => d.parameters.length) = some n) (hn : As.length = n) (hrm : rm.cells = 0 ∧ rm.slots = 0) (hR : rm.frames + 1 ≤ R.frames ∧ 8 + (maxL + 11) + rm.locals ≤ R.locals) (hfc : cells + 0 ≤ R.cells) (hfs : slots + 0 ≤ R.slots) (hst : stk = As.reverse ++ .ref a :: rest) (hcat : (rest.map fun v => v.category).sum ≤ 8) (hd : decode cc pc = .ok (.invokevirtual idx, 3)) (k : WN p l e R s m args below meth c cells slots Q nL D A (pc + 3) lv (.int r :: rest) (x_ws g tb M' ++ wr)) : WN p l e R s m args below meth c cells slots Q nL D A pc lv stk ws := by
  refine WN.perm hp ?_
  intro H locs ls h1 h2 h3 h4
  subst hst
  obtain ⟨hF, hpre⟩ := tb_pre C0 h1 h2 h3
  refine va_calli (va_runV (As := As) (rest := rest) ⟨C0.1, C0.2.1, C0.2.2.1, C0.2.2.2.1, C0.2.2.2.2.1⟩ (hM H.size) ⟨callB_of n C0.2.2.2.2.1 (x_good [] (fun w h => absurd h List.not_mem_nil) w5) rfl hrm.1 hrm.2 (C0.2.2.2.2.1 _ w4) (C0.2.2.2.2.1 _ w1) hdd hR, C0.2.2.2.2.1 _ w2, C0.2.2.2.2.1 _ w3⟩ ⟨x_blind, hrec H _ h1 h3, fun U hU hW => ⟨rfl, hpre U hU hW⟩⟩ rfl hn h4.1 rfl (lv_room hcat) hd ⟨hfc, hfs⟩) h3 (fun q _ hq => hF q hq) (fun q hq => hF q hq) ?_
  rintro r' u t H1 locs1 ht hvm rfl hB hz1 hk1 hS1
  obtain ⟨b1, b2⟩ := tb_post h1 h2 hk1 (by rw [← ht]; exact hB.1)
  exact k H1 locs1 ls b1 b2 hS1 h4
theorem m_tabVv (C0 : NC p s m args c cc nL own D g A) {y : MethodName} {bytes : ByteArray} {maxL idx n : Nat} {rm : Room} {As rest stk : List Value} {C : String} {a : Nat}  (hM : cV l D g tb y bytes maxL rm (.ref a :: As) M M') (hp : ws.Perm (x_ws g tb M ++ wr)) (w1 : Cond.methodLink own idx y ∈ xA) (w2 : Cond.instanceMethod y ∈ xA) (w3 : Cond.selects C y y ∈ xA) (w4 : Cond.initialized y.cls ∈ xA) (w5 : Cond.code y bytes maxL none ∈ xA) (hrec : rG s A D (x_ws g tb M ++ wr) C a) (hdd : y.cls ≠ "java/lang/invoke/MethodHandle" ∧ y.cls ≠ "java/lang/invoke/VarHandle" ∧ (parseMethodDescriptor y.desc).map (fun d => d.parameters.length) = some n) (hn : As.length = n) (hrm : rm.cells = 0 ∧ rm.slots = 0) (hR : rm.frames + 1 ≤ R.frames ∧ 8 + (maxL + 11) + rm.locals ≤ R.locals) (hfc : cells + 0 ≤ R.cells) (hfs : slots + 0 ≤ R.slots) (hst : stk = As.reverse ++ .ref a :: rest) (hcat : (rest.map fun v => v.category).sum ≤ 8) (hd : decode cc pc = .ok (.invokevirtual idx, 3)) (k : WN p l e R s m args below meth c cells slots Q nL D A (pc + 3) lv rest (x_ws g tb M' ++ wr)) : WN p l e R s m args below meth c cells slots Q nL D A pc lv stk ws := by
  refine WN.perm hp ?_
  intro H locs ls h1 h2 h3 h4
  subst hst
  obtain ⟨hF, hpre⟩ := tb_pre C0 h1 h2 h3
  refine va_callv (va_runV (As := As) (rest := rest) ⟨C0.1, C0.2.1, C0.2.2.1, C0.2.2.2.1, C0.2.2.2.2.1⟩ (hM H.size) ⟨callB_of n C0.2.2.2.2.1 (x_good [] (fun w h => absurd h List.not_mem_nil) w5) rfl hrm.1 hrm.2 (C0.2.2.2.2.1 _ w4) (C0.2.2.2.2.1 _ w1) hdd hR, C0.2.2.2.2.1 _ w2, C0.2.2.2.2.1 _ w3⟩ ⟨x_blind, hrec H _ h1 h3, fun U hU hW => ⟨rfl, hpre U hU hW⟩⟩ rfl hn h4.1 rfl (lv_room hcat) hd ⟨hfc, hfs⟩) h3 (fun q _ hq => hF q hq) (fun q hq => hF q hq) ?_
  rintro u t H1 locs1 ht hvm - hB hz1 hk1 hS1
  obtain ⟨b1, b2⟩ := tb_post h1 h2 hk1 (by rw [← ht]; exact hB.1)
  exact k H1 locs1 ls b1 b2 hS1 h4
/-- the class as a receiver -/
theorem rG_t (C0 : NC p s m args c cc nL own D g A) (hq : ((4, 1664, 0) : xQ) ∈ tb) : rG s A D (x_ws g tb M ++ wr) RX6 (g.1 4 1664) := fun H locs h1 _ => by
  obtain ⟨i, hi⟩ := List.getElem?_of_mem hq
  have hlt : i < (x_ws g tb M).length := (List.getElem?_eq_some_iff.mp (x_ws_at (g := g) (M := M) hi)).1
  exact va_recv (q := (RX6, TX6, 11)) (ci := 4) C0.2.2.2.2.2.1 h1 rfl ((List.getElem?_append_left hlt).trans (x_ws_at hi))
end MT

theorem hdJ0_isLatin1_aae02 : yJ0_isLatin1_aae02.cls ≠ "java/lang/invoke/MethodHandle" ∧ yJ0_isLatin1_aae02.cls ≠ "java/lang/invoke/VarHandle" ∧ (parseMethodDescriptor yJ0_isLatin1_aae02.desc).map (fun d => d.parameters.length) = some 0 := by decide +kernel
theorem mJ0_isLatin1_aae02 (l : Launch) (D : va_G) (g : xG) (q : xS) : mI l D g yJ0_isLatin1_aae02 cJ0_isLatin1_aae02 1 .boolean r00 [.ref q.1] [] (some q) 0 0 1 (fun w => w = []) := by
  refine m_startI (own := RJ0) (by decide +kernel) rfl rfl (Nat.le_of_ble_eq_true rfl) ?_
  intro p e s m args below meth c A Q C0 hE hend
  refine q_compact C0 w3_6 dJ0_isLatin1_aae02_0 ?_
  refine q_if_eq C0 (tgt := 17) (by decide) dJ0_isLatin1_aae02_3 (fun h => absurd h (by decide)) (fun _ => ?_)
  refine q_aload_n C0 (kk := 0) 0 rfl dJ0_isLatin1_aae02_6 ?_
  refine q_scod C0 hE w3_118 dJ0_isLatin1_aae02_7 ?_
  refine q_if_ne C0 (tgt := 17) (by decide) dJ0_isLatin1_aae02_10 (fun h => absurd rfl h) (fun _ => ?_)
  refine q_iconst C0 (v := 1) dJ0_isLatin1_aae02_13 rfl ?_
  refine q_goto C0 (tgt := 18) (by decide) dJ0_isLatin1_aae02_14 ?_
  exact hend rfl rfl rfl dJ0_isLatin1_aae02_18


theorem hdJ1_charAt_3b067 : yJ1_charAt_3b067.cls ≠ "java/lang/invoke/MethodHandle" ∧ yJ1_charAt_3b067.cls ≠ "java/lang/invoke/VarHandle" ∧ (parseMethodDescriptor yJ1_charAt_3b067.desc).map (fun d => d.parameters.length) = some 2 := by decide +kernel
theorem mJ1_charAt_3b067 (l : Launch) (D : va_G) (g : xG) {q : xS} {i x : Nat} (hi : i < q.2.2.1) (hn : q.2.2.1 < 1073741824) (hx : x < 128) (hv : q.2.2.2 i = nI x) : mI l D g yJ1_charAt_3b067 cJ1_charAt_3b067 2 .char ({ frames := 2, cells := 0, slots := 0, locals := 43 } : Room) [.ref q.2.1, .int (nI i)] [] (some q) 0 0 (nI x) (fun w => w = []) := by
  refine m_startI (own := RJ1) (by decide +kernel) rfl rfl (Nat.le_of_ble_eq_true rfl) ?_
  intro p e s m args below meth c A Q C0 hE hend
  refine q_iload_n C0 (kk := 1) 1 rfl dJ1_charAt_3b067_0 ?_
  refine q_aload_n C0 (kk := 0) 0 rfl dJ1_charAt_3b067_1 ?_
  refine q_slen C0 hE dJ1_charAt_3b067_2 ?_
  refine m_tabSv C0 (As := [.int (nI i), .int (nI q.2.2.1)]) (rest := []) (c_J0_checkIndex_df160 l D g [] T_nil (chk_val hi (by omega) (fun _ => 0))) w4_115 w4_116 w1_3 w4_117 hd_J0_checkIndex_df160 rfl ⟨rfl, rfl⟩ ⟨Nat.le_of_ble_eq_true rfl, Nat.le_of_ble_eq_true rfl⟩ (Nat.le_of_ble_eq_true rfl) (Nat.le_of_ble_eq_true rfl) rfl (Nat.le_of_ble_eq_true rfl) dJ1_charAt_3b067_3 ?_
  refine q_aload_n C0 (kk := 0) 0 rfl dJ1_charAt_3b067_6 ?_
  refine q_iload_n C0 (kk := 1) 1 rfl dJ1_charAt_3b067_7 ?_
  refine q_sbyte C0 hE (inb_nI hi (by omega)) dJ1_charAt_3b067_8 ?_
  rw [cl (by omega), hv]
  refine q_sipush C0 (v := 255) dJ1_charAt_3b067_9 rfl ?_
  refine q_iand C0 dJ1_charAt_3b067_12 ?_
  rw [show (((nI x) &&& 255) : Int32) = nI x from (chr x hx).1]
  refine q_i2c C0 dJ1_charAt_3b067_13 ?_
  exact hend (chr x hx).2.1 (by rw [(chr x hx).2.1]; exact (chr x hx).2.2) rfl dJ1_charAt_3b067_14


theorem hdJ0_charAt_5068e : yJ0_charAt_5068e.cls ≠ "java/lang/invoke/MethodHandle" ∧ yJ0_charAt_5068e.cls ≠ "java/lang/invoke/VarHandle" ∧ (parseMethodDescriptor yJ0_charAt_5068e.desc).map (fun d => d.parameters.length) = some 1 := by decide +kernel
theorem mJ0_charAt_5068e (l : Launch) (D : va_G) (g : xG) {q : xS} {i x : Nat} (hi : i < q.2.2.1) (hn : q.2.2.1 < 1073741824) (hx : x < 128) (hv : q.2.2.2 i = nI x) : mI l D g yJ0_charAt_5068e cJ0_charAt_5068e 2 .char ({ frames := 3, cells := 0, slots := 0, locals := 64 } : Room) [.ref q.1, .int (nI i)] [] (some q) 0 0 (nI x) (fun w => w = []) := by
  refine m_startI (own := RJ0) (by decide +kernel) rfl rfl (Nat.le_of_ble_eq_true rfl) ?_
  intro p e s m args below meth c A Q C0 hE hend
  refine q_aload_n C0 (kk := 0) 0 rfl dJ0_charAt_5068e_0 ?_
  refine m_callVi C0 (w0 := []) (wr := []) (As := []) (rest := []) (mJ0_isLatin1_aae02 l D g q) (List.Perm.refl _) (oG_own hE) w4_108 w4_109 w4_110 w4_111 w1_3 hdJ0_isLatin1_aae02 rfl ⟨rfl, rfl⟩ ⟨Nat.le_of_ble_eq_true rfl, Nat.le_of_ble_eq_true rfl⟩ (by decide) (by decide) (rG_o hE) rfl (Nat.le_of_ble_eq_true rfl) dJ0_charAt_5068e_1 ?_
  rintro w1 rfl
  refine q_if_eq C0 (tgt := 16) (by decide) dJ0_charAt_5068e_4 (fun h => absurd h (by decide)) (fun _ => ?_)
  refine q_aload_n C0 (kk := 0) 0 rfl dJ0_charAt_5068e_7 ?_
  refine q_sval C0 hE w3_117 dJ0_charAt_5068e_8 ?_
  refine q_iload_n C0 (kk := 1) 1 rfl dJ0_charAt_5068e_11 ?_
  refine m_callSi C0 (w0 := []) (wr := []) (As := [.ref q.2.1, .int (nI i)]) (rest := []) (mJ1_charAt_3b067 l D g hi hn hx hv) (List.Perm.refl _) (oG_own hE) w4_112 w4_113 w4_114 w1_10 hdJ1_charAt_3b067 rfl ⟨rfl, rfl⟩ ⟨Nat.le_of_ble_eq_true rfl, Nat.le_of_ble_eq_true rfl⟩ (Nat.le_of_ble_eq_true rfl) (Nat.le_of_ble_eq_true rfl) rfl (Nat.le_of_ble_eq_true rfl) dJ0_charAt_5068e_12 ?_
  rintro w1 rfl
  exact hend rfl (chr x hx).2.2 rfl dJ0_charAt_5068e_15
