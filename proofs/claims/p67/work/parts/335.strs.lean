/-! calls of what needs no cells; strings and builders, the small methods -/
section MTAB
variable {p : Program} {l : Launch} {e : Env} {R : Room} {s : State} {m : MethodId} {args : Array Value} {below : List Frame} {meth : Method} {c : Code} {cells slots : Nat} {Q : State → Prop}
variable {cc : ByteArray} {nL : Nat} {own : String} {D : va_G} {g : xG} {A : Nat → Prop} {pc : Nat} {lv : List (Nat × Value)} {st : List Value} {ws : va_W}
theorem T_nil {g : xG} : x_T g [] := ⟨fun i j a b h => by simp at h, fun i j a b z h => by simp at h⟩
theorem nil_pre (C0 : NC p s m args c cc nL own D g A) {H : Heap} {locs : List Loc} {M : xM} (h3 : va_S A s.heap H locs) {U : State} (hU : U.heap = H) (hW : s.WarmedH U.vm) : U.heap.size = H.size ∧ x_B D g [] M U := by
  have h := x_KS2.to C0.2.2.2.2.2.2.2.2 h3 (B := x_A g [] H.size) (fun q hq => by
    rcases hq with ⟨r, hr, -⟩ | hq
    · exact absurd hr List.not_mem_nil
    · exact C0.2.2.2.2.2.2.2.1 q (Nat.le_trans h3.1 hq)) hU hW
  subst hU
  exact ⟨rfl, fun k q h => by simp [x_ws] at h, va_K.moved hW.alike C0.2.2.2.2.2.1, h⟩
theorem nil_A (C0 : NC p s m args c cc nL own D g A) {H : Heap} {locs : List Loc} (h3 : va_S A s.heap H locs) : ∀ q, x_A g [] H.size q → A q := fun q hq => by
  rcases hq with ⟨r, hr, -⟩ | hq
  · exact absurd hr List.not_mem_nil
  · exact C0.2.2.2.2.2.2.2.1 q (Nat.le_trans h3.1 hq)
theorem nil_P {H H1 : Heap} (h1 : va_P D xCl ws H) (hk : ∀ q : Nat, q < H.size → ¬ x_A g [] H.size q → H1[q]? = H[q]?) : va_P D xCl ws H1 := P_iff.mpr (fun z hz => by
  obtain ⟨kz, hkz⟩ := List.getElem?_of_mem hz
  have hlt : z.1 < H.size := (h1 kz z hkz).lt
  refine (P_iff.mp h1 z hz).kept (hk z.1 hlt (fun h => ?_))
  rcases h with ⟨r, hr, -⟩ | hq
  · exact absurd hr List.not_mem_nil
  · omega)
theorem m_tabSi (C0 : NC p s m args c cc nL own D g A) {y : MethodName} {bytes : ByteArray} {maxL idx n : Nat} {rm : Room} {As rest stk : List Value} {ret : FieldType} {r : Int32} {M : xM} (hM : cI l D g [] y bytes maxL ret rm As M r M) (w1 : Cond.methodLink own idx y ∈ xA) (w2 : Cond.static y ∈ xA) (w4 : Cond.initialized y.cls ∈ xA) (w5 : Cond.code y bytes maxL (some ret) ∈ xA) (hdd : y.cls ≠ "java/lang/invoke/MethodHandle" ∧ y.cls ≠ "java/lang/invoke/VarHandle" ∧ (parseMethodDescriptor y.desc).map (fun d => d.parameters.length) = some n) (hn : As.length = n) (hrm : rm.cells = 0 ∧ rm.slots = 0) (hR : rm.frames + 1 ≤ R.frames ∧ 8 + (maxL + 11) + rm.locals ≤ R.locals) (hfc : cells + 0 ≤ R.cells) (hfs : slots + 0 ≤ R.slots) (hst : stk = As.reverse ++ rest) (hcat : (rest.map fun v => v.category).sum ≤ 8) (hd : decode cc pc = .ok (.invokestatic idx, 3)) (k : WN p l e R s m args below meth c cells slots Q nL D A (pc + 3) lv (.int r :: rest) ws) : WN p l e R s m args below meth c cells slots Q nL D A pc lv stk ws := by
  intro H locs ls h1 h2 h3 h4
  subst hst
  refine va_calli (va_runS (As := As) (rest := rest) ⟨C0.1, C0.2.1, C0.2.2.1, C0.2.2.2.1, C0.2.2.2.2.1⟩ (hM H.size) ⟨callB_of n C0.2.2.2.2.1 (x_good [] (fun w h => absurd h List.not_mem_nil) w5) rfl hrm.1 hrm.2 (C0.2.2.2.2.1 _ w4) (C0.2.2.2.2.1 _ w1) hdd hR, C0.2.2.2.2.1 _ w2⟩ ⟨x_blind, fun U hU hW => ⟨rfl, nil_pre C0 h3 hU hW⟩⟩ rfl hn h4.1 rfl (lv_room hcat) hd ⟨hfc, hfs⟩) h3 (fun q _ hq => nil_A C0 h3 q hq) (fun q hq => nil_A C0 h3 q hq) ?_
  rintro r' u t H1 locs1 ht hvm rfl hB hz1 hk1 hS1
  exact k H1 locs1 ls (nil_P (g := g) h1 hk1) h2 hS1 h4
theorem m_tabSv (C0 : NC p s m args c cc nL own D g A) {y : MethodName} {bytes : ByteArray} {maxL idx n : Nat} {rm : Room} {As rest stk : List Value}  {M : xM} (hM : cV l D g [] y bytes maxL rm As M M) (w1 : Cond.methodLink own idx y ∈ xA) (w2 : Cond.static y ∈ xA) (w4 : Cond.initialized y.cls ∈ xA) (w5 : Cond.code y bytes maxL none ∈ xA) (hdd : y.cls ≠ "java/lang/invoke/MethodHandle" ∧ y.cls ≠ "java/lang/invoke/VarHandle" ∧ (parseMethodDescriptor y.desc).map (fun d => d.parameters.length) = some n) (hn : As.length = n) (hrm : rm.cells = 0 ∧ rm.slots = 0) (hR : rm.frames + 1 ≤ R.frames ∧ 8 + (maxL + 11) + rm.locals ≤ R.locals) (hfc : cells + 0 ≤ R.cells) (hfs : slots + 0 ≤ R.slots) (hst : stk = As.reverse ++ rest) (hcat : (rest.map fun v => v.category).sum ≤ 8) (hd : decode cc pc = .ok (.invokestatic idx, 3)) (k : WN p l e R s m args below meth c cells slots Q nL D A (pc + 3) lv rest ws) : WN p l e R s m args below meth c cells slots Q nL D A pc lv stk ws := by
  intro H locs ls h1 h2 h3 h4
  subst hst
  refine va_callv (va_runS (As := As) (rest := rest) ⟨C0.1, C0.2.1, C0.2.2.1, C0.2.2.2.1, C0.2.2.2.2.1⟩ (hM H.size) ⟨callB_of n C0.2.2.2.2.1 (x_good [] (fun w h => absurd h List.not_mem_nil) w5) rfl hrm.1 hrm.2 (C0.2.2.2.2.1 _ w4) (C0.2.2.2.2.1 _ w1) hdd hR, C0.2.2.2.2.1 _ w2⟩ ⟨x_blind, fun U hU hW => ⟨rfl, nil_pre C0 h3 hU hW⟩⟩ rfl hn h4.1 rfl (lv_room hcat) hd ⟨hfc, hfs⟩) h3 (fun q _ hq => nil_A C0 h3 q hq) (fun q hq => nil_A C0 h3 q hq) ?_
  rintro u t H1 locs1 ht hvm - hB hz1 hk1 hS1
  exact k H1 locs1 ls (nil_P (g := g) h1 hk1) h2 hS1 h4
end MTAB
def sbF (v n : Nat) : List Value := [.ref v, .int 0, .int 0, .int (nI n)]
def sbO (h v n : Nat) : Nat × va_E := (h, .inr (5, sbF v n))
def byA (g : xG) (v m : Nat) (a : Nat → Int32) : Nat × va_E := (v, .inl (g.2.1 1, m, .inl a))
def r00 : Room := { frames := 0, cells := 0, slots := 0, locals := 0 }
def capF (m q : Nat) : Nat := if q - m < m + 2 then m + (m + 2) else q

theorem hdJ0_coder_7d493 : yJ0_coder_7d493.cls ≠ "java/lang/invoke/MethodHandle" ∧ yJ0_coder_7d493.cls ≠ "java/lang/invoke/VarHandle" ∧ (parseMethodDescriptor yJ0_coder_7d493.desc).map (fun d => d.parameters.length) = some 0 := by decide +kernel
theorem mJ0_coder_7d493 (l : Launch) (D : va_G) (g : xG) (q : xS) : mI l D g yJ0_coder_7d493 cJ0_coder_7d493 1 .byte r00 [.ref q.1] [] (some q) 0 0 0 (fun w => w = []) := by
  refine m_startI (own := RJ0) (by decide +kernel) rfl rfl (Nat.le_of_ble_eq_true rfl) ?_
  intro p e s m args below meth c A Q C0 hE hend
  refine q_compact C0 w3_6 dJ0_coder_7d493_0 ?_
  refine q_if_eq C0 (tgt := 13) (by decide) dJ0_coder_7d493_3 (fun h => absurd h (by decide)) (fun _ => ?_)
  refine q_aload_n C0 (kk := 0) 0 rfl dJ0_coder_7d493_6 ?_
  refine q_scod C0 hE w3_118 dJ0_coder_7d493_7 ?_
  refine q_goto C0 (tgt := 14) (by decide) dJ0_coder_7d493_10 ?_
  exact hend rfl rfl rfl dJ0_coder_7d493_14


theorem hdJ0_length_8abf5 : yJ0_length_8abf5.cls ≠ "java/lang/invoke/MethodHandle" ∧ yJ0_length_8abf5.cls ≠ "java/lang/invoke/VarHandle" ∧ (parseMethodDescriptor yJ0_length_8abf5.desc).map (fun d => d.parameters.length) = some 0 := by decide +kernel
theorem mJ0_length_8abf5 (l : Launch) (D : va_G) (g : xG) (q : xS) : mI l D g yJ0_length_8abf5 cJ0_length_8abf5 1 .int ({ frames := 1, cells := 0, slots := 0, locals := 20 } : Room) [.ref q.1] [] (some q) 0 0 (nI q.2.2.1) (fun w => w = []) := by
  refine m_startI (own := RJ0) (by decide +kernel) rfl rfl (Nat.le_of_ble_eq_true rfl) ?_
  intro p e s m args below meth c A Q C0 hE hend
  refine q_aload_n C0 (kk := 0) 0 rfl dJ0_length_8abf5_0 ?_
  refine q_sval C0 hE w3_117 dJ0_length_8abf5_1 ?_
  refine q_slen C0 hE dJ0_length_8abf5_4 ?_
  refine q_aload_n C0 (kk := 0) 0 rfl dJ0_length_8abf5_5 ?_
  refine m_callVi C0 (w0 := []) (wr := []) (As := []) (rest := [.int (nI q.2.2.1)]) (mJ0_coder_7d493 l D g q) (List.Perm.refl _) (oG_own hE) w3_2 w3_3 w3_4 w3_5 w1_3 hdJ0_coder_7d493 rfl ⟨rfl, rfl⟩ ⟨Nat.le_of_ble_eq_true rfl, Nat.le_of_ble_eq_true rfl⟩ (by decide) (by decide) (rG_o hE) rfl (Nat.le_of_ble_eq_true rfl) dJ0_length_8abf5_6 ?_
  rintro w1 rfl
  refine q_ishr C0 dJ0_length_8abf5_9 ?_
  exact hend (sb_shr0 _) rfl rfl dJ0_length_8abf5_10

theorem dJ5_isLatin1_aae02_0 : decode cJ5_isLatin1_aae02 0 = .ok (.getstatic 18, 3) := by decide +kernel
theorem dJ5_isLatin1_aae02_3 : decode cJ5_isLatin1_aae02 3 = .ok (.ifCond .eq 14, 3) := by decide +kernel
theorem dJ5_isLatin1_aae02_6 : decode cJ5_isLatin1_aae02 6 = .ok (.aload_n 0, 1) := by decide +kernel
theorem dJ5_isLatin1_aae02_7 : decode cJ5_isLatin1_aae02 7 = .ok (.getfield 22, 3) := by decide +kernel
theorem dJ5_isLatin1_aae02_10 : decode cJ5_isLatin1_aae02 10 = .ok (.ifCond .ne 7, 3) := by decide +kernel
theorem dJ5_isLatin1_aae02_13 : decode cJ5_isLatin1_aae02 13 = .ok (.iconst 1, 1) := by decide +kernel
theorem dJ5_isLatin1_aae02_14 : decode cJ5_isLatin1_aae02 14 = .ok (.goto 4, 3) := by decide +kernel
theorem dJ5_isLatin1_aae02_18 : decode cJ5_isLatin1_aae02 18 = .ok (.ireturn, 1) := by decide +kernel
theorem hdJ5_isLatin1_aae02 : yJ5_isLatin1_aae02.cls ≠ "java/lang/invoke/MethodHandle" ∧ yJ5_isLatin1_aae02.cls ≠ "java/lang/invoke/VarHandle" ∧ (parseMethodDescriptor yJ5_isLatin1_aae02.desc).map (fun d => d.parameters.length) = some 0 := by decide +kernel
theorem mJ5_isLatin1_aae02 (l : Launch) (D : va_G) (g : xG) (h v n : Nat) : mI l D g yJ5_isLatin1_aae02 cJ5_isLatin1_aae02 1 .boolean r00 [.ref h] [(h, .inr (5, sbF v n))] none 0 0 1 (fun w => w = [(h, .inr (5, sbF v n))]) := by
  refine m_startI (own := RJ5) (by decide +kernel) rfl rfl (Nat.le_of_ble_eq_true rfl) ?_
  intro p e s m args below meth c A Q C0 hE hend
  refine q_compact C0 w2_140 dJ5_isLatin1_aae02_0 ?_
  refine q_if_eq C0 (tgt := 17) (by decide) dJ5_isLatin1_aae02_3 (fun h => absurd h (by decide)) (fun _ => ?_)
  refine q_aload_n C0 (kk := 0) 0 rfl dJ5_isLatin1_aae02_6 ?_
  refine n_get C0 x_lays5 (q0 := 0) rfl rfl 1 (by decide) w2_150 rfl rfl dJ5_isLatin1_aae02_7 ?_
  refine q_if_ne C0 (tgt := 17) (by decide) dJ5_isLatin1_aae02_10 (fun h => absurd rfl h) (fun _ => ?_)
  refine q_iconst C0 (v := 1) dJ5_isLatin1_aae02_13 rfl ?_
  refine q_goto C0 (tgt := 18) (by decide) dJ5_isLatin1_aae02_14 ?_
  exact hend rfl rfl rfl dJ5_isLatin1_aae02_18

theorem dJ5_getValue_6d5f1_0 : decode cJ5_getValue_6d5f1 0 = .ok (.aload_n 0, 1) := by decide +kernel
theorem dJ5_getValue_6d5f1_1 : decode cJ5_getValue_6d5f1 1 = .ok (.getfield 15, 3) := by decide +kernel
theorem dJ5_getValue_6d5f1_4 : decode cJ5_getValue_6d5f1 4 = .ok (.areturn, 1) := by decide +kernel
theorem hdJ5_getValue_6d5f1 : yJ5_getValue_6d5f1.cls ≠ "java/lang/invoke/MethodHandle" ∧ yJ5_getValue_6d5f1.cls ≠ "java/lang/invoke/VarHandle" ∧ (parseMethodDescriptor yJ5_getValue_6d5f1.desc).map (fun d => d.parameters.length) = some 0 := by decide +kernel
theorem mJ5_getValue_6d5f1 (l : Launch) (D : va_G) (g : xG) (h v n : Nat) : mR l D g yJ5_getValue_6d5f1 cJ5_getValue_6d5f1 1 (.array .byte) r00 [.ref h] [(h, .inr (5, sbF v n))] none 0 0 (fun a w => a = v ∧ w = [(h, .inr (5, sbF v n))]) := by
  refine m_startR (Or.inr ⟨_, rfl⟩) (own := RJ5) (by decide +kernel) rfl rfl (Nat.le_of_ble_eq_true rfl) ?_
  intro p e s m args below meth c A Q C0 hE hend
  refine q_aload_n C0 (kk := 0) 0 rfl dJ5_getValue_6d5f1_0 ?_
  refine n_get C0 x_lays5 (q0 := 0) rfl rfl 0 (by decide) w2_149 rfl rfl dJ5_getValue_6d5f1_1 ?_
  exact hend ⟨rfl, rfl⟩ dJ5_getValue_6d5f1_4

theorem dJ5_length_8abf5_0 : decode cJ5_length_8abf5 0 = .ok (.aload_n 0, 1) := by decide +kernel
theorem dJ5_length_8abf5_1 : decode cJ5_length_8abf5 1 = .ok (.getfield 79, 3) := by decide +kernel
theorem dJ5_length_8abf5_4 : decode cJ5_length_8abf5 4 = .ok (.ireturn, 1) := by decide +kernel
theorem hdJ5_length_8abf5 : yJ5_length_8abf5.cls ≠ "java/lang/invoke/MethodHandle" ∧ yJ5_length_8abf5.cls ≠ "java/lang/invoke/VarHandle" ∧ (parseMethodDescriptor yJ5_length_8abf5.desc).map (fun d => d.parameters.length) = some 0 := by decide +kernel
theorem mJ5_length_8abf5 (l : Launch) (D : va_G) (g : xG) (h v n : Nat) : mI l D g yJ5_length_8abf5 cJ5_length_8abf5 1 .int r00 [.ref h] [(h, .inr (5, sbF v n))] none 0 0 (nI n) (fun w => w = [(h, .inr (5, sbF v n))]) := by
  refine m_startI (own := RJ5) (by decide +kernel) rfl rfl (Nat.le_of_ble_eq_true rfl) ?_
  intro p e s m args below meth c A Q C0 hE hend
  refine q_aload_n C0 (kk := 0) 0 rfl dJ5_length_8abf5_0 ?_
  refine n_get C0 x_lays5 (q0 := 0) rfl rfl 3 (by decide) w2_152 rfl rfl dJ5_length_8abf5_1 ?_
  exact hend rfl rfl rfl dJ5_length_8abf5_4

theorem dJ4_length_8abf5_0 : decode cJ4_length_8abf5 0 = .ok (.aload_n 0, 1) := by decide +kernel
theorem dJ4_length_8abf5_1 : decode cJ4_length_8abf5 1 = .ok (.invokespecial 343, 3) := by decide +kernel
theorem dJ4_length_8abf5_4 : decode cJ4_length_8abf5 4 = .ok (.ireturn, 1) := by decide +kernel
theorem hdJ4_length_8abf5 : yJ4_length_8abf5.cls ≠ "java/lang/invoke/MethodHandle" ∧ yJ4_length_8abf5.cls ≠ "java/lang/invoke/VarHandle" ∧ (parseMethodDescriptor yJ4_length_8abf5.desc).map (fun d => d.parameters.length) = some 0 := by decide +kernel
theorem mJ4_length_8abf5 (l : Launch) (D : va_G) (g : xG) (h v n : Nat) : mI l D g yJ4_length_8abf5 cJ4_length_8abf5 1 .int ({ frames := 1, cells := 0, slots := 0, locals := 20 } : Room) [.ref h] [(h, .inr (5, sbF v n))] none 0 0 (nI n) (fun w => w = [(h, .inr (5, sbF v n))]) := by
  refine m_startI (own := RJ4) (by decide +kernel) rfl rfl (Nat.le_of_ble_eq_true rfl) ?_
  intro p e s m args below meth c A Q C0 hE hend
  refine q_aload_n C0 (kk := 0) 0 rfl dJ4_length_8abf5_0 ?_
  refine m_callPi C0 (w0 := [(h, .inr (5, sbF v n))]) (wr := []) (As := []) (rest := []) (mJ5_length_8abf5 l D g h v n) (List.Perm.refl _) oG_none w3_92 w3_87 w3_88 w2_161 w3_93 w1_1 (ci := 5) rfl ⟨by decide +kernel, by decide +kernel⟩ rfl ⟨rfl, rfl⟩ ⟨Nat.le_of_ble_eq_true rfl, Nat.le_of_ble_eq_true rfl⟩ (by decide) (by decide) (rG_w C0 (q := (RJ4, TJ4, 4)) 0 rfl rfl) rfl (Nat.le_of_ble_eq_true rfl) dJ4_length_8abf5_1 ?_
  rintro w1 rfl
  exact hend rfl rfl rfl dJ4_length_8abf5_4

theorem dJ7_copyOf_9075b_0 : decode cJ7_copyOf_9075b 0 = .ok (.iload_n 1, 1) := by decide +kernel
theorem dJ7_copyOf_9075b_1 : decode cJ7_copyOf_9075b 1 = .ok (.aload_n 0, 1) := by decide +kernel
theorem dJ7_copyOf_9075b_2 : decode cJ7_copyOf_9075b 2 = .ok (.arraylength, 1) := by decide +kernel
theorem dJ7_copyOf_9075b_3 : decode cJ7_copyOf_9075b 3 = .ok (.if_icmp .ne 11, 3) := by decide +kernel
theorem dJ7_copyOf_9075b_14 : decode cJ7_copyOf_9075b 14 = .ok (.iload_n 1, 1) := by decide +kernel
theorem dJ7_copyOf_9075b_15 : decode cJ7_copyOf_9075b 15 = .ok (.newarray .byte, 2) := by decide +kernel
theorem dJ7_copyOf_9075b_17 : decode cJ7_copyOf_9075b 17 = .ok (.astore_n 2, 1) := by decide +kernel
theorem dJ7_copyOf_9075b_18 : decode cJ7_copyOf_9075b 18 = .ok (.aload_n 0, 1) := by decide +kernel
theorem dJ7_copyOf_9075b_19 : decode cJ7_copyOf_9075b 19 = .ok (.iconst 0, 1) := by decide +kernel
theorem dJ7_copyOf_9075b_20 : decode cJ7_copyOf_9075b 20 = .ok (.aload_n 2, 1) := by decide +kernel
theorem dJ7_copyOf_9075b_21 : decode cJ7_copyOf_9075b 21 = .ok (.iconst 0, 1) := by decide +kernel
theorem dJ7_copyOf_9075b_22 : decode cJ7_copyOf_9075b 22 = .ok (.aload_n 0, 1) := by decide +kernel
theorem dJ7_copyOf_9075b_23 : decode cJ7_copyOf_9075b 23 = .ok (.arraylength, 1) := by decide +kernel
theorem dJ7_copyOf_9075b_24 : decode cJ7_copyOf_9075b 24 = .ok (.iload_n 1, 1) := by decide +kernel
theorem dJ7_copyOf_9075b_25 : decode cJ7_copyOf_9075b 25 = .ok (.invokestatic 304, 3) := by decide +kernel
theorem dJ7_copyOf_9075b_28 : decode cJ7_copyOf_9075b 28 = .ok (.invokestatic 150, 3) := by decide +kernel
theorem dJ7_copyOf_9075b_31 : decode cJ7_copyOf_9075b 31 = .ok (.aload_n 2, 1) := by decide +kernel
theorem dJ7_copyOf_9075b_32 : decode cJ7_copyOf_9075b 32 = .ok (.areturn, 1) := by decide +kernel
theorem hdJ7_copyOf_9075b : yJ7_copyOf_9075b.cls ≠ "java/lang/invoke/MethodHandle" ∧ yJ7_copyOf_9075b.cls ≠ "java/lang/invoke/VarHandle" ∧ (parseMethodDescriptor yJ7_copyOf_9075b.desc).map (fun d => d.parameters.length) = some 2 := by decide +kernel
theorem mJ7_copyOf_9075b (l : Launch) (D : va_G) (g : xG) {v z q : Nat} {a : Nat → Int32} (h : z < q) (hq : q ≤ 65536) (hf : sb_Fit a) : mR l D g yJ7_copyOf_9075b cJ7_copyOf_9075b 3 (.array .byte) ({ frames := 1, cells := 1, slots := q, locals := 60 } : Room) [.ref v, .int (nI q)] [(v, .inl (g.2.1 1, z, .inl a))] none 1 q (fun r w => w = [(v, .inl (g.2.1 1, z, .inl a)), (r, .inl (g.2.1 1, q, .inl (va_cpy a (fun _ => 0) 0 0 z)))]) := by
  refine m_startR (Or.inr ⟨_, rfl⟩) (own := RJ7) (by decide +kernel) rfl rfl (Nat.le_of_ble_eq_true rfl) ?_
  intro p e s m args below meth c A Q C0 hE hend
  refine q_iload_n C0 (kk := 1) 1 rfl dJ7_copyOf_9075b_0 ?_
  refine q_aload_n C0 (kk := 0) 0 rfl dJ7_copyOf_9075b_1 ?_
  refine q_blen C0 0 rfl dJ7_copyOf_9075b_2 ?_
  refine q_icmp_ne C0 (tgt := 14) (by decide) dJ7_copyOf_9075b_3 (fun _ => ?_) (fun zz => absurd ((nI_eq (by omega) (by omega)).mp zz) (by omega))
  refine q_iload_n C0 (kk := 1) 1 rfl dJ7_copyOf_9075b_14 ?_
  refine n_newi C0 1 (ty := .byte) rfl rfl (fun U cA h => h) w1_120 (N := q) rfl (nI_pos (by omega)) (cl (by omega)) (by show q * 1 ≤ _; omega) (Nat.le_refl _) (by show 0 + q ≤ q; omega) dJ7_copyOf_9075b_15 (fun r => ?_)
  refine q_astore_n C0 (kk := 2) (lv2 := [(2, .ref r), (0, .ref v), (1, .int (nI q))]) (by decide) rfl dJ7_copyOf_9075b_17 ?_
  refine q_aload_n C0 (kk := 0) 1 rfl dJ7_copyOf_9075b_18 ?_
  refine q_iconst C0 (v := 0) dJ7_copyOf_9075b_19 rfl ?_
  refine q_aload_n C0 (kk := 2) 0 rfl dJ7_copyOf_9075b_20 ?_
  refine q_iconst C0 (v := 0) dJ7_copyOf_9075b_21 rfl ?_
  refine q_aload_n C0 (kk := 0) 1 rfl dJ7_copyOf_9075b_22 ?_
  refine q_blen C0 0 rfl dJ7_copyOf_9075b_23 ?_
  refine q_iload_n C0 (kk := 1) 2 rfl dJ7_copyOf_9075b_24 ?_
  refine q_min C0 w2_203 w2_39 w1_6 w2_40 (Nat.le_of_ble_eq_true rfl) (Nat.le_of_ble_eq_true rfl) (by show 0 + 1 ≤ 1; omega) (by show 0 + q ≤ q; omega) dJ7_copyOf_9075b_25 ?_
  rw [show ((imin (nI z) (nI q)) : Int32) = nI z from if_neg (nI_nlt (by omega) (by omega))]
  refine q_copyb C0 w2_204 0 1 (sp := 0) (dp := 0) (n := z) rfl rfl (by decide) (by decide) (by omega) (by omega) (by omega) hf (Nat.le_of_ble_eq_true rfl) (Nat.le_of_ble_eq_true rfl) dJ7_copyOf_9075b_28 ?_
  refine q_aload_n C0 (kk := 2) 0 rfl dJ7_copyOf_9075b_31 ?_
  refine WN.widen (k := 1) (n := q) (by omega) (by omega) ?_
  exact hend rfl dJ7_copyOf_9075b_32
