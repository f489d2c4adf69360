/-! strings: made of a builder; read byte by byte; those of the world as texts -/
section MX
variable {p : Program} {l : Launch} {e : Env} {R : Room} {s : State} {m : MethodId} {args : Array Value} {below : List Frame} {meth : Method} {c : Code} {cells slots : Nat} {Q : State → Prop}
variable {cc : ByteArray} {nL : Nat} {own : String} {D : va_G} {g : xG} {A : Nat → Prop} {pc : Nat} {lv : List (Nat × Value)} {st : List Value} {ws w0 wr : va_W} {o : Option xS} {mc ms : Nat}
theorem q_new (C0 : NC p s m args c cc nL own D g A) {i1 ci N : Nat} {raw : List Value} {C : String} {T : u_T} (hin : ∀ w ∈ u_ws C T N, w ∈ xA) (ty : Nat → FieldType) (hty : ∀ k, k < N → parseFieldDescriptor (T k).2.2.1 = some (ty k)) (hc : xCl[ci]? = some (C, T, N)) (hfs : ∀ j, j < N → defaultValue (ty j) = vp_V raw j) (wc : Cond.classLink own i1 C ∈ xA) (wi : Cond.instantiable C N ∈ xA) (wz : Cond.initialized C ∈ xA) (hfc : cells + 1 ≤ R.cells) (hfs2 : slots + N ≤ R.slots) (d0 : decode cc pc = .ok (.new i1, 3))
    (k : ∀ q, WN p l e R s m args below meth c (cells + 1) (slots + N) Q nL D A (pc + 3) lv (.ref q :: st) (ws ++ [(q, .inr (ci, raw))])) : WN p l e R s m args below meth c cells slots Q nL D A pc lv st ws := fun H locs ls h1 h2 h3 h4 =>
  va_new C0.1 C0.2.1 C0.2.2.2.2.1 hin ty hty C0.2.2.2.1 (C0.2.2.2.2.1 _ wc) (C0.2.2.2.2.1 _ wi) (C0.2.2.2.2.1 _ wz) C0.2.2.2.2.2.1 h1 h2 h3 C0.2.2.2.2.2.2.2.1 hc hfs hfc hfs2 d0 (fun q H1 hP hD hS => k q H1 locs ls hP hD hS h4)
theorem q_clone (C0 : NC p s m args c cc nL own D g A) {i1 i2 : Nat} (w1 : Cond.methodLink own i1 ⟨"[B", "clone", "()Ljava/lang/Object;"⟩ ∈ xA) (w2 : Cond.classLink own i2 "[B" ∈ xA) (q0 : Nat) {a n : Nat} {f : Nat → Int32} (he : ws[q0]? = some (a, .inl (g.2.1 1, n, .inl f))) (hf : sb_Fit f) (hfr : 1 ≤ R.frames) (hlo : (st.map fun v => v.category).sum + 14 ≤ R.locals) (hfc : cells + 1 ≤ R.cells) (hfs : slots + n ≤ R.slots) (d1 : decode cc pc = .ok (.invokevirtual i1, 3)) (d2 : decode cc (pc + 3) = .ok (.checkcast i2, 3))
    (k : ∀ q, WN p l e R s m args below meth c (cells + 1) (slots + n) Q nL D A (pc + 6) lv (.ref q :: st) (ws ++ [(q, .inl (g.2.1 1, n, .inl f))])) : WN p l e R s m args below meth c cells slots Q nL D A pc lv (.ref a :: st) ws := fun H locs ls h1 h2 h3 h4 => by
  have hnm : s.vm.findClass "[B" = some (g.2.1 1) := (C0.2.2.2.2.2.1.2 1 (g.2.1 1, .byte) rfl).2
  refine va_clone (x := (n, .inl f)) (ty := .byte) C0.1 C0.2.1 (C0.2.2.1.trans h4.1.symm) C0.2.2.2.1 (C0.2.2.2.2.1 _ w1) (C0.2.2.2.2.1 _ w2_197) (C0.2.2.2.2.1 _ w2_198) (C0.2.2.2.2.1 _ w2_199) (C0.2.2.2.2.1 _ w2_200) (C0.2.2.2.2.2.2.2.2.1 _ (List.mem_of_getElem? (i := 1) rfl)) C0.2.2.2.2.2.1 h1 h2 h3 C0.2.2.2.2.2.2.2.1 q0 1 he rfl hnm (fun i v hv => ?_) hfr hlo hfc hfs d1 (fun q H1 _ hP hD hS => ?_)
  · rw [vp_cell_i] at hv
    have hlt : i < n := by
      have := (Array.getElem?_eq_some_iff.mp hv).1
      rw [arrV_size] at this
      exact this
    rw [arrV_read _ _ hlt] at hv
    cases hv
    exact hf i
  · refine va_castA C0.1 C0.2.1 C0.2.2.2.1 (C0.2.2.2.2.1 _ w2) hP ws.length (x := (n, .inl f)) (by simp) hnm d2 ?_
    exact k q H1 locs ls hP hD hS h4
theorem m_callOi (C0 : NC p s m args c cc nL own D g A) {x y : MethodName} {bytes b0 : ByteArray} {maxL m0 idx n : Nat} {rm : Room} {As rest stk : List Value} {C owner : String} {a : Nat} {ret : FieldType} {r : Int32} {Wq : va_W → Prop} (hM : mI l D g y bytes maxL ret rm (.ref a :: As) w0 o mc ms r Wq) (hp : ws.Perm (w0 ++ wr)) (ho : oG s A D w0 wr o) (w1 : Cond.methodLink own idx x ∈ xA) (w6 : Cond.sameMethod x.cls owner x.name x.desc ∈ xA) (w7 : Cond.instanceMethod ⟨owner, x.name, x.desc⟩ ∈ xA) (w3 : Cond.selects C x y ∈ xA) (w2 : Cond.instanceMethod y ∈ xA) (w4 : Cond.initialized y.cls ∈ xA) (w5 : Cond.code y bytes maxL (some ret) ∈ xA) (w8 : Cond.code ⟨owner, x.name, x.desc⟩ b0 m0 (some ret) ∈ xA) (hdd : owner ≠ "java/lang/invoke/MethodHandle" ∧ owner ≠ "java/lang/invoke/VarHandle" ∧ (parseMethodDescriptor x.desc).map (fun d => d.parameters.length) = some n) (hn : As.length = n) (hrm : rm.cells = mc ∧ rm.slots = ms) (hR : rm.frames + 1 ≤ R.frames ∧ 8 + (maxL + 11) + rm.locals ≤ R.locals) (hfc : cells + mc ≤ R.cells) (hfs : slots + ms ≤ R.slots) (hrec : rG s A D (w0 ++ wr) C a) (hst : stk = As.reverse ++ .ref a :: rest) (hcat : (rest.map fun v => v.category).sum ≤ 8) (hd : decode cc pc = .ok (.invokevirtual idx, 3)) (k : ∀ w1, Wq w1 → WN p l e R s m args below meth c (cells + mc) (slots + ms) Q nL D A (pc + 3) lv (.int r :: rest) (w1 ++ wr)) : WN p l e R s m args below meth c cells slots Q nL D A pc lv stk ws := by
  refine WN.perm hp ?_
  intro H locs ls h1 h2 h3 h4
  subst hst
  exact m_fi C0 h1 h2 h3 h4 (va_runU (As := As) (rest := rest) ⟨C0.1, C0.2.1, C0.2.2.1, C0.2.2.2.1, C0.2.2.2.2.1⟩ (hM (m_nd h2) H.size) (va_cwO n C0.2.2.2.2.1 (x_good [.methodLink own idx x, .sameMethod x.cls owner x.name x.desc, .instanceMethod ⟨owner, x.name, x.desc⟩, .selects C x y, .instanceMethod y, .initialized y.cls] (by simp only [List.mem_cons, List.not_mem_nil, or_false]; rintro w (rfl | rfl | rfl | rfl | rfl | rfl) <;> assumption) w5) rfl hrm.1 hrm.2 w8 hdd hR) ⟨m_blind, hrec H _ h1 h3, fun U hU hW => ⟨rfl, m_pre C0 h1 h2 h3 ho hU hW⟩⟩ rfl hn h4.1 rfl (lv_room hcat) hd ⟨hfc, hfs⟩) k
/-- a string of the world is a text for whom it is not handed to -/
theorem oG_w (C0 : NC p s m args c cc nL own D g A) {x y n : Nat} {f : Nat → Int32} {v2 v3 : Value} (hx : (x, (.inr (6, [.ref y, .int 0, v2, v3]) : va_E)) ∈ wr) (hy : (y, (.inl (g.2.1 1, n, .inl f) : va_E)) ∈ wr) (hn : n < 2147483648) : oG s A D w0 wr (some (x, y, n, f)) := by
  intro H locs U h1 h2 h3 hF hU hW q hq
  cases hq
  have hne := fr_ne h1 h2
  have hP := P_iff.mp (P_app.mp h1).2
  obtain ⟨r, hr1, cell, q1, q2, q3, q4⟩ := hP _ hx
  have hr : r = (RJ0, TJ0, 4) := Option.some.inj (hr1.symm.trans rfl)
  subst hr
  have hK := C0.2.2.2.2.2.1
  obtain ⟨hS, hfc, kC, hkC, hkind⟩ := hK.1 6 (RJ0, TJ0, 4) rfl
  have fld : ∀ (k : Nat) (hk : k < 4) (v : Value), ([.ref y, .int 0, v2, v3] : List Value)[k]? = some v → va_OF (TJ0 k).1 (TJ0 k).2.1 (TJ0 k).2.2.1 v x (va_A w0 H.size) s H := by
    intro k hk v hv
    obtain ⟨cf, kf, fi, fd, hi, hsl⟩ := hS k hk
    refine ⟨cf, kf, fi, fd, cell, hi, (u_facts hfc hkC (u_lays C0.2.2.2.2.1 x_lays6 hk) hi).1, q1, (by rw [q3]; exact fun h => (by cases h)), ?_, (hne _ hx).2⟩
    rw [hsl, q4 k hk]
    simp [vp_V, hv]
  have hyc : H[y]? = some (arrV (g.2.1 1) n (fun j => .int (f j))) := hP _ hy
  have key : sF (x, y, n, f) (va_A w0 H.size) s H := by
    refine ⟨⟨cell, q1, by rw [q3]; rfl, by rw [q2]; exact hfc, (hne _ hx).2⟩, fld 1 (by decide) _ rfl, fld 0 (by decide) _ rfl, _, hyc, (hK.2 1 (g.2.1 1, .byte) rfl).1 n (fun j => .int (f j)), (fun h => by cases h), ?_, ?_, fun j hj => arrV_read _ _ hj, (hne _ hy).2⟩
    · rw [arrV_size]
      exact Nat.le_refl _
    · rw [arrV_size]
  exact sF.to (s := s) (t := U) hW.alike (fun _ _ _ => rfl) (fun _ h => h) key
end MX
theorem dJ7_copyOfRangeByte_39247_0 : decode cJ7_copyOfRangeByte_39247 0 = .ok (.iload_n 1, 1) := by decide +kernel
theorem dJ7_copyOfRangeByte_39247_1 : decode cJ7_copyOfRangeByte_39247 1 = .ok (.iload_n 2, 1) := by decide +kernel
theorem dJ7_copyOfRangeByte_39247_2 : decode cJ7_copyOfRangeByte_39247 2 = .ok (.invokestatic 343, 3) := by decide +kernel
theorem dJ7_copyOfRangeByte_39247_5 : decode cJ7_copyOfRangeByte_39247 5 = .ok (.iload_n 2, 1) := by decide +kernel
theorem dJ7_copyOfRangeByte_39247_6 : decode cJ7_copyOfRangeByte_39247 6 = .ok (.iload_n 1, 1) := by decide +kernel
theorem dJ7_copyOfRangeByte_39247_7 : decode cJ7_copyOfRangeByte_39247 7 = .ok (.isub, 1) := by decide +kernel
theorem dJ7_copyOfRangeByte_39247_8 : decode cJ7_copyOfRangeByte_39247 8 = .ok (.istore_n 3, 1) := by decide +kernel
theorem dJ7_copyOfRangeByte_39247_9 : decode cJ7_copyOfRangeByte_39247 9 = .ok (.iload_n 3, 1) := by decide +kernel
theorem dJ7_copyOfRangeByte_39247_10 : decode cJ7_copyOfRangeByte_39247 10 = .ok (.newarray .byte, 2) := by decide +kernel
theorem dJ7_copyOfRangeByte_39247_12 : decode cJ7_copyOfRangeByte_39247 12 = .ok (.astore 4, 2) := by decide +kernel
theorem dJ7_copyOfRangeByte_39247_14 : decode cJ7_copyOfRangeByte_39247 14 = .ok (.aload_n 0, 1) := by decide +kernel
theorem dJ7_copyOfRangeByte_39247_15 : decode cJ7_copyOfRangeByte_39247 15 = .ok (.iload_n 1, 1) := by decide +kernel
theorem dJ7_copyOfRangeByte_39247_16 : decode cJ7_copyOfRangeByte_39247 16 = .ok (.aload 4, 2) := by decide +kernel
theorem dJ7_copyOfRangeByte_39247_18 : decode cJ7_copyOfRangeByte_39247 18 = .ok (.iconst 0, 1) := by decide +kernel
theorem dJ7_copyOfRangeByte_39247_19 : decode cJ7_copyOfRangeByte_39247 19 = .ok (.aload_n 0, 1) := by decide +kernel
theorem dJ7_copyOfRangeByte_39247_20 : decode cJ7_copyOfRangeByte_39247 20 = .ok (.arraylength, 1) := by decide +kernel
theorem dJ7_copyOfRangeByte_39247_21 : decode cJ7_copyOfRangeByte_39247 21 = .ok (.iload_n 1, 1) := by decide +kernel
theorem dJ7_copyOfRangeByte_39247_22 : decode cJ7_copyOfRangeByte_39247 22 = .ok (.isub, 1) := by decide +kernel
theorem dJ7_copyOfRangeByte_39247_23 : decode cJ7_copyOfRangeByte_39247 23 = .ok (.iload_n 3, 1) := by decide +kernel
theorem dJ7_copyOfRangeByte_39247_24 : decode cJ7_copyOfRangeByte_39247 24 = .ok (.invokestatic 304, 3) := by decide +kernel
theorem dJ7_copyOfRangeByte_39247_27 : decode cJ7_copyOfRangeByte_39247 27 = .ok (.invokestatic 150, 3) := by decide +kernel
theorem dJ7_copyOfRangeByte_39247_30 : decode cJ7_copyOfRangeByte_39247 30 = .ok (.aload 4, 2) := by decide +kernel
theorem dJ7_copyOfRangeByte_39247_32 : decode cJ7_copyOfRangeByte_39247 32 = .ok (.areturn, 1) := by decide +kernel
theorem hdJ7_copyOfRangeByte_39247 : yJ7_copyOfRangeByte_39247.cls ≠ "java/lang/invoke/MethodHandle" ∧ yJ7_copyOfRangeByte_39247.cls ≠ "java/lang/invoke/VarHandle" ∧ (parseMethodDescriptor yJ7_copyOfRangeByte_39247.desc).map (fun d => d.parameters.length) = some 3 := by decide +kernel
theorem mJ7_copyOfRangeByte_39247 (l : Launch) (D : va_G) (g : xG) {v n z : Nat} {a : Nat → Int32} (hn : n ≤ z) (hz : z ≤ 256) (hf : sb_Fit a) : mR l D g yJ7_copyOfRangeByte_39247 cJ7_copyOfRangeByte_39247 5 (.array .byte) ({ frames := 1, cells := 1, slots := 256, locals := 60 } : Room) [.ref v, .int 0, .int (nI n)] [(v, .inl (g.2.1 1, z, .inl a))] none 1 256 (fun r w => ∃ b, w = [(v, .inl (g.2.1 1, z, .inl a)), (r, .inl (g.2.1 1, n, .inl b))] ∧ sb_Fit b ∧ ∀ j, j < n → b j = a j) := by
  refine m_startR (Or.inr ⟨_, rfl⟩) (own := RJ7) (by decide +kernel) rfl rfl (Nat.le_of_ble_eq_true rfl) ?_
  intro p e s m args below meth c A Q C0 hE hend
  refine q_iload_n C0 (kk := 1) 1 rfl dJ7_copyOfRangeByte_39247_0 ?_
  refine q_iload_n C0 (kk := 2) 2 rfl dJ7_copyOfRangeByte_39247_1 ?_
  refine m_tabSv C0 (As := [.int 0, .int (nI n)]) (rest := []) (c_J7_checkLength_df160 l D g [] T_nil (M := fun _ => 0) (if_pos (nI_pos' (by omega)))) w3_101 w3_102 w1_7 w3_103 hd_J7_checkLength_df160 rfl ⟨rfl, rfl⟩ ⟨Nat.le_of_ble_eq_true rfl, Nat.le_of_ble_eq_true rfl⟩ (Nat.le_of_ble_eq_true rfl) (Nat.le_of_ble_eq_true rfl) rfl (Nat.le_of_ble_eq_true rfl) dJ7_copyOfRangeByte_39247_2 ?_
  refine q_iload_n C0 (kk := 2) 2 rfl dJ7_copyOfRangeByte_39247_5 ?_
  refine q_iload_n C0 (kk := 1) 1 rfl dJ7_copyOfRangeByte_39247_6 ?_
  refine q_isub C0 dJ7_copyOfRangeByte_39247_7 ?_
  rw [show (((nI n) - 0) : Int32) = nI n from pk_sub (b := 0) (Nat.zero_le _)]
  refine q_istore_n C0 (kk := 3) (lv2 := [(3, .int (nI n)), (0, .ref v), (1, .int 0), (2, .int (nI n))]) (by decide) rfl dJ7_copyOfRangeByte_39247_8 ?_
  refine q_iload_n C0 (kk := 3) 0 rfl dJ7_copyOfRangeByte_39247_9 ?_
  refine n_newi C0 1 (ty := .byte) rfl rfl (fun U cA h => h) w1_120 (N := n) rfl (nI_pos (by omega)) (cl (by omega)) (by show n * 1 ≤ _; omega) (Nat.le_refl _) (by show 0 + n ≤ 256; omega) dJ7_copyOfRangeByte_39247_10 (fun r => ?_)
  refine q_astore C0 (lv2 := [(4, .ref r), (3, .int (nI n)), (0, .ref v), (1, .int 0), (2, .int (nI n))]) (by decide) rfl dJ7_copyOfRangeByte_39247_12 ?_
  refine q_aload_n C0 (kk := 0) 2 rfl dJ7_copyOfRangeByte_39247_14 ?_
  refine q_iload_n C0 (kk := 1) 3 rfl dJ7_copyOfRangeByte_39247_15 ?_
  refine q_aload C0 0 rfl dJ7_copyOfRangeByte_39247_16 ?_
  refine q_iconst C0 (v := 0) dJ7_copyOfRangeByte_39247_18 rfl ?_
  refine q_aload_n C0 (kk := 0) 2 rfl dJ7_copyOfRangeByte_39247_19 ?_
  refine q_blen C0 0 rfl dJ7_copyOfRangeByte_39247_20 ?_
  refine q_iload_n C0 (kk := 1) 3 rfl dJ7_copyOfRangeByte_39247_21 ?_
  refine q_isub C0 dJ7_copyOfRangeByte_39247_22 ?_
  rw [show (((nI z) - 0) : Int32) = nI z from pk_sub (b := 0) (Nat.zero_le _)]
  refine q_iload_n C0 (kk := 3) 1 rfl dJ7_copyOfRangeByte_39247_23 ?_
  refine q_min C0 w2_203 w2_39 w1_6 w2_40 (Nat.le_of_ble_eq_true rfl) (Nat.le_of_ble_eq_true rfl) (by show 0 + 1 ≤ 1; omega) (by show 0 + n ≤ 256; omega) dJ7_copyOfRangeByte_39247_24 ?_
  have e1 : imin (nI z) (nI n) = nI n := by
    unfold imin
    by_cases hh : n < z
    · exact if_pos (nI_lt hh (by omega))
    · rw [if_neg (nI_nlt (by omega) (by omega)), show z = n by omega]
  rw [e1]
  refine q_copyb C0 w2_204 0 1 (sp := 0) (dp := 0) (n := n) rfl rfl (by decide) (by decide) (by omega) (by omega) (by omega) hf (Nat.le_of_ble_eq_true rfl) (Nat.le_of_ble_eq_true rfl) dJ7_copyOfRangeByte_39247_27 ?_
  refine q_aload C0 0 rfl dJ7_copyOfRangeByte_39247_30 ?_
  refine WN.widen (k := 1) (n := 256) (by omega) (by omega) ?_
  exact hend ⟨_, rfl, sb_fitC hf sb_fit0, fun j hj => sb_cpy0 hj⟩ dJ7_copyOfRangeByte_39247_32

theorem dJ7_copyOfRange_39247_0 : decode cJ7_copyOfRange_39247 0 = .ok (.iload_n 1, 1) := by decide +kernel
theorem dJ7_copyOfRange_39247_1 : decode cJ7_copyOfRange_39247 1 = .ok (.ifCond .ne 9, 3) := by decide +kernel
theorem dJ7_copyOfRange_39247_4 : decode cJ7_copyOfRange_39247 4 = .ok (.iload_n 2, 1) := by decide +kernel
theorem dJ7_copyOfRange_39247_5 : decode cJ7_copyOfRange_39247 5 = .ok (.aload_n 0, 1) := by decide +kernel
theorem dJ7_copyOfRange_39247_6 : decode cJ7_copyOfRange_39247 6 = .ok (.arraylength, 1) := by decide +kernel
theorem dJ7_copyOfRange_39247_7 : decode cJ7_copyOfRange_39247 7 = .ok (.if_icmp .eq 10, 3) := by decide +kernel
theorem dJ7_copyOfRange_39247_10 : decode cJ7_copyOfRange_39247 10 = .ok (.aload_n 0, 1) := by decide +kernel
theorem dJ7_copyOfRange_39247_11 : decode cJ7_copyOfRange_39247 11 = .ok (.iload_n 1, 1) := by decide +kernel
theorem dJ7_copyOfRange_39247_12 : decode cJ7_copyOfRange_39247 12 = .ok (.iload_n 2, 1) := by decide +kernel
theorem dJ7_copyOfRange_39247_13 : decode cJ7_copyOfRange_39247 13 = .ok (.invokestatic 339, 3) := by decide +kernel
theorem dJ7_copyOfRange_39247_16 : decode cJ7_copyOfRange_39247 16 = .ok (.areturn, 1) := by decide +kernel
theorem dJ7_copyOfRange_39247_17 : decode cJ7_copyOfRange_39247 17 = .ok (.aload_n 0, 1) := by decide +kernel
theorem dJ7_copyOfRange_39247_18 : decode cJ7_copyOfRange_39247 18 = .ok (.invokevirtual 310, 3) := by decide +kernel
theorem dJ7_copyOfRange_39247_21 : decode cJ7_copyOfRange_39247 21 = .ok (.checkcast 311, 3) := by decide +kernel
theorem dJ7_copyOfRange_39247_24 : decode cJ7_copyOfRange_39247 24 = .ok (.areturn, 1) := by decide +kernel
theorem hdJ7_copyOfRange_39247 : yJ7_copyOfRange_39247.cls ≠ "java/lang/invoke/MethodHandle" ∧ yJ7_copyOfRange_39247.cls ≠ "java/lang/invoke/VarHandle" ∧ (parseMethodDescriptor yJ7_copyOfRange_39247.desc).map (fun d => d.parameters.length) = some 3 := by decide +kernel
theorem mJ7_copyOfRange_39247 (l : Launch) (D : va_G) (g : xG) {v n z : Nat} {a : Nat → Int32} (hn : n ≤ z) (hz : z ≤ 256) (hf : sb_Fit a) : mR l D g yJ7_copyOfRange_39247 cJ7_copyOfRange_39247 3 (.array .byte) ({ frames := 2, cells := 1, slots := 256, locals := 84 } : Room) [.ref v, .int 0, .int (nI n)] [(v, .inl (g.2.1 1, z, .inl a))] none 1 256 (fun r w => ∃ b, w = [(v, .inl (g.2.1 1, z, .inl a)), (r, .inl (g.2.1 1, n, .inl b))] ∧ sb_Fit b ∧ ∀ j, j < n → b j = a j) := by
  refine m_startR (Or.inr ⟨_, rfl⟩) (own := RJ7) (by decide +kernel) rfl rfl (Nat.le_of_ble_eq_true rfl) ?_
  intro p e s m args below meth c A Q C0 hE hend
  refine q_iload_n C0 (kk := 1) 1 rfl dJ7_copyOfRange_39247_0 ?_
  refine q_if_ne C0 (tgt := 10) (by decide) dJ7_copyOfRange_39247_1 (fun h => absurd rfl h) (fun _ => ?_)
  refine q_iload_n C0 (kk := 2) 2 rfl dJ7_copyOfRange_39247_4 ?_
  refine q_aload_n C0 (kk := 0) 0 rfl dJ7_copyOfRange_39247_5 ?_
  refine q_blen C0 0 rfl dJ7_copyOfRange_39247_6 ?_
  refine q_icmp_eq C0 (tgt := 17) (by decide) dJ7_copyOfRange_39247_7 (fun he => ?_) (fun _ => ?_)
  · have he2 : n = z := (nI_eq (by omega) (by omega)).mp he
    subst he2
    refine q_aload_n C0 (kk := 0) 0 rfl dJ7_copyOfRange_39247_17 ?_
    refine q_clone C0 w2_196 w2_202 0 rfl hf (Nat.le_of_ble_eq_true rfl) (Nat.le_of_ble_eq_true rfl) (by show 0 + 1 ≤ 1; omega) (by show 0 + n ≤ 256; omega) dJ7_copyOfRange_39247_18 dJ7_copyOfRange_39247_21 (fun r => ?_)
    refine WN.widen (k := 1) (n := 256) (by omega) (by omega) ?_
    exact hend ⟨a, rfl, hf, fun _ _ => rfl⟩ dJ7_copyOfRange_39247_24
  · refine q_aload_n C0 (kk := 0) 0 rfl dJ7_copyOfRange_39247_10 ?_
    refine q_iload_n C0 (kk := 1) 1 rfl dJ7_copyOfRange_39247_11 ?_
    refine q_iload_n C0 (kk := 2) 2 rfl dJ7_copyOfRange_39247_12 ?_
    refine m_callSr C0 (w0 := [(v, .inl (g.2.1 1, z, .inl a))]) (wr := []) (As := [.ref v, .int 0, .int (nI n)]) (rest := []) (mJ7_copyOfRangeByte_39247 l D g hn hz hf) (List.Perm.refl _) oG_none w3_98 w3_99 w3_100 w1_7 hdJ7_copyOfRangeByte_39247 rfl ⟨rfl, rfl⟩ ⟨Nat.le_of_ble_eq_true rfl, Nat.le_of_ble_eq_true rfl⟩ (Nat.le_of_ble_eq_true rfl) (Nat.le_of_ble_eq_true rfl) rfl (Nat.le_of_ble_eq_true rfl) dJ7_copyOfRange_39247_13 ?_
    rintro r w1 ⟨b, rfl, g1, g2⟩
    exact hend ⟨b, rfl, g1, g2⟩ dJ7_copyOfRange_39247_16

theorem dJ0_init_db425_0 : decode cJ0_init_db425 0 = .ok (.aload_n 0, 1) := by decide +kernel
theorem dJ0_init_db425_1 : decode cJ0_init_db425 1 = .ok (.invokespecial 1, 3) := by decide +kernel
theorem dJ0_init_db425_4 : decode cJ0_init_db425 4 = .ok (.aload_n 1, 1) := by decide +kernel
theorem dJ0_init_db425_5 : decode cJ0_init_db425 5 = .ok (.invokevirtual 552, 3) := by decide +kernel
theorem dJ0_init_db425_8 : decode cJ0_init_db425 8 = .ok (.astore_n 3, 1) := by decide +kernel
theorem dJ0_init_db425_9 : decode cJ0_init_db425 9 = .ok (.aload_n 1, 1) := by decide +kernel
theorem dJ0_init_db425_10 : decode cJ0_init_db425 10 = .ok (.invokevirtual 549, 3) := by decide +kernel
theorem dJ0_init_db425_13 : decode cJ0_init_db425 13 = .ok (.istore 4, 2) := by decide +kernel
theorem dJ0_init_db425_15 : decode cJ0_init_db425 15 = .ok (.aload_n 1, 1) := by decide +kernel
theorem dJ0_init_db425_16 : decode cJ0_init_db425 16 = .ok (.invokevirtual 1047, 3) := by decide +kernel
theorem dJ0_init_db425_19 : decode cJ0_init_db425 19 = .ok (.ifCond .eq 22, 3) := by decide +kernel
theorem dJ0_init_db425_22 : decode cJ0_init_db425 22 = .ok (.aload_n 0, 1) := by decide +kernel
theorem dJ0_init_db425_23 : decode cJ0_init_db425 23 = .ok (.iconst 0, 1) := by decide +kernel
theorem dJ0_init_db425_24 : decode cJ0_init_db425 24 = .ok (.putfield 15, 3) := by decide +kernel
theorem dJ0_init_db425_27 : decode cJ0_init_db425 27 = .ok (.aload_n 0, 1) := by decide +kernel
theorem dJ0_init_db425_28 : decode cJ0_init_db425 28 = .ok (.aload_n 3, 1) := by decide +kernel
theorem dJ0_init_db425_29 : decode cJ0_init_db425 29 = .ok (.iconst 0, 1) := by decide +kernel
theorem dJ0_init_db425_30 : decode cJ0_init_db425 30 = .ok (.iload 4, 2) := by decide +kernel
theorem dJ0_init_db425_32 : decode cJ0_init_db425 32 = .ok (.invokestatic 54, 3) := by decide +kernel
theorem dJ0_init_db425_35 : decode cJ0_init_db425 35 = .ok (.putfield 9, 3) := by decide +kernel
theorem dJ0_init_db425_38 : decode cJ0_init_db425 38 = .ok (.goto 59, 3) := by decide +kernel
theorem dJ0_init_db425_97 : decode cJ0_init_db425 97 = .ok (.return_, 1) := by decide +kernel
theorem hdJ0_init_db425 : yJ0_init_db425.cls ≠ "java/lang/invoke/MethodHandle" ∧ yJ0_init_db425.cls ≠ "java/lang/invoke/VarHandle" ∧ (parseMethodDescriptor yJ0_init_db425.desc).map (fun d => d.parameters.length) = some 2 := by decide +kernel
theorem mJ0_init_db425 (l : Launch) (D : va_G) (g : xG) {r h v n z : Nat} {a : Nat → Int32} (hn : n ≤ z) (hz : z ≤ 256) (hf : sb_Fit a) : mV l D g yJ0_init_db425 cJ0_init_db425 5 ({ frames := 3, cells := 1, slots := 256, locals := 106 } : Room) [.ref r, .ref h, .null] [(r, .inr (6, [.null, .int 0, .int 0, .int 0])), (h, .inr (5, sbF v n)), (v, .inl (g.2.1 1, z, .inl a))] none 1 256 (fun w => ∃ y b, w = [(r, .inr (6, [.ref y, .int 0, .int 0, .int 0])), (y, .inl (g.2.1 1, n, .inl b)), (h, .inr (5, sbF v n)), (v, .inl (g.2.1 1, z, .inl a))] ∧ sb_Fit b ∧ ∀ j, j < n → b j = a j) := by
  refine m_startV (own := RJ0) (by decide +kernel) rfl rfl (Nat.le_of_ble_eq_true rfl) ?_
  intro p e s m args below meth c A Q C0 hE hmn hend
  refine q_aload_n C0 (kk := 0) 0 rfl dJ0_init_db425_0 ?_
  refine n_obj C0 w3_80 w1_77 w1_78 (Nat.le_of_ble_eq_true rfl) (Nat.le_of_ble_eq_true rfl) dJ0_init_db425_1 ?_
  refine q_aload_n C0 (kk := 1) 1 rfl dJ0_init_db425_4 ?_
  refine m_callVr C0 (w0 := [(h, .inr (5, sbF v n))]) (wr := [(r, .inr (6, [.null, .int 0, .int 0, .int 0])), (v, .inl (g.2.1 1, z, .inl a))]) (As := []) (rest := []) (mJ5_getValue_6d5f1 l D g h v n) (List.Perm.swap _ _ _) (oG_none) w3_81 w3_82 w3_84 w3_85 w1_1 hdJ5_getValue_6d5f1 rfl ⟨rfl, rfl⟩ ⟨Nat.le_of_ble_eq_true rfl, Nat.le_of_ble_eq_true rfl⟩ (Nat.le_of_ble_eq_true rfl) (Nat.le_of_ble_eq_true rfl) (rG_w C0 (q := (RJ4, TJ4, 4)) 0 rfl rfl) rfl (Nat.le_of_ble_eq_true rfl) dJ0_init_db425_5 ?_
  rintro rr w1 ⟨err, rfl⟩
  rw [err]
  refine q_astore_n C0 (kk := 3) (lv2 := [(3, .ref v), (0, .ref r), (1, .ref h), (2, .null)]) (by decide) rfl dJ0_init_db425_8 ?_
  refine q_aload_n C0 (kk := 1) 2 rfl dJ0_init_db425_9 ?_
  refine m_callOi C0 (w0 := [(h, .inr (5, sbF v n))]) (wr := [(r, .inr (6, [.null, .int 0, .int 0, .int 0])), (v, .inl (g.2.1 1, z, .inl a))]) (As := []) (rest := []) (mJ4_length_8abf5 l D g h v n) (List.Perm.refl _) oG_none w3_86 w3_88 w3_87 w3_89 w3_90 w1_2 w3_91 w3_93 ⟨by decide +kernel, by decide +kernel, hdJ5_length_8abf5.2.2⟩ rfl ⟨rfl, rfl⟩ ⟨Nat.le_of_ble_eq_true rfl, Nat.le_of_ble_eq_true rfl⟩ (Nat.le_of_ble_eq_true rfl) (Nat.le_of_ble_eq_true rfl) (rG_w C0 (q := (RJ4, TJ4, 4)) 0 rfl rfl) rfl (Nat.le_of_ble_eq_true rfl) dJ0_init_db425_10 ?_
  rintro w1 rfl
  refine q_istore C0 (lv2 := [(4, .int (nI n)), (3, .ref v), (0, .ref r), (1, .ref h), (2, .null)]) (by decide) rfl dJ0_init_db425_13 ?_
  refine q_aload_n C0 (kk := 1) 3 rfl dJ0_init_db425_15 ?_
  refine m_callVi C0 (w0 := [(h, .inr (5, sbF v n))]) (wr := [(r, .inr (6, [.null, .int 0, .int 0, .int 0])), (v, .inl (g.2.1 1, z, .inl a))]) (As := []) (rest := []) (mJ5_isLatin1_aae02 l D g h v n) (List.Perm.refl _) (oG_none) w3_94 w2_208 w2_210 w2_211 w1_1 hdJ5_isLatin1_aae02 rfl ⟨rfl, rfl⟩ ⟨Nat.le_of_ble_eq_true rfl, Nat.le_of_ble_eq_true rfl⟩ (Nat.le_of_ble_eq_true rfl) (Nat.le_of_ble_eq_true rfl) (rG_w C0 (q := (RJ4, TJ4, 4)) 0 rfl rfl) rfl (Nat.le_of_ble_eq_true rfl) dJ0_init_db425_16 ?_
  rintro w1 rfl
  refine q_if_eq C0 (tgt := 41) (by decide) dJ0_init_db425_19 (fun h => absurd h (by decide)) (fun _ => ?_)
  refine q_aload_n C0 (kk := 0) 2 rfl dJ0_init_db425_22 ?_
  refine q_iconst C0 (v := 0) dJ0_init_db425_23 rfl ?_
  refine n_putF C0 (q0 := 1) (ci := 6) (T := TJ0) (N := 4) (ref := RJ0) (fs := [.null, .int 0, .int 0, .int 0]) x_lays6 tyJ0 tyJ0_ok nmJ0 rfl rfl 1 (by decide) w3_118 rfl rfl hmn rfl rfl rfl (Nat.le_of_ble_eq_true rfl) dJ0_init_db425_24 ?_
  refine q_aload_n C0 (kk := 0) 2 rfl dJ0_init_db425_27 ?_
  refine q_aload_n C0 (kk := 3) 1 rfl dJ0_init_db425_28 ?_
  refine q_iconst C0 (v := 0) dJ0_init_db425_29 rfl ?_
  refine q_iload C0 0 rfl dJ0_init_db425_30 ?_
  refine m_callSr C0 (w0 := [(v, .inl (g.2.1 1, z, .inl a))]) (wr := [(h, .inr (5, sbF v n)), (r, .inr (6, [.null, .int 0, .int 0, .int 0]))]) (As := [.ref v, .int 0, .int (nI n)]) (rest := [.ref r]) (mJ7_copyOfRange_39247 l D g hn hz hf) ((List.Perm.cons _ (List.Perm.swap _ _ _)).trans (List.Perm.swap _ _ _)) oG_none w3_95 w3_96 w3_97 w1_7 hdJ7_copyOfRange_39247 rfl ⟨rfl, rfl⟩ ⟨Nat.le_of_ble_eq_true rfl, Nat.le_of_ble_eq_true rfl⟩ (Nat.le_of_ble_eq_true rfl) (Nat.le_of_ble_eq_true rfl) rfl (Nat.le_of_ble_eq_true rfl) dJ0_init_db425_32 ?_
  rintro y w1 ⟨b, rfl, g1, g2⟩
  refine n_putF C0 (q0 := 3) (ci := 6) (T := TJ0) (N := 4) (ref := RJ0) (fs := [.null, .int 0, .int 0, .int 0]) x_lays6 tyJ0 tyJ0_ok nmJ0 rfl rfl 0 (by decide) w3_117 rfl rfl hmn rfl rfl rfl (Nat.le_of_ble_eq_true rfl) dJ0_init_db425_35 ?_
  refine q_goto C0 (tgt := 97) (by decide) dJ0_init_db425_38 ?_
  refine WN.perm (ws2 := [(r, .inr (6, [.ref y, .int 0, .int 0, .int 0])), (y, .inl (g.2.1 1, n, .inl b)), (h, .inr (5, sbF v n)), (v, .inl (g.2.1 1, z, .inl a))]) ?_ ?_
  · exact (List.Perm.cons _ (List.Perm.cons _ (List.Perm.swap _ _ _))).trans ((List.Perm.cons _ (List.Perm.swap _ _ _)).trans ((List.Perm.swap _ _ _).trans (List.Perm.cons _ ((List.Perm.swap _ _ _).trans (List.Perm.cons _ (List.Perm.swap _ _ _))))))
  · exact hend ⟨y, b, rfl, g1, g2⟩ dJ0_init_db425_97

theorem dJ0_init_81219_0 : decode cJ0_init_81219 0 = .ok (.aload_n 0, 1) := by decide +kernel
theorem dJ0_init_81219_1 : decode cJ0_init_81219 1 = .ok (.aload_n 1, 1) := by decide +kernel
theorem dJ0_init_81219_2 : decode cJ0_init_81219 2 = .ok (.aconst_null, 1) := by decide +kernel
theorem dJ0_init_81219_3 : decode cJ0_init_81219 3 = .ok (.invokespecial 489, 3) := by decide +kernel
theorem dJ0_init_81219_6 : decode cJ0_init_81219 6 = .ok (.return_, 1) := by decide +kernel
theorem hdJ0_init_81219 : yJ0_init_81219.cls ≠ "java/lang/invoke/MethodHandle" ∧ yJ0_init_81219.cls ≠ "java/lang/invoke/VarHandle" ∧ (parseMethodDescriptor yJ0_init_81219.desc).map (fun d => d.parameters.length) = some 1 := by decide +kernel
theorem mJ0_init_81219 (l : Launch) (D : va_G) (g : xG) {r h v n z : Nat} {a : Nat → Int32} (hn : n ≤ z) (hz : z ≤ 256) (hf : sb_Fit a) : mV l D g yJ0_init_81219 cJ0_init_81219 2 ({ frames := 4, cells := 1, slots := 256, locals := 130 } : Room) [.ref r, .ref h] [(r, .inr (6, [.null, .int 0, .int 0, .int 0])), (h, .inr (5, sbF v n)), (v, .inl (g.2.1 1, z, .inl a))] none 1 256 (fun w => ∃ y b, w = [(r, .inr (6, [.ref y, .int 0, .int 0, .int 0])), (y, .inl (g.2.1 1, n, .inl b)), (h, .inr (5, sbF v n)), (v, .inl (g.2.1 1, z, .inl a))] ∧ sb_Fit b ∧ ∀ j, j < n → b j = a j) := by
  refine m_startV (own := RJ0) (by decide +kernel) rfl rfl (Nat.le_of_ble_eq_true rfl) ?_
  intro p e s m args below meth c A Q C0 hE hmn hend
  refine q_aload_n C0 (kk := 0) 0 rfl dJ0_init_81219_0 ?_
  refine q_aload_n C0 (kk := 1) 1 rfl dJ0_init_81219_1 ?_
  refine q_null C0 dJ0_init_81219_2 ?_
  refine m_callIv C0 (w0 := [(r, .inr (6, [.null, .int 0, .int 0, .int 0])), (h, .inr (5, sbF v n)), (v, .inl (g.2.1 1, z, .inl a))]) (wr := []) (As := [.ref h, .null]) (rest := []) (mJ0_init_db425 l D g hn hz hf) (List.Perm.refl _) oG_none w3_77 w3_78 w3_79 rfl w1_3 hdJ0_init_db425 rfl ⟨rfl, rfl⟩ ⟨Nat.le_of_ble_eq_true rfl, Nat.le_of_ble_eq_true rfl⟩ (Nat.le_of_ble_eq_true rfl) (Nat.le_of_ble_eq_true rfl) rfl (Nat.le_of_ble_eq_true rfl) dJ0_init_81219_3 ?_
  rintro w1 ⟨y, b, rfl, g1, g2⟩
  exact hend ⟨y, b, rfl, g1, g2⟩ dJ0_init_81219_6

theorem dJ4_toString_0e30d_0 : decode cJ4_toString_0e30d 0 = .ok (.new 18, 3) := by decide +kernel
theorem dJ4_toString_0e30d_3 : decode cJ4_toString_0e30d 3 = .ok (.dup, 1) := by decide +kernel
theorem dJ4_toString_0e30d_4 : decode cJ4_toString_0e30d 4 = .ok (.aload_n 0, 1) := by decide +kernel
theorem dJ4_toString_0e30d_5 : decode cJ4_toString_0e30d 5 = .ok (.invokespecial 137, 3) := by decide +kernel
theorem dJ4_toString_0e30d_8 : decode cJ4_toString_0e30d 8 = .ok (.areturn, 1) := by decide +kernel
theorem hdJ4_toString_0e30d : yJ4_toString_0e30d.cls ≠ "java/lang/invoke/MethodHandle" ∧ yJ4_toString_0e30d.cls ≠ "java/lang/invoke/VarHandle" ∧ (parseMethodDescriptor yJ4_toString_0e30d.desc).map (fun d => d.parameters.length) = some 0 := by decide +kernel
theorem mJ4_toString_0e30d (l : Launch) (D : va_G) (g : xG) {h v n z : Nat} {a : Nat → Int32} (hn : n ≤ z) (hz : z ≤ 256) (hf : sb_Fit a) : mR l D g yJ4_toString_0e30d cJ4_toString_0e30d 1 (.object "java/lang/String") ({ frames := 5, cells := 2, slots := 260, locals := 151 } : Room) [.ref h] [(h, .inr (5, sbF v n)), (v, .inl (g.2.1 1, z, .inl a))] none 2 260 (fun r w => ∃ y b, w = [(r, .inr (6, [.ref y, .int 0, .int 0, .int 0])), (y, .inl (g.2.1 1, n, .inl b)), (h, .inr (5, sbF v n)), (v, .inl (g.2.1 1, z, .inl a))] ∧ sb_Fit b ∧ ∀ j, j < n → b j = a j) := by
  refine m_startR (Or.inl ⟨_, rfl⟩) (own := RJ4) (by decide +kernel) rfl rfl (Nat.le_of_ble_eq_true rfl) ?_
  intro p e s m args below meth c A Q C0 hE hend
  refine q_new C0 x_lays6 tyJ0 tyJ0_ok (ci := 6) (raw := [.null, .int 0, .int 0, .int 0]) rfl (fun j hj => by rcases (show j = 0 ∨ j = 1 ∨ j = 2 ∨ j = 3 by omega) with rfl | rfl | rfl | rfl <;> rfl) w3_72 w3_73 w1_3 (Nat.le_of_ble_eq_true rfl) (Nat.le_of_ble_eq_true rfl) dJ4_toString_0e30d_0 (fun r => ?_)
  refine q_dup C0 rfl dJ4_toString_0e30d_3 ?_
  refine q_aload_n C0 (kk := 0) 0 rfl dJ4_toString_0e30d_4 ?_
  refine m_callIv C0 (w0 := [(r, .inr (6, [.null, .int 0, .int 0, .int 0])), (h, .inr (5, sbF v n)), (v, .inl (g.2.1 1, z, .inl a))]) (wr := []) (As := [.ref h]) (rest := [.ref r]) (mJ0_init_81219 l D g hn hz hf) ((List.Perm.cons _ (List.Perm.swap _ _ _)).trans (List.Perm.swap _ _ _)) oG_none w3_74 w3_75 w3_76 rfl w1_3 hdJ0_init_81219 rfl ⟨rfl, rfl⟩ ⟨Nat.le_of_ble_eq_true rfl, Nat.le_of_ble_eq_true rfl⟩ (Nat.le_of_ble_eq_true rfl) (Nat.le_of_ble_eq_true rfl) rfl (Nat.le_of_ble_eq_true rfl) dJ4_toString_0e30d_5 ?_
  rintro w1 ⟨y, b, rfl, g1, g2⟩
  exact hend ⟨y, b, rfl, g1, g2⟩ dJ4_toString_0e30d_8
