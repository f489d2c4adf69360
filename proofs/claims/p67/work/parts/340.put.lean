/-! the law's put: a text is filled up with blanks and fed -/
theorem dL_put_0 : decode cL_put 0 = .ok (.aload_n 1, 1) := by decide +kernel
theorem dL_put_1 : decode cL_put 1 = .ok (.astore_n 2, 1) := by decide +kernel
theorem dL_put_2 : decode cL_put 2 = .ok (.aload_n 2, 1) := by decide +kernel
theorem dL_put_3 : decode cL_put 3 = .ok (.invokevirtual 8, 3) := by decide +kernel
theorem dL_put_6 : decode cL_put 6 = .ok (.bipush 20, 2) := by decide +kernel
theorem dL_put_8 : decode cL_put 8 = .ok (.irem, 1) := by decide +kernel
theorem dL_put_9 : decode cL_put 9 = .ok (.ifCond .eq 26, 3) := by decide +kernel
theorem dL_put_12 : decode cL_put 12 = .ok (.new 14, 3) := by decide +kernel
theorem dL_put_15 : decode cL_put 15 = .ok (.dup, 1) := by decide +kernel
theorem dL_put_16 : decode cL_put 16 = .ok (.invokespecial 16, 3) := by decide +kernel
theorem dL_put_19 : decode cL_put 19 = .ok (.aload_n 2, 1) := by decide +kernel
theorem dL_put_20 : decode cL_put 20 = .ok (.invokevirtual 17, 3) := by decide +kernel
theorem dL_put_23 : decode cL_put 23 = .ok (.ldc 21, 2) := by decide +kernel
theorem dL_put_25 : decode cL_put 25 = .ok (.invokevirtual 17, 3) := by decide +kernel
theorem dL_put_28 : decode cL_put 28 = .ok (.invokevirtual 23, 3) := by decide +kernel
theorem dL_put_31 : decode cL_put 31 = .ok (.astore_n 2, 1) := by decide +kernel
theorem dL_put_32 : decode cL_put 32 = .ok (.goto (-30), 3) := by decide +kernel
theorem dL_put_35 : decode cL_put 35 = .ok (.iconst 0, 1) := by decide +kernel
theorem dL_put_36 : decode cL_put 36 = .ok (.istore_n 3, 1) := by decide +kernel
theorem dL_put_37 : decode cL_put 37 = .ok (.iload_n 3, 1) := by decide +kernel
theorem dL_put_38 : decode cL_put 38 = .ok (.aload_n 2, 1) := by decide +kernel
theorem dL_put_39 : decode cL_put 39 = .ok (.invokevirtual 8, 3) := by decide +kernel
theorem dL_put_42 : decode cL_put 42 = .ok (.if_icmp .ge 84, 3) := by decide +kernel
theorem dL_put_45 : decode cL_put 45 = .ok (.iconst 5, 1) := by decide +kernel
theorem dL_put_46 : decode cL_put 46 = .ok (.newarray .int, 2) := by decide +kernel
theorem dL_put_48 : decode cL_put 48 = .ok (.astore 4, 2) := by decide +kernel
theorem dL_put_50 : decode cL_put 50 = .ok (.iconst 0, 1) := by decide +kernel
theorem dL_put_51 : decode cL_put 51 = .ok (.istore 5, 2) := by decide +kernel
theorem dL_put_53 : decode cL_put 53 = .ok (.iload 5, 2) := by decide +kernel
theorem dL_put_55 : decode cL_put 55 = .ok (.bipush 20, 2) := by decide +kernel
theorem dL_put_57 : decode cL_put 57 = .ok (.if_icmp .ge 38, 3) := by decide +kernel
theorem dL_put_60 : decode cL_put 60 = .ok (.aload 4, 2) := by decide +kernel
theorem dL_put_62 : decode cL_put 62 = .ok (.iload 5, 2) := by decide +kernel
theorem dL_put_64 : decode cL_put 64 = .ok (.iconst 4, 1) := by decide +kernel
theorem dL_put_65 : decode cL_put 65 = .ok (.idiv, 1) := by decide +kernel
theorem dL_put_66 : decode cL_put 66 = .ok (.dup2, 1) := by decide +kernel
theorem dL_put_67 : decode cL_put 67 = .ok (.iaload, 1) := by decide +kernel
theorem dL_put_68 : decode cL_put 68 = .ok (.aload_n 2, 1) := by decide +kernel
theorem dL_put_69 : decode cL_put 69 = .ok (.iload_n 3, 1) := by decide +kernel
theorem dL_put_70 : decode cL_put 70 = .ok (.iload 5, 2) := by decide +kernel
theorem dL_put_72 : decode cL_put 72 = .ok (.iadd, 1) := by decide +kernel
theorem dL_put_73 : decode cL_put 73 = .ok (.invokevirtual 27, 3) := by decide +kernel
theorem dL_put_76 : decode cL_put 76 = .ok (.bipush 24, 2) := by decide +kernel
theorem dL_put_78 : decode cL_put 78 = .ok (.bipush 8, 2) := by decide +kernel
theorem dL_put_80 : decode cL_put 80 = .ok (.iload 5, 2) := by decide +kernel
theorem dL_put_82 : decode cL_put 82 = .ok (.iconst 4, 1) := by decide +kernel
theorem dL_put_83 : decode cL_put 83 = .ok (.irem, 1) := by decide +kernel
theorem dL_put_84 : decode cL_put 84 = .ok (.imul, 1) := by decide +kernel
theorem dL_put_85 : decode cL_put 85 = .ok (.isub, 1) := by decide +kernel
theorem dL_put_86 : decode cL_put 86 = .ok (.ishl, 1) := by decide +kernel
theorem dL_put_87 : decode cL_put 87 = .ok (.ior, 1) := by decide +kernel
theorem dL_put_88 : decode cL_put 88 = .ok (.iastore, 1) := by decide +kernel
theorem dL_put_89 : decode cL_put 89 = .ok (.iinc 5 1, 3) := by decide +kernel
theorem dL_put_92 : decode cL_put 92 = .ok (.goto (-39), 3) := by decide +kernel
theorem dL_put_95 : decode cL_put 95 = .ok (.aload_n 0, 1) := by decide +kernel
theorem dL_put_96 : decode cL_put 96 = .ok (.aload 4, 2) := by decide +kernel
theorem dL_put_98 : decode cL_put 98 = .ok (.iconst 0, 1) := by decide +kernel
theorem dL_put_99 : decode cL_put 99 = .ok (.iaload, 1) := by decide +kernel
theorem dL_put_100 : decode cL_put 100 = .ok (.aload 4, 2) := by decide +kernel
theorem dL_put_102 : decode cL_put 102 = .ok (.iconst 1, 1) := by decide +kernel
theorem dL_put_103 : decode cL_put 103 = .ok (.iaload, 1) := by decide +kernel
theorem dL_put_104 : decode cL_put 104 = .ok (.aload 4, 2) := by decide +kernel
theorem dL_put_106 : decode cL_put 106 = .ok (.iconst 2, 1) := by decide +kernel
theorem dL_put_107 : decode cL_put 107 = .ok (.iaload, 1) := by decide +kernel
theorem dL_put_108 : decode cL_put 108 = .ok (.aload 4, 2) := by decide +kernel
theorem dL_put_110 : decode cL_put 110 = .ok (.iconst 3, 1) := by decide +kernel
theorem dL_put_111 : decode cL_put 111 = .ok (.iaload, 1) := by decide +kernel
theorem dL_put_112 : decode cL_put 112 = .ok (.aload 4, 2) := by decide +kernel
theorem dL_put_114 : decode cL_put 114 = .ok (.iconst 4, 1) := by decide +kernel
theorem dL_put_115 : decode cL_put 115 = .ok (.iaload, 1) := by decide +kernel
theorem dL_put_116 : decode cL_put 116 = .ok (.invokevirtual 31, 3) := by decide +kernel
theorem dL_put_119 : decode cL_put 119 = .ok (.pop, 1) := by decide +kernel
theorem dL_put_120 : decode cL_put 120 = .ok (.iinc 3 20, 3) := by decide +kernel
theorem dL_put_123 : decode cL_put 123 = .ok (.goto (-86), 3) := by decide +kernel
theorem dL_put_126 : decode cL_put 126 = .ok (.return_, 1) := by decide +kernel
theorem hdL_put : yL_put.cls ≠ "java/lang/invoke/MethodHandle" ∧ yL_put.cls ≠ "java/lang/invoke/VarHandle" ∧ (parseMethodDescriptor yL_put.desc).map (fun d => d.parameters.length) = some 2 := by decide +kernel
def rP : Room := { frames := 6, cells := 200, slots := 20000, locals := 171 }
theorem hdX6_feed5 : yX6_feed.cls ≠ "java/lang/invoke/MethodHandle" ∧ yX6_feed.cls ≠ "java/lang/invoke/VarHandle" ∧ (parseMethodDescriptor yX6_feed.desc).map (fun d => d.parameters.length) = some 5 := by decide +kernel
theorem i_rem20 : ∀ n, n < 128 → nI n - nI n / 20 * 20 = nI (n % 20) := by decide +kernel
theorem i_div4 : ∀ n, n < 20 → nI n / 4 = nI (n / 4) := by decide +kernel
theorem inc1 (k : Nat) : nI k + Int32.ofInt 1 = nI (k + 1) := by
  rw [show Int32.ofInt 1 = (1 : Int32) from by decide]
  exact nI_1 k
theorem inc20 (k : Nat) : nI k + Int32.ofInt 20 = nI (k + 20) := by
  rw [show Int32.ofInt 20 = nI 20 from by decide]
  exact nI_add k 20
/-- what a string of the world holds -/
def TB (t : Nat → Nat) (n : Nat) (b : Nat → Int32) : Prop := sb_Fit b ∧ ∀ j, j < n → b j = nI (t j)
set_option maxRecDepth 100000 in
set_option maxHeartbeats 4000000 in
theorem put_pad {p : Program} {l : Launch} {e : Env} {s : State} {m : MethodId} {args : Array Value} {below : List Frame} {meth : Method} {c : Code} {Q : State → Prop} {D : va_G} {g : xG} {A : Nat → Prop} {wr : va_W} {fb : Nat} (C0 : NC p s m args c cL_put 6 RL D g A) {t : Nat → Nat} {n0 nT : Nat} (hn : nT ≤ 100) (ht0 : ∀ j, n0 ≤ j → t j = 32)
    (hk : ∀ {x y : Nat} {b : Nat → Int32} {cells slots : Nat}, cells ≤ 120 → slots ≤ 16000 → TB t nT b → WN p l e rP s m args below meth c cells slots Q 6 D A 35 [(0, .ref fb), (2, .ref x)] [] ([(x, .inr (6, [.ref y, .int 0, .int 0, .int 0])), (y, .inl (g.2.1 1, nT, .inl b))] ++ wr)) :
    ∀ (d n x y : Nat) (b : Nat → Int32) (cells slots : Nat), n + d = nT → n0 ≤ n → (n + d) % 20 = 0 ∧ d < 20 → cells + 6 * d ≤ 120 → slots + 792 * d ≤ 16000 → TB t n b → WN p l e rP s m args below meth c cells slots Q 6 D A 2 [(0, .ref fb), (2, .ref x)] [] ([(x, .inr (6, [.ref y, .int 0, .int 0, .int 0])), (y, .inl (g.2.1 1, n, .inl b))] ++ wr)
  | 0, n, x, y, b, cells, slots, hd, h0, h20, hc, hs, hb => by
    refine q_aload_n C0 (kk := 2) 1 rfl dL_put_2 ?_
    refine m_callVi C0 (w0 := []) (wr := [(x, .inr (6, [.ref y, .int 0, .int 0, .int 0])), (y, .inl (g.2.1 1, n, .inl b))] ++ wr) (As := []) (rest := []) (mJ0_length_8abf5 l D g (x, y, n, b)) (List.Perm.refl _) (oG_w C0 (List.mem_append_left _ List.mem_cons_self) (List.mem_append_left _ (List.mem_cons_of_mem _ List.mem_cons_self)) (by omega)) w5_125 w2_239 w3_0 w3_1 w1_3 hdJ0_length_8abf5 rfl ⟨rfl, rfl⟩ ⟨Nat.le_of_ble_eq_true rfl, Nat.le_of_ble_eq_true rfl⟩ (by show cells + 0 ≤ 200; omega) (by show slots + 0 ≤ 20000; omega) (rG_w C0 (q := (RJ0, TJ0, 4)) 0 rfl rfl) rfl (Nat.le_of_ble_eq_true rfl) dL_put_3 ?_
    rintro w1 rfl
    refine q_bipush C0 (v := 20) dL_put_6 rfl ?_
    refine q_irem C0 (by decide) dL_put_8 ?_
    rw [show (((nI n) - (nI n) / 20 * 20) : Int32) = nI (n % 20) from i_rem20 n (by omega)]
    refine q_if_eq C0 (tgt := 35) (by decide) dL_put_9 (fun _ => ?_) (fun hh => absurd (show nI (n % 20) = 0 by rw [show n % 20 = 0 by omega]; rfl) hh)
    obtain rfl : n = nT := by omega
    exact hk (by omega) (by omega) hb
  | d + 1, n, x, y, b, cells, slots, hd, h0, h20, hc, hs, hb => by
    refine q_aload_n C0 (kk := 2) 1 rfl dL_put_2 ?_
    refine m_callVi C0 (w0 := []) (wr := [(x, .inr (6, [.ref y, .int 0, .int 0, .int 0])), (y, .inl (g.2.1 1, n, .inl b))] ++ wr) (As := []) (rest := []) (mJ0_length_8abf5 l D g (x, y, n, b)) (List.Perm.refl _) (oG_w C0 (List.mem_append_left _ List.mem_cons_self) (List.mem_append_left _ (List.mem_cons_of_mem _ List.mem_cons_self)) (by omega)) w5_125 w2_239 w3_0 w3_1 w1_3 hdJ0_length_8abf5 rfl ⟨rfl, rfl⟩ ⟨Nat.le_of_ble_eq_true rfl, Nat.le_of_ble_eq_true rfl⟩ (by show cells + 0 ≤ 200; omega) (by show slots + 0 ≤ 20000; omega) (rG_w C0 (q := (RJ0, TJ0, 4)) 0 rfl rfl) rfl (Nat.le_of_ble_eq_true rfl) dL_put_3 ?_
    rintro w1 rfl
    refine q_bipush C0 (v := 20) dL_put_6 rfl ?_
    refine q_irem C0 (by decide) dL_put_8 ?_
    rw [show (((nI n) - (nI n) / 20 * 20) : Int32) = nI (n % 20) from i_rem20 n (by omega)]
    refine q_if_eq C0 (tgt := 35) (by decide) dL_put_9 (fun hh => absurd ((nI_eq (b := 0) (by omega) (by decide)).mp hh) (by omega)) (fun _ => ?_)
    refine n_make C0 (nJ4_init_da8c8 l D g) x_lays5 tyJ4 tyJ4_ok rfl (fun j hj => by rcases (show j = 0 ∨ j = 1 ∨ j = 2 ∨ j = 3 by omega) with rfl | rfl | rfl | rfl <;> rfl) w2_131 w2_132 w1_2 w2_133 w2_134 w1_2 w2_135 rfl hdJ4_init_da8c8 ⟨rfl, rfl⟩ ⟨Nat.le_of_ble_eq_true rfl, Nat.le_of_ble_eq_true rfl⟩ (by show cells + 0 + 1 + 1 ≤ 200; omega) (by show slots + 0 + 4 + 16 ≤ 20000; omega) (Nat.le_of_ble_eq_true rfl) dL_put_12 dL_put_15 dL_put_16 (fun h w1 hw1 => ?_)
    obtain ⟨v, rfl⟩ := hw1
    refine q_aload_n C0 (kk := 2) 1 rfl dL_put_19 ?_
    refine m_callVr C0 (w0 := [(h, .inr (5, sbF v 0)), (v, .inl (g.2.1 1, 16, .inl (fun _ => 0)))]) (wr := ([(x, .inr (6, [.ref y, .int 0, .int 0, .int 0])), (y, .inl (g.2.1 1, n, .inl b))] ++ wr)) (As := [.ref (x)]) (rest := []) (mJ4_append_15ec4 l D g (q := (x, y, n, b)) (Nat.zero_le _) (by decide) (show 0 + n ≤ 110 by omega) sb_fit0 hb.1) List.perm_append_comm (oG_w C0 (List.mem_append_left _ List.mem_cons_self) (List.mem_append_left _ (List.mem_cons_of_mem _ List.mem_cons_self)) (by omega)) w2_163 w2_164 w2_165 w2_166 w1_2 hdJ4_append_15ec4 rfl ⟨rfl, rfl⟩ ⟨Nat.le_of_ble_eq_true rfl, Nat.le_of_ble_eq_true rfl⟩ (by show cells + 0 + 1 + 1 + 1 ≤ 200; omega) (by show slots + 0 + 4 + 16 + 256 ≤ 20000; omega) (rG_w C0 (q := (RJ4, TJ4, 4)) 0 rfl rfl) rfl (Nat.le_of_ble_eq_true rfl) dL_put_20 ?_
    rintro r1 w1 ⟨er1, v2, z2, a2, rfl, g1, g2, g3, g4, g5⟩
    rw [er1]
    refine q_ldcs C0 (si := 11) rfl dL_put_23 ?_
    refine m_callVr C0 (w0 := [(h, .inr (5, sbF v2 (0 + n))), (v2, .inl (g.2.1 1, z2, .inl a2))]) (wr := ([(x, .inr (6, [.ref y, .int 0, .int 0, .int 0])), (y, .inl (g.2.1 1, n, .inl b))] ++ wr)) (As := [.ref (g.1 20 11)]) (rest := []) (mJ4_append_15ec4 l D g (q := (g.1 20 11, g.1 21 11, x_slen 11, x_sb 11)) g2 g1 (show 0 + n + 1 ≤ 110 by omega) g3 (fit_sb' (i := 11) (by decide))) (List.Perm.refl _) (oG_const C0 (i := 11) (by decide)) w2_163 w2_164 w2_165 w2_166 w1_2 hdJ4_append_15ec4 rfl ⟨rfl, rfl⟩ ⟨Nat.le_of_ble_eq_true rfl, Nat.le_of_ble_eq_true rfl⟩ (by show cells + 0 + 1 + 1 + 1 + 1 ≤ 200; omega) (by show slots + 0 + 4 + 16 + 256 + 256 ≤ 20000; omega) (rG_w C0 (q := (RJ4, TJ4, 4)) 0 rfl rfl) rfl (Nat.le_of_ble_eq_true rfl) dL_put_25 ?_
    rintro r2 w1 ⟨er2, v3, z3, a3, rfl, f1, f2, f3, f4, f5⟩
    rw [er2]
    refine m_callVr C0 (w0 := [(h, .inr (5, sbF v3 (0 + n + x_slen 11))), (v3, .inl (g.2.1 1, z3, .inl a3))]) (wr := ([(x, .inr (6, [.ref y, .int 0, .int 0, .int 0])), (y, .inl (g.2.1 1, n, .inl b))] ++ wr)) (As := []) (rest := []) (mJ4_toString_0e30d l D g f2 f1 f3) (List.Perm.refl _) oG_none w3_68 w3_69 w3_70 w3_71 w1_2 hdJ4_toString_0e30d rfl ⟨rfl, rfl⟩ ⟨Nat.le_of_ble_eq_true rfl, Nat.le_of_ble_eq_true rfl⟩ (by show cells + 0 + 1 + 1 + 1 + 1 + 2 ≤ 200; omega) (by show slots + 0 + 4 + 16 + 256 + 256 + 260 ≤ 20000; omega) (rG_w C0 (q := (RJ4, TJ4, 4)) 0 rfl rfl) rfl (Nat.le_of_ble_eq_true rfl) dL_put_28 ?_
    rintro x2 w1 ⟨y2, b2, rfl, c1, c2⟩
    refine q_astore_n C0 (kk := 2) (lv2 := [(2, .ref x2), (0, .ref fb)]) (by decide) rfl dL_put_31 ?_
    refine q_goto C0 (tgt := 2) (by decide) dL_put_32 ?_
    have e3 : 0 + n + x_slen 11 = n + 1 := by rw [show x_slen 11 = 1 from rfl]; omega
    rw [e3] at c2 ⊢
    refine WN.sub (lv2 := [(0, .ref fb), (2, .ref x2)]) [1, 0] rfl ?_
    refine WN.less (ws2 := [(x2, .inr (6, [.ref y2, .int 0, .int 0, .int 0])), (y2, .inl (g.2.1 1, (n + 1), .inl b2))] ++ wr) (List.Sublist.append (List.sublist_append_left [_, _] [_, _]) (List.sublist_append_right _ _)) ?_
    refine put_pad C0 hn ht0 hk d (n + 1) x2 y2 b2 _ _ (by omega) (by omega) (by omega) (by omega) (by omega) ⟨c1, fun j hj => ?_⟩
    rw [c2 j hj]
    by_cases hjn : j < n
    · rw [f4 j (by omega), show j = 0 + j by omega, g5 j hjn]
      show b j = nI (t (0 + j))
      rw [Nat.zero_add]
      exact hb.2 j hjn
    · obtain rfl : j = n := by omega
      have := f5 0 (show 0 < x_slen 11 by decide)
      rw [show 0 + j + 0 = j by omega] at this
      rw [this, ht0 j (by omega)]
      rfl

/-- the words of twenty bytes, as they grow -/
def WA (t : Nat → Nat) (a : Nat) : Nat → Nat → Int32
  | 0 => fun _ => 0
  | k + 1 => upd (WA t a k) (k / 4) (WA t a k (k / 4) ||| (nI (t (a + k)) <<< ((24 - 8 * (nI k - nI k / 4 * 4)) &&& 31)))
def PFd (t : Nat → Nat) : Nat → Nat → xM → Option xM
  | 0, _, M => some M
  | k + 1, i, M => bd2 (f_X6_feed (WA t (20 * i) 20 0) (WA t (20 * i) 20 1) (WA t (20 * i) 20 2) (WA t (20 * i) 20 3) (WA t (20 * i) 20 4) M) (fun _ M2 => PFd t k (i + 1) M2)

set_option maxRecDepth 100000 in
set_option maxHeartbeats 4000000 in
theorem put_in {p : Program} {l : Launch} {e : Env} {s : State} {m : MethodId} {args : Array Value} {below : List Frame} {meth : Method} {c : Code} {Q : State → Prop} {D : va_G} {g : xG} {A : Nat → Prop} {wr : va_W} {fb : Nat} (C0 : NC p s m args c cL_put 6 RL D g A) {t : Nat → Nat} {nT x y q i cells slots : Nat} {b : Nat → Int32} (hnT : nT ≤ 100) (ht : ∀ j, t j < 128) (hb : TB t nT b) (hc : cells ≤ 200) (hs : slots ≤ 20000) (hi : 20 * i + 20 ≤ nT)
    (hk : WN p l e rP s m args below meth c cells slots Q 6 D A 95 [(0, .ref fb), (2, .ref x), (3, .int (nI (20 * i))), (4, .ref q), (5, .int (nI 20))] [] ([(q, .inl (g.2.1 0, 5, .inl (WA t (20 * i) 20))), (x, .inr (6, [.ref y, .int 0, .int 0, .int 0])), (y, .inl (g.2.1 1, nT, .inl b))] ++ wr)) :
    ∀ (d k : Nat), k + d = 20 → WN p l e rP s m args below meth c cells slots Q 6 D A 53 [(0, .ref fb), (2, .ref x), (3, .int (nI (20 * i))), (4, .ref q), (5, .int (nI k))] [] ([(q, .inl (g.2.1 0, 5, .inl (WA t (20 * i) k))), (x, .inr (6, [.ref y, .int 0, .int 0, .int 0])), (y, .inl (g.2.1 1, nT, .inl b))] ++ wr)
  | 0, k, hd => by
    obtain rfl : k = 20 := by omega
    refine q_iload C0 4 rfl dL_put_53 ?_
    refine q_bipush C0 (v := 20) dL_put_55 rfl ?_
    refine q_icmp_ge C0 (tgt := 95) (by decide) dL_put_57 (fun _ => ?_) (fun hh => absurd (show (20 : Int32) ≤ nI 20 by decide) hh)
    exact hk
  | d + 1, k, hd => by
    refine q_iload C0 4 rfl dL_put_53 ?_
    refine q_bipush C0 (v := 20) dL_put_55 rfl ?_
    refine q_icmp_ge C0 (tgt := 95) (by decide) dL_put_57 (fun hh => absurd hh (nI_ge (a := k) (b := 20) (by omega) (by decide))) (fun _ => ?_)
    refine q_aload C0 3 rfl dL_put_60 ?_
    refine q_iload C0 4 rfl dL_put_62 ?_
    refine q_iconst C0 (v := 4) dL_put_64 rfl ?_
    refine q_idiv C0 (by decide) dL_put_65 ?_
    rw [show (((nI k) / 4) : Int32) = nI (k / 4) from i_div4 k (by omega)]
    refine q_dup2 C0 rfl rfl dL_put_66 ?_
    refine q_iald C0 0 rfl (inb_nI (by omega) (by decide)) dL_put_67 ?_
    rw [cl (show k / 4 < 2147483648 by omega)]
    refine q_aload_n C0 (kk := 2) 1 rfl dL_put_68 ?_
    refine q_iload_n C0 (kk := 3) 2 rfl dL_put_69 ?_
    refine q_iload C0 4 rfl dL_put_70 ?_
    refine q_iadd C0 dL_put_72 ?_
    rw [show (((nI (20 * i)) + (nI k)) : Int32) = nI (20 * i + k) from nI_add _ _]
    refine m_callVi C0 (w0 := []) (wr := ([(q, .inl (g.2.1 0, 5, .inl (WA t (20 * i) k))), (x, .inr (6, [.ref y, .int 0, .int 0, .int 0])), (y, .inl (g.2.1 1, nT, .inl b))] ++ wr)) (As := [.int (nI (20 * i + k))]) (rest := [.int (WA t (20 * i) k (k / 4)), .int (nI (k / 4)), .ref q]) (mJ0_charAt_5068e l D g (q := (x, y, nT, b)) (i := 20 * i + k) (show 20 * i + k < nT by omega) (show nT < 1073741824 by omega) (ht (20 * i + k)) (hb.2 _ (by omega))) (List.Perm.refl _) (oG_w C0 (List.mem_append_left _ (List.mem_cons_of_mem _ List.mem_cons_self)) (List.mem_append_left _ (List.mem_cons_of_mem _ (List.mem_cons_of_mem _ List.mem_cons_self))) (by omega)) w5_126 w4_105 w4_106 w4_107 w1_3 hdJ0_charAt_5068e rfl ⟨rfl, rfl⟩ ⟨Nat.le_of_ble_eq_true rfl, Nat.le_of_ble_eq_true rfl⟩ (by show cells + 0 ≤ 200; omega) (by show slots + 0 ≤ 20000; omega) (rG_w C0 (q := (RJ0, TJ0, 4)) 1 rfl rfl) rfl (Nat.le_of_ble_eq_true rfl) dL_put_73 ?_
    rintro w1 rfl
    refine q_bipush C0 (v := 24) dL_put_76 rfl ?_
    refine q_bipush C0 (v := 8) dL_put_78 rfl ?_
    refine q_iload C0 4 rfl dL_put_80 ?_
    refine q_iconst C0 (v := 4) dL_put_82 rfl ?_
    refine q_irem C0 (by decide) dL_put_83 ?_
    refine q_imul C0 dL_put_84 ?_
    refine q_isub C0 dL_put_85 ?_
    refine q_ishl C0 dL_put_86 ?_
    refine q_ior C0 dL_put_87 ?_
    refine q_iast C0 0 rfl (inb_nI (by omega) (by decide)) dL_put_88 ?_
    rw [cl (show k / 4 < 2147483648 by omega)]
    refine q_iinc C0 4 rfl (v := nI (k + 1)) (inc1 k) (by decide) (lv2 := [(5, .int (nI (k + 1))), (0, .ref fb), (2, .ref x), (3, .int (nI (20 * i))), (4, .ref q)]) rfl dL_put_89 ?_
    refine q_goto C0 (tgt := 53) (by decide) dL_put_92 ?_
    refine WN.sub (lv2 := [(0, .ref fb), (2, .ref x), (3, .int (nI (20 * i))), (4, .ref q), (5, .int (nI (k + 1)))]) [1, 2, 3, 4, 0] rfl ?_
    have key := put_in C0 hnT ht hb hc hs hi hk d (k + 1) (by omega)
    exact key
set_option maxRecDepth 100000 in
set_option maxHeartbeats 4000000 in
theorem put_out {p : Program} {l : Launch} {e : Env} {s : State} {m : MethodId} {args : Array Value} {below : List Frame} {meth : Method} {c : Code} {Q : State → Prop} {D : va_G} {g : xG} {A : Nat → Prop} (C0 : NC p s m args c cL_put 6 RL D g A) (hT : x_T g tbX) (hfb : x_fb tbX) {t : Nat → Nat} {nT x y : Nat} {b : Nat → Int32} {ME : xM} (hnT : nT ≤ 100) (ht : ∀ j, t j < 128) (hb : TB t nT b)
    (hk : ∀ {cells slots : Nat} {lv : List (Nat × Value)}, cells ≤ 200 → slots ≤ 20000 → WN p l e rP s m args below meth c cells slots Q 6 D A 126 lv [] ([(x, .inr (6, [.ref y, .int 0, .int 0, .int 0])), (y, .inl (g.2.1 1, nT, .inl b))] ++ x_ws g tbX ME)) :
    ∀ (d i : Nat) (M : xM) (cells slots : Nat), 20 * (i + d) = nT → cells + d ≤ 200 → slots + 5 * d ≤ 20000 → PFd t d i M = some ME → WN p l e rP s m args below meth c cells slots Q 6 D A 37 [(0, .ref (g.1 4 1664)), (2, .ref x), (3, .int (nI (20 * i)))] [] ([(x, .inr (6, [.ref y, .int 0, .int 0, .int 0])), (y, .inl (g.2.1 1, nT, .inl b))] ++ x_ws g tbX M)
  | 0, i, M, cells, slots, hd, hc, hs, hf => by
    refine q_iload_n C0 (kk := 3) 2 rfl dL_put_37 ?_
    refine q_aload_n C0 (kk := 2) 1 rfl dL_put_38 ?_
    refine m_callVi C0 (w0 := []) (wr := ([(x, .inr (6, [.ref y, .int 0, .int 0, .int 0])), (y, .inl (g.2.1 1, nT, .inl b))] ++ x_ws g tbX M)) (As := []) (rest := [.int (nI (20 * i))]) (mJ0_length_8abf5 l D g (x, y, nT, b)) (List.Perm.refl _) (oG_w C0 (List.mem_append_left _ List.mem_cons_self) (List.mem_append_left _ (List.mem_cons_of_mem _ List.mem_cons_self)) (by omega)) w5_125 w2_239 w3_0 w3_1 w1_3 hdJ0_length_8abf5 rfl ⟨rfl, rfl⟩ ⟨Nat.le_of_ble_eq_true rfl, Nat.le_of_ble_eq_true rfl⟩ (by show cells + 0 ≤ 200; omega) (by show slots + 0 ≤ 20000; omega) (rG_w C0 (q := (RJ0, TJ0, 4)) 0 rfl rfl) rfl (Nat.le_of_ble_eq_true rfl) dL_put_39 ?_
    rintro w1 rfl
    refine q_icmp_ge C0 (tgt := 126) (by decide) dL_put_42 (fun _ => ?_) (fun hh => absurd (nI_le (a := nT) (b := 20 * i) (by omega) (by omega)) hh)
    cases hf
    exact hk (by omega) (by omega)
  | d + 1, i, M, cells, slots, hd, hc, hs, hf => by
    refine q_iload_n C0 (kk := 3) 2 rfl dL_put_37 ?_
    refine q_aload_n C0 (kk := 2) 1 rfl dL_put_38 ?_
    refine m_callVi C0 (w0 := []) (wr := ([(x, .inr (6, [.ref y, .int 0, .int 0, .int 0])), (y, .inl (g.2.1 1, nT, .inl b))] ++ x_ws g tbX M)) (As := []) (rest := [.int (nI (20 * i))]) (mJ0_length_8abf5 l D g (x, y, nT, b)) (List.Perm.refl _) (oG_w C0 (List.mem_append_left _ List.mem_cons_self) (List.mem_append_left _ (List.mem_cons_of_mem _ List.mem_cons_self)) (by omega)) w5_125 w2_239 w3_0 w3_1 w1_3 hdJ0_length_8abf5 rfl ⟨rfl, rfl⟩ ⟨Nat.le_of_ble_eq_true rfl, Nat.le_of_ble_eq_true rfl⟩ (by show cells + 0 ≤ 200; omega) (by show slots + 0 ≤ 20000; omega) (rG_w C0 (q := (RJ0, TJ0, 4)) 0 rfl rfl) rfl (Nat.le_of_ble_eq_true rfl) dL_put_39 ?_
    rintro w1 rfl
    refine q_icmp_ge C0 (tgt := 126) (by decide) dL_put_42 (fun hh => absurd hh (nI_ge (a := 20 * i) (b := nT) (by omega) (by omega))) (fun _ => ?_)
    obtain ⟨r, M2, hfd, hf⟩ := bd2_e hf
    refine q_iconst C0 (v := 5) dL_put_45 rfl ?_
    refine n_newi C0 0 (ty := .int) rfl rfl (fun U cA h => h) w3_193 (N := 5) rfl (by decide) (by decide) (by decide) (by show cells + 0 + 1 ≤ 200; omega) (by show slots + 0 + 5 ≤ 20000; omega) dL_put_46 (fun q => ?_)
    refine q_astore C0 (lv2 := [(4, .ref q), (0, .ref (g.1 4 1664)), (2, .ref x), (3, .int (nI (20 * i)))]) (by decide) rfl dL_put_48 ?_
    refine q_iconst C0 (v := 0) dL_put_50 rfl ?_
    refine q_istore C0 (lv2 := [(5, .int 0), (4, .ref q), (0, .ref (g.1 4 1664)), (2, .ref x), (3, .int (nI (20 * i)))]) (by decide) rfl dL_put_51 ?_
    refine WN.sub (lv2 := [(0, .ref (g.1 4 1664)), (2, .ref x), (3, .int (nI (20 * i))), (4, .ref q), (5, .int 0)]) [2, 3, 4, 1, 0] rfl ?_
    refine WN.perm List.perm_append_comm ?_
    refine put_in C0 (wr := x_ws g tbX M) hnT ht hb (by show cells + 0 + 1 ≤ 200; omega) (by show slots + 0 + 5 ≤ 20000; omega) (by omega) ?_ 20 0 rfl
    refine q_aload_n C0 (kk := 0) 0 rfl dL_put_95 ?_
    refine q_aload C0 3 rfl dL_put_96 ?_
    refine q_iconst C0 (v := 0) dL_put_98 rfl ?_
    refine q_iald C0 0 rfl (by decide) dL_put_99 ?_
    rw [show (0 : Int32).toNatClampNeg = 0 from by decide]
    refine q_aload C0 3 rfl dL_put_100 ?_
    refine q_iconst C0 (v := 1) dL_put_102 rfl ?_
    refine q_iald C0 0 rfl (by decide) dL_put_103 ?_
    rw [show (1 : Int32).toNatClampNeg = 1 from by decide]
    refine q_aload C0 3 rfl dL_put_104 ?_
    refine q_iconst C0 (v := 2) dL_put_106 rfl ?_
    refine q_iald C0 0 rfl (by decide) dL_put_107 ?_
    rw [show (2 : Int32).toNatClampNeg = 2 from by decide]
    refine q_aload C0 3 rfl dL_put_108 ?_
    refine q_iconst C0 (v := 3) dL_put_110 rfl ?_
    refine q_iald C0 0 rfl (by decide) dL_put_111 ?_
    rw [show (3 : Int32).toNatClampNeg = 3 from by decide]
    refine q_aload C0 3 rfl dL_put_112 ?_
    refine q_iconst C0 (v := 4) dL_put_114 rfl ?_
    refine q_iald C0 0 rfl (by decide) dL_put_115 ?_
    rw [show (4 : Int32).toNatClampNeg = 4 from by decide]
    refine m_tabVi C0 (tb := tbX) (M := M) (M' := M2) (wr := [(q, .inl (g.2.1 0, 5, .inl (WA t (20 * i) 20))), (x, .inr (6, [.ref y, .int 0, .int 0, .int 0])), (y, .inl (g.2.1 1, nT, .inl b))]) (As := [.int (WA t (20 * i) 20 0), .int (WA t (20 * i) 20 1), .int (WA t (20 * i) 20 2), .int (WA t (20 * i) 20 3), .int (WA t (20 * i) 20 4)]) (rest := []) (c_X6_feed l D g tbX hT hfb hfd) List.perm_append_comm w5_127 w5_128 w5_129 w1_13 w5_130 (rG_t C0 hfb.1) hdX6_feed5 rfl ⟨rfl, rfl⟩ ⟨Nat.le_of_ble_eq_true rfl, Nat.le_of_ble_eq_true rfl⟩ (by show cells + 0 + 1 + 0 ≤ 200; omega) (by show slots + 0 + 5 + 0 ≤ 20000; omega) rfl (Nat.le_of_ble_eq_true rfl) dL_put_116 ?_
    refine q_pop C0 rfl dL_put_119 ?_
    refine q_iinc C0 2 rfl (v := nI (20 * i + 20)) (inc20 _) (by decide) (lv2 := [(3, .int (nI (20 * i + 20))), (0, .ref (g.1 4 1664)), (2, .ref x), (4, .ref q), (5, .int (nI 20))]) rfl dL_put_120 ?_
    refine q_goto C0 (tgt := 37) (by decide) dL_put_123 ?_
    refine WN.sub (lv2 := [(0, .ref (g.1 4 1664)), (2, .ref x), (3, .int (nI (20 * i + 20)))]) [1, 2, 0] rfl ?_
    refine WN.perm List.perm_append_comm ?_
    refine WN.less (ws2 := [(x, .inr (6, [.ref y, .int 0, .int 0, .int 0])), (y, .inl (g.2.1 1, nT, .inl b))] ++ x_ws g tbX M2) (List.sublist_cons_self _ _) ?_
    rw [show 20 * i + 20 = 20 * (i + 1) by omega]
    exact put_out C0 hT hfb hnT ht hb hk d (i + 1) M2 _ _ (by omega) (by omega) (by omega) hf
theorem mL_put (l : Launch) (D : va_G) (g : xG) (hT : x_T g tbX) (hfb : x_fb tbX) {t : Nat → Nat} {n n0 B x y : Nat} {b : Nat → Int32} {M ME : xM} (hnT : 20 * B ≤ 100) (hB : n ≤ 20 * B) (hB2 : 20 * B < n + 20) (ht : ∀ j, t j < 128) (hn0 : n0 ≤ n) (ht0 : ∀ j, n0 ≤ j → t j = 32) (hb : TB t n b) (hf : PFd t B 0 M = some ME) :
    mV l D g yL_put cL_put 6 rP [.ref (g.1 4 1664), .ref x] ([(x, .inr (6, [.ref y, .int 0, .int 0, .int 0])), (y, .inl (g.2.1 1, n, .inl b))] ++ x_ws g tbX M) none 200 20000 (fun w => w = x_ws g tbX ME) := by
  refine m_startV (own := RL) (by decide +kernel) rfl rfl (Nat.le_of_ble_eq_true rfl) ?_
  intro p e s m args below meth c A Q C0 hE hmn hend
  refine q_aload_n C0 (kk := 1) 1 rfl dL_put_0 ?_
  refine q_astore_n C0 (kk := 2) (lv2 := [(2, .ref x), (0, .ref (g.1 4 1664)), (1, .ref x)]) (by decide) rfl dL_put_1 ?_
  refine WN.sub (lv2 := [(0, .ref (g.1 4 1664)), (2, .ref x)]) [1, 0] rfl ?_
  refine put_pad C0 (wr := x_ws g tbX M) hnT ht0 (fun {x y b cells slots} hc hs hb => ?_) (20 * B - n) n x y b 0 0 (by omega) hn0 (by omega) (by omega) (by omega) hb
  refine q_iconst C0 (v := 0) dL_put_35 rfl ?_
  refine q_istore_n C0 (kk := 3) (lv2 := [(3, .int 0), (0, .ref (g.1 4 1664)), (2, .ref x)]) (by decide) rfl dL_put_36 ?_
  refine WN.sub (lv2 := [(0, .ref (g.1 4 1664)), (2, .ref x), (3, .int 0)]) [1, 2, 0] rfl ?_
  refine put_out C0 hT hfb hnT ht hb (fun {cells slots lv} hc hs => ?_) B 0 M _ _ (by omega) (by omega) (by omega) hf
  refine WN.widen (k := 200) (n := 20000) hc hs ?_
  refine WN.less (ws2 := x_ws g tbX ME) (List.sublist_append_right _ _) ?_
  exact hend rfl dL_put_126
