/-! the law's loop -/
theorem i_rem15 : ∀ k, k < 80 → (14 : Int32) + (nI k - nI k / 15 * 15) = nI (14 + k % 15) := by decide +kernel
set_option maxRecDepth 100000 in
set_option maxHeartbeats 8000000 in
theorem law_loop {p : Program} {l : Launch} {e : Env} {s : State} {m : MethodId} {below : List Frame} {meth : Method} {c : Code} {c0 s0 : Nat} {Q : State → Prop} {args : Array Value} {D : va_G} {g : xG} (h : LB p s m c D g args) (hc : c0 + 800 ≤ room_1.cells) (hs : s0 + 4800 ≤ room_1.slots) {ns nb nf : Nat} (hfb : x_fb tbX)
    (hE : ∀ {M : xM}, WW p l e room_1 s m args below meth c (c0 + 800) (s0 + 4800) Q 26 D g tbX 1108 [(0, .ref (g.1 26 0)), (1, .ref (g.1 4 1664)), (2, .int (nI 80))] [.int 1] M) :
    ∀ (j k : Nat) (M : xM), k + j = 80 → CI ns nb nf (1000 + 400 * k) M → WW p l e room_1 s m args below meth c (c0 + 10 * k) (s0 + 60 * k) Q 26 D g tbX 13 [(0, .ref (g.1 26 0)), (1, .ref (g.1 4 1664)), (2, .int (nI k))] [] M
  | 0, k, M, hk, hI => by
    have C0 := h.c0
    obtain rfl : k = 80 := by omega
    refine r_iload_n C0 (kk := 2) 2 rfl dL_law_13 ?_
    refine r_bipush C0 (v := 80) dL_law_14 rfl ?_
    refine r_icmp_ge C0 (tgt := 1096) (by decide) dL_law_16 (fun q => ?_) (fun q => absurd (by decide) q)
    refine r_aload_n C0 (kk := 1) 1 rfl dL_law_1096 ?_
    refine r_callVi C0 (As := []) (rest := []) (c_X6_consistencyError l D g tbX h.2.1 hfb (c_cons hI)) w2_7 w2_8 w2_9 w1_13 w2_10 (x_rec4 C0 hfb.1) hd_X6_consistencyError rfl ⟨rfl, rfl⟩ ⟨Nat.le_of_ble_eq_true rfl, Nat.le_of_ble_eq_true rfl⟩ (by omega) (by omega) rfl (Nat.le_of_ble_eq_true rfl) dL_law_1097 ?_
    refine r_if_ne C0 (tgt := 1107) (by decide) dL_law_1100 (fun q => absurd rfl q) (fun _ => ?_)
    refine r_iconst C0 (v := 1) dL_law_1103 rfl ?_
    refine r_goto C0 (tgt := 1108) (by decide) dL_law_1104 ?_
    exact hE
  | j + 1, k, M, hk, hI => by
    have C0 := h.c0
    have hk8 : k < 80 := by omega
    have tail : ∀ M2 : xM, CI ns nb nf (1000 + 400 * (k + 1)) M2 → WW p l e room_1 s m args below meth c (c0 + 10 * k + 10) (s0 + 60 * k + 60) Q 26 D g tbX 1090 [(0, .ref (g.1 26 0)), (1, .ref (g.1 4 1664)), (2, .int (nI k))] [] M2 := by
      intro M2 hI2
      refine r_iincc C0 2 rfl (k0 := 1) (by decide) (by decide) (lv2 := [(2, .int (nI k + 1)), (0, .ref (g.1 26 0)), (1, .ref (g.1 4 1664))]) rfl dL_law_1090 ?_
      refine r_goto C0 (tgt := 13) (by decide) dL_law_1093 ?_
      rw [nI_1]
      refine WW.sub [1, 2, 0] rfl ?_
      have := law_loop h hc hs hfb hE j (k + 1) M2 (by omega) hI2
      rw [show c0 + 10 * k + 10 = c0 + 10 * (k + 1) by omega, show s0 + 60 * k + 60 = s0 + 60 * (k + 1) by omega]
      exact this
    refine r_iload_n C0 (kk := 2) 2 rfl dL_law_13 ?_
    refine r_bipush C0 (v := 80) dL_law_14 rfl ?_
    refine r_icmp_ge C0 (tgt := 1096) (by decide) dL_law_16 (fun q => absurd q (nI_ge (a := k) (b := 80) hk8 (by decide))) (fun q => ?_)
    refine c_LS_P C0 (by omega) (by omega) hfb (LSP hI (by omega)) (fun {_ _ _ _ _ _ _ _} hf => ?_)
    cases hf
    refine law_mid h (by omega) (by omega) hI (by omega) hfb (fun {M1} hI1 => ?_)
    refine r_iload_n C0 (kk := 2) 2 rfl dL_law_1063 ?_
    refine r_iconst C0 (v := 4) dL_law_1064 rfl ?_
    refine r_irem C0 (by decide) dL_law_1065 ?_
    refine r_iconst C0 (v := 3) dL_law_1066 rfl ?_
    refine r_icmp_ne C0 (tgt := 1090) (by decide) dL_law_1067 (fun q => ?_) (fun q => ?_)
    · exact tail M1 (hI1.mono (by omega) (by omega))
    · refine r_aload_n C0 (kk := 1) 1 rfl dL_law_1070 ?_
      refine r_aload_n C0 (kk := 0) 0 rfl dL_law_1071 ?_
      refine r_bipush C0 (v := 14) dL_law_1072 rfl ?_
      refine r_iload_n C0 (kk := 2) 2 rfl dL_law_1074 ?_
      refine r_bipush C0 (v := 15) dL_law_1075 rfl ?_
      refine r_irem C0 (by decide) dL_law_1077 ?_
      refine r_iadd C0 dL_law_1078 ?_
      rw [i_rem15 k hk8]
      refine r_callSi C0 (As := [.ref (g.1 26 0), .int (nI (14 + k % 15))]) (rest := [.ref (g.1 4 1664)]) (c_L_cell l D g tbX h.2.1 (by omega) h.2.2.2) w2_121 w2_122 w1_0 w2_123 hd_L_cell rfl ⟨rfl, rfl⟩ ⟨Nat.le_of_ble_eq_true rfl, Nat.le_of_ble_eq_true rfl⟩ (by omega) (by omega) rfl (Nat.le_of_ble_eq_true rfl) dL_law_1079 ?_
      refine r_bipush C0 (v := 7) dL_law_1082 rfl ?_
      refine r_iload_n C0 (kk := 2) 2 rfl dL_law_1084 ?_
      refine r_imul C0 dL_law_1085 ?_
      refine r_iadd C0 dL_law_1086 ?_
      obtain ⟨M2, fa, hI2⟩ := law_act hI1 (by omega) ((if 14 + k % 15 < g.1 27 0 then x_scr g (14 + k % 15) else 0) + 7 * nI k)
      refine r_callSv C0 (As := [.ref (g.1 4 1664), .int ((if 14 + k % 15 < g.1 27 0 then x_scr g (14 + k % 15) else 0) + 7 * nI k)]) (rest := []) (c_L_act l D g tbX h.2.1 hfb fa) w5_169 w5_170 w1_0 w5_171 hd_L_act rfl ⟨rfl, rfl⟩ ⟨Nat.le_of_ble_eq_true rfl, Nat.le_of_ble_eq_true rfl⟩ (by omega) (by omega) rfl (Nat.le_of_ble_eq_true rfl) dL_law_1087 ?_
      exact tail M2 (hI2.mono (by omega) (by omega))
