/-! the law's preamble of a step; the script read -/
def f_LS_P_c67   (v3 : Int32) (v4 : Int32) (v5 : Int32) (v6 : Int32) (s0 : Int32) (M : xM) : Option (Int32 × Int32 × Int32 × Int32 × Int32 × Int32 × Int32 × xM) :=
  (bd2 (f_X6_openMinutes  M) (fun r26 M25 => (bd2 (f_X6_ringings  M25) (fun r29 M28 => (some (v3, v4, v5, v6, s0, r26, r29, M28))))))
def f_LS_P_c62   (v3 : Int32) (v4 : Int32) (v5 : Int32) (v6 : Int32) (M : xM) : Option (Int32 × Int32 × Int32 × Int32 × Int32 × Int32 × Int32 × xM) :=
  (f_LS_P_c67   v3 v4 v5 v6 1 M)
def f_LS_P  (M : xM) : Option (Int32 × Int32 × Int32 × Int32 × Int32 × Int32 × Int32 × xM) :=
  (bd2 (f_X6_stallCount  M) (fun r3 M2 => (bd2 (f_X6_buyerCount  M2) (fun r6 M5 => (bd2 (f_X6_minute  M5) (fun r9 M8 => (bd2 (f_X6_fogIn r9 M8) (fun r12 M11 => (bd2 (f_X6_isOpen  M11) (fun r15 M14 => (bd2 (f_X6_isReady  M14) (fun r18 M17 => (if r18 = 0 then (bd2 (f_X6_threshold  M17) (fun r22 M21 => (if r22 ≤ r12 then (f_LS_P_c67   r3 r6 r12 r15 0 M21) else (f_LS_P_c62   r3 r6 r12 r15 M21)))) else (f_LS_P_c62   r3 r6 r12 r15 M17))))))))))))))
set_option maxRecDepth 100000 in
set_option maxHeartbeats 8000000 in
theorem c_LS_P {p : Program} {l : Launch} {e : Env} {s : State} {m0 : MethodId} {args : Array Value} {below : List Frame} {meth : Method} {c : Code} {cells slots : Nat} {Q : State → Prop} {b : Nat} {D : va_G} {g : xG} {tb : List xQ} (C0 : CC p s m0 args c cL_law 26 RL D g tb) (hc0 : cells + 0 ≤ room_1.cells) (hs0 : slots + 0 ≤ room_1.slots) {step : Int32} (h1 : x_fb tb) {M M' : xM} {o3 : Int32} {o4 : Int32} {o5 : Int32} {o6 : Int32} {o7 : Int32} {o8 : Int32} {o9 : Int32} (hf : f_LS_P  M = some (o3, o4, o5, o6, o7, o8, o9, M'))
    (hend : ∀ {w3 : Int32} {w4 : Int32} {w5 : Int32} {w6 : Int32} {w7 : Int32} {w8 : Int32} {w9 : Int32} { M0 : xM}, (some (w3, w4, w5, w6, w7, w8, w9, M0) : Option (Int32 × Int32 × Int32 × Int32 × Int32 × Int32 × Int32 × xM)) = some (o3, o4, o5, o6, o7, o8, o9, M') → WW p l e room_1 s m0 args below meth c cells slots Q 26 D g tb 81 [(3, .int w3), (4, .int w4), (5, .int w5), (6, .int w6), (7, .int w7), (8, .int w8), (9, .int w9), (0, .ref b), (1, .ref (g.1 4 1664)), (2, .int step)] [] M0) :
    WW p l e room_1 s m0 args below meth c cells slots Q 26 D g tb 19 [(0, .ref b), (1, .ref (g.1 4 1664)), (2, .int step)] [] M := by
  have hT := C0.2.2.2.2.2.2.1
  have B67 : ∀ (v3 : Int32) (v4 : Int32) (v5 : Int32) (v6 : Int32) (s0 : Int32)  (M : xM), f_LS_P_c67   v3 v4 v5 v6 s0 M = some (o3, o4, o5, o6, o7, o8, o9, M') → WW p l e room_1 s m0 args below meth c cells slots Q 26 D g tb 67 [(0, .ref b), (1, .ref (g.1 4 1664)), (2, .int step), (3, .int v3), (4, .int v4), (5, .int v5), (6, .int v6)] [.int s0] M := by
    intro   v3 v4 v5 v6 s0  M hf
    unfold f_LS_P_c67 at hf
    refine r_istore C0 (lv2 := [(7, .int s0), (0, .ref b), (1, .ref (g.1 4 1664)), (2, .int step), (3, .int v3), (4, .int v4), (5, .int v5), (6, .int v6)]) (by decide) rfl dL_law_67 ?_
    refine r_aload_n C0 (kk := 1) 2 rfl dL_law_69 ?_
    obtain ⟨r26, M25, hc24, hf⟩ := bd2_e hf
    refine r_callVi C0 (As := []) (rest := []) (c_X6_openMinutes l D g tb hT h1 hc24) w1_133 w1_134 w1_135 w1_13 w1_136 (x_rec4 C0 h1.1) hd_X6_openMinutes rfl ⟨rfl, rfl⟩ ⟨Nat.le_of_ble_eq_true rfl, Nat.le_of_ble_eq_true rfl⟩ hc0 hs0 rfl (Nat.le_of_ble_eq_true rfl) dL_law_70 ?_
    refine r_istore C0 (lv2 := [(8, .int r26), (7, .int s0), (0, .ref b), (1, .ref (g.1 4 1664)), (2, .int step), (3, .int v3), (4, .int v4), (5, .int v5), (6, .int v6)]) (by decide) rfl dL_law_73 ?_
    refine r_aload_n C0 (kk := 1) 3 rfl dL_law_75 ?_
    obtain ⟨r29, M28, hc27, hf⟩ := bd2_e hf
    refine r_callVi C0 (As := []) (rest := []) (c_X6_ringings l D g tb hT h1 hc27) w1_137 w1_138 w1_139 w1_13 w1_140 (x_rec4 C0 h1.1) hd_X6_ringings rfl ⟨rfl, rfl⟩ ⟨Nat.le_of_ble_eq_true rfl, Nat.le_of_ble_eq_true rfl⟩ hc0 hs0 rfl (Nat.le_of_ble_eq_true rfl) dL_law_76 ?_
    refine r_istore C0 (lv2 := [(9, .int r29), (8, .int r26), (7, .int s0), (0, .ref b), (1, .ref (g.1 4 1664)), (2, .int step), (3, .int v3), (4, .int v4), (5, .int v5), (6, .int v6)]) (by decide) rfl dL_law_79 ?_
    refine WW.sub [6, 7, 8, 9, 2, 1, 0, 3, 4, 5] rfl ?_
    exact hend hf
  have B62 : ∀ (v3 : Int32) (v4 : Int32) (v5 : Int32) (v6 : Int32)  (M : xM), f_LS_P_c62   v3 v4 v5 v6 M = some (o3, o4, o5, o6, o7, o8, o9, M') → WW p l e room_1 s m0 args below meth c cells slots Q 26 D g tb 62 [(0, .ref b), (1, .ref (g.1 4 1664)), (2, .int step), (3, .int v3), (4, .int v4), (5, .int v5), (6, .int v6)] [] M := by
    intro   v3 v4 v5 v6  M hf
    unfold f_LS_P_c62 at hf
    refine r_iconst C0 (v := 1) dL_law_62 rfl ?_
    refine r_goto C0 (tgt := 67) (by decide) dL_law_63 ?_
    exact B67   _ _ _ _ _   _ hf
  unfold f_LS_P at hf
  refine r_aload_n C0 (kk := 1) 1 rfl dL_law_19 ?_
  obtain ⟨r3, M2, hc1, hf⟩ := bd2_e hf
  refine r_callVi C0 (As := []) (rest := []) (c_X6_stallCount l D g tb hT h1 hc1) w1_141 w1_142 w1_143 w1_13 w1_144 (x_rec4 C0 h1.1) hd_X6_stallCount rfl ⟨rfl, rfl⟩ ⟨Nat.le_of_ble_eq_true rfl, Nat.le_of_ble_eq_true rfl⟩ hc0 hs0 rfl (Nat.le_of_ble_eq_true rfl) dL_law_20 ?_
  refine r_istore_n C0 (kk := 3) (lv2 := [(3, .int r3), (0, .ref b), (1, .ref (g.1 4 1664)), (2, .int step)]) (by decide) rfl dL_law_23 ?_
  refine r_aload_n C0 (kk := 1) 2 rfl dL_law_24 ?_
  obtain ⟨r6, M5, hc4, hf⟩ := bd2_e hf
  refine r_callVi C0 (As := []) (rest := []) (c_X6_buyerCount l D g tb hT h1 hc4) w1_202 w1_203 w1_204 w1_13 w1_205 (x_rec4 C0 h1.1) hd_X6_buyerCount rfl ⟨rfl, rfl⟩ ⟨Nat.le_of_ble_eq_true rfl, Nat.le_of_ble_eq_true rfl⟩ hc0 hs0 rfl (Nat.le_of_ble_eq_true rfl) dL_law_25 ?_
  refine r_istore C0 (lv2 := [(4, .int r6), (3, .int r3), (0, .ref b), (1, .ref (g.1 4 1664)), (2, .int step)]) (by decide) rfl dL_law_28 ?_
  refine r_aload_n C0 (kk := 1) 3 rfl dL_law_30 ?_
  refine r_aload_n C0 (kk := 1) 3 rfl dL_law_31 ?_
  obtain ⟨r9, M8, hc7, hf⟩ := bd2_e hf
  refine r_callVi C0 (As := []) (rest := [.ref (g.1 4 1664)]) (c_X6_minute l D g tb hT h1 hc7) w1_27 w1_28 w1_29 w1_13 w1_30 (x_rec4 C0 h1.1) hd_X6_minute rfl ⟨rfl, rfl⟩ ⟨Nat.le_of_ble_eq_true rfl, Nat.le_of_ble_eq_true rfl⟩ hc0 hs0 rfl (Nat.le_of_ble_eq_true rfl) dL_law_32 ?_
  obtain ⟨r12, M11, hc10, hf⟩ := bd2_e hf
  refine r_callVi C0 (As := [.int r9]) (rest := []) (c_X6_fogIn l D g tb hT h1 hc10) w1_43 w1_44 w1_45 w1_13 w1_46 (x_rec4 C0 h1.1) hd_X6_fogIn rfl ⟨rfl, rfl⟩ ⟨Nat.le_of_ble_eq_true rfl, Nat.le_of_ble_eq_true rfl⟩ hc0 hs0 rfl (Nat.le_of_ble_eq_true rfl) dL_law_35 ?_
  refine r_istore C0 (lv2 := [(5, .int r12), (4, .int r6), (3, .int r3), (0, .ref b), (1, .ref (g.1 4 1664)), (2, .int step)]) (by decide) rfl dL_law_38 ?_
  refine r_aload_n C0 (kk := 1) 4 rfl dL_law_40 ?_
  obtain ⟨r15, M14, hc13, hf⟩ := bd2_e hf
  refine r_callVi C0 (As := []) (rest := []) (c_X6_isOpen l D g tb hT h1 hc13) w1_125 w1_126 w1_127 w1_13 w1_128 (x_rec4 C0 h1.1) hd_X6_isOpen rfl ⟨rfl, rfl⟩ ⟨Nat.le_of_ble_eq_true rfl, Nat.le_of_ble_eq_true rfl⟩ hc0 hs0 rfl (Nat.le_of_ble_eq_true rfl) dL_law_41 ?_
  refine r_istore C0 (lv2 := [(6, .int r15), (5, .int r12), (4, .int r6), (3, .int r3), (0, .ref b), (1, .ref (g.1 4 1664)), (2, .int step)]) (by decide) rfl dL_law_44 ?_
  refine r_aload_n C0 (kk := 1) 5 rfl dL_law_46 ?_
  obtain ⟨r18, M17, hc16, hf⟩ := bd2_e hf
  refine r_callVi C0 (As := []) (rest := []) (c_X6_isReady l D g tb hT h1 hc16) w1_129 w1_130 w1_131 w1_13 w1_132 (x_rec4 C0 h1.1) hd_X6_isReady rfl ⟨rfl, rfl⟩ ⟨Nat.le_of_ble_eq_true rfl, Nat.le_of_ble_eq_true rfl⟩ hc0 hs0 rfl (Nat.le_of_ble_eq_true rfl) dL_law_47 ?_
  refine r_if_ne C0 (tgt := 62) (by decide) dL_law_50 (fun q19 => ?_) (fun q19 => ?_)
  · have hf := ie_f hf q19
    refine WW.sub [4, 5, 6, 3, 2, 1, 0] rfl ?_
    exact B62   _ _ _ _   _ hf
  · have hf := ie_t hf q19
    refine r_iload C0 1 rfl dL_law_53 ?_
    refine r_aload_n C0 (kk := 1) 5 rfl dL_law_55 ?_
    obtain ⟨r22, M21, hc20, hf⟩ := bd2_e hf
    refine r_callVi C0 (As := []) (rest := [.int r12]) (c_X6_threshold l D g tb hT h1 hc20) w1_35 w1_36 w1_37 w1_13 w1_38 (x_rec4 C0 h1.1) hd_X6_threshold rfl ⟨rfl, rfl⟩ ⟨Nat.le_of_ble_eq_true rfl, Nat.le_of_ble_eq_true rfl⟩ hc0 hs0 rfl (Nat.le_of_ble_eq_true rfl) dL_law_56 ?_
    refine r_icmp_ge C0 (tgt := 66) (by decide) dL_law_59 (fun q23 => ?_) (fun q23 => ?_)
    · have hf := ie_t hf q23
      refine r_iconst C0 (v := 0) dL_law_66 rfl ?_
      refine WW.sub [4, 5, 6, 3, 2, 1, 0] rfl ?_
      exact B67   _ _ _ _ _   _ hf
    · have hf := ie_f hf q23
      refine WW.sub [4, 5, 6, 3, 2, 1, 0] rfl ?_
      exact B62   _ _ _ _   _ hf
theorem dL_cell_0 : decode cL_cell 0 = .ok (.iload_n 1, 1) := by decide +kernel
theorem dL_cell_1 : decode cL_cell 1 = .ok (.aload_n 0, 1) := by decide +kernel
theorem dL_cell_2 : decode cL_cell 2 = .ok (.arraylength, 1) := by decide +kernel
theorem dL_cell_3 : decode cL_cell 3 = .ok (.if_icmp .ge 9, 3) := by decide +kernel
theorem dL_cell_6 : decode cL_cell 6 = .ok (.aload_n 0, 1) := by decide +kernel
theorem dL_cell_7 : decode cL_cell 7 = .ok (.iload_n 1, 1) := by decide +kernel
theorem dL_cell_8 : decode cL_cell 8 = .ok (.iaload, 1) := by decide +kernel
theorem dL_cell_9 : decode cL_cell 9 = .ok (.goto 4, 3) := by decide +kernel
theorem dL_cell_12 : decode cL_cell 12 = .ok (.iconst 0, 1) := by decide +kernel
theorem dL_cell_13 : decode cL_cell 13 = .ok (.ireturn, 1) := by decide +kernel
theorem hd_L_cell : yL_cell.cls ≠ "java/lang/invoke/MethodHandle" ∧ yL_cell.cls ≠ "java/lang/invoke/VarHandle" ∧ (parseMethodDescriptor yL_cell.desc).map (fun d => d.parameters.length) = some 2 := by decide +kernel
section XSC
variable {p : Program} {l : Launch} {e : Env} {R : Room} {s : State} {m : MethodId} {args : Array Value} {below : List Frame} {meth : Method} {c : Code} {cells slots : Nat} {Q : State → Prop}
variable {cc : ByteArray} {nL : Nat} {own : String} {D : va_G} {g : xG} {tb : List xQ} {pc : Nat} {lv : List (Nat × Value)} {st : List Value} {M : xM}
theorem CC.scr (C0 : CC p s m args c cc nL own D g tb) : va_T .int (g.1 26 0) (g.1 27 0) (fun j => .int (x_scr g j)) (x_A g tb s.heap.size) s s.heap := C0.kA.2.2.2.2.2.2.2.2.2.2.2.2.2
theorem r_scld (C0 : CC p s m args c cc nL own D g tb) {i : Int32} (hin : inb i (g.1 27 0) = true) (hd : decode cc pc = .ok (.iaload, 1)) (k : WW p l e R s m args below meth c cells slots Q nL D g tb (pc + 1) lv (.int (x_scr g i.toNatClampNeg) :: st) M) : WW p l e R s m args below meth c cells slots Q nL D g tb pc lv (.int i :: .ref (g.1 26 0) :: st) M :=
  fun H locs ls h1 h2 h3 => va_ti C0.1 C0.2.1 C0.scr h2 (inb_in hin) rfl hd (k H locs ls h1 h2 h3)
theorem r_sclen (C0 : CC p s m args c cc nL own D g tb) (hd : decode cc pc = .ok (.arraylength, 1)) (k : WW p l e R s m args below meth c cells slots Q nL D g tb (pc + 1) lv (.int (nI (g.1 27 0)) :: st) M) : WW p l e R s m args below meth c cells slots Q nL D g tb pc lv (.ref (g.1 26 0) :: st) M :=
  fun H locs ls h1 h2 h3 => va_tlen C0.1 C0.2.1 C0.scr h2 rfl hd (k H locs ls h1 h2 h3)
end XSC
theorem c_L_cell (l : Launch) (D : va_G) (g : xG) (tb : List xQ) (hT : x_T g tb) {k : Nat} (hk : k < 1073741824) (hL : g.1 27 0 < 1073741824) {M : xM} : cI l D g tb yL_cell cL_cell 2 .int ({ frames := 0, cells := 0, slots := 0, locals := 0 } : Room) [.ref (g.1 26 0), .int (nI k)] M (if k < g.1 27 0 then x_scr g k else 0) M := by
  refine x_startI (own := RL) (by decide +kernel) rfl rfl (Nat.le_of_ble_eq_true rfl) hT ?_
  intro p e s m args below meth c Q C0 hend
  refine r_iload_n C0 (kk := 1) 1 rfl dL_cell_0 ?_
  refine r_aload_n C0 (kk := 0) 0 rfl dL_cell_1 ?_
  refine r_sclen C0 dL_cell_2 ?_
  refine r_icmp_ge C0 (tgt := 12) (by decide) dL_cell_3 (fun q => ?_) (fun q => ?_)
  · have hn : ¬ k < g.1 27 0 := fun h => absurd q (nI_ge h (by omega))
    refine r_iconst C0 (v := 0) dL_cell_12 rfl ?_
    exact hend (by rw [if_neg hn]) dL_cell_13
  · have hn : k < g.1 27 0 := by
      rcases Nat.lt_or_ge k (g.1 27 0) with h | h
      · exact h
      · exact absurd (nI_le h (by omega)) q
    refine r_aload_n C0 (kk := 0) 0 rfl dL_cell_6 ?_
    refine r_iload_n C0 (kk := 1) 1 rfl dL_cell_7 ?_
    refine r_scld C0 (inb_nI hn (by omega)) dL_cell_8 ?_
    refine r_goto C0 (tgt := 13) (by decide) dL_cell_9 ?_
    refine hend ?_ dL_cell_13
    rw [if_pos hn, cl (by omega)]
section
variable {ns nb nf K : Nat} {X : xM}
/-- the preamble's figures -/
theorem LSP (h : CI ns nb nf K X) (hK : K < 90000) : f_LS_P X = some (nI ns, nI nb, P_dens nf X, X 1, P_rdy (P_dens nf X) X 2, X 3, X 4, X) := by
  have hv := h.2.1.1
  obtain ⟨t, t1, t2⟩ := hv.m
  have hd := c_dens (b := 0) (M := X) (t := t) hv (by omega)
  rw [wr0_self] at hd
  have hf : f_X6_fogIn (nI t) X = some (P_dens nf X, X) := by
    unfold f_X6_fogIn P_dens
    rw [bd_s (show f_X6_checkRange (nI t) 0 99999 X = some X from c_chkN ⟨nI_le (a := 0) (Nat.zero_le _) (by omega), nI_le (b := 99999) (by omega) (by omega)⟩), bd2_s hd, t2, cl (by omega)]
  have b1 : isb (X 1) = true := by rcases hv.o with e | e <;> rw [e] <;> rfl
  have b2 : isb (X 2) = true := by rcases hv.r with e | e <;> rw [e] <;> rfl
  have i0 : f_X6_stallCount X = some (nI ns, X) := by show some (X 9, X) = _; rw [hv.s.1]
  have i1 : f_X6_buyerCount X = some (nI nb, X) := by show some (X 10, X) = _; rw [hv.b.1]
  have i2 : f_X6_minute X = some (nI t, X) := by show some (X 0, X) = _; rw [t2]
  have i3 : f_X6_isOpen X = some (X 1, X) := by unfold f_X6_isOpen; rw [gd_t b1]
  have i4 : f_X6_isReady X = some (X 2, X) := by unfold f_X6_isReady; rw [gd_t b2]
  have i5 : f_X6_threshold X = some (X 5, X) := rfl
  have i6 : f_X6_openMinutes X = some (X 3, X) := rfl
  have i7 : f_X6_ringings X = some (X 4, X) := rfl
  unfold f_LS_P
  rw [bd2_s i0, bd2_s i1, bd2_s i2, bd2_s hf, bd2_s i3, bd2_s i4]
  rcases hv.r with e | e
  · rw [e, if_pos (show (0 : Int32) = 0 from rfl), bd2_s i5]
    by_cases q : X 5 ≤ P_dens nf X
    · have e2 : P_rdy (P_dens nf X) X 2 = 0 := by unfold P_rdy; rw [if_pos q, e]
      rw [if_pos q, e2]
      unfold f_LS_P_c67
      rw [bd2_s i6, bd2_s i7]
    · have e2 : P_rdy (P_dens nf X) X 2 = 1 := by unfold P_rdy; rw [if_neg q, us]
      rw [if_neg q, e2]
      unfold f_LS_P_c62 f_LS_P_c67
      rw [bd2_s i6, bd2_s i7]
  · have e2 : P_rdy (P_dens nf X) X 2 = 1 := by
      unfold P_rdy
      split
      · exact e
      · exact us
    rw [e, if_neg (show ¬ (1 : Int32) = 0 by decide), e2]
    unfold f_LS_P_c62 f_LS_P_c67
    rw [bd2_s i6, bd2_s i7]
end
