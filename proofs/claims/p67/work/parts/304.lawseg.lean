/-! the law's walk, segment D -/
set_option maxRecDepth 100000 in
set_option maxHeartbeats 8000000 in
theorem c_LS_D {p : Program} {l : Launch} {e : Env} {s : State} {m0 : MethodId} {args : Array Value} {below : List Frame} {meth : Method} {c : Code} {cells slots : Nat} {Q : State → Prop} {b : Nat} {D : va_G} {g : xG} {tb : List xQ} (C0 : CC p s m0 args c cL_law 26 RL D g tb) (hc0 : cells + 0 ≤ room_1.cells) (hs0 : slots + 0 ≤ room_1.slots) {al : Int32} {step : Int32} {n : Nat} {m : Nat} {fog : Int32} {op : Int32} {rd : Int32} {si : Int32} {rg : Int32} (h1 : x_fb tb) (hA0 : ((6, 3000, n) : xQ) ∈ tb) (hA1 : ((6, 3016, n) : xQ) ∈ tb) (hA2 : ((6, 3032, n) : xQ) ∈ tb) (hA3 : ((6, 3048, n) : xQ) ∈ tb) (hA4 : ((6, 3064, m) : xQ) ∈ tb) (hA5 : ((6, 3080, m) : xQ) ∈ tb) (hA6 : ((6, 3096, m) : xQ) ∈ tb) (hA7 : ((6, 3112, m) : xQ) ∈ tb) (hA8 : ((6, 3128, m) : xQ) ∈ tb) (hA9 : ((6, 3144, m) : xQ) ∈ tb) {M M' : xM}  (hf : f_LS_D n m fog op M = some M')
    (hend : ∀ { M0 : xM}, (some (M0) : Option xM) = some M' → WW p l e room_1 s m0 args below meth c cells slots Q 26 D g tb 813 [(20, .int al), (0, .ref b), (1, .ref (g.1 4 1664)), (2, .int step), (3, .int (nI n)), (4, .int (nI m)), (6, .int op), (7, .int rd), (8, .int si), (9, .int rg), (10, .ref (g.1 6 3000)), (11, .ref (g.1 6 3016)), (12, .ref (g.1 6 3032)), (13, .ref (g.1 6 3048)), (14, .ref (g.1 6 3064)), (15, .ref (g.1 6 3080)), (16, .ref (g.1 6 3096)), (17, .ref (g.1 6 3112)), (18, .ref (g.1 6 3128)), (19, .ref (g.1 6 3144))] [] M0) :
    WW p l e room_1 s m0 args below meth c cells slots Q 26 D g tb 750 [(20, .int al), (0, .ref b), (1, .ref (g.1 4 1664)), (2, .int step), (3, .int (nI n)), (4, .int (nI m)), (5, .int fog), (6, .int op), (7, .int rd), (8, .int si), (9, .int rg), (10, .ref (g.1 6 3000)), (11, .ref (g.1 6 3016)), (12, .ref (g.1 6 3032)), (13, .ref (g.1 6 3048)), (14, .ref (g.1 6 3064)), (15, .ref (g.1 6 3080)), (16, .ref (g.1 6 3096)), (17, .ref (g.1 6 3112)), (18, .ref (g.1 6 3128)), (19, .ref (g.1 6 3144))] [] M := by
  have hT := C0.2.2.2.2.2.2.1
  have B807 : ∀ (k753 : Int32 → xM → Option xM) (hk753 : ∀ (v21 : Int32)  (M : xM), k753 v21 M = some M' → WW p l e room_1 s m0 args below meth c cells slots Q 26 D g tb 753 [(0, .ref b), (1, .ref (g.1 4 1664)), (2, .int step), (3, .int (nI n)), (4, .int (nI m)), (5, .int fog), (6, .int op), (7, .int rd), (8, .int si), (9, .int rg), (10, .ref (g.1 6 3000)), (11, .ref (g.1 6 3016)), (12, .ref (g.1 6 3032)), (13, .ref (g.1 6 3048)), (14, .ref (g.1 6 3064)), (15, .ref (g.1 6 3080)), (16, .ref (g.1 6 3096)), (17, .ref (g.1 6 3112)), (18, .ref (g.1 6 3128)), (19, .ref (g.1 6 3144)), (20, .int al), (21, .int v21)] [] M), ∀ (v21 : Int32)  (M : xM), f_LS_D_c807 k753 n m fog op v21 M = some M' → WW p l e room_1 s m0 args below meth c cells slots Q 26 D g tb 807 [(0, .ref b), (1, .ref (g.1 4 1664)), (2, .int step), (3, .int (nI n)), (4, .int (nI m)), (5, .int fog), (6, .int op), (7, .int rd), (8, .int si), (9, .int rg), (10, .ref (g.1 6 3000)), (11, .ref (g.1 6 3016)), (12, .ref (g.1 6 3032)), (13, .ref (g.1 6 3048)), (14, .ref (g.1 6 3064)), (15, .ref (g.1 6 3080)), (16, .ref (g.1 6 3096)), (17, .ref (g.1 6 3112)), (18, .ref (g.1 6 3128)), (19, .ref (g.1 6 3144)), (20, .int al), (21, .int v21)] [] M := by
    intro k753 hk753 v21  M hf
    unfold f_LS_D_c807 at hf
    refine r_iincc C0 21 rfl (k0 := 1) (by decide) (by decide) (lv2 := [(21, .int (v21 + 1)), (0, .ref b), (1, .ref (g.1 4 1664)), (2, .int step), (3, .int (nI n)), (4, .int (nI m)), (5, .int fog), (6, .int op), (7, .int rd), (8, .int si), (9, .int rg), (10, .ref (g.1 6 3000)), (11, .ref (g.1 6 3016)), (12, .ref (g.1 6 3032)), (13, .ref (g.1 6 3048)), (14, .ref (g.1 6 3064)), (15, .ref (g.1 6 3080)), (16, .ref (g.1 6 3096)), (17, .ref (g.1 6 3112)), (18, .ref (g.1 6 3128)), (19, .ref (g.1 6 3144)), (20, .int al)]) rfl dL_law_807 ?_
    refine r_goto C0 (tgt := 753) (by decide) dL_law_810 ?_
    refine WW.sub [1, 2, 3, 4, 5, 6, 7, 8, 9, 10, 11, 12, 13, 14, 15, 16, 17, 18, 19, 20, 21, 0] rfl ?_
    exact hk753 _   _ hf
  have B753 : ∀ (k753 : Int32 → xM → Option xM) (hk753 : ∀ (v21 : Int32)  (M : xM), k753 v21 M = some M' → WW p l e room_1 s m0 args below meth c cells slots Q 26 D g tb 753 [(0, .ref b), (1, .ref (g.1 4 1664)), (2, .int step), (3, .int (nI n)), (4, .int (nI m)), (5, .int fog), (6, .int op), (7, .int rd), (8, .int si), (9, .int rg), (10, .ref (g.1 6 3000)), (11, .ref (g.1 6 3016)), (12, .ref (g.1 6 3032)), (13, .ref (g.1 6 3048)), (14, .ref (g.1 6 3064)), (15, .ref (g.1 6 3080)), (16, .ref (g.1 6 3096)), (17, .ref (g.1 6 3112)), (18, .ref (g.1 6 3128)), (19, .ref (g.1 6 3144)), (20, .int al), (21, .int v21)] [] M), ∀ (v21 : Int32)  (M : xM), fb_LS_D_c753 k753 n m fog op v21 M = some M' → WW p l e room_1 s m0 args below meth c cells slots Q 26 D g tb 753 [(0, .ref b), (1, .ref (g.1 4 1664)), (2, .int step), (3, .int (nI n)), (4, .int (nI m)), (5, .int fog), (6, .int op), (7, .int rd), (8, .int si), (9, .int rg), (10, .ref (g.1 6 3000)), (11, .ref (g.1 6 3016)), (12, .ref (g.1 6 3032)), (13, .ref (g.1 6 3048)), (14, .ref (g.1 6 3064)), (15, .ref (g.1 6 3080)), (16, .ref (g.1 6 3096)), (17, .ref (g.1 6 3112)), (18, .ref (g.1 6 3128)), (19, .ref (g.1 6 3144)), (20, .int al), (21, .int v21)] [] M := by
    intro k753 hk753 v21  M hf
    unfold fb_LS_D_c753 at hf
    refine r_iload C0 21 rfl dL_law_753 ?_
    refine r_iload_n C0 (kk := 3) 3 rfl dL_law_755 ?_
    refine r_icmp_ge C0 (tgt := 813) (by decide) dL_law_756 (fun q1 => ?_) (fun q1 => ?_)
    · have hf := ie_t hf q1
      refine WW.sub [20, 0, 1, 2, 3, 4, 6, 7, 8, 9, 10, 11, 12, 13, 14, 15, 16, 17, 18, 19] rfl ?_
      exact hend hf
    · have hf := ie_f hf q1
      refine r_iload C0 6 rfl dL_law_759 ?_
      refine r_if_eq C0 (tgt := 813) (by decide) dL_law_761 (fun q2 => ?_) (fun q2 => ?_)
      · have hf := ie_t hf q2
        refine WW.sub [20, 0, 1, 2, 3, 4, 6, 7, 8, 9, 10, 11, 12, 13, 14, 15, 16, 17, 18, 19] rfl ?_
        exact hend hf
      · have hf := ie_f hf q2
        refine r_aload C0 10 rfl dL_law_764 ?_
        refine r_iload C0 21 rfl dL_law_766 ?_
        obtain ⟨q3, hf⟩ := gd_e hf
        refine r_ialdc C0 hA0 q3 rfl dL_law_768 ?_
        refine r_if_eq C0 (tgt := 807) (by decide) dL_law_769 (fun q4 => ?_) (fun q4 => ?_)
        · have hf := ie_t hf q4
          exact B807 k753 hk753 _   _ hf
        · have hf := ie_f hf q4
          refine r_iload C0 5 rfl dL_law_772 ?_
          refine r_aload_n C0 (kk := 1) 1 rfl dL_law_774 ?_
          refine r_iload C0 21 rfl dL_law_775 ?_
          obtain ⟨r7, M6, hc5, hf⟩ := bd2_e hf
          refine r_callVi C0 (As := [.int v21]) (rest := [.int fog]) (c_X6_lanternOf l D g tb hT h1 hc5) w1_174 w1_175 w1_176 w1_13 w1_177 (x_rec4 C0 h1.1) hd_X6_lanternOf rfl ⟨rfl, rfl⟩ ⟨Nat.le_of_ble_eq_true rfl, Nat.le_of_ble_eq_true rfl⟩ hc0 hs0 rfl (Nat.le_of_ble_eq_true rfl) dL_law_777 ?_
          obtain ⟨r10, M9, hc8, hf⟩ := bd2_e hf
          refine r_callSi C0 (As := [.int r7]) (rest := [.int fog]) (c_L_guard l D g tb hT  hc8) w5_206 w5_207 w1_0 w5_208 hd_L_guard rfl ⟨rfl, rfl⟩ ⟨Nat.le_of_ble_eq_true rfl, Nat.le_of_ble_eq_true rfl⟩ hc0 hs0 rfl (Nat.le_of_ble_eq_true rfl) dL_law_780 ?_
          refine r_icmp_gt C0 (tgt := 789) (by decide) dL_law_783 (fun q11 => ?_) (fun q11 => ?_)
          · have hf := ie_t hf q11
            refine r_aload C0 10 rfl dL_law_789 ?_
            refine r_iload C0 21 rfl dL_law_791 ?_
            refine r_dup2 C0 rfl rfl dL_law_793 ?_
            obtain ⟨q12, hf⟩ := gd_e hf
            refine r_ialdc C0 hA0 q12 rfl dL_law_794 ?_
            refine r_iconst C0 (v := 1) dL_law_795 rfl ?_
            refine r_isub C0 dL_law_796 ?_
            obtain ⟨q13, hf⟩ := gd_e hf
            refine r_iastc C0 hA0 q13 rfl dL_law_797 ?_
            refine r_aload C0 12 rfl dL_law_798 ?_
            refine r_iload C0 21 rfl dL_law_800 ?_
            refine r_dup2 C0 rfl rfl dL_law_802 ?_
            obtain ⟨q14, hf⟩ := gd_e hf
            refine r_ialdc C0 hA2 q14 rfl dL_law_803 ?_
            refine r_iconst C0 (v := 1) dL_law_804 rfl ?_
            refine r_iadd C0 dL_law_805 ?_
            obtain ⟨q15, hf⟩ := gd_e hf
            refine r_iastc C0 hA2 q15 rfl dL_law_806 ?_
            exact B807 k753 hk753 _   _ hf
          · have hf := ie_f hf q11
            refine r_goto C0 (tgt := 807) (by decide) dL_law_786 ?_
            exact B807 k753 hk753 _   _ hf
  have L753 : ∀ (v21 : Int32)  (M : xM), f_LS_D_c753  n m fog op v21 M = some M' → WW p l e room_1 s m0 args below meth c cells slots Q 26 D g tb 753 [(0, .ref b), (1, .ref (g.1 4 1664)), (2, .int step), (3, .int (nI n)), (4, .int (nI m)), (5, .int fog), (6, .int op), (7, .int rd), (8, .int si), (9, .int rg), (10, .ref (g.1 6 3000)), (11, .ref (g.1 6 3016)), (12, .ref (g.1 6 3032)), (13, .ref (g.1 6 3048)), (14, .ref (g.1 6 3064)), (15, .ref (g.1 6 3080)), (16, .ref (g.1 6 3096)), (17, .ref (g.1 6 3112)), (18, .ref (g.1 6 3128)), (19, .ref (g.1 6 3144)), (20, .int al), (21, .int v21)] [] M := lp_ind (P := fun f => ∀ (v21 : Int32)  (M : xM), f v21 M = some M' → WW p l e room_1 s m0 args below meth c cells slots Q 26 D g tb 753 [(0, .ref b), (1, .ref (g.1 4 1664)), (2, .int step), (3, .int (nI n)), (4, .int (nI m)), (5, .int fog), (6, .int op), (7, .int rd), (8, .int si), (9, .int rg), (10, .ref (g.1 6 3000)), (11, .ref (g.1 6 3016)), (12, .ref (g.1 6 3032)), (13, .ref (g.1 6 3048)), (14, .ref (g.1 6 3064)), (15, .ref (g.1 6 3080)), (16, .ref (g.1 6 3096)), (17, .ref (g.1 6 3112)), (18, .ref (g.1 6 3128)), (19, .ref (g.1 6 3144)), (20, .int al), (21, .int v21)] [] M) (fun _ _ h => none_ne h) (fun f hf => B753 f hf) FU
  unfold f_LS_D at hf
  refine r_iconst C0 (v := 0) dL_law_750 rfl ?_
  refine r_istore C0 (lv2 := [(21, .int 0), (20, .int al), (0, .ref b), (1, .ref (g.1 4 1664)), (2, .int step), (3, .int (nI n)), (4, .int (nI m)), (5, .int fog), (6, .int op), (7, .int rd), (8, .int si), (9, .int rg), (10, .ref (g.1 6 3000)), (11, .ref (g.1 6 3016)), (12, .ref (g.1 6 3032)), (13, .ref (g.1 6 3048)), (14, .ref (g.1 6 3064)), (15, .ref (g.1 6 3080)), (16, .ref (g.1 6 3096)), (17, .ref (g.1 6 3112)), (18, .ref (g.1 6 3128)), (19, .ref (g.1 6 3144))]) (by decide) rfl dL_law_751 ?_
  refine WW.sub [2, 3, 4, 5, 6, 7, 8, 9, 10, 11, 12, 13, 14, 15, 16, 17, 18, 19, 20, 21, 1, 0] rfl ?_
  exact L753   _   _ hf
