/-! one step of the law -/
set_option maxRecDepth 100000 in
set_option maxHeartbeats 8000000 in
theorem law_mid {p : Program} {l : Launch} {e : Env} {s : State} {m : MethodId} {below : List Frame} {meth : Method} {c : Code} {cells slots : Nat} {Q : State → Prop} {args : Array Value} {b : Nat} {D : va_G} {g : xG} (h : LB p s m c D g args) (hc : cells + 10 ≤ room_1.cells) (hs : slots + 60 ≤ room_1.slots) {step : Int32} {K ns nb nf : Nat} {M : xM} (hI : CI ns nb nf K M) (hK : K + 200 < 1000000000) (hfb : x_fb tbX)
    (hend : ∀ {M' : xM}, CI ns nb nf (K + 200) M' → WW p l e room_1 s m args below meth c (cells + 10) (slots + 60) Q 26 D g tbX 1063 [(0, .ref b), (1, .ref (g.1 4 1664)), (2, .int step)] [] M') :
    WW p l e room_1 s m args below meth c cells slots Q 26 D g tbX 81 [(3, .int (nI ns)), (4, .int (nI nb)), (5, .int (P_dens nf M)), (6, .int (M 1)), (7, .int (P_rdy (P_dens nf M) M 2)), (8, .int (M 3)), (9, .int (M 4)), (0, .ref b), (1, .ref (g.1 4 1664)), (2, .int step)] [] M := by
  have hn6 : ns ≤ 6 := hI.2.1.1.s.2
  have hm6 : nb ≤ 6 := hI.2.1.1.b.2
  have C0 := h.1
  generalize hfog : P_dens nf M = fog
  generalize hop : M 1 = op
  generalize hrd : P_rdy fog M 2 = rd
  generalize hsi : M 3 = si
  generalize hrg : M 4 = rg
  have KN : WN p l e room_1 s m args below meth c cells slots Q 26 D (fun q : Nat => s.heap.size ≤ q) 81 [(3, .int (nI ns)), (4, .int (nI nb)), (5, .int fog), (6, .int op), (7, .int rd), (8, .int si), (9, .int rg), (0, .ref b), (1, .ref (g.1 4 1664)), (2, .int step)] [] (x_ws g tbX M) := by
    refine n_iload_n C0 (kk := 3) 0 rfl dL_law_81 ?_
    refine n_newi C0 0 (ty := .int) rfl rfl (fun U cA h => h) w3_193 (N := ns) rfl (Int32.not_lt.mpr (nI_le (a := 0) (Nat.zero_le _) (by omega))) (cl (by omega)) (by show ns * 4 ≤ _; omega) (by omega) (by omega) dL_law_82 (fun q0 => ?_)
    refine n_astorew C0 (lv2 := [(10, .ref q0), (3, .int (nI ns)), (4, .int (nI nb)), (5, .int fog), (6, .int op), (7, .int rd), (8, .int si), (9, .int rg), (0, .ref b), (1, .ref (g.1 4 1664)), (2, .int step)]) (by decide) rfl dL_law_84 ?_
    refine n_iload_n C0 (kk := 3) 1 rfl dL_law_86 ?_
    refine n_newi C0 0 (ty := .int) rfl rfl (fun U cA h => h) w3_193 (N := ns) rfl (Int32.not_lt.mpr (nI_le (a := 0) (Nat.zero_le _) (by omega))) (cl (by omega)) (by show ns * 4 ≤ _; omega) (by omega) (by omega) dL_law_87 (fun q1 => ?_)
    refine n_astorew C0 (lv2 := [(11, .ref q1), (10, .ref q0), (3, .int (nI ns)), (4, .int (nI nb)), (5, .int fog), (6, .int op), (7, .int rd), (8, .int si), (9, .int rg), (0, .ref b), (1, .ref (g.1 4 1664)), (2, .int step)]) (by decide) rfl dL_law_89 ?_
    refine n_iload_n C0 (kk := 3) 2 rfl dL_law_91 ?_
    refine n_newi C0 0 (ty := .int) rfl rfl (fun U cA h => h) w3_193 (N := ns) rfl (Int32.not_lt.mpr (nI_le (a := 0) (Nat.zero_le _) (by omega))) (cl (by omega)) (by show ns * 4 ≤ _; omega) (by omega) (by omega) dL_law_92 (fun q2 => ?_)
    refine n_astorew C0 (lv2 := [(12, .ref q2), (11, .ref q1), (10, .ref q0), (3, .int (nI ns)), (4, .int (nI nb)), (5, .int fog), (6, .int op), (7, .int rd), (8, .int si), (9, .int rg), (0, .ref b), (1, .ref (g.1 4 1664)), (2, .int step)]) (by decide) rfl dL_law_94 ?_
    refine n_iload_n C0 (kk := 3) 3 rfl dL_law_96 ?_
    refine n_newi C0 0 (ty := .int) rfl rfl (fun U cA h => h) w3_193 (N := ns) rfl (Int32.not_lt.mpr (nI_le (a := 0) (Nat.zero_le _) (by omega))) (cl (by omega)) (by show ns * 4 ≤ _; omega) (by omega) (by omega) dL_law_97 (fun q3 => ?_)
    refine n_astorew C0 (lv2 := [(13, .ref q3), (12, .ref q2), (11, .ref q1), (10, .ref q0), (3, .int (nI ns)), (4, .int (nI nb)), (5, .int fog), (6, .int op), (7, .int rd), (8, .int si), (9, .int rg), (0, .ref b), (1, .ref (g.1 4 1664)), (2, .int step)]) (by decide) rfl dL_law_99 ?_
    refine n_iloadw C0 5 rfl dL_law_101 ?_
    refine n_newi C0 0 (ty := .int) rfl rfl (fun U cA h => h) w3_193 (N := nb) rfl (Int32.not_lt.mpr (nI_le (a := 0) (Nat.zero_le _) (by omega))) (cl (by omega)) (by show nb * 4 ≤ _; omega) (by omega) (by omega) dL_law_103 (fun q4 => ?_)
    refine n_astorew C0 (lv2 := [(14, .ref q4), (13, .ref q3), (12, .ref q2), (11, .ref q1), (10, .ref q0), (3, .int (nI ns)), (4, .int (nI nb)), (5, .int fog), (6, .int op), (7, .int rd), (8, .int si), (9, .int rg), (0, .ref b), (1, .ref (g.1 4 1664)), (2, .int step)]) (by decide) rfl dL_law_105 ?_
    refine n_iloadw C0 6 rfl dL_law_107 ?_
    refine n_newi C0 0 (ty := .int) rfl rfl (fun U cA h => h) w3_193 (N := nb) rfl (Int32.not_lt.mpr (nI_le (a := 0) (Nat.zero_le _) (by omega))) (cl (by omega)) (by show nb * 4 ≤ _; omega) (by omega) (by omega) dL_law_109 (fun q5 => ?_)
    refine n_astorew C0 (lv2 := [(15, .ref q5), (14, .ref q4), (13, .ref q3), (12, .ref q2), (11, .ref q1), (10, .ref q0), (3, .int (nI ns)), (4, .int (nI nb)), (5, .int fog), (6, .int op), (7, .int rd), (8, .int si), (9, .int rg), (0, .ref b), (1, .ref (g.1 4 1664)), (2, .int step)]) (by decide) rfl dL_law_111 ?_
    refine n_iloadw C0 7 rfl dL_law_113 ?_
    refine n_newi C0 0 (ty := .int) rfl rfl (fun U cA h => h) w3_193 (N := nb) rfl (Int32.not_lt.mpr (nI_le (a := 0) (Nat.zero_le _) (by omega))) (cl (by omega)) (by show nb * 4 ≤ _; omega) (by omega) (by omega) dL_law_115 (fun q6 => ?_)
    refine n_astorew C0 (lv2 := [(16, .ref q6), (15, .ref q5), (14, .ref q4), (13, .ref q3), (12, .ref q2), (11, .ref q1), (10, .ref q0), (3, .int (nI ns)), (4, .int (nI nb)), (5, .int fog), (6, .int op), (7, .int rd), (8, .int si), (9, .int rg), (0, .ref b), (1, .ref (g.1 4 1664)), (2, .int step)]) (by decide) rfl dL_law_117 ?_
    refine n_iloadw C0 8 rfl dL_law_119 ?_
    refine n_newi C0 0 (ty := .int) rfl rfl (fun U cA h => h) w3_193 (N := nb) rfl (Int32.not_lt.mpr (nI_le (a := 0) (Nat.zero_le _) (by omega))) (cl (by omega)) (by show nb * 4 ≤ _; omega) (by omega) (by omega) dL_law_121 (fun q7 => ?_)
    refine n_astorew C0 (lv2 := [(17, .ref q7), (16, .ref q6), (15, .ref q5), (14, .ref q4), (13, .ref q3), (12, .ref q2), (11, .ref q1), (10, .ref q0), (3, .int (nI ns)), (4, .int (nI nb)), (5, .int fog), (6, .int op), (7, .int rd), (8, .int si), (9, .int rg), (0, .ref b), (1, .ref (g.1 4 1664)), (2, .int step)]) (by decide) rfl dL_law_123 ?_
    refine n_iloadw C0 9 rfl dL_law_125 ?_
    refine n_newi C0 0 (ty := .int) rfl rfl (fun U cA h => h) w3_193 (N := nb) rfl (Int32.not_lt.mpr (nI_le (a := 0) (Nat.zero_le _) (by omega))) (cl (by omega)) (by show nb * 4 ≤ _; omega) (by omega) (by omega) dL_law_127 (fun q8 => ?_)
    refine n_astorew C0 (lv2 := [(18, .ref q8), (17, .ref q7), (16, .ref q6), (15, .ref q5), (14, .ref q4), (13, .ref q3), (12, .ref q2), (11, .ref q1), (10, .ref q0), (3, .int (nI ns)), (4, .int (nI nb)), (5, .int fog), (6, .int op), (7, .int rd), (8, .int si), (9, .int rg), (0, .ref b), (1, .ref (g.1 4 1664)), (2, .int step)]) (by decide) rfl dL_law_129 ?_
    refine n_iloadw C0 10 rfl dL_law_131 ?_
    refine n_newi C0 0 (ty := .int) rfl rfl (fun U cA h => h) w3_193 (N := nb) rfl (Int32.not_lt.mpr (nI_le (a := 0) (Nat.zero_le _) (by omega))) (cl (by omega)) (by show nb * 4 ≤ _; omega) (by omega) (by omega) dL_law_133 (fun q9 => ?_)
    refine n_astorew C0 (lv2 := [(19, .ref q9), (18, .ref q8), (17, .ref q7), (16, .ref q6), (15, .ref q5), (14, .ref q4), (13, .ref q3), (12, .ref q2), (11, .ref q1), (10, .ref q0), (3, .int (nI ns)), (4, .int (nI nb)), (5, .int fog), (6, .int op), (7, .int rd), (8, .int si), (9, .int rg), (0, .ref b), (1, .ref (g.1 4 1664)), (2, .int step)]) (by decide) rfl dL_law_135 ?_
    refine WN.sub (lv2 := [(0, .ref b), (1, .ref (g.1 4 1664)), (2, .int step), (3, .int (nI ns)), (4, .int (nI nb)), (5, .int fog), (6, .int op), (7, .int rd), (8, .int si), (9, .int rg), (10, .ref q0), (11, .ref q1), (12, .ref q2), (13, .ref q3), (14, .ref q4), (15, .ref q5), (16, .ref q6), (17, .ref q7), (18, .ref q8), (19, .ref q9)]) [17, 18, 19, 10, 11, 12, 13, 14, 15, 16, 9, 8, 7, 6, 5, 4, 3, 2, 1, 0] rfl ?_
    refine WN.widen (k := cells + 10) (n := slots + 60) (by omega) (by omega) ?_
    intro H locs ls h1 h2 h3 h4
    obtain ⟨eA, eP⟩ := S_P (D := D) (g := g) (M := M) (n := ns) (m := nb) hn6 hm6 (qs := fun i => match i with | 0 => q0 | 1 => q1 | 2 => q2 | 3 => q3 | 4 => q4 | 5 => q5 | 6 => q6 | 7 => q7 | 8 => q8 | _ => q9) (q0 := q0) (q1 := q1) (q2 := q2) (q3 := q3) (q4 := q4) (q5 := q5) (q6 := q6) (q7 := q7) (q8 := q8) (q9 := q9) rfl rfl rfl rfl rfl rfl rfl rfl rfl rfl
    have hP := eP H h1
    revert eA eP hP
    generalize hqs : (fun i => match i with | 0 => q0 | 1 => q1 | 2 => q2 | 3 => q3 | 4 => q4 | 5 => q5 | 6 => q6 | 7 => q7 | 8 => q8 | _ => q9 : Nat → Nat) = qs
    intro eA eP hP
    have hD : va_D (fun q : Nat => s.heap.size ≤ q) (x_ws (aS qs g.1, g.2) (tbX ++ tbS ns nb) (zS_ M)) := D_addr (by rw [ws_fst]; exact eA) h2
    have hge : ∀ q ∈ tbX ++ tbS ns nb, s.heap.size ≤ x_ad (aS qs g.1, g.2) q := fun q hq => (D_iff.mp hD).2 (x_ad _ q, x_cell _ (zS_ M) q) (List.mem_map.mpr ⟨q, hq, rfl⟩)
    have C1 : CC p s m args c cL_law 26 RL D (aS qs g.1, g.2) (tbX ++ tbS ns nb) := h.cc (fun k z hk => aS_2 k z hk) (T_of hD (apt_XS hn6 hm6)) hge
    have hIX : CI ns nb nf K (zS_ M) := hI.cong (by
      obtain ⟨p', c', r1, r2, r3, r4⟩ := hI.2.2.1
      exact ⟨p', c', r1, r2, by rw [zS_lo (by decide)]; exact r3, by rw [zS_lo (by decide)]; exact r4⟩) (fun z hz => zS_lo (by omega))
    have hDX : P_dens nf M = P_dens nf (zS_ M) := S_dens (hI.2.1.r (fun z hz => zS_lo (by omega))).2.2.2 hI.2.1.1.f.2.1
    have hRX : P_rdy fog M 2 = P_rdy fog (zS_ M) 2 := by
      unfold P_rdy
      rw [show zS_ M 5 = M 5 from zS_lo (by decide)]
      split
      · exact (zS_lo (by decide)).symm
      · rw [us, us]
    obtain ⟨M', fA, fB_, ⟨Y, fC, fD⟩, fE, fF, hI2⟩ := law_step hIX hK
    rw [← hDX, hfog, zS_lo (M := M) (z := 1) (by decide), zS_lo (M := M) (z := 3) (by decide), zS_lo (M := M) (z := 4) (by decide), ← hRX, hrd, hop, hsi, hrg] at fB_
    rw [← hDX, hfog] at fC fD
    have hfbS : x_fb (tbX ++ tbS ns nb) := fb_in (fun q hq => List.mem_append_left _ hq)
    have mS : ∀ q ∈ tbS ns nb, q ∈ tbX ++ tbS ns nb := fun q hq => List.mem_append_right _ hq
    have a0 := mS (6, 3000, ns) (List.mem_of_getElem? (i := 0) rfl)
    have a1 := mS (6, 3016, ns) (List.mem_of_getElem? (i := 1) rfl)
    have a2 := mS (6, 3032, ns) (List.mem_of_getElem? (i := 2) rfl)
    have a3 := mS (6, 3048, ns) (List.mem_of_getElem? (i := 3) rfl)
    have a4 := mS (6, 3064, nb) (List.mem_of_getElem? (i := 4) rfl)
    have a5 := mS (6, 3080, nb) (List.mem_of_getElem? (i := 5) rfl)
    have a6 := mS (6, 3096, nb) (List.mem_of_getElem? (i := 6) rfl)
    have a7 := mS (6, 3112, nb) (List.mem_of_getElem? (i := 7) rfl)
    have a8 := mS (6, 3128, nb) (List.mem_of_getElem? (i := 8) rfl)
    have a9 := mS (6, 3144, nb) (List.mem_of_getElem? (i := 9) rfl)
    have eb : (aS qs g.1, g.2).1 4 1664 = g.1 4 1664 := aS_1 (qs := qs) (a1 := g.1) (k := 4) (z := 1664) (by decide)
    have b0 : q0 = (aS qs g.1, g.2).1 6 3000 := by subst hqs; rfl
    have b1 : q1 = (aS qs g.1, g.2).1 6 3016 := by subst hqs; rfl
    have b2 : q2 = (aS qs g.1, g.2).1 6 3032 := by subst hqs; rfl
    have b3 : q3 = (aS qs g.1, g.2).1 6 3048 := by subst hqs; rfl
    have b4 : q4 = (aS qs g.1, g.2).1 6 3064 := by subst hqs; rfl
    have b5 : q5 = (aS qs g.1, g.2).1 6 3080 := by subst hqs; rfl
    have b6 : q6 = (aS qs g.1, g.2).1 6 3096 := by subst hqs; rfl
    have b7 : q7 = (aS qs g.1, g.2).1 6 3112 := by subst hqs; rfl
    have b8 : q8 = (aS qs g.1, g.2).1 6 3128 := by subst hqs; rfl
    have b9 : q9 = (aS qs g.1, g.2).1 6 3144 := by subst hqs; rfl
    rw [← eb, b0, b1, b2, b3, b4, b5, b6, b7, b8, b9] at h4
    have hcc : cells + 10 + 0 ≤ room_1.cells := hc
    have hss : slots + 60 + 0 ≤ room_1.slots := hs
    refine (c_LS_A C1 hcc hss hfbS a0 a1 a2 a3 a4 a5 a6 a7 a8 a9 fA (fun {_} hf => ?_)) H locs ls hP (S_up (fun q hq => Or.inr hq) h3) h4
    cases hf
    refine c_LS_B C1 hcc hss hfbS a0 a1 a2 a3 a4 a5 a6 a7 a8 a9 fB_ (fun {_ _ _ _ _} hf => ?_)
    cases hf
    refine WW.sub [4, 5, 6, 7, 8, 9, 0, 1, 2, 3, 10, 11, 12, 13, 14, 15, 16, 17, 18, 19] rfl ?_
    refine c_LS_C C1 hcc hss hfbS a0 a1 a2 a3 a4 a5 a6 a7 a8 a9 fC (fun {_ _} hf => ?_)
    cases hf
    refine c_LS_D C1 hcc hss hfbS a0 a1 a2 a3 a4 a5 a6 a7 a8 a9 fD (fun {_} hf => ?_)
    cases hf
    refine c_LS_E C1 hcc hss hfbS a0 a1 a2 a3 a4 a5 a6 a7 a8 a9 fE (fun {_} hf => ?_)
    cases hf
    refine c_LS_F C1 hcc hss hfbS a0 a1 a2 a3 a4 a5 a6 a7 a8 a9 fF (fun {_} hf => ?_)
    cases hf
    intro H locs ls k1 k2 k3
    rw [eb] at k3
    exact hend hI2 H locs ls (S_back k1) (S_up (fun q hq => Or.inr (by
      rcases hq with ⟨r, hr, e⟩ | hq
      · rw [e]
        exact hge r hr
      · exact hq)) k2) k3
  intro H locs ls h1 h2 h3
  exact KN H locs ls h1 (D_iff.mpr ⟨(D_iff.mp (x_apart h.2.1 M s.heap.size)).1, fun q hq => by
    obtain ⟨r, hr, rfl⟩ := List.mem_map.mp hq
    exact h.2.2.1 r hr⟩) (S_up (fun q hq => by
    rcases hq with ⟨r, hr, e⟩ | hq
    · rw [e]
      exact h.2.2.1 r hr
    · exact hq) h2) h3
