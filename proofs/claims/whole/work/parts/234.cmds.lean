/-! commands, one after another, on both sides -/
def KW (M M' : xM) : Prop := ∀ z, ¬ (rd z ∨ (128 ≤ z ∧ z < 253)) → M' z = M z
theorem KW.tr {M M1 M2 : xM} (h : KW M M1) (h2 : KW M1 M2) : KW M M2 := fun z hz => (h2 z hz).trans (h z hz)
theorem KD.w {N N' : xM} (h : KD N N') : KW N N' := fun z hz => h z (fun e => hz (Or.inl e))
theorem mi_i : ∀ v : Fin 10, 1 ≤ v.val → ((nI (mi v.val) = 0) = (v.val = 1)) ∧ ((nI (mi v.val) = 1) = (v.val = 2)) ∧ ¬ nI (mi v.val) = -1 := by
  have : ∀ v : Fin 10, 1 ≤ v.val → (decide (nI (mi v.val) = 0) = decide (v.val = 1)) ∧ (decide (nI (mi v.val) = 1) = decide (v.val = 2)) ∧ ¬ nI (mi v.val) = -1 := by decide +kernel
  intro v hv
  obtain ⟨a, b, c⟩ := this v hv
  exact ⟨propext (decide_eq_decide.mp a), propext (decide_eq_decide.mp b), c⟩
section
variable {l : Nat} {B : Nat → Nat} {M N : xM} {mm ns nb nf p : Nat}
theorem DOut.err {c q v : Nat} {a : Nat → Nat} {o : Option (Int32 × xM)} (h : DOut l (c, q, v, a) M o) (h0 : c ≠ 0) (h9 : c ≠ 9) : ∃ M', o = some (0, M') ∧ KD M M' ∧ M' 1779 = nI c ∧ M' 1780 = nI q := by
  rcases h with ⟨e, -⟩ | ⟨e, -⟩ | ⟨-, -, r⟩
  · exact absurd e h0
  · exact absurd e h9
  · exact r
theorem DOut.fin {q v : Nat} {a : Nat → Nat} {o : Option (Int32 × xM)} (h : DOut l (9, q, v, a) M o) : ∃ M', o = some (0, M') ∧ KD M M' ∧ M' 1779 = M 1779 ∧ M' 1780 = M 1780 := by
  rcases h with ⟨e, -⟩ | ⟨-, r⟩ | ⟨-, e, -⟩
  · exact absurd e (show ¬ 9 = 0 by omega)
  · exact r
  · exact absurd rfl e
theorem DOut.ok {q v : Nat} {a : Nat → Nat} {o : Option (Int32 × xM)} (h : DOut l (0, q, v, a) M o) : ∃ M', o = some (1, M') ∧ KD M M' ∧ M' 1783 = nI q ∧ q ≤ l ∧ M' 1781 = nI v ∧ (∀ j, j < (kinds v).length → M' (1787 + j) = nI (a j)) ∧ M' 1779 = M 1779 ∧ M' 1780 = M 1780 := by
  rcases h with ⟨-, r⟩ | ⟨e, -⟩ | ⟨e, -⟩
  · exact r
  · exact absurd e (show ¬ 0 = 9 by omega)
  · exact absurd rfl e
theorem m_c77 {k2 : Int32 → xM → Option (Int32 × xM)} {v1 : Int32} : f_X7_commandsText_c77 k2 v1 N = some (-1, upd (upd N 2502 4) 2503 (N 2517)) := by
  unfold f_X7_commandsText_c77 f_X7_commandsText_c90
  rw [m_wrong]
  simp only [bd2, ↓reduceIte]
theorem m_body {cnt : Nat} {k2 : Int32 → xM → Option (Int32 × xM)} (h : MT l B N) (hx : NXt l B N p) (hpl : p ≤ l) (hs : N 2529 = nI ns) (hb : N 2530 = nI nb) (hs6 : ns ≤ 6) (hb6 : nb ≤ 6) (hc : cnt ≤ 40) :
    fb_X7_commandsText_c2 k2 (nI cnt) N = if tK B l p = 4 then some (nI cnt, N) else if PVerb B l p = 0 then some (-1, upd (upd N 2502 1) 2503 (nI (tS B l p))) else if 40 ≤ cnt then some (-1, upd (upd N 2502 4) 2503 (nI (tS B l p))) else if full ns nb (PVerb B l p) = true then some (-1, upd (upd N 2502 4) 2503 (nI (tS B l p))) else bd2 (f_X7_commandText (nI (mi (PVerb B l p))) N) (fun r14 M13 => f_X7_commandsText_c90 k2 (nI cnt) r14 M13) := by
  have e4 : (nI (tK B l p) = 4) = (tK B l p = 4) := tk_i (k := 4) (by omega)
  have hv9 : PVerb B l p ≤ 9 := PVl_le 9 0 (by omega)
  have f1 : (nI ns = 6) = (6 ≤ ns) := propext (by rw [show (6 : Int32) = nI 6 from rfl, nI_eq (by omega) (by omega)]; omega)
  have f2 : (nI nb = 6) = (6 ≤ nb) := propext (by rw [show (6 : Int32) = nI 6 from rfl, nI_eq (by omega) (by omega)]; omega)
  have f40 : (nI cnt = 40) = (40 ≤ cnt) := propext (by rw [show (40 : Int32) = nI 40 from rfl, nI_eq (by omega) (by omega)]; omega)
  unfold fb_X7_commandsText_c2
  rw [hx.2.1, m_here h hx hpl]
  simp only [e4, bd2]
  by_cases q0 : tK B l p = 4
  · rw [if_pos q0, if_pos q0]
  · rw [if_neg q0, if_neg q0]
    unfold f_X7_commandsText_c31 f_X7_commandsText_c48 f_X7_commandsText_c52 f_X7_commandsText_c53
    rw [hs, hb]
    simp only [f1, f2, f40]
    by_cases q1 : PVerb B l p = 0
    · simp only [q1, ↓reduceIte]
      rw [if_neg (show ¬ (-1 : Int32) = 0 by decide), if_neg (show ¬ (-1 : Int32) = 1 by decide), m_wrong, hx.2.2.1]
      unfold f_X7_commandsText_c90
      simp only [bd2, ↓reduceIte]
    · obtain ⟨m1, m2, m3⟩ := mi_i ⟨PVerb B l p, by omega⟩ (show 1 ≤ PVerb B l p by omega)
      simp only at m1 m2 m3
      simp only [if_neg q1]
      simp only [m1, m2, if_neg m3, m_c77, hx.2.2.1, i10, ↓reduceIte]
      unfold full
      simp only [decide_eq_true_eq]
      by_cases w1 : PVerb B l p = 1
      · rw [if_pos w1, if_neg (show ¬ PVerb B l p = 2 by omega)]
        by_cases w2 : 6 ≤ ns
        · rw [if_pos w2, if_pos (Or.inl ⟨w1, w2⟩)]
          by_cases w3 : 40 ≤ cnt
          · rw [if_pos w3]
          · rw [if_neg w3]
        · rw [if_neg w2, if_neg (show ¬ ((PVerb B l p = 1 ∧ 6 ≤ ns) ∨ (PVerb B l p = 2 ∧ 6 ≤ nb)) by omega)]
          rfl
      · rw [if_neg w1]
        by_cases w2 : PVerb B l p = 2
        · rw [if_pos w2]
          by_cases w3 : 6 ≤ nb
          · rw [if_pos w3, if_pos (Or.inr ⟨w2, w3⟩)]
            by_cases w4 : 40 ≤ cnt
            · rw [if_pos w4]
            · rw [if_neg w4]
          · rw [if_neg w3, if_neg (show ¬ ((PVerb B l p = 1 ∧ 6 ≤ ns) ∨ (PVerb B l p = 2 ∧ 6 ≤ nb)) by omega)]
            rfl
        · rw [if_neg w2, if_neg (show ¬ ((PVerb B l p = 1 ∧ 6 ≤ ns) ∨ (PVerb B l p = 2 ∧ 6 ≤ nb)) by omega)]
          rfl
/-- what the loops end with -/
def Fin2 (mm' : Nat) (M N : xM) (o1 o2 : Option (Int32 × xM)) : Prop := ∃ r M' N', o1 = some (r, M') ∧ o2 = some (r, N') ∧ KW M M' ∧ KX N N' ∧ M' 1779 = N' 2502 ∧ M' 1780 = N' 2503 ∧ (r = -1 ∨ ∃ c, c ≤ 40 ∧ r = nI c ∧ Mk2 mm' (win 128 M') (win 2520 N'))
theorem s_cstep {cnt : Nat} {K1 K2' : Int32 → xM → Option (Int32 × xM)} (hc : cnt ≤ 40) (h1 : CT l B M) (h2 : MT l B N) (hp : M 1783 = nI p) (hx : NXt l B N p) (hpl : p ≤ l) (hM : MM mm ns nb nf (win 128 M) (win 2520 N)) (hm : mm < 1073741824) (e0 : M 1779 = 0) (e1 : N 2502 = 0) (e2 : M 1780 = N 2503) :
    Fin2 mm M N (fb_X6_readCommands_c2 K1 (nI cnt) M) (fb_X7_commandsText_c2 K2' (nI cnt) N) ∨
    (cnt < 40 ∧ ∃ M' N' p' ns' nb', fb_X6_readCommands_c2 K1 (nI cnt) M = K1 (nI (cnt + 1)) M' ∧ fb_X7_commandsText_c2 K2' (nI cnt) N = K2' (nI (cnt + 1)) N' ∧ KW M M' ∧ KX N N' ∧ M' 1783 = nI p' ∧ NXt l B N' p' ∧ p' ≤ l ∧ MM (mm + 100) ns' nb' nf (win 128 M') (win 2520 N') ∧ M' 1779 = 0 ∧ N' 2502 = 0 ∧ M' 1780 = N' 2503) := by
  have hcm := c_cmd (u := win 128 M) (cnt := cnt) h1 hp hpl (by omega) hM.1 (fun z hz => rfl)
  have hv := hM.2.2.2.MV hM.1
  have hs29 : N 2529 = nI ns := hv.s.1
  have hb30 : N 2530 = nI nb := hv.b.1
  have hv9 : PVerb B l p ≤ 9 := PVl_le 9 0 (by omega)
  rw [m_body h2 hx hpl hs29 hb30 hv.s.2 hv.b.2 hc]
  unfold fb_X6_readCommands_c2
  rw [if_neg (show ¬ (40 : Int32) < nI cnt from fun f => by
    have := (nI_ltI (a := 40) (by omega) (by omega)).mp f
    omega)]
  have kx2 : ∀ k q, KX N (upd (upd N 2502 k) 2503 q) := fun k q => K2.x
  have err : ∀ c q v a o1, DOut l (c, q, v, a) M o1 → c ≠ 0 → c < 9 → Fin2 mm M N (bd2 o1 (fun r4 M3 => (if r4 = 0 then (if (M3 1779) = 0 then (some (nI cnt, M3)) else (some ((-1), M3))) else (bd (f_X2_perform 128 M3) (fun M7 => (K1 (nI cnt + 1) M7)))))) (some (-1, upd (upd N 2502 (nI c)) 2503 (nI q))) := by
    intro c q v a o1 hd h0 h9
    obtain ⟨M', t1, t2, t3, t4⟩ := hd.err h0 (by omega)
    refine ⟨-1, M', _, ?_, rfl, t2.w, kx2 _ _, by rw [un (by omega), us]; exact t3, by rw [us]; exact t4, Or.inl rfl⟩
    rw [bd2_s t1, if_pos rfl, t3, if_neg (fun f => by
      have := (nI_eq (b := 0) (by omega) (by omega)).mp f
      omega)]
  by_cases q0 : tK B l p = 4
  · have eR : PRead B l ns nb nf (win 128 M) cnt p = (9, 0, 0, zf) := by unfold PRead; rw [if_pos q0]
    rw [eR] at hcm
    obtain ⟨M', t1, t2, t3, t4⟩ := hcm.fin
    rw [if_pos q0, bd2_s t1, if_pos rfl, t3, e0, if_pos rfl]
    refine Or.inl ⟨nI cnt, M', N, rfl, rfl, t2.w, KM.rfl'.x, by rw [t3, e0, e1], by rw [t4, e2], Or.inr ⟨cnt, hc, rfl, ?_⟩⟩
    exact ⟨ns, nb, nf, hM.lft (fun z hz => win_KD t2 hz)⟩
  · rw [if_neg q0]
    by_cases q1 : PVerb B l p = 0
    · have eR : PRead B l ns nb nf (win 128 M) cnt p = (1, tS B l p, 0, zf) := by unfold PRead; rw [if_neg q0, if_pos q1]
      rw [eR] at hcm
      rw [if_pos q1]
      exact Or.inl (err 1 _ _ _ _ hcm (by omega) (by omega))
    · rw [if_neg q1]
      by_cases q2 : 40 ≤ cnt
      · have eR : PRead B l ns nb nf (win 128 M) cnt p = (4, tS B l p, 0, zf) := by unfold PRead; rw [if_neg q0, if_neg q1, if_pos q2]
        rw [eR] at hcm
        rw [if_pos q2]
        exact Or.inl (err 4 _ _ _ _ hcm (by omega) (by omega))
      · rw [if_neg q2]
        by_cases q3 : full ns nb (PVerb B l p) = true
        · have eR : PRead B l ns nb nf (win 128 M) cnt p = (4, tS B l p, 0, zf) := by unfold PRead; rw [if_neg q0, if_neg q1, if_neg q2, if_pos q3]
          rw [eR] at hcm
          rw [if_pos q3]
          exact Or.inl (err 4 _ _ _ _ hcm (by omega) (by omega))
        · rw [if_neg q3]
          have ho := m_one (v1 := nI cnt) (k2 := K2') h2 hx hpl hM hm (show 1 ≤ PVerb B l p by omega) hv9 q3
          have hcd := PSem_code (B := B) (l := l) (PArgs_code (B := B) (l := l) (ns := ns) (nb := nb) (nf := nf) (u := win 128 M) (verb := PVerb B l p) (kinds (PVerb B l p)) 0 zf (tE B l p))
          have eR : PRead B l ns nb nf (win 128 M) cnt p = ((PSem B l (PArgs B l ns nb nf (win 128 M) (PVerb B l p) (kinds (PVerb B l p)) 0 zf (tE B l p))).1, (PSem B l (PArgs B l ns nb nf (win 128 M) (PVerb B l p) (kinds (PVerb B l p)) 0 zf (tE B l p))).2.1, PVerb B l p, (PSem B l (PArgs B l ns nb nf (win 128 M) (PVerb B l p) (kinds (PVerb B l p)) 0 zf (tE B l p))).2.2) := by unfold PRead; rw [if_neg q0, if_neg q1, if_neg q2, if_neg q3]
          rw [eR] at hcm
          generalize PSem B l (PArgs B l ns nb nf (win 128 M) (PVerb B l p) (kinds (PVerb B l p)) 0 zf (tE B l p)) = Q at hcm ho hcd ⊢
          obtain ⟨c, q, a⟩ := Q
          rcases ho with ⟨w, hg, N', s1, s2, s3, s4, s5, s6⟩ | ⟨w, N', s1, s2, s3, s4⟩
          · simp only at w hg s3 s4
            subst w
            obtain ⟨M', t1, t2, t3, t4, t5, t6, t7, t8⟩ := hcm.ok
            simp only at t3 t4 t5 t6
            have hMV' := MV_KD t2 hM.1
            have eu : ∀ z, z < 125 → win 128 M' z = win 128 M z := fun z hz => win_KD t2 hz
            have MM' := hM.lft eu
            have hS : Sim ns nb nf (win 128 M) (win 128 M') := fun z hz => (eu z (Lv_lt hM.1.s.2 hM.1.b.2 hM.1.f.2.2 hz)).symm
            have MMa : MM mm ns nb nf (win 128 M) (win 128 M') := ⟨hM.1, hM.2.1, hM.2.2.1, hS⟩
            have hg' := GA_sim MMa (show 1 ≤ PVerb B l p by omega) hv9 hg
            have hd := c_do (u := win 128 M') (M := M') hMV' hm (show 1 ≤ PVerb B l p by omega) hv9 hg' t5 t6
            rw [wr_win] at hd
            have kdo : KW M' (wr 128 (P_do ns nb nf a (win 128 M') (PVerb B l p)) M') := fun z hz => wr_out (by omega)
            have ko : ∀ z, 253 ≤ z → wr 128 (P_do ns nb nf a (win 128 M') (PVerb B l p)) M' z = M' z := fun z hz => wr_out (by omega)
            refine Or.inr ⟨by omega, wr 128 (P_do ns nb nf a (win 128 M') (PVerb B l p)) M', N', q, ns + dS (PVerb B l p), nb + dB (PVerb B l p), ?_, ?_, t2.w.tr kdo, s2, by rw [ko _ (by omega)]; exact t3, s3, t4, ?_, by rw [ko _ (by omega), t7, e0], by rw [s5, e1], by rw [ko _ (by omega), t8, s6, e2]⟩
            · rw [bd2_s t1, if_neg (by decide), bd_s hd, nI_1]
            · rw [s1, nI_1]
            · have Ma := MM_do MMa (show 1 ≤ PVerb B l p by omega) hv9 hg
              have hU : MM (mm + 100) (ns + dS (PVerb B l p)) (nb + dB (PVerb B l p)) nf (P_do ns nb nf a (win 128 M') (PVerb B l p)) (win 2520 N') :=
                ⟨Ma.2.2.2.MV Ma.1, EC_sim Ma.2.2.2 Ma.2.1, BT_sim Ma.2.2.2 Ma.2.2.1, Ma.2.2.2.symm.trans s4.2.2.2⟩
              exact hU.lft (fun z hz => win_wr hz)
          · refine Or.inl ?_
            obtain ⟨M', t1, t2, t3, t4⟩ := hcm.err w (by simp only at hcd ⊢; omega)
            refine ⟨-1, M', N', ?_, s1, t2.w, s2, by rw [s3]; exact t3, by rw [s4]; exact t4, Or.inl rfl⟩
            rw [bd2_s t1, if_pos rfl, t3, if_neg (fun f => by
              have := (nI_eq (b := 0) (by omega) (by omega)).mp f
              exact w this)]
theorem CT.kw {M' : xM} (h : CT l B M) (k : KW M M') : CT l B M' := h.keep (fun z hz => k z (by unfold rd rc; omega))
theorem Fin2.pre {mm' : Nat} {M' N' : xM} {o1 o2 : Option (Int32 × xM)} (h : Fin2 mm' M' N' o1 o2) (k1 : KW M M') (k2 : KX N N') : Fin2 mm' M N o1 o2 := by
  obtain ⟨r, M2, N2, a, b, c, d, e⟩ := h
  exact ⟨r, M2, N2, a, b, k1.tr c, k2.tr d, e⟩
theorem s_cmds : ∀ (k cnt nC nM p ns nb mm : Nat) (M N : xM), cnt + k = 40 → k < nC → k < nM → CT l B M → MT l B N → M 1783 = nI p → NXt l B N p → p ≤ l → MM mm ns nb nf (win 128 M) (win 2520 N) → mm + 100 * k < 1073741824 → M 1779 = 0 → N 2502 = 0 → M 1780 = N 2503 →
    Fin2 (mm + 100 * k) M N (lp (fun _ _ => none) (fun k => fb_X6_readCommands_c2 k) nC (nI cnt) M) (lp (fun _ _ => none) (fun k => fb_X7_commandsText_c2 k) nM (nI cnt) N)
  | 0, cnt, nC + 1, nM + 1, p, ns, nb, mm, M, N, hk, hC, hMm, h1, h2, hp, hx, hpl, hM, hm, e0, e1, e2 => by
    rw [lp_s, lp_s]
    rcases s_cstep (K1 := lp (fun _ _ => none) (fun k => fb_X6_readCommands_c2 k) nC) (K2' := lp (fun _ _ => none) (fun k => fb_X7_commandsText_c2 k) nM) (show cnt ≤ 40 by omega) h1 h2 hp hx hpl hM (by omega) e0 e1 e2 with r | ⟨r, -⟩
    · exact r
    · exact absurd r (by omega)
  | k + 1, cnt, nC + 1, nM + 1, p, ns, nb, mm, M, N, hk, hC, hMm, h1, h2, hp, hx, hpl, hM, hm, e0, e1, e2 => by
    have ih := s_cmds k (cnt + 1) nC nM
    rw [lp_s, lp_s]
    generalize lp (fun _ _ => none) (fun k => fb_X6_readCommands_c2 k) nC = F1 at ih ⊢
    generalize lp (fun _ _ => none) (fun k => fb_X7_commandsText_c2 k) nM = F2 at ih ⊢
    rcases s_cstep (K1 := F1) (K2' := F2) (show cnt ≤ 40 by omega) h1 h2 hp hx hpl hM (by omega) e0 e1 e2 with r | ⟨r, M', N', p', ns', nb', a1, a2, a3, a4, a5, a6, a7, a8, a9, a10, a11⟩
    · obtain ⟨r, M2, N2, x1, x2, x3, x4, x5, x6, x7⟩ := r
      refine ⟨r, M2, N2, x1, x2, x3, x4, x5, x6, ?_⟩
      rcases x7 with x7 | ⟨c, y1, y2, y3⟩
      · exact Or.inl x7
      · exact Or.inr ⟨c, y1, y2, Mk2_mono y3 (by omega)⟩
    · have := ih p' ns' nb' (mm + 100) M' N' (by omega) (by omega) (by omega) (h1.kw a3) (h2.kx a4) a5 a6 a7 a8 (by omega) a9 a10 a11
      rw [a1, a2, show mm + 100 * (k + 1) = mm + 100 + 100 * k by omega]
      exact this.pre a3 a4
end
