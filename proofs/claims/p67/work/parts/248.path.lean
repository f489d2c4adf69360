/-! a setup read to its end: what is known behind it -/
section
variable {l nf : Nat} {B : Nat → Nat} {M : xM} {p : Nat}
theorem k_cmds2 : ∀ (qs : List Nat) (cnt ns nb mm nC p : Nat) (M : xM), CMDB B l nf qs cnt ns nb p = true → cnt + qs.length ≤ 40 → qs.length < nC → CS l B M p → MM mm ns nb nf (win 128 M) (win 128 M) → mm + 100 * qs.length < 1073741824 → ∃ M' ns' nb' mm', lp (fun _ _ => none) (fun k => fb_X6_readCommands_c2 k) nC (nI cnt) M = some (nI (cnt + qs.length), M') ∧ MM mm' ns' nb' nf (win 128 M') (win 128 M') ∧ (qs = [] → mm' = mm ∧ ns' = ns ∧ nb' = nb)
  | [], cnt, ns, nb, mm, nC + 1, p, M, hq, h40, hC, h, hM, hm => by
    have hc : cnt ≤ 40 := h40
    have q : tK B l p = 4 := of_decide_eq_true hq
    obtain ⟨h1, hp, hpl, e0⟩ := h
    have hcm := c_cmd (u := win 128 M) (cnt := cnt) h1 hp hpl (by omega) hM.1 (fun z hz => rfl)
    have eR : PRead B l ns nb nf (win 128 M) cnt p = (9, 0, 0, zf) := by unfold PRead; rw [if_pos q]
    rw [eR] at hcm
    obtain ⟨M', t1, t2, t3, t4⟩ := hcm.fin
    refine ⟨M', ns, nb, mm, ?_, (hM.r (fun z hz => win_KD t2 hz)).lft (fun z hz => win_KD t2 hz), fun _ => ⟨rfl, rfl, rfl⟩⟩
    rw [lp_s]
    unfold fb_X6_readCommands_c2
    rw [if_neg (show ¬ (40 : Int32) < nI cnt from fun f => by
      have := (nI_ltI (a := 40) (by omega) (by omega)).mp f
      omega), bd2_s t1, if_pos rfl, t3, if_pos e0]
    rfl
  | q :: r, cnt, ns, nb, mm, nC + 1, p, M, hq, h40, hC, h, hM, hm => by
    have hc : cnt + (r.length + 1) ≤ 40 := h40
    have hC' : r.length + 1 < nC + 1 := hC
    have hm' : mm + 100 * (r.length + 1) < 1073741824 := hm
    obtain ⟨y1, hq⟩ := and_t hq
    obtain ⟨y2, hq⟩ := and_t hq
    obtain ⟨y3, hq⟩ := and_t hq
    obtain ⟨y4, hq⟩ := and_t hq
    obtain ⟨y5, hq⟩ := and_t hq
    obtain ⟨y6, hq⟩ := and_t hq
    obtain ⟨y7, hq⟩ := and_t hq
    obtain ⟨y8, hq⟩ := and_t hq
    have y1 := of_decide_eq_true y1
    have y2 := of_decide_eq_true y2
    have y3 := of_decide_eq_true y3
    have y4 := of_decide_eq_true y4
    have y5 := of_decide_eq_true y5
    have y6 : ¬ full ns nb (PVerb B l p) = true := by
      intro g
      rw [g] at y6
      cases y6
    have y7 := of_decide_eq_true y7
    have y8 := of_decide_eq_true y8
    have hv9 : PVerb B l p ≤ 9 := PVl_le 9 0 (by omega)
    obtain ⟨h1, hp, hpl, e0⟩ := h
    have hcm := c_cmd (u := win 128 M) (cnt := cnt) h1 hp hpl (by omega) hM.1 (fun z hz => rfl)
    have eR : PRead B l ns nb nf (win 128 M) cnt p = ((PSem B l (PArgs B l ns nb nf (win 128 M) (PVerb B l p) (kinds (PVerb B l p)) 0 zf (tE B l p))).1, (PSem B l (PArgs B l ns nb nf (win 128 M) (PVerb B l p) (kinds (PVerb B l p)) 0 zf (tE B l p))).2.1, PVerb B l p, (PSem B l (PArgs B l ns nb nf (win 128 M) (PVerb B l p) (kinds (PVerb B l p)) 0 zf (tE B l p))).2.2) := by
      unfold PRead
      rw [if_neg y1, if_neg (by omega), if_neg (by omega), if_neg y6]
    have hok := PArgs_ok (B := B) (l := l) (ns := ns) (nb := nb) (nf := nf) (verb := PVerb B l p) (u := win 128 M) (kinds (PVerb B l p)) 0 zf (tE B l p)
    rw [eR] at hcm
    rw [PArgs_u (u' := win 128 M) y3 y4] at y7 y8
    generalize PArgs B l ns nb nf (win 128 M) (PVerb B l p) (kinds (PVerb B l p)) 0 zf (tE B l p) = R at hcm hok y7 y8
    have ew : R.1 = 0 := by
      unfold PSem at y7
      by_cases g : R.1 = 0
      · exact g
      · rw [if_neg g] at y7
        exact y7
    have es : (PSem B l R).2.2 = R.2.2 := by
      unfold PSem
      rw [if_pos ew]
      split <;> rfl
    rw [y7, y8, es] at hcm
    have hg : GA ns nb nf (win 128 M) R.2.2 (PVerb B l p) := GA_of hM.1 y2 hv9 y6 (fun m hm => by
      have := (hok ew).2 m hm
      rw [Nat.zero_add] at this
      exact this)
    obtain ⟨M', t1, t2, t3, t4, t5, t6, t7, t8⟩ := hcm.ok
    have eu : ∀ z, z < 125 → win 128 M' z = win 128 M z := fun z hz => win_KD t2 hz
    have MMa : MM mm ns nb nf (win 128 M) (win 128 M') := hM.r eu
    have hg' := GA_sim MMa y2 hv9 hg
    have hd := c_do (u := win 128 M') (M := M') (MV_KD t2 hM.1) (by omega) y2 hv9 hg' t5 t6
    rw [wr_win] at hd
    have ko : ∀ z, 253 ≤ z → wr 128 (P_do ns nb nf R.2.2 (win 128 M') (PVerb B l p)) M' z = M' z := fun z hz => wr_out (by omega)
    have MMb : MM (mm + 100) (ns + dS (PVerb B l p)) (nb + dB (PVerb B l p)) nf (win 128 (wr 128 (P_do ns nb nf R.2.2 (win 128 M') (PVerb B l p)) M')) (win 128 (wr 128 (P_do ns nb nf R.2.2 (win 128 M') (PVerb B l p)) M')) :=
      ((MM_do (MMa.lft eu) y2 hv9 hg').lft (fun z hz => win_wr hz)).r (fun z hz => win_wr hz)
    obtain ⟨M2, ns', nb', mm', x1, x2, x3⟩ := k_cmds2 r (cnt + 1) _ _ (mm + 100) nC q (wr 128 (P_do ns nb nf R.2.2 (win 128 M') (PVerb B l p)) M') hq (by omega) (by omega) ⟨(h1.kd t2).keep (fun z hz => ko z (by omega)), by rw [ko _ (by omega)]; exact t3, t4, by rw [ko _ (by omega), t7, e0]⟩ MMb (by omega)
    refine ⟨M2, ns', nb', mm', ?_, x2, fun e => by cases e⟩
    rw [show cnt + (q :: r).length = cnt + 1 + r.length by simp only [List.length_cons]; omega, ← x1, lp_s]
    generalize lp (fun _ _ => none) (fun k => fb_X6_readCommands_c2 k) nC = F1
    unfold fb_X6_readCommands_c2
    rw [if_neg (show ¬ (40 : Int32) < nI cnt from fun f => by
      have := (nI_ltI (a := 40) (by omega) (by omega)).mp f
      omega), bd2_s t1, if_neg (by decide), bd_s hd, nI_1]
theorem k_path2 {p7 : Nat} {qf qc : List Nat} (hd : ∃ M', f_X3_readHead 128 M = some (1, M') ∧ CS l B M' p7 ∧ MM 0 0 0 qf.length (win 128 M') (win 128 M')) (hc : CMDB B l qf.length qc 0 0 0 p7 = true) (c1 : qc.length ≤ 40) : ∃ M' ns nb mm, PATH M = some (1, M') ∧ MM mm ns nb qf.length (win 128 M') (win 128 M') ∧ (qc = [] → mm = 0 ∧ ns = 0 ∧ nb = 0) := by
  obtain ⟨M1, x1, x2, x3⟩ := hd
  obtain ⟨M2, ns, nb, mm, y1, y3, y4⟩ := k_cmds2 qc 0 0 0 0 FU p7 M1 hc (by omega) (FU_e _ (by omega)) x2 x3 (by omega)
  have y2 : f_X6_readCommands M1 = some (nI (0 + qc.length), M2) := y1
  refine ⟨M2, ns, nb, mm, ?_, y3, y4⟩
  unfold PATH
  rw [bdT x1, bd2_s y2, if_neg (by rw [nI_m1 (by omega)]; exact fun h => h)]
/-- a good text in the buffer: the market behind it -/
theorem k_repl {G : Nat → Nat → Nat → Prop} (ct : CT l B M) (hp : ∀ C, CS l B C 0 → ∃ M', PATH C = some (1, M') ∧ ∃ ns nb mm, MM mm ns nb nf (win 128 M') (win 128 M') ∧ G mm ns nb) : ∃ M1, f_X6_replaceMarket M = some (1, M1) ∧ M1 1778 = 0 ∧ M1 1669 = 0 ∧ M1 1670 = 0 ∧ ∃ ns nb mm, MM mm ns nb nf (win 0 M1) (win 0 M1) ∧ G mm ns nb := by
  have eB : f_X3_begin M = some (upd (upd (upd M 1783 0) 1779 0) 1780 (-1)) := rfl
  have hcs : CS l B (upd (upd (upd M 1783 0) 1779 0) 1780 (-1)) 0 := ⟨ct.keep (fun z hz => by rw [un (by omega), un (by omega), un (by omega)]), by rw [un (by omega), un (by omega), us]; rfl, by omega, by rw [un (by omega), us]⟩
  obtain ⟨M', a1, ns, nb, mm, hM, hG⟩ := hp _ hcs
  have w3 : ∀ z, z < 125 → win 128 (upd M' 1778 0) z = win 128 M' z := fun z hz => by
    show upd M' 1778 0 (128 + z) = M' (128 + z)
    rw [un (by omega)]
  have hM2 : MM mm ns nb nf (win 128 (upd M' 1778 0)) (win 128 (upd M' 1778 0)) := (hM.r w3).lft w3
  obtain ⟨u', v1, v2⟩ := c_copy (a := 0) (b := 128) (M0 := upd M' 1778 0) (Or.inl (by omega)) hM2.1
  have e0 : ∀ z, z < 125 → win 0 (upd (upd (upd (upd (wr 0 u' (upd M' 1778 0)) 1669 0) 1670 0) 1675 0) 1676 0) z = u' z := fun z hz => by
    rw [w0, un (by omega), un (by omega), un (by omega), un (by omega), wr_in (z := z) (by omega) hz]
  have hU : MM mm ns nb nf u' u' := ⟨v2.MV hM2.1, EC_sim v2 hM2.2.1, BT_sim v2 hM2.2.2.1, Sim.rfl'⟩
  refine ⟨_, ?_, ?_, ?_, ?_, ns, nb, mm, (hU.r e0).lft e0, hG⟩
  · rw [repl_path eB, bd2_s a1, if_neg (show ¬ (1 : Int32) = 0 by decide)]
    exact c_c34 v1
  · rw [un (by omega), un (by omega), un (by omega), un (by omega), wr_out (by omega), us]
  · rw [un (by omega), un (by omega), un (by omega), us]
  · rw [un (by omega), un (by omega), us]
end
theorem start_path2 {M : xM} (h : CS 181 B20 M 0) : ∃ M', PATH M = some (1, M') ∧ ∃ ns nb mm, MM mm ns nb 5 (win 128 M') (win 128 M') ∧ True := by
  obtain ⟨a1, a2, a3, a4, a5, a6, a7, a8, a9, a10, a11, a12, a13, a14, a15⟩ := set1
  have hd := k_head a1 a2 a3 (by omega) (by omega) a5 a6 (by omega) (by omega) a8 a9 (by omega) a11 a12 a13 a14 a15 set2.1 (by decide) (by decide) h
  rw [show lastP [21, 23, 25, 27, 29] 19 = 29 from rfl, set2.2] at hd
  obtain ⟨M', ns, nb, mm, b1, b2, -⟩ := k_path2 hd set3 (by decide)
  exact ⟨M', b1, ns, nb, mm, b2, trivial⟩
/-- the class's constructor, behind its first text -/
theorem c_start {M : xM} (ct : CT 181 B20 M) : ∃ M1, f_X6_replaceMarket M = some (1, M1) ∧ M1 1778 = 0 := by
  obtain ⟨M1, a, b, -⟩ := k_repl (G := fun _ _ _ => True) ct (fun C hC => start_path2 hC)
  exact ⟨M1, a, b⟩
