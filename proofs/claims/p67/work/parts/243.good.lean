/-! a setup that is good: the class reads it to its end -/
def CS (l : Nat) (B : Nat → Nat) (M : xM) (p : Nat) : Prop := CT l B M ∧ M 1783 = nI p ∧ p ≤ l ∧ M 1779 = 0
def FOGB (B : Nat → Nat) (l : Nat) : List Nat → Nat → Bool
  | [], p => decide (tK B l p = 2)
  | q :: r, p => decide (tK B l p = 1) && (decide (tkV B l p < 10) && (decide (tE B l p = q) && FOGB B l r q))
def lastP : List Nat → Nat → Nat
  | [], p => p
  | q :: r, _ => lastP r q
def CMDB (B : Nat → Nat) (l nf : Nat) : List Nat → Nat → Nat → Nat → Nat → Bool
  | [], _, _, _, p => decide (tK B l p = 4)
  | q :: r, cnt, ns, nb, p => decide (¬ tK B l p = 4) && (decide (1 ≤ PVerb B l p) && (decide (¬ PVerb B l p = 4) && (decide (¬ PVerb B l p = 8) && (decide (cnt < 40) && ((! full ns nb (PVerb B l p)) && (decide ((PSem B l (PArgs B l ns nb nf (fun _ => 0) (PVerb B l p) (kinds (PVerb B l p)) 0 zf (tE B l p))).1 = 0) && (decide ((PSem B l (PArgs B l ns nb nf (fun _ => 0) (PVerb B l p) (kinds (PVerb B l p)) 0 zf (tE B l p))).2.1 = q) && CMDB B l nf r (cnt + 1) (ns + dS (PVerb B l p)) (nb + dB (PVerb B l p)) q)))))))
theorem and_t {a b : Bool} (h : (a && b) = true) : a = true ∧ b = true := by
  cases a
  · cases h
  · exact ⟨rfl, h⟩
section
variable {l : Nat} {B : Nat → Nat} {M : xM} {p a b c nf : Nat}
theorem k_word {w : Nat} (hw : w < 40) (h : CS l B M p) (q : tW w B l p = true) : ∃ M', f_X3_readWord w M = some (1, M') ∧ KR M M' ∧ CS l B M' (tE B l p) := by
  obtain ⟨h1, hp, hpl, e0⟩ := h
  obtain ⟨M1, k0, k3, k4, k5, k6, kz⟩ := c_tokR h1 hp hpl
  have hKR : KR M M1 := fun z hz => kz z (fun e => hz (by unfold rc; omega)) (fun e => hz (by unfold rc; omega)) (fun e => hz (by unfold rc; omega)) (fun e => hz (by unfold rc; omega))
  have hi := c_isWord hw (h1.kr hKR) k3 k4 k5 (tS_b hpl).2
  unfold tW at q
  rw [if_pos q] at hi
  refine ⟨M1, ?_, hKR, h1.kr hKR, k3, (tE_b hpl).2, by rw [kz _ (by omega) (by omega) (by omega) (by omega)]; exact e0⟩
  unfold f_X3_readWord
  rw [bd_s k0, bd2_s hi, if_neg (show ¬ (1 : Int32) = 0 by decide)]
theorem k_num {lo hi : Nat} {hi' : Int32} (h : CS l B M p) (hlo : lo ≤ 9999) (hh : ∀ v, v < 1000000 → ((nI v ≤ hi') = (v < hi))) (q : tK B l p = 1) (q1 : lo ≤ tkV B l p) (q2 : tkV B l p < hi) : ∃ M', f_X3_readNumber (nI lo) hi' M = some (1, M') ∧ KR M M' ∧ CS l B M' (tE B l p) ∧ M' 1786 = nI (tkV B l p) := by
  obtain ⟨h1, hp, hpl, e0⟩ := h
  obtain ⟨M1, k0, k3, k4, k5, k6, kz⟩ := c_tokR h1 hp hpl
  have hKR : KR M M1 := fun z hz => kz z (fun e => hz (by unfold rc; omega)) (fun e => hz (by unfold rc; omega)) (fun e => hz (by unfold rc; omega)) (fun e => hz (by unfold rc; omega))
  have hc := c_numFrom (M := M1) (lo := lo) k4 k5 k6 hpl (by omega) hh
  rw [if_pos q, if_pos ⟨q1, q2⟩] at hc
  refine ⟨M1, ?_, hKR, ⟨h1.kr hKR, k3, (tE_b hpl).2, by rw [kz _ (by omega) (by omega) (by omega) (by omega)]; exact e0⟩, k6 q⟩
  unfold f_X3_readNumber
  rw [bd_s k0, bd2_s hc, gd_t (show isb 1 = true from rfl)]
theorem k_semi (h : CS l B M p) (q : tK B l p = 2) : ∃ M', f_X3_readSemicolon M = some (1, M') ∧ KR M M' ∧ CS l B M' (tE B l p) := by
  obtain ⟨h1, hp, hpl, e0⟩ := h
  rcases c_semi h1 hp hpl with ⟨-, M', s1, s2, s3, s4, s5, s6⟩ | ⟨q2, -⟩
  · exact ⟨M', s1, s2, h1.kr s2, s3, (tE_b hpl).2, s4.trans e0⟩
  · exact absurd q q2
theorem CS.up {M' : xM} (h : CS l B M p) (e1 : ∀ z, 1778 ≤ z → M' z = M z) : CS l B M' p :=
  ⟨h.1.keep (fun z hz => e1 z (by omega)), by rw [e1 _ (by omega)]; exact h.2.1, h.2.2.1, by rw [e1 _ (by omega)]; exact h.2.2.2⟩
theorem k_fog : ∀ (qs : List Nat) (n nC p : Nat) (f : Nat → Nat) (M : xM), FOGB B l qs p = true → n + qs.length ≤ 12 → 1 ≤ n + qs.length → qs.length < nC → CS l B M p → HS n a b c f (win 128 M) → ∃ M' f', lp (fun _ _ => none) (fun k => fb_X3_readFog_c2 k 128) nC (nI n) M = some (1, M') ∧ CS l B M' (tE B l (lastP qs p)) ∧ HS (n + qs.length) a b c f' (win 128 M')
  | [], n, nC + 1, p, f, M, hq, h12, h1, hC, h, hu => by
    have hn : n ≤ 12 := h12
    have hn1 : 1 ≤ n := h1
    have q : tK B l p = 2 := of_decide_eq_true hq
    obtain ⟨h1, hp, hpl, e0⟩ := h
    obtain ⟨M1, k0, k3, k4, k5, k6, kz⟩ := c_tokR h1 hp hpl
    have hKR : KR M M1 := fun z hz => kz z (fun e => hz (by unfold rc; omega)) (fun e => hz (by unfold rc; omega)) (fun e => hz (by unfold rc; omega)) (fun e => hz (by unfold rc; omega))
    have t2 : (nI (ckn (tK B l p)) = 3) = (tK B l p = 2) := ckn_i (q := 2) tK_le (by omega)
    refine ⟨M1, f, ?_, ⟨h1.kr hKR, k3, (tE_b hpl).2, by rw [kz _ (by omega) (by omega) (by omega) (by omega)]; exact e0⟩, HS_cong hu hn (fun z hz => win_KR hKR hz)⟩
    rw [lp_s]
    unfold fb_X3_readFog_c2
    rw [if_neg (show ¬ (12 : Int32) < nI n from fun g => by
      have := (nI_ltI (a := 12) (by omega) (by omega)).mp g
      omega), bd_s k0, k4, if_pos (show nI (ckn (tK B l p)) = 3 by rw [t2]; exact q), if_neg (show ¬ nI n ≤ 0 from fun g => by
      have := (nI_leI (b := 0) (by omega) (by omega)).mp g
      omega)]
  | q :: r, n, nC + 1, p, f, M, hq, h12, h1, hC, h, hu => by
    have hn : n + (r.length + 1) ≤ 12 := h12
    have hC' : r.length + 1 < nC + 1 := hC
    obtain ⟨w1, hq⟩ := and_t hq
    obtain ⟨w2, hq⟩ := and_t hq
    obtain ⟨w3, hq⟩ := and_t hq
    have w1 := of_decide_eq_true w1
    have w2 := of_decide_eq_true w2
    have w3 := of_decide_eq_true w3
    obtain ⟨h1', hp, hpl, e0⟩ := h
    obtain ⟨M1, k0, k3, k4, k5, k6, kz⟩ := c_tokR h1' hp hpl
    have hKR : KR M M1 := fun z hz => kz z (fun e => hz (by unfold rc; omega)) (fun e => hz (by unfold rc; omega)) (fun e => hz (by unfold rc; omega)) (fun e => hz (by unfold rc; omega))
    have t2 : (nI (ckn (tK B l p)) = 3) = (tK B l p = 2) := ckn_i (q := 2) tK_le (by omega)
    have t1 : (nI (ckn (tK B l p)) = 2) = (tK B l p = 1) := ckn_i (q := 1) tK_le (by omega)
    have hV := (tkV_lt hpl w1).1
    have e36 : M1 136 = nI n := by rw [kz _ (by omega) (by omega) (by omega) (by omega)]; exact hu.2.2.1
    have kM : ∀ z, z < 128 ∨ 253 ≤ z → upd (upd M1 (128 + 11 + n) (nI (tkV B l p))) 136 (nI (n + 1)) z = M1 z := fun z hz => by rw [un (by omega), un (by omega)]
    have hu2 : HS (n + 1) a b c (setf f n (tkV B l p)) (win 128 (upd (upd M1 (128 + 11 + n) (nI (tkV B l p))) 136 (nI (n + 1)))) := hu.add (V := tkV B l p) (by omega) (by omega) (fun z hz z8 zn => by
      show upd (upd M1 (128 + 11 + n) (nI (tkV B l p))) 136 (nI (n + 1)) (128 + z) = M (128 + z)
      rw [un (by omega), un (by omega), kz _ (by omega) (by omega) (by omega) (by omega)]) (by
      show upd (upd M1 (128 + 11 + n) (nI (tkV B l p))) 136 (nI (n + 1)) (128 + 8) = _
      exact us) (by
      show upd (upd M1 (128 + 11 + n) (nI (tkV B l p))) 136 (nI (n + 1)) (128 + (11 + n)) = _
      rw [un (by omega), show 128 + (11 + n) = 128 + 11 + n by omega, us])
    have hc2 : CS l B (upd (upd M1 (128 + 11 + n) (nI (tkV B l p))) 136 (nI (n + 1))) q := by
      rw [← w3]
      exact CS.up (⟨h1'.kr hKR, k3, (tE_b hpl).2, by rw [kz _ (by omega) (by omega) (by omega) (by omega)]; exact e0⟩ : CS l B M1 (tE B l p)) (fun z hz => kM z (by omega))
    obtain ⟨M', f', x1, x2, x3⟩ := k_fog r (n + 1) nC q _ _ hq (by omega) (by omega) (by omega) hc2 hu2
    refine ⟨M', f', ?_, x2, by rw [show n + (q :: r).length = n + 1 + r.length by simp only [List.length_cons]; omega]; exact x3⟩
    rw [← x1, lp_s]
    generalize lp (fun _ _ => none) (fun k => fb_X3_readFog_c2 k 128) nC = F1
    unfold fb_X3_readFog_c2 f_X3_readFog_c26 f_X2_addDensity
    rw [if_neg (show ¬ (12 : Int32) < nI n from fun g => by
      have := (nI_ltI (a := 12) (by omega) (by omega)).mp g
      omega), bd_s k0, k4, if_neg (show ¬ nI (ckn (tK B l p)) = 3 by rw [t2]; omega), if_pos (show nI (ckn (tK B l p)) = 2 by rw [t1]; exact w1), k6 w1, if_pos (show nI (tkV B l p) ≤ 9 by rw [w9 _ hV]; exact w2), if_neg (show ¬ nI n = 12 from fun g => by
      have := (nI_eq (b := 12) (by omega) (by omega)).mp g
      omega), show 128 + 8 = 136 from rfl, e36, if_neg (show ¬ (12 : Int32) ≤ nI n from nI_ge (a := n) (b := 12) (by omega) (by decide)), gd_t (inb_nI (by omega) (by omega)), cl (by omega), un (by omega), e36, nI_1]
    rfl
theorem PArgs_u {u u' : xM} {ns nb verb : Nat} (h4 : verb ≠ 4) (h8 : verb ≠ 8) : ∀ (ks : List Nat) (i : Nat) (a : Nat → Nat) (p : Nat), PArgs B l ns nb nf u verb ks i a p = PArgs B l ns nb nf u' verb ks i a p
  | [], _, _, _ => rfl
  | k :: ks, i, a, p => by
    have e : PArg B l ns nb nf u verb i (a 0) k p = PArg B l ns nb nf u' verb i (a 0) k p := by
      unfold PArg
      rw [PRef_no (Or.inl h4) h8, PRef_no (Or.inl h4) h8]
    rw [PArgs_c, PArgs_c, e]
    split
    · exact PArgs_u h4 h8 ks _ _ _
    · rfl
theorem k_cmds : ∀ (qs : List Nat) (cnt ns nb mm nC p : Nat) (M : xM), CMDB B l nf qs cnt ns nb p = true → cnt + qs.length ≤ 40 → qs.length < nC → CS l B M p → MM mm ns nb nf (win 128 M) (win 128 M) → mm + 100 * qs.length < 1073741824 → ∃ M', lp (fun _ _ => none) (fun k => fb_X6_readCommands_c2 k) nC (nI cnt) M = some (nI (cnt + qs.length), M')
  | [], cnt, ns, nb, mm, nC + 1, p, M, hq, h40, hC, h, hM, hm => by
    have hc : cnt ≤ 40 := h40
    have q : tK B l p = 4 := of_decide_eq_true hq
    obtain ⟨h1, hp, hpl, e0⟩ := h
    have hcm := c_cmd (u := win 128 M) (cnt := cnt) h1 hp hpl (by omega) hM.1 (fun z hz => rfl)
    have eR : PRead B l ns nb nf (win 128 M) cnt p = (9, 0, 0, zf) := by unfold PRead; rw [if_pos q]
    rw [eR] at hcm
    obtain ⟨M', t1, t2, t3, t4⟩ := hcm.fin
    refine ⟨M', ?_⟩
    rw [lp_s]
    unfold fb_X6_readCommands_c2
    rw [if_neg (show ¬ (40 : Int32) < nI cnt from fun f => by
      have := (nI_ltI (a := 40) (by omega) (by omega)).mp f
      omega), bd2_s t1, if_pos rfl, t3, if_pos e0]
    rfl
  | q :: r, cnt, ns, nb, mm, nC + 1, p, M, hq, h40, hC, h, hM, hm => by
    have hc : cnt + (r.length + 1) ≤ 40 := h40
    have hC' : r.length + 1 < nC + 1 := hC
    have hm' : mm + 100 * (r.length + 1) < 1073741824 := hm
    obtain ⟨y1, hq⟩ := and_t hq
    obtain ⟨y2, hq⟩ := and_t hq
    obtain ⟨y3, hq⟩ := and_t hq
    obtain ⟨y4, hq⟩ := and_t hq
    obtain ⟨y5, hq⟩ := and_t hq
    obtain ⟨y6, hq⟩ := and_t hq
    obtain ⟨y7, hq⟩ := and_t hq
    obtain ⟨y8, hq⟩ := and_t hq
    have y1 := of_decide_eq_true y1
    have y2 := of_decide_eq_true y2
    have y3 := of_decide_eq_true y3
    have y4 := of_decide_eq_true y4
    have y5 := of_decide_eq_true y5
    have y6 : ¬ full ns nb (PVerb B l p) = true := by
      intro g
      rw [g] at y6
      cases y6
    have y7 := of_decide_eq_true y7
    have y8 := of_decide_eq_true y8
    have hv9 : PVerb B l p ≤ 9 := PVl_le 9 0 (by omega)
    obtain ⟨h1, hp, hpl, e0⟩ := h
    have hcm := c_cmd (u := win 128 M) (cnt := cnt) h1 hp hpl (by omega) hM.1 (fun z hz => rfl)
    have eR : PRead B l ns nb nf (win 128 M) cnt p = ((PSem B l (PArgs B l ns nb nf (win 128 M) (PVerb B l p) (kinds (PVerb B l p)) 0 zf (tE B l p))).1, (PSem B l (PArgs B l ns nb nf (win 128 M) (PVerb B l p) (kinds (PVerb B l p)) 0 zf (tE B l p))).2.1, PVerb B l p, (PSem B l (PArgs B l ns nb nf (win 128 M) (PVerb B l p) (kinds (PVerb B l p)) 0 zf (tE B l p))).2.2) := by
      unfold PRead
      rw [if_neg y1, if_neg (by omega), if_neg (by omega), if_neg y6]
    have hok := PArgs_ok (B := B) (l := l) (ns := ns) (nb := nb) (nf := nf) (verb := PVerb B l p) (u := win 128 M) (kinds (PVerb B l p)) 0 zf (tE B l p)
    rw [eR] at hcm
    rw [PArgs_u (u' := win 128 M) y3 y4] at y7 y8
    generalize PArgs B l ns nb nf (win 128 M) (PVerb B l p) (kinds (PVerb B l p)) 0 zf (tE B l p) = R at hcm hok y7 y8
    have ew : R.1 = 0 := by
      unfold PSem at y7
      by_cases g : R.1 = 0
      · exact g
      · rw [if_neg g] at y7
        exact y7
    have es : (PSem B l R).2.2 = R.2.2 := by
      unfold PSem
      rw [if_pos ew]
      split <;> rfl
    rw [y7, y8, es] at hcm
    have hg : GA ns nb nf (win 128 M) R.2.2 (PVerb B l p) := GA_of hM.1 y2 hv9 y6 (fun m hm => by
      have := (hok ew).2 m hm
      rw [Nat.zero_add] at this
      exact this)
    obtain ⟨M', t1, t2, t3, t4, t5, t6, t7, t8⟩ := hcm.ok
    have eu : ∀ z, z < 125 → win 128 M' z = win 128 M z := fun z hz => win_KD t2 hz
    have MMa : MM mm ns nb nf (win 128 M) (win 128 M') := hM.r eu
    have hg' := GA_sim MMa y2 hv9 hg
    have hd := c_do (u := win 128 M') (M := M') (MV_KD t2 hM.1) (by omega) y2 hv9 hg' t5 t6
    rw [wr_win] at hd
    have ko : ∀ z, 253 ≤ z → wr 128 (P_do ns nb nf R.2.2 (win 128 M') (PVerb B l p)) M' z = M' z := fun z hz => wr_out (by omega)
    have MMb : MM (mm + 100) (ns + dS (PVerb B l p)) (nb + dB (PVerb B l p)) nf (win 128 (wr 128 (P_do ns nb nf R.2.2 (win 128 M') (PVerb B l p)) M')) (win 128 (wr 128 (P_do ns nb nf R.2.2 (win 128 M') (PVerb B l p)) M')) :=
      ((MM_do (MMa.lft eu) y2 hv9 hg').lft (fun z hz => win_wr hz)).r (fun z hz => win_wr hz)
    obtain ⟨M2, x1⟩ := k_cmds r (cnt + 1) _ _ (mm + 100) nC q (wr 128 (P_do ns nb nf R.2.2 (win 128 M') (PVerb B l p)) M') hq (by omega) (by omega) ⟨(h1.kd t2).keep (fun z hz => ko z (by omega)), by rw [ko _ (by omega)]; exact t3, t4, by rw [ko _ (by omega), t7, e0]⟩ MMb (by omega)
    refine ⟨M2, ?_⟩
    rw [show cnt + (q :: r).length = cnt + 1 + r.length by simp only [List.length_cons]; omega, ← x1, lp_s]
    generalize lp (fun _ _ => none) (fun k => fb_X6_readCommands_c2 k) nC = F1
    unfold fb_X6_readCommands_c2
    rw [if_neg (show ¬ (40 : Int32) < nI cnt from fun f => by
      have := (nI_ltI (a := 40) (by omega) (by omega)).mp f
      omega), bd2_s t1, if_neg (by decide), bd_s hd, nI_1]
end
/-! the class reads a good setup to its end -/
section
variable {l : Nat} {B : Nat → Nat} {M : xM}
theorem bdT {o : Option (Int32 × xM)} {M' : xM} {g : xM → Option (Int32 × xM)} (h : o = some (1, M')) : bd2 o (fun r M => if r = 0 then some (0, M) else g M) = g M' := bdS h
theorem k_head {p1 p2 p3 p4 p5 p6 : Nat} {qf : List Nat} (w1 : tW 1 B l 0 = true) (e1 : tE B l 0 = p1) (n1 : tK B l p1 = 1) (n1a : 1 ≤ tkV B l p1) (n1b : tkV B l p1 < 10) (e2 : tE B l p1 = p2) (n2 : tK B l p2 = 1) (n2a : 1 ≤ tkV B l p2) (n2b : tkV B l p2 < 61) (e3 : tE B l p2 = p3) (n3 : tK B l p3 = 1) (n3b : tkV B l p3 < 100) (e4 : tE B l p3 = p4) (s4 : tK B l p4 = 2) (e5 : tE B l p4 = p5) (w5 : tW 2 B l p5 = true) (e6 : tE B l p5 = p6) (hf : FOGB B l qf p6 = true) (f1 : 1 ≤ qf.length) (f2 : qf.length ≤ 12) (h : CS l B M 0) :
    ∃ M', f_X3_readHead 128 M = some (1, M') ∧ CS l B M' (tE B l (lastP qf p6)) ∧ MM 0 0 0 qf.length (win 128 M') (win 128 M') := by
  subst e1 e2 e3 e4 e5 e6
  unfold f_X3_readHead
  obtain ⟨M1, c1, r1, J1⟩ := k_word (w := 1) (by omega) h w1
  obtain ⟨M2, c2, r2, J2, V2⟩ := k_num (lo := 1) (hi := 10) (hi' := 9) J1 (by omega) w9 n1 n1a n1b
  obtain ⟨M3, c3, r3, J3, V3⟩ := k_num (lo := 1) (hi := 61) (hi' := 60) J2 (by omega) w60 n2 n2a n2b
  obtain ⟨M4, c4, r4, J4, V4⟩ := k_num (lo := 0) (hi := 100) (hi' := 99) J3 (by omega) w99 n3 (Nat.zero_le _) n3b
  rw [bdT c1, bdT (show f_X3_readNumber 1 9 M1 = _ from c2), bdT (show f_X3_readNumber 1 60 M2 = _ from c3), bdT (show f_X3_readNumber 0 99 M3 = _ from c4), V2, V3, V4]
  obtain ⟨M5, e5, k5, H5⟩ : ∃ M5, f_X2_reset 128 (nI (tkV B l (tE B l 0))) (nI (tkV B l (tE B l (tE B l 0)))) (nI (tkV B l (tE B l (tE B l (tE B l 0))))) M4 = some M5 ∧ (∀ z, (z < 128 ∨ 139 ≤ z) → M5 z = M4 z) ∧ HS 0 (tkV B l (tE B l 0)) (tkV B l (tE B l (tE B l 0))) (tkV B l (tE B l (tE B l (tE B l 0)))) zf (win 128 M5) := by
    refine ⟨_, rfl, fun z hz => ?_, ?_⟩
    · simp (disch := omega) only [un]
    · unfold HS win
      refine ⟨?_, ?_, ?_, ?_, ?_, ?_, ?_, ?_, ?_, ?_, ?_, fun i hi => absurd hi (Nat.not_lt_zero i)⟩
      all_goals simp (disch := omega) only [un, us]
      rfl
  rw [bd_s e5]
  have J5 : CS l B M5 (tE B l (tE B l (tE B l (tE B l 0)))) := J4.up (fun z hz => k5 z (by omega))
  obtain ⟨M6, c6, r6, J6⟩ := k_semi J5 s4
  obtain ⟨M8, c8, r8, J8⟩ := k_word (w := 2) (by omega) J6 w5
  rw [bdT c6, bdT c8]
  have H8 := HS_cong (HS_cong H5 (by omega) (fun z hz => win_KR r6 hz)) (by omega) (fun z hz => win_KR r8 hz)
  obtain ⟨M9, f', x1, x2, x3⟩ := k_fog qf 0 FU _ zf M8 hf (by omega) (by omega) (FU_e _ (by omega)) J8 H8
  rw [Nat.zero_add] at x3
  have x0 : f_X3_readFog 128 M8 = some (1, M9) := x1
  rw [bdT x0]
  exact ⟨M9, rfl, x2, HS_MM x3 x3 f1 f2 n2a (by omega) n3b⟩
theorem k_path {p7 : Nat} {qf qc : List Nat} (hd : ∃ M', f_X3_readHead 128 M = some (1, M') ∧ CS l B M' p7 ∧ MM 0 0 0 qf.length (win 128 M') (win 128 M')) (hc : CMDB B l qf.length qc 0 0 0 p7 = true) (c1 : qc.length ≤ 40) : ∃ M', PATH M = some (1, M') := by
  obtain ⟨M1, x1, x2, x3⟩ := hd
  obtain ⟨M2, y1⟩ := k_cmds qc 0 0 0 0 FU p7 M1 hc (by omega) (FU_e _ (by omega)) x2 x3 (by omega)
  have y2 : f_X6_readCommands M1 = some (nI (0 + qc.length), M2) := y1
  refine ⟨M2, ?_⟩
  unfold PATH
  rw [bdT x1, bd2_s y2, if_neg (by rw [nI_m1 (by omega)]; exact fun h => h)]
end

