/-! the model reads and does one command -/
def PVb (b1 b2 b3 b4 b5 b6 b7 b8 b9 : Bool) : Nat := if b1 = true then 1 else if b2 = true then 2 else if b3 = true then 3 else if b4 = true then 4 else if b5 = true then 5 else if b6 = true then 6 else if b7 = true then 7 else if b8 = true then 8 else if b9 = true then 9 else 0
def sel1 (b1 b2 b3 : Bool) : Int32 := if b1 = true then 0 else if b2 = true then 1 else if b3 = true then 2 else -1
def sel2 (b4 b5 b9 : Bool) : Int32 := if b4 = true then 3 else if b5 = true then 4 else if b9 = true then 5 else -1
def sel3 (b6 b7 b8 : Bool) : Int32 := if b6 = true then 6 else if b7 = true then 7 else if b8 = true then 8 else -1
def sel (x y z : Int32) : Int32 := if x = -1 then (if y = -1 then z else y) else x
theorem sel_b : ∀ b1 b2 b3 b4 b5 b6 b7 b8 b9 : Bool, (b9 = true → b6 = false ∧ b7 = false ∧ b8 = false) → sel (sel1 b1 b2 b3) (sel2 b4 b5 b9) (sel3 b6 b7 b8) = if PVb b1 b2 b3 b4 b5 b6 b7 b8 b9 = 0 then -1 else nI (mi (PVb b1 b2 b3 b4 b5 b6 b7 b8 b9)) := by decide +kernel
def KX (N N' : xM) : Prop := ∀ z, ¬ (rm z ∨ z = 2512 ∨ (2520 ≤ z ∧ z < 2645)) → N' z = N z
theorem KX.tr {M M1 M2 : xM} (h : KX M M1) (h2 : KX M1 M2) : KX M M2 := fun z hz => (h2 z hz).trans (h z hz)
theorem KM.x {N N' : xM} (h : KM N N') : KX N N' := fun z hz => h z (fun e => hz (Or.inl e))
section
variable {l : Nat} {B : Nat → Nat} {N : xM} {mm ns nb nf verb p : Nat} {u : xM}
theorem MT.kx {N' : xM} (h : MT l B N) (k : KX N N') : MT l B N' := h.keep (fun z hz => k z (by unfold rm; omega))
theorem PVerb_e : PVerb B l p = PVb (tW 38 B l p) (tW 40 B l p) (tW 46 B l p) (tW 42 B l p) (tW 48 B l p) (tW 50 B l p) (tW 52 B l p) (tW 44 B l p) (tW 54 B l p) := rfl
theorem tW_len {a : Nat} (h : tW a B l p = true) : tE B l p = tS B l p + (x_byt a).length := by
  unfold tW isWt at h
  simp only [Bool.and_eq_true, decide_eq_true_eq] at h
  exact h.2.1
theorem tW_ne {a b : Nat} (e : (x_byt a).length ≠ (x_byt b).length) (h : tW a B l p = true) : tW b B l p = false := by
  rw [Bool.eq_false_iff]
  intro h2
  have := tW_len h
  have := tW_len h2
  omega
theorem m_here (h : MT l B N) (hx : NXt l B N p) (hpl : p ≤ l) : f_X7_commandHere N = some (if PVerb B l p = 0 then -1 else nI (mi (PVerb B l p)), N) := by
  have hw := fun a ha => m_isW (a := a) ha h hx hpl
  have e1 : tW 23 B l p = tW 38 B l p := rfl
  have e2 : tW 24 B l p = tW 40 B l p := rfl
  have e3 : tW 25 B l p = tW 46 B l p := rfl
  have e4 : tW 26 B l p = tW 42 B l p := rfl
  have e5 : tW 27 B l p = tW 48 B l p := rfl
  have e6 : tW 29 B l p = tW 50 B l p := rfl
  have e7 : tW 22 B l p = tW 52 B l p := rfl
  have e8 : tW 30 B l p = tW 44 B l p := rfl
  have e9 : tW 28 B l p = tW 54 B l p := rfl
  have t3 : ∀ x y, f_X7_commandHere_c81 x y N = some (sel x y (sel3 (tW 50 B l p) (tW 52 B l p) (tW 44 B l p)), N) := by
    intro x y
    have hc : ∀ s, f_X7_commandHere_c125 x y s N = some (sel x y s, N) := fun s => by
      unfold f_X7_commandHere_c125 sel
      by_cases q : x = -1
      · rw [if_pos q, if_pos q]
        by_cases q2 : y = -1
        · rw [if_pos q2, if_pos q2]
        · rw [if_neg q2, if_neg q2]
      · rw [if_neg q, if_neg q]
    unfold f_X7_commandHere_c81 sel3
    simp only [hw 29 (by omega), hw 22 (by omega), hw 30 (by omega), bd2, e6, e7, e8, hc]
    by_cases q1 : tW 50 B l p = true
    · simp only [q1, ↓reduceIte, i10]
    · by_cases q2 : tW 52 B l p = true
      · simp only [q1, q2, Bool.false_eq_true, ↓reduceIte, i10]
      · by_cases q3 : tW 44 B l p = true
        · simp only [q1, q2, q3, Bool.false_eq_true, ↓reduceIte, i10]
        · simp only [q1, q2, q3, Bool.false_eq_true, ↓reduceIte]
  have t2 : ∀ x, f_X7_commandHere_c40 x N = some (sel x (sel2 (tW 42 B l p) (tW 48 B l p) (tW 54 B l p)) (sel3 (tW 50 B l p) (tW 52 B l p) (tW 44 B l p)), N) := by
    intro x
    unfold f_X7_commandHere_c40 sel2
    simp only [hw 26 (by omega), hw 27 (by omega), hw 28 (by omega), bd2, e4, e5, e9, t3]
    by_cases q1 : tW 42 B l p = true
    · simp only [q1, ↓reduceIte, i10]
    · by_cases q2 : tW 48 B l p = true
      · simp only [q1, q2, Bool.false_eq_true, ↓reduceIte, i10]
      · by_cases q3 : tW 54 B l p = true
        · simp only [q1, q2, q3, Bool.false_eq_true, ↓reduceIte, i10]
        · simp only [q1, q2, q3, Bool.false_eq_true, ↓reduceIte]
  rw [PVerb_e, ← sel_b _ _ _ _ _ _ _ _ _ (fun q => ⟨tW_ne (by decide) q, tW_ne (by decide) q, tW_ne (by decide) q⟩)]
  unfold f_X7_commandHere sel1
  simp only [hw 23 (by omega), hw 24 (by omega), hw 25 (by omega), bd2, e1, e2, e3, t2]
  by_cases q1 : tW 38 B l p = true
  · simp only [q1, ↓reduceIte, i10]
  · by_cases q2 : tW 40 B l p = true
    · simp only [q1, q2, Bool.false_eq_true, ↓reduceIte, i10]
    · by_cases q3 : tW 46 B l p = true
      · simp only [q1, q2, q3, Bool.false_eq_true, ↓reduceIte, i10]
      · simp only [q1, q2, q3, Bool.false_eq_true, ↓reduceIte]
theorem m_isEnd (hx : NXt l B N p) : f_X7_isEnd N = if tK B l p = 2 then some (1, N) else some (0, upd (upd N 2502 1) 2503 (nI (tS B l p))) := by
  have e2 : (nI (tK B l p) = 2) = (tK B l p = 2) := tk_i (k := 2) (by omega)
  unfold f_X7_isEnd
  rw [hx.2.1]
  simp only [e2]
  by_cases q : tK B l p = 2
  · rw [if_pos q, if_pos q]
  · rw [if_neg q, if_neg q, m_wrong, hx.2.2.1]
    simp only [bd2, ↓reduceIte]
theorem m_semi (h : MT l B N) (hx : NXt l B N p) (hpl : p ≤ l) : (tK B l p = 2 ∧ ∃ N', f_X7_semicolon N = some (1, N') ∧ NXt l B N' (tE B l p) ∧ (∀ z, ¬ (2515 ≤ z ∧ z ≤ 2518) → N' z = N z)) ∨ (tK B l p ≠ 2 ∧ f_X7_semicolon N = some (0, upd (upd N 2502 1) 2503 (nI (tS B l p)))) := by
  unfold f_X7_semicolon
  rw [m_isEnd hx]
  by_cases q : tK B l p = 2
  · obtain ⟨N', b0, b1, b2⟩ := m_next (p := tE B l p) h hx.1 (tE_b hpl).2
    refine Or.inl ⟨q, N', ?_, b1, fun z hz => b2 z (by omega) (by omega) (by omega) (by omega)⟩
    rw [if_pos q]
    simp only [bd2, i10, ↓reduceIte]
    rw [bd_s b0]
  · refine Or.inr ⟨q, ?_⟩
    rw [if_neg q]
    simp only [bd2, ↓reduceIte]
theorem MM.r {v v' : xM} (h : MM mm ns nb nf u v) (e : ∀ z, z < 125 → v' z = v z) : MM mm ns nb nf u v' :=
  ⟨h.1, h.2.1, h.2.2.1, h.2.2.2.trans (fun z hz => (e z (Lv_lt h.1.s.2 h.1.b.2 h.1.f.2.2 hz)).symm)⟩
theorem MM.lft {v u' : xM} (h : MM mm ns nb nf u v) (e : ∀ z, z < 125 → u' z = u z) : MM mm ns nb nf u' v := by
  have hS : Sim ns nb nf u u' := fun z hz => (e z (Lv_lt h.1.s.2 h.1.b.2 h.1.f.2.2 hz)).symm
  exact ⟨hS.MV h.1, EC_sim hS h.2.1, BT_sim hS h.2.2.1, hS.symm.trans h.2.2.2⟩
theorem win_wr {b : Nat} {w M : xM} {z : Nat} (hz : z < 125) : win b (wr b w M) z = w z := wr_in rfl hz
theorem m_one {v1 : Int32} {k2 : Int32 → xM → Option (Int32 × xM)} (h : MT l B N) (hx : NXt l B N p) (hpl : p ≤ l) (hM : MM mm ns nb nf u (win 2520 N)) (hm : mm < 1073741824) (h1 : 1 ≤ verb) (h9 : verb ≤ 9) (hf : ¬ full ns nb verb = true) :
    ((PSem B l (PArgs B l ns nb nf u verb (kinds verb) 0 zf (tE B l p))).1 = 0 ∧ GA ns nb nf u (PSem B l (PArgs B l ns nb nf u verb (kinds verb) 0 zf (tE B l p))).2.2 verb ∧ ∃ N', bd2 (f_X7_commandText (nI (mi verb)) N) (fun r14 M13 => f_X7_commandsText_c90 k2 v1 r14 M13) = k2 (v1 + 1) N' ∧ KX N N' ∧ NXt l B N' (PSem B l (PArgs B l ns nb nf u verb (kinds verb) 0 zf (tE B l p))).2.1 ∧ MM (mm + 100) (ns + dS verb) (nb + dB verb) nf (P_do ns nb nf (PSem B l (PArgs B l ns nb nf u verb (kinds verb) 0 zf (tE B l p))).2.2 u verb) (win 2520 N') ∧ N' 2502 = N 2502 ∧ N' 2503 = N 2503) ∨
    ((PSem B l (PArgs B l ns nb nf u verb (kinds verb) 0 zf (tE B l p))).1 ≠ 0 ∧ ∃ N', bd2 (f_X7_commandText (nI (mi verb)) N) (fun r14 M13 => f_X7_commandsText_c90 k2 v1 r14 M13) = some (-1, N') ∧ KX N N' ∧ N' 2502 = nI (PSem B l (PArgs B l ns nb nf u verb (kinds verb) 0 zf (tE B l p))).1 ∧ N' 2503 = nI (PSem B l (PArgs B l ns nb nf u verb (kinds verb) 0 zf (tE B l p))).2.1) := by
  obtain ⟨N1, b0, b1, b2⟩ := m_next (p := tE B l p) h hx.1 (tE_b hpl).2
  have k1 : KM N N1 := fun z hz => b2 z (fun e => hz (by unfold rm; omega)) (fun e => hz (by unfold rm; omega)) (fun e => hz (by unfold rm; omega)) (fun e => hz (by unfold rm; omega))
  have X0 : XX l B ns nb nf u N := ⟨h, ⟨mm, hM.2.2.2.MV hM.1⟩, hM.2.2.2⟩
  have hao := m_args (verb := verb) (X0.km k1) b1 (tE_b hpl).2 h1 h9
  have hok := PArgs_ok (B := B) (l := l) (ns := ns) (nb := nb) (nf := nf) (verb := verb) (u := u) (kinds verb) 0 zf (tE B l p)
  have hle := PArgs_le (B := B) (l := l) (ns := ns) (nb := nb) (nf := nf) (verb := verb) (u := u) (kinds verb) 0 zf (tE B l p) (tE_b hpl).2
  generalize PArgs B l ns nb nf u verb (kinds verb) 0 zf (tE B l p) = R at hao hok hle ⊢
  unfold f_X7_commandText
  rw [bd_s b0]
  rcases hao with ⟨w, N2, t1, t2, t3, t4, t5, t6⟩ | ⟨w, N2, t1, t2, t3, t4⟩
  · have hg : GA ns nb nf u R.2.2 verb := GA_of hM.1 h1 h9 hf (fun m hm => by
      have := (hok w).2 m hm
      rw [Nat.zero_add] at this
      exact this)
    have k2' : KM N N2 := k1.tr t2
    have M2 : MM mm ns nb nf u (win 2520 N2) := hM.r (fun z hz => win_KM k2' hz)
    have p1 : N1 2502 = N 2502 := b2 _ (by omega) (by omega) (by omega) (by omega)
    have p2 : N1 2503 = N 2503 := b2 _ (by omega) (by omega) (by omega) (by omega)
    rw [t1]
    simp only [bd2, i10, ↓reduceIte]
    rw [m_isEnd t3]
    by_cases q : tK B l R.2.1 = 2
    · rw [if_pos q]
      simp only [bd2, i10, ↓reduceIte]
      obtain ⟨r, e, hd⟩ := m_does (u := win 2520 N2) (N := N2) (M2.2.2.2.MV M2.1) hm h1 h9 (GA_sim M2 h1 h9 hg) t4
      rw [wr_win] at hd
      rw [hd]
      simp only []
      unfold f_X7_commandsText_c90
      rw [if_neg (show ¬ (1 : Int32) = 0 by decide)]
      have kw : ∀ z, ¬ (z = 2512 ∨ (2520 ≤ z ∧ z < 2645)) → wr 2520 (P_do ns nb nf R.2.2 (win 2520 N2) verb) (upd N2 2512 e) z = N2 z := fun z hz => by rw [wr_out (by omega), un (by omega)]
      have k3 : KX N2 (wr 2520 (P_do ns nb nf R.2.2 (win 2520 N2) verb) (upd N2 2512 e)) := fun z hz => kw z (fun f => hz (Or.inr f))
      have n3 : NXt l B (wr 2520 (P_do ns nb nf R.2.2 (win 2520 N2) verb) (upd N2 2512 e)) R.2.1 := t3.k (fun z h1 h2 => kw z (by omega))
      rcases m_semi ((h.km k2').kx k3) n3 (hle w) with ⟨-, N4, s1, s2, s3⟩ | ⟨s0, -⟩
      · rw [bd2_s s1, if_neg (by decide)]
        have ePS : PSem B l R = (0, tE B l R.2.1, R.2.2) := by unfold PSem; rw [if_pos w, if_pos q]
        rw [ePS]
        refine Or.inl ⟨rfl, hg, N4, rfl, (k2'.x.tr k3).tr (fun z hz => s3 z (fun f => hz (Or.inl (by unfold rm; omega)))), s2, ?_, ?_, ?_⟩
        · refine (MM_do M2 h1 h9 hg).r (fun z hz => ?_)
          rw [show win 2520 N4 z = N4 (2520 + z) from rfl, s3 _ (by omega)]
          exact win_wr hz
        · rw [s3 _ (by omega), kw _ (by omega), t5, p1]
        · rw [s3 _ (by omega), kw _ (by omega), t6, p2]
      · exact absurd q s0
    · rw [if_neg q]
      simp only [bd2, ↓reduceIte]
      unfold f_X7_commandsText_c90
      rw [if_pos rfl]
      have ePS : PSem B l R = (1, tS B l R.2.1, R.2.2) := by unfold PSem; rw [if_pos w, if_neg q]
      rw [ePS]
      exact Or.inr ⟨(by decide : 1 ≠ 0), _, rfl, (k2'.tr K2).x, by rw [un (by omega), us]; rfl, us⟩
  · rw [t1]
    simp only [bd2, ↓reduceIte]
    unfold f_X7_commandsText_c90
    rw [if_pos rfl]
    have ePS : PSem B l R = R := by unfold PSem; rw [if_neg w]
    rw [ePS]
    exact Or.inr ⟨w, N2, rfl, (k1.tr t2).x, t3, t4⟩
end
