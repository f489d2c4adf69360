/-! the model reads a command's arguments -/
def rm (z : Nat) : Prop := z = 2502 ∨ z = 2503 ∨ (2515 ≤ z ∧ z ≤ 2518) ∨ (4147 ≤ z ∧ z ≤ 4151)
def KM (N N' : xM) : Prop := ∀ z, ¬ rm z → N' z = N z
theorem KM.tr {M M1 M2 : xM} (h : KM M M1) (h2 : KM M1 M2) : KM M M2 := fun z hz => (h2 z hz).trans (h z hz)
theorem KM.u {M : xM} {z : Nat} {x : Int32} (h : rm z) : KM M (upd M z x) := fun y hy => un (fun e => hy (e ▸ h))
theorem KM.rfl' {M : xM} : KM M M := fun _ _ => rfl
def NXt (l : Nat) (B : Nat → Nat) (N : xM) (p : Nat) : Prop := N 2515 = nI (tE B l p) ∧ N 2516 = nI (tK B l p) ∧ N 2517 = nI (tS B l p) ∧ (tK B l p = 1 → N 2518 = nI (tM B l p))
def MOut (l : Nat) (B : Nat → Nat) (i : Nat) (r : Nat × Nat × Nat) (N : xM) (o : Option (Int32 × xM)) : Prop :=
  (r.1 = 0 ∧ ∃ N', o = some (1, N') ∧ KM N N' ∧ NXt l B N' r.2.2 ∧ N' (4147 + i) = nI r.2.1 ∧ (∀ j, j < 5 → j ≠ i → N' (4147 + j) = N (4147 + j)) ∧ N' 2502 = N 2502 ∧ N' 2503 = N 2503) ∨
  (r.1 ≠ 0 ∧ ∃ N', o = some (0, N') ∧ KM N N' ∧ N' 2502 = nI r.1 ∧ N' 2503 = nI r.2.1)
section
variable {l : Nat} {B : Nat → Nat} {M N : xM} {ns nb nf verb p : Nat} {u : xM}
theorem MT.km {N' : xM} (h : MT l B N) (k : KM N N') : MT l B N' := h.keep (fun z hz => k z (by unfold rm; omega))
theorem NXt.k {N' : xM} (h : NXt l B N p) (e : ∀ z, 2515 ≤ z → z ≤ 2518 → N' z = N z) : NXt l B N' p :=
  ⟨by rw [e _ (by omega) (by omega)]; exact h.1, by rw [e _ (by omega) (by omega)]; exact h.2.1, by rw [e _ (by omega) (by omega)]; exact h.2.2.1, fun q => by rw [e _ (by omega) (by omega)]; exact h.2.2.2 q⟩
theorem m_next (h : MT l B N) (hp : N 2515 = nI p) (hpl : p ≤ l) : ∃ N', f_X7_next N = some N' ∧ NXt l B N' p ∧ ∀ z, z ≠ 2515 → z ≠ 2516 → z ≠ 2517 → z ≠ 2518 → N' z = N z := by
  obtain ⟨N', a0, a1, a2, a3, a4, a5⟩ := m_tok h hp hpl rfl
  exact ⟨N', a0, ⟨a1, a2, a3, a4⟩, a5⟩
theorem m_wrong (k : Int32) : f_X7_wrong k N = some (0, upd (upd N 2502 k) 2503 (N 2517)) := by
  unfold f_X7_wrong
  rw [un (by omega)]
theorem tk_i {k : Nat} (hk : k ≤ 4) : (nI (tK B l p) = nI k) = (tK B l p = k) := by
  have := tK_le (B := B) (l := l) (p := p)
  exact propext (nI_eq (by omega) (by omega))
theorem tM_lt (hpl : p ≤ l) (hk : tK B l p = 1) : tM B l p ≤ 99999 := (tkV_lt hpl hk).2.1
theorem m_num {lo hi : Nat} {hi' : Int32} (hx : NXt l B N p) (hpl : p ≤ l) (hlo : lo ≤ 9999) (hh : ∀ v, v ≤ 99999 → ((nI v ≤ hi') = (v < hi))) (hH : hi ≤ 10000) :
    f_X7_numberIn (nI lo) hi' N = if tK B l p = 1 then (if lo ≤ tkV B l p ∧ tkV B l p < hi then some (1, N) else some (0, upd (upd N 2502 2) 2503 (nI (tS B l p)))) else some (0, upd (upd N 2502 1) 2503 (nI (tS B l p))) := by
  have e1 : (nI (tK B l p) = 1) = (tK B l p = 1) := tk_i (k := 1) (by omega)
  unfold f_X7_numberIn
  rw [hx.2.1]
  simp only [e1]
  by_cases q : tK B l p = 1
  · have hm := tM_lt hpl q
    have hr := tkV_lt hpl q
    rw [if_pos q, if_pos q, hx.2.2.2 q, m_inR]
    have ev : (nI lo ≤ nI (tM B l p) ∧ nI (tM B l p) ≤ hi') = (lo ≤ tkV B l p ∧ tkV B l p < hi) := by
      rw [hh _ hm]
      apply propext
      rw [nI_leI (by omega) (by omega)]
      unfold nrel at hr
      omega
    simp only [ev]
    by_cases q2 : lo ≤ tkV B l p ∧ tkV B l p < hi
    · rw [if_pos q2, if_pos q2]
      simp only [bd2, i10, ↓reduceIte]
    · rw [if_neg q2, if_neg q2]
      simp only [bd2, m_wrong, ↓reduceIte, hx.2.2.1]
  · rw [if_neg q, if_neg q, m_wrong, hx.2.2.1]
    simp only [bd2]
    rw [gd_t (show isb 0 = true from rfl)]
theorem tkV_tM {hi : Nat} (hpl : p ≤ l) (hk : tK B l p = 1) (h : tkV B l p < hi) (hH : hi ≤ 10000) : tkV B l p = tM B l p := by
  have := tkV_lt hpl hk
  unfold nrel at this
  omega
theorem PArg_n {i a0 c : Nat} (hk : kN c) : PArg B l ns nb nf u verb i a0 c p = if tK B l p = 1 then (if loK c ≤ tkV B l p ∧ tkV B l p < hiK ns nb nf c then (if PRef u verb i a0 (tkV B l p) = true then (3, tS B l p, 0) else (0, tkV B l p, tE B l p)) else (2, tS B l p, 0)) else (1, tS B l p, 0) := by
  unfold PArg
  rw [if_neg (by unfold kN at hk; omega), if_neg (by unfold kN at hk; omega)]
theorem K2 {x y : Int32} : KM N (upd (upd N 2502 x) 2503 y) := (KM.u (by unfold rm; omega)).tr (KM.u (by unfold rm; omega))
/-- the number is good: kept, and on -/
theorem m_good {i V : Nat} (hi : i < 5) (h : MT l B N) (hx : NXt l B N p) (hpl : p ≤ l) (hV : N 2518 = nI V) : ∃ N', f_X7_next (upd N (4147 + i) (N 2518)) = some N' ∧ KM N N' ∧ NXt l B N' (tE B l p) ∧ N' (4147 + i) = nI V ∧ (∀ j, j < 5 → j ≠ i → N' (4147 + j) = N (4147 + j)) ∧ N' 2502 = N 2502 ∧ N' 2503 = N 2503 := by
  have hk : KM N (upd N (4147 + i) (N 2518)) := KM.u (by unfold rm; omega)
  obtain ⟨N', b0, b1, b2⟩ := m_next (p := tE B l p) (h.km hk) (by rw [un (by omega)]; exact hx.1) (tE_b hpl).2
  refine ⟨N', b0, hk.tr (fun z hz => b2 z (fun e => hz (by unfold rm; omega)) (fun e => hz (by unfold rm; omega)) (fun e => hz (by unfold rm; omega)) (fun e => hz (by unfold rm; omega))), b1, ?_, fun j hj hn => ?_, ?_, ?_⟩
  · rw [b2 _ (by omega) (by omega) (by omega) (by omega), us, hV]
  · rw [b2 _ (by omega) (by omega) (by omega) (by omega), un (by omega)]
  · rw [b2 _ (by omega) (by omega) (by omega) (by omega), un (by omega)]
  · rw [b2 _ (by omega) (by omega) (by omega) (by omega), un (by omega)]
theorem m_into {i lo a0 c : Nat} {hi' : Int32} (hi : i < 5) (h : MT l B N) (hx : NXt l B N p) (hpl : p ≤ l) (hk : kN c) (hlo : lo = loK c) (hh : ∀ v, v ≤ 99999 → ((nI v ≤ hi') = (v < hiK ns nb nf c))) (hH : hiK ns nb nf c ≤ 10000) (hr : ∀ V, PRef u verb i a0 V = false) : MOut l B i (PArg B l ns nb nf u verb i a0 c p) N (f_X7_into (nI i) (nI lo) hi' N) := by
  subst hlo
  unfold f_X7_into
  rw [PArg_n hk, m_num hx hpl (by unfold loK; split <;> omega) hh hH]
  by_cases q : tK B l p = 1
  · rw [if_pos q, if_pos q]
    by_cases q2 : loK c ≤ tkV B l p ∧ tkV B l p < hiK ns nb nf c
    · rw [if_pos q2, if_pos q2, hr]
      simp only [bd2, i10, ↓reduceIte, Bool.false_eq_true]
      rw [gd_t (inb_nI hi (by omega)), cl (by omega)]
      obtain ⟨N', b0, b1, b2, b3, b4, b5, b6⟩ := m_good (V := tkV B l p) hi h hx hpl (by rw [hx.2.2.2 q, tkV_tM hpl q q2.2 hH])
      rw [bd_s b0]
      exact Or.inl ⟨rfl, N', rfl, b1, b2, b3, b4, b5, b6⟩
    · rw [if_neg q2, if_neg q2]
      simp only [bd2, ↓reduceIte]
      exact Or.inr ⟨(by decide : 2 ≠ 0), _, rfl, K2, by rw [un (by omega), us]; rfl, us⟩
  · rw [if_neg q, if_neg q]
    simp only [bd2, ↓reduceIte]
    exact Or.inr ⟨(by decide : 1 ≠ 0), _, rfl, K2, by rw [un (by omega), us]; rfl, us⟩
theorem m_wd {i W : Nat} (hi : i < 5) (hW : W = 9 ∨ W < 4) (h : MT l B N) (hx : NXt l B N p) (hpl : p ≤ l) : MOut l B i (if W = 9 then (1, tS B l p, 0) else (0, W, tE B l p)) N (f_X7_lanternInto_c58 (nI i) (if W = 9 then -1 else nI W) (nI i) N) := by
  unfold f_X7_lanternInto_c58 f_X7_wordRead
  rw [gd_t (inb_nI hi (by omega)), gd_t (inb_nI hi (by omega)), cl (by omega), us]
  by_cases q : W = 9
  · rw [if_pos q, if_pos q, if_pos rfl, m_wrong]
    simp only [bd2]
    rw [gd_t (show isb 0 = true from rfl)]
    simp only []
    rw [gd_t (show isb 0 = true from rfl)]
    refine Or.inr ⟨(by decide : 1 ≠ 0), _, rfl, (KM.u (by unfold rm; omega)).tr K2, by rw [un (by omega), us]; rfl, ?_⟩
    rw [us, un (by omega), hx.2.2.1]
  · rw [if_neg q, if_neg q, if_neg (by rw [nI_m1 (by omega)]; exact fun h => h)]
    have hk : KM N (upd N (4147 + i) (nI W)) := KM.u (by unfold rm; omega)
    obtain ⟨N', b0, b1, b2⟩ := m_next (p := tE B l p) (h.km hk) (by rw [un (by omega)]; exact hx.1) (tE_b hpl).2
    rw [bd_s b0]
    simp only [bd2]
    rw [gd_t (show isb 1 = true from rfl)]
    refine Or.inl ⟨rfl, N', rfl, hk.tr (fun z hz => b2 z (fun e => hz (by unfold rm; omega)) (fun e => hz (by unfold rm; omega)) (fun e => hz (by unfold rm; omega)) (fun e => hz (by unfold rm; omega))), b1, ?_, fun j hj hn => ?_, ?_, ?_⟩
    · rw [b2 _ (by omega) (by omega) (by omega) (by omega), us]
    · rw [b2 _ (by omega) (by omega) (by omega) (by omega), un (by omega)]
    · rw [b2 _ (by omega) (by omega) (by omega) (by omega), un (by omega)]
    · rw [b2 _ (by omega) (by omega) (by omega) (by omega), un (by omega)]
theorem m_isW {a : Nat} (ha : a < 56) (h : MT l B N) (hx : NXt l B N p) (hpl : p ≤ l) : f_X7_isWord a N = some (if tW a B l p = true then 1 else 0, N) := m_isWord ha h hx.1 hx.2.1 hx.2.2.1 (tS_b hpl).2
theorem m_lanI {i a0 : Nat} (hi : i < 5) (h : MT l B N) (hx : NXt l B N p) (hpl : p ≤ l) : MOut l B i (PArg B l ns nb nf u verb i a0 108 p) N (f_X7_lanternInto (nI i) N) := by
  have hw := m_wd (i := i) (W := PLan B l p) hi PLan_lt h hx hpl
  have e : f_X7_lanternInto (nI i) N = f_X7_lanternInto_c58 (nI i) (if PLan B l p = 9 then -1 else nI (PLan B l p)) (nI i) N := by
    have w3 : tW 31 B l p = tW 3 B l p := rfl
    have w4 : tW 32 B l p = tW 4 B l p := rfl
    have w5 : tW 33 B l p = tW 5 B l p := rfl
    have w6 : tW 34 B l p = tW 6 B l p := rfl
    unfold f_X7_lanternInto PLan
    simp only [m_isW (a := 31) (by omega) h hx hpl, m_isW (a := 32) (by omega) h hx hpl, m_isW (a := 33) (by omega) h hx hpl, m_isW (a := 34) (by omega) h hx hpl, bd2, w3, w4, w5, w6]
    by_cases q1 : tW 3 B l p = true
    · simp only [q1, ↓reduceIte, i10]; rfl
    · by_cases q2 : tW 4 B l p = true
      · simp only [q1, q2, Bool.false_eq_true, ↓reduceIte, i10]; rfl
      · by_cases q3 : tW 5 B l p = true
        · simp only [q1, q2, q3, Bool.false_eq_true, ↓reduceIte, i10]; rfl
        · by_cases q4 : tW 6 B l p = true
          · simp only [q1, q2, q3, q4, Bool.false_eq_true, ↓reduceIte, i10]; rfl
          · simp only [q1, q2, q3, q4, Bool.false_eq_true, ↓reduceIte]
  rw [e]
  exact hw
theorem m_texI {i a0 : Nat} (hi : i < 5) (h : MT l B N) (hx : NXt l B N p) (hpl : p ≤ l) : MOut l B i (PArg B l ns nb nf u verb i a0 116 p) N (f_X7_textureInto (nI i) N) := by
  have hw := m_wd (i := i) (W := PTex B l p) hi (by have := PTex_lt (B := B) (l := l) (p := p); omega) h hx hpl
  have e : f_X7_textureInto (nI i) N = f_X7_lanternInto_c58 (nI i) (if PTex B l p = 9 then -1 else nI (PTex B l p)) (nI i) N := by
    have w3 : tW 35 B l p = tW 7 B l p := rfl
    have w4 : tW 36 B l p = tW 8 B l p := rfl
    have w5 : tW 37 B l p = tW 9 B l p := rfl
    unfold f_X7_textureInto PTex
    simp only [m_isW (a := 35) (by omega) h hx hpl, m_isW (a := 36) (by omega) h hx hpl, m_isW (a := 37) (by omega) h hx hpl, bd2, w3, w4, w5]
    by_cases q1 : tW 7 B l p = true
    · simp only [q1, ↓reduceIte, i10]; rfl
    · by_cases q2 : tW 8 B l p = true
      · simp only [q1, q2, Bool.false_eq_true, ↓reduceIte, i10]; rfl
      · by_cases q3 : tW 9 B l p = true
        · simp only [q1, q2, q3, Bool.false_eq_true, ↓reduceIte, i10]; rfl
        · simp only [q1, q2, q3, Bool.false_eq_true, ↓reduceIte]; rfl
  rw [e]
  exact hw
theorem m_stockI {mm a0 : Nat} (h : MT l B N) (hx : NXt l B N p) (hpl : p ≤ l) (hMV : MV mm ns nb nf (win 2520 N)) (ha : N 4147 = nI a0) (ha2 : a0 < ns) (hS : Sim ns nb nf u (win 2520 N)) : MOut l B 1 (PArg B l ns nb nf u 4 1 a0 103 p) N (f_X7_stockInto N) := by
  have hs := hMV.s.2
  have e9 : ∀ v, v ≤ 99999 → ((nI v ≤ (99 : Int32)) = (v < 100)) := fun v hv => hi_c (h := 99) rfl (by omega) (by omega)
  have hn := m_num (N := N) (lo := 0) (hi := 100) (hi' := 99) hx hpl (by omega) e9 (by omega)
  unfold f_X7_stockInto
  rw [PArg_n (by unfold kN; omega), show f_X7_numberIn 0 99 N = _ from hn, show loK 103 = 0 from rfl, show hiK ns nb nf 103 = 100 from rfl]
  by_cases q : tK B l p = 1
  · rw [if_pos q, if_pos q]
    by_cases q2 : 0 ≤ tkV B l p ∧ tkV B l p < 100
    · have hV := tkV_tM hpl q q2.2 (by omega)
      have hN := hx.2.2.2 q
      have hst := m_st (u := win 2520 N) (N := N) (i := a0) (k := 4) (by omega) (by omega)
      rw [wr_win] at hst
      rw [if_pos q2, if_pos q2]
      simp only [bd2, i10, ↓reduceIte]
      rw [ha, show f_X7_st (nI a0) 4 N = _ from hst]
      simp only []
      have er : PRef u 4 1 a0 (tkV B l p) = decide (99 < u (23 + 9 * a0 + 4) + nI (tkV B l p)) := by
        unfold PRef
        rw [decide_eq_true (⟨rfl, rfl⟩ : 4 = 4 ∧ 1 = 1), Bool.true_and, decide_eq_false (show ¬ 4 = 8 by omega), Bool.false_and, Bool.or_false]
      rw [er, hS.ss ha2 (by omega), hN, hV]
      by_cases q3 : (99 : Int32) < win 2520 N (23 + 9 * a0 + 4) + nI (tM B l p)
      · rw [decide_eq_true q3, if_pos rfl, if_neg (Int32.not_le.mpr q3), m_wrong, hx.2.2.1]
        simp only []
        rw [gd_t (show isb 0 = true from rfl)]
        exact Or.inr ⟨(by decide : 3 ≠ 0), _, rfl, K2, by rw [un (by omega), us]; rfl, us⟩
      · rw [decide_eq_false q3, if_neg Bool.false_ne_true, if_pos (Int32.not_lt.mp q3), ← hN]
        obtain ⟨N', b0, b1, b2, b3, b4, b5, b6⟩ := m_good (i := 1) (V := tM B l p) (by omega) h hx hpl hN
        rw [bd_s b0]
        exact Or.inl ⟨rfl, N', rfl, b1, b2, b3, b4, b5, b6⟩
    · rw [if_neg q2, if_neg q2]
      simp only [bd2, ↓reduceIte]
      exact Or.inr ⟨(by decide : 2 ≠ 0), _, rfl, K2, by rw [un (by omega), us]; rfl, us⟩
  · rw [if_neg q, if_neg q]
    simp only [bd2, ↓reduceIte]
    exact Or.inr ⟨(by decide : 1 ≠ 0), _, rfl, K2, by rw [un (by omega), us]; rfl, us⟩
theorem m_holdI {mm a0 : Nat} (h : MT l B N) (hx : NXt l B N p) (hpl : p ≤ l) (hMV : MV mm ns nb nf (win 2520 N)) (hS : Sim ns nb nf u (win 2520 N)) : MOut l B 0 (PArg B l ns nb nf u 8 0 a0 98 p) N (f_X7_holderInto N) := by
  have hb := hMV.b.2
  have e30 : N 2530 = nI nb := hMV.b.1
  have e9 : ∀ v, v ≤ 99999 → ((nI v ≤ nI nb - 1) = (v < nb)) := fun v hv => hi_m (by omega) (by omega)
  have hn := m_num (N := N) (lo := 0) (hi := nb) (hi' := nI nb - 1) hx hpl (by omega) e9 (by omega)
  unfold f_X7_holderInto
  rw [PArg_n (by unfold kN; omega), e30, show f_X7_numberIn 0 (nI nb - 1) N = _ from hn, show loK 98 = 0 from rfl, show hiK ns nb nf 98 = nb from rfl]
  by_cases q : tK B l p = 1
  · rw [if_pos q, if_pos q]
    by_cases q2 : 0 ≤ tkV B l p ∧ tkV B l p < nb
    · have hV := tkV_tM hpl q q2.2 (by omega)
      have hN := hx.2.2.2 q
      have hst := m_by (u := win 2520 N) (N := N) (i := tM B l p) (k := 4) (by omega) (by omega)
      rw [wr_win] at hst
      rw [if_pos q2, if_pos q2]
      simp only [bd2, i10, ↓reduceIte]
      rw [hN, show f_X7_by (nI (tM B l p)) 4 N = _ from hst]
      simp only []
      have er : PRef u 8 0 a0 (tkV B l p) = decide (u (77 + 8 * tkV B l p + 4) = -1) := by
        unfold PRef
        rw [decide_eq_false (show ¬ (8 = 4 ∧ 0 = 1) by omega), Bool.false_and, Bool.false_or, decide_eq_true (rfl : 8 = 8), Bool.true_and]
      rw [er, hS.b q2.2 (by omega), hV]
      by_cases q3 : win 2520 N (77 + 8 * tM B l p + 4) = -1
      · rw [decide_eq_true q3, if_pos rfl, if_pos q3, m_wrong, hx.2.2.1]
        simp only []
        rw [gd_t (show isb 0 = true from rfl)]
        exact Or.inr ⟨(by decide : 3 ≠ 0), _, rfl, K2, by rw [un (by omega), us]; rfl, us⟩
      · rw [decide_eq_false q3, if_neg Bool.false_ne_true, if_neg q3, hN]
        obtain ⟨N', b0, b1, b2, b3, b4, b5, b6⟩ := m_good (i := 0) (V := tM B l p) (by omega) h hx hpl hN
        rw [hN] at b0
        rw [show f_X7_next (upd N 4147 (nI (tM B l p))) = _ from b0]
        exact Or.inl ⟨rfl, N', rfl, b1, b2, b3, b4, b5, b6⟩
    · rw [if_neg q2, if_neg q2]
      simp only [bd2, ↓reduceIte]
      exact Or.inr ⟨(by decide : 2 ≠ 0), _, rfl, K2, by rw [un (by omega), us]; rfl, us⟩
  · rw [if_neg q, if_neg q]
    simp only [bd2, ↓reduceIte]
    exact Or.inr ⟨(by decide : 1 ≠ 0), _, rfl, K2, by rw [un (by omega), us]; rfl, us⟩
end
