/-! the asking calls that count or look -/
section
variable {mm : Nat} {M : xM}
theorem wU {x : Int32} : wr 2520 (win 2520 M) (upd M 2504 x) = upd M 2504 x := by rw [← mw2504, wr_win]
theorem rng_nI {x : Int32} {n : Nat} (hn : n < 1073741824) (h : (0 : Int32) ≤ x ∧ x ≤ nI n) : ∃ j, j ≤ n ∧ x = nI j :=
  nI_of2 (M := nI n) (nI_toInt (by omega)) (by rw [Int32.not_lt]; exact h.1) h.2
theorem s_heldOf (h : RR mm M) (x : Int32) : OkT mm [2] (f_X6_heldOf x) (f_X7_heldOf x) M := by
  obtain ⟨ns, nb, nf, h1, -, -, h4, h5⟩ := h.mk
  have e9 := h1.s
  rw [w0] at e9
  rcases ixC x (n := ns) (by omega) with q | ⟨j, hj, rfl⟩
  · refine ⟨2, 0, M, 0, upd M 2504 1, ?_, ?_, (R_t0 h), Or.inr ⟨0, rfl, by omega, us⟩⟩
    · unfold f_X6_heldOf
      rw [tbd_x (c_stO q e9.1)]
    · unfold f_X7_heldOf
      rw [m_isSO q e9.2 h5.s.1]
      rfl
  · have c1 := c_held (b := 0) (M := M) h1 (nI j)
    rw [wr_win] at c1
    have c2 := m_held (N := upd M 2504 0) h5 (nI j)
    rw [wU] at c2
    refine ⟨0, _, M, _, upd M 2504 0, ?_, ?_, (R_t0 h), Or.inl ⟨rfl, HC_sim h4 (nI j) nb (Nat.le_refl _), us⟩⟩
    · unfold f_X6_heldOf
      rw [tbd_0 (c_chS hj e9.2 e9.1), bd2_s c1]
    · unfold f_X7_heldOf
      rw [m_isSI hj e9.2 h5.s.1]
      simp only [bd2, i10, ↓reduceIte, c2]
theorem s_fogIn (h : RR mm M) (x : Int32) : OkT mm [1] (f_X6_fogIn x) (f_X7_fogIn x) M := by
  obtain ⟨ns, nb, nf, h1, -, -, h4, h5⟩ := h.mk
  by_cases q : (0 : Int32) ≤ x ∧ x ≤ 99999
  · obtain ⟨t, ht, rfl⟩ := rng_nI (n := 99999) (by omega) q
    have c1 := c_dens (b := 0) (M := M) (t := t) h1 (by omega)
    rw [wr_win] at c1
    have c2 := m_fog (N := upd M 2504 0) (t := t) h5 (by omega)
    rw [wU] at c2
    refine ⟨0, win 0 M (11 + t / 5 % nf), M, win 2520 M (11 + t / 5 % nf), upd M 2504 0, ?_, ?_, (R_t0 h), Or.inl ⟨rfl, h4.f (Nat.mod_lt _ (by have := h1.f.2.1; omega)), us⟩⟩
    · unfold f_X6_fogIn
      rw [c_chk, if_pos q, tbd_0 rfl, bd2_s c1]
    · unfold f_X7_fogIn
      rw [m_inR, if_pos q]
      simp only [bd2, m_fail1, ↓reduceIte, c2]
  · refine ⟨1, 0, M, 0, upd M 2504 1, ?_, ?_, (R_t0 h), Or.inr ⟨0, rfl, by omega, us⟩⟩
    · unfold f_X6_fogIn
      rw [c_chk, if_neg q, tbd_x rfl]
    · unfold f_X7_fogIn
      rw [m_inR, if_neg q]
      simp only [bd2, m_fail0, i10, ↓reduceIte, utwice]
theorem s_reach (h : RR mm M) (x y : Int32) : OkT mm [1] (f_X6_reach x y) (f_X7_reach x y) M := by
  have eo : ∀ N, f_X7_reach_c30 x y 0 N = some (0, upd N 2504 1) := fun N => by
    unfold f_X7_reach_c30
    simp only [bd2, m_fail0, i10, ↓reduceIte]
  by_cases q : (0 : Int32) ≤ x ∧ x ≤ 3
  · by_cases q2 : (0 : Int32) ≤ y ∧ y ≤ 9
    · refine ⟨0, P_reach x y, M, P_reach x y, upd M 2504 0, ?_, ?_, (R_t0 h), Or.inl ⟨rfl, rfl, us⟩⟩
      · unfold f_X6_reach
        rw [c_chk, if_pos q, tbd_0 rfl, c_chk, if_pos q2, tbd_0 rfl, bd2_s (c_paces _ _ _)]
      · unfold f_X7_reach f_X7_reach_c30
        rw [m_inR, if_pos q]
        simp only [bd2, i10, ↓reduceIte]
        rw [m_inR, if_pos q2]
        simp only [i10, ↓reduceIte, m_fail1, m_reach]
    · refine ⟨1, 0, M, 0, upd M 2504 1, ?_, ?_, (R_t0 h), Or.inr ⟨0, rfl, by omega, us⟩⟩
      · unfold f_X6_reach
        rw [c_chk, if_pos q, tbd_0 rfl, c_chk, if_neg q2, tbd_x rfl]
      · unfold f_X7_reach f_X7_reach_c29
        rw [m_inR, if_pos q]
        simp only [bd2, i10, ↓reduceIte]
        rw [m_inR, if_neg q2]
        simp only [↓reduceIte, eo, utwice]
  · refine ⟨1, 0, M, 0, upd M 2504 1, ?_, ?_, (R_t0 h), Or.inr ⟨0, rfl, by omega, us⟩⟩
    · unfold f_X6_reach
      rw [c_chk, if_neg q, tbd_x rfl]
    · unfold f_X7_reach f_X7_reach_c29
      rw [m_inR, if_neg q]
      simp only [bd2, ↓reduceIte, eo, utwice]
theorem s_touch (h : RR mm M) (x y : Int32) : OkT mm [2] (f_X6_touch x y) (f_X7_touch x y) M := by
  obtain ⟨ns, nb, nf, h1, -, -, h4, h5⟩ := h.mk
  have e9 := h1.s
  have e10 := h1.b
  rw [w0] at e9 e10
  rcases ixC x (n := nb) (by omega) with q | ⟨i, hi, rfl⟩
  · refine ⟨2, 0, M, 0, upd M 2504 1, ?_, ?_, (R_t0 h), Or.inr ⟨0, rfl, by omega, us⟩⟩
    · unfold f_X6_touch
      rw [tbd_x (c_byO2 q e10.1)]
    · unfold f_X7_touch
      rw [m_isBO q e10.2 h5.b.1]
      rfl
  · rcases ixC y (n := ns) (by omega) with q | ⟨s, hs, rfl⟩
    · refine ⟨2, 0, M, 0, upd M 2504 1, ?_, ?_, (R_t0 h), Or.inr ⟨0, rfl, by omega, us⟩⟩
      · unfold f_X6_touch
        rw [tbd_0 (c_byI hi e10.2 e10.1), tbd_x (c_stO2 q e9.1)]
      · unfold f_X7_touch
        rw [m_isBI hi e10.2 h5.b.1]
        simp only [bd2, i10, ↓reduceIte]
        rw [m_isSO q e9.2 (by rw [un (by omega)]; exact h5.s.1)]
        simp only [↓reduceIte, utwice]
    · have c1 := c_feel (b := 0) (u := win 0 M) (M := M) (i := i) (s := s) (by omega) (by omega)
      rw [wr_win, Nat.zero_add, Nat.zero_add] at c1
      have c2 := m_feel (u := win 2520 M) (N := upd M 2504 0) (i := i) (s := s) (by omega) (by omega)
      rw [wU] at c2
      refine ⟨0, _, M, _, upd M 2504 0, ?_, ?_, (R_t0 h), Or.inl ⟨rfl, S_feel h4 hi hs, us⟩⟩
      · unfold f_X6_touch
        rw [tbd_0 (c_byI hi e10.2 e10.1), tbd_0 (c_stI hs e9.2 e9.1), bd2_s c1]
      · unfold f_X7_touch
        rw [m_isBI hi e10.2 h5.b.1]
        simp only [bd2, i10, ↓reduceIte]
        rw [m_isSI hs e9.2 (by rw [un (by omega)]; exact h5.s.1)]
        simp only [i10, ↓reduceIte, utwice, c2]
theorem s_targetOf (h : RR mm M) (hm : mm < 1073741824) (x : Int32) : OkT mm [2] (f_X6_targetOf x) (f_X7_targetOf x) M := by
  obtain ⟨ns, nb, nf, h1, -, -, h4, h5⟩ := h.mk
  have e10 := h1.b
  rw [w0] at e10
  rcases ixC x (n := nb) (by omega) with q | ⟨i, hi, rfl⟩
  · refine ⟨2, 0, M, 0, upd M 2504 1, ?_, ?_, (R_t0 h), Or.inr ⟨0, rfl, by omega, us⟩⟩
    · unfold f_X6_targetOf
      rw [tbd_x (c_byO2 q e10.1)]
    · unfold f_X7_targetOf
      rw [m_isBO q e10.2 h5.b.1]
      rfl
  · have e4 : M (77 + 8 * i + 4) = win 2520 M (77 + 8 * i + 4) := by
      have := h4.b hi (k := 4) (by omega)
      rw [w0] at this
      exact this
    have hb4 : f_X7_by (nI i) 4 (upd M 2504 0) = some (M (77 + 8 * i + 4), upd M 2504 0) := by
      have c := by4 (u := win 2520 M) (N := upd M 2504 0) (i := i) (by omega)
      rw [wU, ← e4] at c
      exact c
    by_cases q : M (77 + 8 * i + 4) = -1
    · have c0 := c_now (b := 0) (M := M) h1 (by omega)
      rw [wr_win] at c0
      have c1 := c_find (b := 0) (M := M) (d := P_dens nf (win 0 M)) h1 hi
      rw [wr_win, Nat.zero_add] at c1
      have c2 := m_now (N := upd M 2504 0) h5 (by omega)
      rw [wU] at c2
      have c3 := m_tgt (N := upd M 2504 0) (d := P_dens nf (win 2520 M)) h5 hi
      rw [wU] at c3
      have ed := S_dens h4 h1.f.2.1
      have et := S_tgt h4 hi (d := P_dens nf (win 2520 M)) ns 0 none (by omega) (fun j hj => by cases hj)
      rw [ed] at c0 c1
      refine ⟨0, _, M, _, upd M 2504 0, ?_, ?_, (R_t0 h), Or.inl ⟨rfl, congrArg eo et, us⟩⟩
      · unfold f_X6_targetOf f_X1_holds
        rw [tbd_0 (c_byI hi e10.2 e10.1), q]
        simp only [bd2, ↓reduceIte, c0, c1]
      · unfold f_X7_targetOf
        rw [m_isBI hi e10.2 h5.b.1]
        simp only [bd2, i10, ↓reduceIte, hb4, q]
        rw [show upd M 2504 0 2520 = win 2520 M 0 from un (by omega), c2]
        simp only [c3]
    · refine ⟨0, -1, M, -1, upd M 2504 0, ?_, ?_, (R_t0 h), Or.inl ⟨rfl, rfl, us⟩⟩
      · unfold f_X6_targetOf f_X1_holds
        rw [tbd_0 (c_byI hi e10.2 e10.1), if_neg q]
        simp only [bd2, i10, ↓reduceIte]
      · unfold f_X7_targetOf
        rw [m_isBI hi e10.2 h5.b.1]
        simp only [bd2, i10, ↓reduceIte, hb4, q]
/-- the set of the stalls seen -/
def SN (u : xM) (x d : Int32) : Nat → Nat → Int32 → Int32
  | 0, _, a => a
  | k + 1, s, a => SN u x d k (s + 1) (if P_seen u s x d = true then a ||| (1 <<< (nI s &&& 31)) else a)
theorem SN_sim {ns nb nf : Nat} {u v : xM} (h : Sim ns nb nf u v) {x d : Int32} : ∀ (k s : Nat) (a : Int32), s + k ≤ ns → SN u x d k s a = SN v x d k s a
  | 0, _, _, _ => rfl
  | k + 1, s, a, hk => by
    show SN u x d k (s + 1) (if P_seen u s x d = true then a ||| (1 <<< (nI s &&& 31)) else a) = SN v x d k (s + 1) (if P_seen v s x d = true then a ||| (1 <<< (nI s &&& 31)) else a)
    have : P_seen u s x d = P_seen v s x d := by
      unfold P_seen
      rw [h.ss (show s < ns by omega) (by omega), h.ss (show s < ns by omega) (by omega)]
    rw [this, SN_sim h k (s + 1) _ (by omega)]
theorem z9 {u N : xM} : wr 0 u N 9 = u 9 := wr_in rfl (by decide)
theorem z10 {u N : xM} : wr 0 u N 10 = u 10 := wr_in rfl (by decide)
theorem zs {u N : xM} {i k : Nat} (hi : i < 6) (hk : k < 9) : wr 0 u N (23 + 9 * i + k) = u (23 + 9 * i + k) := wr_in (by omega) (by omega)
theorem zb {u N : xM} {i k : Nat} (hi : i < 6) (hk : k < 8) : wr 0 u N (77 + 8 * i + k) = u (77 + 8 * i + k) := wr_in (by omega) (by omega)
theorem c_seen {ns nb nf p : Nat} {u N : xM} {d : Int32} (h : MV mm ns nb nf u) (hp : p < 100) : ∀ (k s n : Nat) (a : Int32), s + k = ns → k < n → lp (fun _ _ _ _ => none) (fun k => fb_X6_seenFrom_c20 k (nI p)) n d a (nI s) (wr 0 u N) = some (0, SN u (nI p) d k s a, wr 0 u N)
  | 0, s, n + 1, a, hs, hn => by
    have h6 := h.s
    rw [lp_s]
    unfold fb_X6_seenFrom_c20
    simp (disch := omega) only [z9, h6.1, nI_ll, ↓reduceIte, SN]
  | k + 1, s, n + 1, a, hs, hn => by
    have h6 := h.s
    obtain ⟨q, hq, e⟩ := h.st s (by omega)
    have ih := c_seen (N := N) (d := d) h hp k (s + 1) n (if P_seen u s (nI p) d = true then a ||| (1 <<< (nI s &&& 31)) else a) (by omega) (by omega)
    rw [lp_s]
    generalize lp (fun _ _ _ _ => none) (fun k => fb_X6_seenFrom_c20 k (nI p)) n = K at ih ⊢
    have hab : iabs (u (23 + 9 * s + 0) - nI p) = P_apart (u (23 + 9 * s + 0)) (nI p) := by rw [e]; exact iabs_ap hq hp
    unfold fb_X6_seenFrom_c20 f_X4_isSeenFrom
    simp (disch := omega) only [z9, h6.1, nI_lx, ↓reduceIte, inb_nI, gd, cl, c_paces, bd2, zs, hab, nI_1]
    show _ = some (0, SN u (nI p) d k (s + 1) (if P_seen u s (nI p) d = true then a ||| (1 <<< (nI s &&& 31)) else a), wr 0 u N)
    rw [← ih]
    unfold P_seen
    by_cases q1 : P_reach (u (23 + 9 * s + 1)) d < P_apart (u (23 + 9 * s + 0)) (nI p)
    · rw [if_pos q1, decide_eq_false (by rw [Int32.not_le]; exact q1)]
      rfl
    · rw [if_neg q1, decide_eq_true (by rw [← Int32.not_lt]; exact q1)]
      rfl
theorem m_seenL {ns nb nf : Nat} {v N : xM} {x d : Int32} (h : MV mm ns nb nf v) (hm : mm < 1073741824) (hd : P_dens nf v = d) : ∀ (k s n : Nat) (a : Int32), s + k = ns → k < n → lp (fun _ _ _ => none) (fun k => fb_X7_seenFrom_c26 k x) n a (nI s) (wr 2520 v N) = some (SN v x d k s a, wr 2520 v N)
  | 0, s, n + 1, a, hs, hn => by
    have h6 := h.s
    rw [lp_s]
    unfold fb_X7_seenFrom_c26
    simp (disch := omega) only [mh9, h6.1, nI_ll, ↓reduceIte, SN]
  | k + 1, s, n + 1, a, hs, hn => by
    have h6 := h.s
    have ih := m_seenL (N := N) (x := x) h hm hd k (s + 1) n (if P_seen v s x d = true then a ||| (1 <<< (nI s &&& 31)) else a) (by omega) (by omega)
    rw [lp_s]
    generalize lp (fun _ _ _ => none) (fun k => fb_X7_seenFrom_c26 k x) n = K at ih ⊢
    unfold fb_X7_seenFrom_c26 f_X7_seenFrom_c64
    simp (disch := omega) only [mh9, h6.1, nI_lx, ↓reduceIte, mh0, m_now h (show mm < 2147483648 by omega), bd2, hd, m_seen, nI_1]
    show _ = some (SN v x d k (s + 1) (if P_seen v s x d = true then a ||| (1 <<< (nI s &&& 31)) else a), wr 2520 v N)
    rw [← ih]
    cases P_seen v s x d
    · simp only [Bool.false_eq_true, ↓reduceIte, Int32.or_zero]
    · simp only [i10, ↓reduceIte]
theorem s_seenFrom (h : RR mm M) (hm : mm < 1073741824) (x : Int32) : OkT mm [1] (f_X6_seenFrom x) (f_X7_seenFrom x) M := by
  obtain ⟨ns, nb, nf, h1, -, -, h4, h5⟩ := h.mk
  by_cases q : (0 : Int32) ≤ x ∧ x ≤ 99
  · obtain ⟨t, ht, rfl⟩ := rng_nI (n := 99) (by omega) q
    have hs := h1.s.2
    have c0 := c_now (b := 0) (M := M) h1 (by omega)
    rw [wr_win] at c0
    have c1 := c_seen (N := M) (d := P_dens nf (win 0 M)) h1 (show t < 100 by omega) ns 0 FU 0 (by omega) (FU_e _ (by omega))
    rw [wr_win] at c1
    have c2 := m_seenL (N := upd M 2504 0) (x := nI t) h5 hm rfl ns 0 FU 0 (by omega) (FU_e _ (by omega))
    rw [wU] at c2
    have ed := S_dens h4 h1.f.2.1
    rw [← ed] at c2
    refine ⟨0, _, M, _, upd M 2504 0, ?_, ?_, (R_t0 h), Or.inl ⟨rfl, SN_sim (x := nI t) (d := P_dens nf (win 0 M)) h4 ns 0 0 (by omega), us⟩⟩
    · unfold f_X6_seenFrom
      rw [c_chk, if_pos q, tbd_0 rfl, bd2_s c0]
      exact c1
    · unfold f_X7_seenFrom
      rw [m_inR, if_pos q]
      simp only [bd2, m_fail1, ↓reduceIte]
      exact c2
  · refine ⟨1, 0, M, 0, upd M 2504 1, ?_, ?_, (R_t0 h), Or.inr ⟨0, rfl, by omega, us⟩⟩
    · unfold f_X6_seenFrom
      rw [c_chk, if_neg q, tbd_x rfl]
    · unfold f_X7_seenFrom
      rw [m_inR, if_neg q]
      simp only [bd2, m_fail0, i10, ↓reduceIte, utwice]
/-- accounts -/
def CO (u : xM) : Nat → Nat → Int32 → Int32
  | 0, _, a => a
  | k + 1, i, a => CO u k (i + 1) (a + u (77 + 8 * i + 1))
theorem CO_sim {ns nb nf : Nat} {u v : xM} (h : Sim ns nb nf u v) : ∀ (k i : Nat) (a : Int32), i + k ≤ nb → CO u k i a = CO v k i a
  | 0, _, _, _ => rfl
  | k + 1, i, a, hk => by
    show CO u k (i + 1) (a + u (77 + 8 * i + 1)) = CO v k (i + 1) (a + v (77 + 8 * i + 1))
    rw [h.b (show i < nb by omega) (by omega), CO_sim h k (i + 1) _ (by omega)]
theorem s_coinsInAll (h : RR mm M) : OkP mm f_X6_coinsInAll f_X7_coinsInAll M := by
  obtain ⟨ns, nb, nf, h1, -, -, h4, h5⟩ := h.mk
  have c0 := c_earned (b := 0) (M := M) h1
  rw [wr_win] at c0
  have c1 : ∀ (k i n : Nat) (a : Int32), i + k = nb → k < n → lp (fun _ _ _ => none) (fun k => fb_X6_coinsInAll_c10 k) n a (nI i) (wr 0 (win 0 M) M) = some (CO (win 0 M) k i a, wr 0 (win 0 M) M) := by
    have h6 := h1.b
    intro k
    induction k with
    | zero =>
      intro i n a hi hn
      obtain ⟨n, rfl⟩ : ∃ m, n = m + 1 := ⟨n - 1, by omega⟩
      rw [lp_s]
      unfold fb_X6_coinsInAll_c10
      simp (disch := omega) only [z10, h6.1, nI_ll, ↓reduceIte, CO]
    | succ k ih =>
      intro i n a hi hn
      obtain ⟨n, rfl⟩ : ∃ m, n = m + 1 := ⟨n - 1, by omega⟩
      have := ih (i + 1) n (a + win 0 M (77 + 8 * i + 1)) (by omega) (by omega)
      rw [lp_s]
      generalize lp (fun _ _ _ => none) (fun k => fb_X6_coinsInAll_c10 k) n = K at this ⊢
      unfold fb_X6_coinsInAll_c10
      simp (disch := omega) only [z10, h6.1, nI_lx, ↓reduceIte, inb_nI, gd, cl, zb, nI_1]
      exact this
  have c2 : ∀ (k i n : Nat) (a : Int32), i + k = nb → k < n → lp (fun _ _ _ => none) (fun k => fb_X7_coinsInAll_c14 k) n a (nI i) (wr 2520 (win 2520 M) (upd M 2504 0)) = some (CO (win 2520 M) k i a, wr 2520 (win 2520 M) (upd M 2504 0)) := by
    have h6 := h5.b
    intro k
    induction k with
    | zero =>
      intro i n a hi hn
      obtain ⟨n, rfl⟩ : ∃ m, n = m + 1 := ⟨n - 1, by omega⟩
      rw [lp_s]
      unfold fb_X7_coinsInAll_c14
      simp (disch := omega) only [mh10, h6.1, nI_ll, ↓reduceIte, CO]
    | succ k ih =>
      intro i n a hi hn
      obtain ⟨n, rfl⟩ : ∃ m, n = m + 1 := ⟨n - 1, by omega⟩
      have := ih (i + 1) n (a + win 2520 M (77 + 8 * i + 1)) (by omega) (by omega)
      rw [lp_s]
      generalize lp (fun _ _ _ => none) (fun k => fb_X7_coinsInAll_c14 k) n = K at this ⊢
      unfold fb_X7_coinsInAll_c14
      simp (disch := omega) only [mh10, h6.1, nI_lx, ↓reduceIte, by1, bd2, nI_1]
      exact this
  have hb := h1.b.2
  have d1 := c1 nb 0 FU (SI (stC (win 0 M) 7) ns) (by omega) (FU_e _ (by omega))
  have d2 := c2 nb 0 FU (SI (stC (win 2520 M) 7) ns) (by omega) (FU_e _ (by omega))
  have d3 := m_sum (N := upd M 2504 0) h5 (c := 7) (by omega)
  rw [wr_win] at d1
  rw [wU] at d2 d3
  refine ⟨CO (win 0 M) nb 0 (SI (stC (win 0 M) 7) ns), M, upd M 2504 0, ?_, ?_, (R_t0 h)⟩
  · unfold f_X6_coinsInAll
    rw [bd2_s c0]
    exact d1
  · unfold f_X7_coinsInAll
    rw [bd2_s (show f_X7_sumOf 7 (upd M 2504 0) = _ from d3)]
    rw [SI_sim h4 (by omega), CO_sim h4 nb 0 _ (by omega)]
    exact d2
def CE (u : xM) (nb : Nat) : Nat → Nat → Int32 → Int32
  | 0, _, a => a
  | k + 1, s, a => CE u nb k (s + 1) (a + iabs (u (23 + 9 * s + 8) - (((u (23 + 9 * s + 4) + HC u (nI s) nb) + u (23 + 9 * s + 5)) + u (23 + 9 * s + 6))))
theorem CE_sim {ns nb nf : Nat} {u v : xM} (h : Sim ns nb nf u v) : ∀ (k s : Nat) (a : Int32), s + k ≤ ns → CE u nb k s a = CE v nb k s a
  | 0, _, _, _ => rfl
  | k + 1, s, a, hk => by
    have hs : s < ns := by omega
    show CE u nb k (s + 1) (a + iabs (u (23 + 9 * s + 8) - (((u (23 + 9 * s + 4) + HC u (nI s) nb) + u (23 + 9 * s + 5)) + u (23 + 9 * s + 6)))) = CE v nb k (s + 1) (a + iabs (v (23 + 9 * s + 8) - (((v (23 + 9 * s + 4) + HC v (nI s) nb) + v (23 + 9 * s + 5)) + v (23 + 9 * s + 6))))
    rw [h.ss hs (k := 8) (by omega), h.ss hs (k := 4) (by omega), h.ss hs (k := 5) (by omega), h.ss hs (k := 6) (by omega), HC_sim h _ nb (Nat.le_refl _), CE_sim h k (s + 1) _ (by omega)]
theorem s_consistencyError (h : RR mm M) : OkP mm f_X6_consistencyError f_X7_consistencyError M := by
  obtain ⟨ns, nb, nf, h1, -, -, h4, h5⟩ := h.mk
  have c1 : ∀ (k s n : Nat) (a : Int32), s + k = ns → k < n → lp (fun _ _ _ => none) (fun k => fb_X6_consistencyError_c4 k) n a (nI s) (wr 0 (win 0 M) M) = some (CE (win 0 M) nb k s a, wr 0 (win 0 M) M) := by
    have h6 := h1.s
    intro k
    induction k with
    | zero =>
      intro i n a hi hn
      obtain ⟨n, rfl⟩ : ∃ m, n = m + 1 := ⟨n - 1, by omega⟩
      rw [lp_s]
      unfold fb_X6_consistencyError_c4
      simp (disch := omega) only [z9, h6.1, nI_ll, ↓reduceIte, CE]
    | succ k ih =>
      intro s n a hi hn
      obtain ⟨n, rfl⟩ : ∃ m, n = m + 1 := ⟨n - 1, by omega⟩
      have := ih (s + 1) n (a + iabs (win 0 M (23 + 9 * s + 8) - (((win 0 M (23 + 9 * s + 4) + HC (win 0 M) (nI s) nb) + win 0 M (23 + 9 * s + 5)) + win 0 M (23 + 9 * s + 6)))) (by omega) (by omega)
      rw [lp_s]
      generalize lp (fun _ _ _ => none) (fun k => fb_X6_consistencyError_c4 k) n = K at this ⊢
      unfold fb_X6_consistencyError_c4
      simp (disch := omega) only [z9, h6.1, nI_lx, ↓reduceIte, inb_nI, gd, cl, zs, nI_1, c_held h1, bd2]
      exact this
  have c2 : ∀ (k s n : Nat) (a : Int32), s + k = ns → k < n → lp (fun _ _ _ => none) (fun k => fb_X7_consistencyError_c9 k) n a (nI s) (wr 2520 (win 2520 M) (upd M 2504 0)) = some (CE (win 2520 M) nb k s a, wr 2520 (win 2520 M) (upd M 2504 0)) := by
    have h6 := h5.s
    intro k
    induction k with
    | zero =>
      intro i n a hi hn
      obtain ⟨n, rfl⟩ : ∃ m, n = m + 1 := ⟨n - 1, by omega⟩
      rw [lp_s]
      unfold fb_X7_consistencyError_c9
      simp (disch := omega) only [mh9, h6.1, nI_ll, ↓reduceIte, CE]
    | succ k ih =>
      intro s n a hi hn
      obtain ⟨n, rfl⟩ : ∃ m, n = m + 1 := ⟨n - 1, by omega⟩
      have := ih (s + 1) n (a + iabs (win 2520 M (23 + 9 * s + 8) - (((win 2520 M (23 + 9 * s + 4) + HC (win 2520 M) (nI s) nb) + win 2520 M (23 + 9 * s + 5)) + win 2520 M (23 + 9 * s + 6)))) (by omega) (by omega)
      have ea : ∀ a b c d e : Int32, (((a - b) - c) - d) - e = a - (((b + c) + d) + e) := fun a b c d e => by grind
      rw [lp_s]
      generalize lp (fun _ _ _ => none) (fun k => fb_X7_consistencyError_c9 k) n = K at this ⊢
      unfold fb_X7_consistencyError_c9
      simp (disch := omega) only [mh9, h6.1, nI_lx, ↓reduceIte, st8, st4, st5, st6, m_held h5, bd2, nI_1, ea]
      exact this
  have hs := h1.s.2
  have d1 := c1 ns 0 FU 0 (by omega) (FU_e _ (by omega))
  have d2 := c2 ns 0 FU 0 (by omega) (FU_e _ (by omega))
  rw [wr_win] at d1
  rw [wU] at d2
  refine ⟨_, M, upd M 2504 0, d1, ?_, (R_t0 h)⟩
  unfold f_X7_consistencyError
  rw [CE_sim h4 ns 0 _ (by omega)]
  exact d2
end
