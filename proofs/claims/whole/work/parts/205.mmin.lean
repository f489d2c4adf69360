/-! the model's minute, over its window at 2520 -/
theorem utwice (f : xM) (i : Nat) (x y : Int32) : upd (upd f i x) i y = upd f i y := by
  funext z
  by_cases h1 : z = i
  · subst h1
    rw [us, us]
  · rw [un h1, un h1, un h1]
section
variable {mm ns nb nf i s : Nat} {u N : xM}
theorem mh0 : wr 2520 u N 2520 = u 0 := wr_in (z := 0) rfl (by decide)
theorem mu0 {x : Int32} : upd (wr 2520 u N) 2520 x = wr 2520 (upd u 0 x) N := uw_in (z := 0) rfl (by decide)
theorem mh1 : wr 2520 u N 2521 = u 1 := wr_in (z := 1) rfl (by decide)
theorem mu1 {x : Int32} : upd (wr 2520 u N) 2521 x = wr 2520 (upd u 1 x) N := uw_in (z := 1) rfl (by decide)
theorem mh2 : wr 2520 u N 2522 = u 2 := wr_in (z := 2) rfl (by decide)
theorem mu2 {x : Int32} : upd (wr 2520 u N) 2522 x = wr 2520 (upd u 2 x) N := uw_in (z := 2) rfl (by decide)
theorem mh3 : wr 2520 u N 2523 = u 3 := wr_in (z := 3) rfl (by decide)
theorem mu3 {x : Int32} : upd (wr 2520 u N) 2523 x = wr 2520 (upd u 3 x) N := uw_in (z := 3) rfl (by decide)
theorem mh4 : wr 2520 u N 2524 = u 4 := wr_in (z := 4) rfl (by decide)
theorem mu4 {x : Int32} : upd (wr 2520 u N) 2524 x = wr 2520 (upd u 4 x) N := uw_in (z := 4) rfl (by decide)
theorem mh5 : wr 2520 u N 2525 = u 5 := wr_in (z := 5) rfl (by decide)
theorem mu5 {x : Int32} : upd (wr 2520 u N) 2525 x = wr 2520 (upd u 5 x) N := uw_in (z := 5) rfl (by decide)
theorem mh6 : wr 2520 u N 2526 = u 6 := wr_in (z := 6) rfl (by decide)
theorem mu6 {x : Int32} : upd (wr 2520 u N) 2526 x = wr 2520 (upd u 6 x) N := uw_in (z := 6) rfl (by decide)
theorem mh7 : wr 2520 u N 2527 = u 7 := wr_in (z := 7) rfl (by decide)
theorem mu7 {x : Int32} : upd (wr 2520 u N) 2527 x = wr 2520 (upd u 7 x) N := uw_in (z := 7) rfl (by decide)
theorem mh8 : wr 2520 u N 2528 = u 8 := wr_in (z := 8) rfl (by decide)
theorem mu8 {x : Int32} : upd (wr 2520 u N) 2528 x = wr 2520 (upd u 8 x) N := uw_in (z := 8) rfl (by decide)
theorem mh9 : wr 2520 u N 2529 = u 9 := wr_in (z := 9) rfl (by decide)
theorem mu9 {x : Int32} : upd (wr 2520 u N) 2529 x = wr 2520 (upd u 9 x) N := uw_in (z := 9) rfl (by decide)
theorem mh10 : wr 2520 u N 2530 = u 10 := wr_in (z := 10) rfl (by decide)
theorem mu10 {x : Int32} : upd (wr 2520 u N) 2530 x = wr 2520 (upd u 10 x) N := uw_in (z := 10) rfl (by decide)
theorem mo2501 : wr 2520 u N 2501 = N 2501 := wr_out (Or.inl (by decide))
theorem mw2501 {x : Int32} : upd (wr 2520 u N) 2501 x = wr 2520 u (upd N 2501 x) := uw_out (Or.inl (by decide))
theorem mo2502 : wr 2520 u N 2502 = N 2502 := wr_out (Or.inl (by decide))
theorem mw2502 {x : Int32} : upd (wr 2520 u N) 2502 x = wr 2520 u (upd N 2502 x) := uw_out (Or.inl (by decide))
theorem mo2503 : wr 2520 u N 2503 = N 2503 := wr_out (Or.inl (by decide))
theorem mw2503 {x : Int32} : upd (wr 2520 u N) 2503 x = wr 2520 u (upd N 2503 x) := uw_out (Or.inl (by decide))
theorem mo2504 : wr 2520 u N 2504 = N 2504 := wr_out (Or.inl (by decide))
theorem mw2504 {x : Int32} : upd (wr 2520 u N) 2504 x = wr 2520 u (upd N 2504 x) := uw_out (Or.inl (by decide))
theorem mo2509 : wr 2520 u N 2509 = N 2509 := wr_out (Or.inl (by decide))
theorem mw2509 {x : Int32} : upd (wr 2520 u N) 2509 x = wr 2520 u (upd N 2509 x) := uw_out (Or.inl (by decide))
theorem mo2512 : wr 2520 u N 2512 = N 2512 := wr_out (Or.inl (by decide))
theorem mw2512 {x : Int32} : upd (wr 2520 u N) 2512 x = wr 2520 u (upd N 2512 x) := uw_out (Or.inl (by decide))
theorem mo2515 : wr 2520 u N 2515 = N 2515 := wr_out (Or.inl (by decide))
theorem mw2515 {x : Int32} : upd (wr 2520 u N) 2515 x = wr 2520 u (upd N 2515 x) := uw_out (Or.inl (by decide))
theorem mo2516 : wr 2520 u N 2516 = N 2516 := wr_out (Or.inl (by decide))
theorem mw2516 {x : Int32} : upd (wr 2520 u N) 2516 x = wr 2520 u (upd N 2516 x) := uw_out (Or.inl (by decide))
theorem mo2517 : wr 2520 u N 2517 = N 2517 := wr_out (Or.inl (by decide))
theorem mw2517 {x : Int32} : upd (wr 2520 u N) 2517 x = wr 2520 u (upd N 2517 x) := uw_out (Or.inl (by decide))
theorem mo2518 : wr 2520 u N 2518 = N 2518 := wr_out (Or.inl (by decide))
theorem mw2518 {x : Int32} : upd (wr 2520 u N) 2518 x = wr 2520 u (upd N 2518 x) := uw_out (Or.inl (by decide))
theorem mo2519 : wr 2520 u N 2519 = N 2519 := wr_out (Or.inl (by decide))
theorem mw2519 {x : Int32} : upd (wr 2520 u N) 2519 x = wr 2520 u (upd N 2519 x) := uw_out (Or.inl (by decide))
theorem ixb {k : Nat} : (77 + (8 * nI i)) + nI k = nI (77 + 8 * i + k) := by
  rw [show (77 : Int32) = nI 77 from rfl, show (8 : Int32) = nI 8 from rfl, pk_mul, nI_add, nI_add]
theorem ixs {k : Nat} : (23 + (9 * nI i)) + nI k = nI (23 + 9 * i + k) := by
  rw [show (23 : Int32) = nI 23 from rfl, show (9 : Int32) = nI 9 from rfl, pk_mul, nI_add, nI_add]
theorem m_by {k : Nat} (hi : i < 6) (hk : k < 8) : f_X7_by (nI i) (nI k) (wr 2520 u N) = some (u (77 + 8 * i + k), wr 2520 u N) := by
  unfold f_X7_by
  rw [ixb, gd_t (inb_nI (by omega) (by omega)), cl (by omega), wr_in rfl (by omega)]
theorem m_st {k : Nat} (hi : i < 6) (hk : k < 9) : f_X7_st (nI i) (nI k) (wr 2520 u N) = some (u (23 + 9 * i + k), wr 2520 u N) := by
  unfold f_X7_st
  rw [ixs, gd_t (inb_nI (by omega) (by omega)), cl (by omega), wr_in rfl (by omega)]
theorem m_put {k : Nat} {x : Int32} (hi : i < 6) (hk : k < 8) : f_X7_put (nI i) (nI k) x (wr 2520 u N) = some (wr 2520 (upd u (77 + 8 * i + k) x) N) := by
  unfold f_X7_put
  rw [ixb, gd_t (inb_nI (by omega) (by omega)), cl (by omega), uw_in rfl (by omega)]
theorem m_more {k : Nat} {x : Int32} (hi : i < 6) (hk : k < 9) : f_X7_more (nI i) (nI k) x (wr 2520 u N) = some (wr 2520 (upd u (23 + 9 * i + k) (u (23 + 9 * i + k) + x)) N) := by
  unfold f_X7_more
  rw [ixs, gd_t (inb_nI (by omega) (by omega)), gd_t (inb_nI (by omega) (by omega)), cl (by omega), wr_in rfl (by omega), uw_in rfl (by omega)]
theorem by0 (hi : i < 6) : f_X7_by (nI i) 0 (wr 2520 u N) = some (u (77 + 8 * i + 0), wr 2520 u N) := m_by (k := 0) hi (by decide)
theorem pt0 {x : Int32} (hi : i < 6) : f_X7_put (nI i) 0 x (wr 2520 u N) = some (wr 2520 (upd u (77 + 8 * i + 0) x) N) := m_put (k := 0) hi (by decide)
theorem by1 (hi : i < 6) : f_X7_by (nI i) 1 (wr 2520 u N) = some (u (77 + 8 * i + 1), wr 2520 u N) := m_by (k := 1) hi (by decide)
theorem pt1 {x : Int32} (hi : i < 6) : f_X7_put (nI i) 1 x (wr 2520 u N) = some (wr 2520 (upd u (77 + 8 * i + 1) x) N) := m_put (k := 1) hi (by decide)
theorem by2 (hi : i < 6) : f_X7_by (nI i) 2 (wr 2520 u N) = some (u (77 + 8 * i + 2), wr 2520 u N) := m_by (k := 2) hi (by decide)
theorem pt2 {x : Int32} (hi : i < 6) : f_X7_put (nI i) 2 x (wr 2520 u N) = some (wr 2520 (upd u (77 + 8 * i + 2) x) N) := m_put (k := 2) hi (by decide)
theorem by3 (hi : i < 6) : f_X7_by (nI i) 3 (wr 2520 u N) = some (u (77 + 8 * i + 3), wr 2520 u N) := m_by (k := 3) hi (by decide)
theorem pt3 {x : Int32} (hi : i < 6) : f_X7_put (nI i) 3 x (wr 2520 u N) = some (wr 2520 (upd u (77 + 8 * i + 3) x) N) := m_put (k := 3) hi (by decide)
theorem by4 (hi : i < 6) : f_X7_by (nI i) 4 (wr 2520 u N) = some (u (77 + 8 * i + 4), wr 2520 u N) := m_by (k := 4) hi (by decide)
theorem pt4 {x : Int32} (hi : i < 6) : f_X7_put (nI i) 4 x (wr 2520 u N) = some (wr 2520 (upd u (77 + 8 * i + 4) x) N) := m_put (k := 4) hi (by decide)
theorem by5 (hi : i < 6) : f_X7_by (nI i) 5 (wr 2520 u N) = some (u (77 + 8 * i + 5), wr 2520 u N) := m_by (k := 5) hi (by decide)
theorem pt5 {x : Int32} (hi : i < 6) : f_X7_put (nI i) 5 x (wr 2520 u N) = some (wr 2520 (upd u (77 + 8 * i + 5) x) N) := m_put (k := 5) hi (by decide)
theorem by6 (hi : i < 6) : f_X7_by (nI i) 6 (wr 2520 u N) = some (u (77 + 8 * i + 6), wr 2520 u N) := m_by (k := 6) hi (by decide)
theorem pt6 {x : Int32} (hi : i < 6) : f_X7_put (nI i) 6 x (wr 2520 u N) = some (wr 2520 (upd u (77 + 8 * i + 6) x) N) := m_put (k := 6) hi (by decide)
theorem by7 (hi : i < 6) : f_X7_by (nI i) 7 (wr 2520 u N) = some (u (77 + 8 * i + 7), wr 2520 u N) := m_by (k := 7) hi (by decide)
theorem pt7 {x : Int32} (hi : i < 6) : f_X7_put (nI i) 7 x (wr 2520 u N) = some (wr 2520 (upd u (77 + 8 * i + 7) x) N) := m_put (k := 7) hi (by decide)
theorem st0 (hi : i < 6) : f_X7_st (nI i) 0 (wr 2520 u N) = some (u (23 + 9 * i + 0), wr 2520 u N) := m_st (k := 0) hi (by decide)
theorem mr0 {x : Int32} (hi : i < 6) : f_X7_more (nI i) 0 x (wr 2520 u N) = some (wr 2520 (upd u (23 + 9 * i + 0) (u (23 + 9 * i + 0) + x)) N) := m_more (k := 0) hi (by decide)
theorem st1 (hi : i < 6) : f_X7_st (nI i) 1 (wr 2520 u N) = some (u (23 + 9 * i + 1), wr 2520 u N) := m_st (k := 1) hi (by decide)
theorem mr1 {x : Int32} (hi : i < 6) : f_X7_more (nI i) 1 x (wr 2520 u N) = some (wr 2520 (upd u (23 + 9 * i + 1) (u (23 + 9 * i + 1) + x)) N) := m_more (k := 1) hi (by decide)
theorem st2 (hi : i < 6) : f_X7_st (nI i) 2 (wr 2520 u N) = some (u (23 + 9 * i + 2), wr 2520 u N) := m_st (k := 2) hi (by decide)
theorem mr2 {x : Int32} (hi : i < 6) : f_X7_more (nI i) 2 x (wr 2520 u N) = some (wr 2520 (upd u (23 + 9 * i + 2) (u (23 + 9 * i + 2) + x)) N) := m_more (k := 2) hi (by decide)
theorem st3 (hi : i < 6) : f_X7_st (nI i) 3 (wr 2520 u N) = some (u (23 + 9 * i + 3), wr 2520 u N) := m_st (k := 3) hi (by decide)
theorem mr3 {x : Int32} (hi : i < 6) : f_X7_more (nI i) 3 x (wr 2520 u N) = some (wr 2520 (upd u (23 + 9 * i + 3) (u (23 + 9 * i + 3) + x)) N) := m_more (k := 3) hi (by decide)
theorem st4 (hi : i < 6) : f_X7_st (nI i) 4 (wr 2520 u N) = some (u (23 + 9 * i + 4), wr 2520 u N) := m_st (k := 4) hi (by decide)
theorem mr4 {x : Int32} (hi : i < 6) : f_X7_more (nI i) 4 x (wr 2520 u N) = some (wr 2520 (upd u (23 + 9 * i + 4) (u (23 + 9 * i + 4) + x)) N) := m_more (k := 4) hi (by decide)
theorem st5 (hi : i < 6) : f_X7_st (nI i) 5 (wr 2520 u N) = some (u (23 + 9 * i + 5), wr 2520 u N) := m_st (k := 5) hi (by decide)
theorem mr5 {x : Int32} (hi : i < 6) : f_X7_more (nI i) 5 x (wr 2520 u N) = some (wr 2520 (upd u (23 + 9 * i + 5) (u (23 + 9 * i + 5) + x)) N) := m_more (k := 5) hi (by decide)
theorem st6 (hi : i < 6) : f_X7_st (nI i) 6 (wr 2520 u N) = some (u (23 + 9 * i + 6), wr 2520 u N) := m_st (k := 6) hi (by decide)
theorem mr6 {x : Int32} (hi : i < 6) : f_X7_more (nI i) 6 x (wr 2520 u N) = some (wr 2520 (upd u (23 + 9 * i + 6) (u (23 + 9 * i + 6) + x)) N) := m_more (k := 6) hi (by decide)
theorem st7 (hi : i < 6) : f_X7_st (nI i) 7 (wr 2520 u N) = some (u (23 + 9 * i + 7), wr 2520 u N) := m_st (k := 7) hi (by decide)
theorem mr7 {x : Int32} (hi : i < 6) : f_X7_more (nI i) 7 x (wr 2520 u N) = some (wr 2520 (upd u (23 + 9 * i + 7) (u (23 + 9 * i + 7) + x)) N) := m_more (k := 7) hi (by decide)
theorem st8 (hi : i < 6) : f_X7_st (nI i) 8 (wr 2520 u N) = some (u (23 + 9 * i + 8), wr 2520 u N) := m_st (k := 8) hi (by decide)
theorem mr8 {x : Int32} (hi : i < 6) : f_X7_more (nI i) 8 x (wr 2520 u N) = some (wr 2520 (upd u (23 + 9 * i + 8) (u (23 + 9 * i + 8) + x)) N) := m_more (k := 8) hi (by decide)
theorem m_has (m : Int32) (M : xM) : f_X7_has m (nI s) M = some (if P_has m s = true then 1 else 0, M) := by
  unfold f_X7_has P_has
  by_cases h : ((m >>> (nI s &&& 31)) &&& 1) = 1
  · rw [if_pos h, decide_eq_true h, if_pos rfl]
  · rw [if_neg h, decide_eq_false h, if_neg (by decide)]
theorem m_apart (x y : Int32) (M : xM) : f_X7_apart x y M = some (P_apart x y, M) := by
  unfold f_X7_apart P_apart
  split <;> rfl
theorem m_seen {p d : Int32} (hs : s < 6) : f_X7_isSeen (nI s) p d (wr 2520 u N) = some (if P_seen u s p d = true then 1 else 0, wr 2520 u N) := by
  unfold f_X7_isSeen P_seen
  simp (disch := omega) only [st0, st1, bd2, m_apart, m_reach]
  by_cases h : P_apart (u (23 + 9 * s + 0)) p ≤ P_reach (u (23 + 9 * s + 1)) d
  · rw [if_neg (by rw [Int32.not_lt]; exact h), decide_eq_true h, if_pos rfl]
  · rw [if_pos (by rw [← Int32.not_le]; exact h), decide_eq_false h, if_neg (by decide)]
theorem m_fog {t : Nat} (h : MV mm ns nb nf u) (ht : t < 2147483648) : f_X7_fogAt (nI t) (wr 2520 u N) = some (u (11 + t / 5 % nf), wr 2520 u N) := by
  have hf := h.f
  have e5 : nI t / 5 = nI (t / 5) := pk_div (d := 5) (by omega) (by omega) (by omega)
  have em : nI (t / 5) - nI (t / 5) / nI nf * nI nf = nI (t / 5 % nf) := pk_rem (by omega) (by omega) (by omega)
  have hl : t / 5 % nf < nf := Nat.mod_lt _ (by omega)
  have hn : nz (nI nf) = true := by
    unfold nz
    have : ¬ nI nf = 0 := nI_ne0 (by omega) (by omega)
    simpa using this
  have e11 : (11 : Int32) + nI (t / 5 % nf) = nI (11 + t / 5 % nf) := nI_add 11 _
  unfold f_X7_fogAt
  simp (disch := omega) only [mh8, hf.1, e5, em, hn, gd, e11, inb_nI, cl]
  rw [wr_in (z := 11 + t / 5 % nf) (by omega) (by omega)]
theorem m_now (h : MV mm ns nb nf u) (hm : mm < 2147483648) : f_X7_fogAt (u 0) (wr 2520 u N) = some (P_dens nf u, wr 2520 u N) := by
  obtain ⟨m, h1, h2⟩ := h.m
  unfold P_dens
  rw [h2, m_fog h (by omega), cl (by omega)]
theorem m_ret {q : Nat} (hi : i < 6) (hq : q < 6) (e1 : P_hold u i = some q) (e2 : u (77 + 8 * i + 4) = nI q) : f_X7_giveBack (nI i) (wr 2520 u N) = some (wr 2520 (P_ret u i) N) := by
  unfold f_X7_giveBack P_ret P_ret1
  simp (disch := omega) only [by4, e2, e1, bd2, bd, mr4, pt4, pt5]
theorem m_ends : ∀ (k i n : Nat) (u : xM), i + k = nb → k < n → MV mm ns nb nf u → lp (fun _ _ => none) (fun k => fb_X7_endBell_c21 k) n (nI i) (wr 2520 u N) = some (wr 2520 (P_ends k i u) N)
  | 0, i, n + 1, u, hi, _, h => by
    have hb := h.b
    rw [lp_s]
    unfold fb_X7_endBell_c21
    simp (disch := omega) only [mh10, hb.1, nI_ll, ↓reduceIte, P_ends]
  | k + 1, i, n + 1, u, hi, hn, h => by
    have hb := h.b
    have hs := h.s
    rw [lp_s]
    have ih := m_ends k (i + 1) n (P_end1 u i) (by omega) (by omega) (MV_end1 h (by omega))
    generalize lp (fun _ _ => none) (fun k => fb_X7_endBell_c21 k) n = K at ih ⊢
    unfold fb_X7_endBell_c21 f_X7_endBell_c47
    rcases hold_cases (h.bu i (by omega)) hs.2 with ⟨e1, e2, e3⟩ | ⟨q, hq, e1, e2⟩
    · have e4 : P_ret u i = u := by
        unfold P_ret P_ret1
        rw [e1]
        show upd (upd u (77 + 8 * i + 4) (-1)) (77 + 8 * i + 5) 0 = u
        rw [usame e2, usame e3]
      unfold P_end1 at ih
      rw [e4] at ih
      simp (disch := omega) only [mh10, hb.1, nI_lx, ↓reduceIte, by4, e2, bd2, pt6, bd, nI_1]
      show K (nI (i + 1)) (wr 2520 (upd u (77 + 8 * i + 6) 0) N) = some (wr 2520 (P_ends k (i + 1) (P_end1 u i)) N)
      unfold P_end1
      rw [e4]
      exact ih
    · simp (disch := omega) only [mh10, hb.1, nI_lx, ↓reduceIte, by4, e2, bd2, nI_m1, m_ret (N := N) (u := u) (i := i) (q := q) (by omega) (by omega) e1 e2, pt6, bd, nI_1]
      exact ih
theorem m_close (h : MV mm ns nb nf u) : f_X7_endBell (wr 2520 u N) = some (wr 2520 (P_close nb u) (upd N 2512 1)) := by
  have hb := h.b
  unfold f_X7_endBell f_X7_endBell_c21 P_close
  rw [mw2512, mu1, mu3]
  exact m_ends nb 0 FU _ (by omega) (FU_e _ (by omega)) (MV_cl0 h)
theorem m_bell2 {d : Int32} (h : MV mm ns nb nf u) : f_X7_stepBell_c22 d (wr 2520 u (upd N 2512 0)) = some (wr 2520 (P_bell2 nb d u) (upd N 2512 (P_ended d u))) := by
  unfold f_X7_stepBell_c22 P_bell2 P_ended P_ring
  simp (disch := omega) only [mh1, mh2, mh3, mh4, mh5, mh6, m_close h, bd, utwice, mu1, mu2, mu3, mu4, un]
  repeat' split
  all_goals first | rfl | contradiction
theorem m_bell {d : Int32} (h : MV mm ns nb nf u) : f_X7_stepBell d (wr 2520 u N) = some (wr 2520 (P_bell nb d u) (upd N 2512 (P_ended d (P_rdy d u)))) := by
  have hr := MV_rdy (d := d) h
  unfold f_X7_stepBell P_bell
  rw [mw2512, mh5]
  unfold P_rdy at hr ⊢
  by_cases q : u 5 ≤ d
  · rw [if_pos q]
    rw [if_pos q] at hr ⊢
    exact m_bell2 hr
  · rw [if_neg q, mu2]
    rw [if_neg q] at hr ⊢
    exact m_bell2 hr
theorem m_tstep {d : Int32} {best : Option Nat} (K : Int32 → Int32 → Int32 → xM → Option (Int32 × xM)) (h : MV mm ns nb nf u) (hi : i < nb) (hs : s < ns) (hb : ∀ j, best = some j → j < ns) :
    fb_X7_target_c13 K (nI i) d (u (77 + 8 * i + 0)) (eo best) (nI s) (wr 2520 u N) = K (u (77 + 8 * i + 0)) (eo (P_tst u i d s best)) (nI (s + 1)) (wr 2520 u N) := by
  have h6 := h.s
  have hb6 := h.b.2
  have hc : ∀ x : Int32, x = 0 ∨ x = 1 → f_X7_target_c56 K (nI i) d (u (77 + 8 * i + 0)) (eo best) (nI s) x (wr 2520 u N) = if (decide (x = 1) && P_near u (u (77 + 8 * i + 0)) s best) = true then K (u (77 + 8 * i + 0)) (nI s) (nI (s + 1)) (wr 2520 u N) else K (u (77 + 8 * i + 0)) (eo best) (nI (s + 1)) (wr 2520 u N) := by
    intro x hx
    unfold f_X7_target_c56 f_X7_target_c89 f_X7_target_c94 f_X7_target_c111 f_X7_target_c113
    rcases best with _ | j
    · simp only [eo, ↓reduceIte, P_near, Bool.and_true, decide_eq_true_eq, nI_1, i10]
      rcases hx with rfl | rfl
      · simp only [↓reduceIte, i01]
      · simp only [↓reduceIte, i10]
    · have hj := hb j rfl
      simp (disch := omega) only [eo, nI_m1, ↓reduceIte, st0, bd2, m_apart, nI_1, i10]
      by_cases q : P_apart (u (23 + 9 * s + 0)) (u (77 + 8 * i + 0)) < P_apart (u (23 + 9 * j + 0)) (u (77 + 8 * i + 0))
      · have q2 : ¬ P_apart (u (23 + 9 * j + 0)) (u (77 + 8 * i + 0)) ≤ P_apart (u (23 + 9 * s + 0)) (u (77 + 8 * i + 0)) := by rw [Int32.not_le]; exact q
        have hN : P_near u (u (77 + 8 * i + 0)) s (some j) = true := decide_eq_true q
        rw [if_neg q2]
        rcases hx with rfl | rfl
        · simp only [hN, ↓reduceIte, i01, decide_false, Bool.false_and, Bool.false_eq_true]
        · simp only [hN, ↓reduceIte, i10, decide_true, Bool.and_true]
      · have q2 : P_apart (u (23 + 9 * j + 0)) (u (77 + 8 * i + 0)) ≤ P_apart (u (23 + 9 * s + 0)) (u (77 + 8 * i + 0)) := by rw [← Int32.not_lt]; exact q
        have hN : P_near u (u (77 + 8 * i + 0)) s (some j) = false := decide_eq_false q
        rw [if_pos q2]
        rcases hx with rfl | rfl
        · simp only [hN, ↓reduceIte, Bool.and_false, Bool.false_eq_true]
        · simp only [hN, ↓reduceIte, i10, Bool.and_false, Bool.false_eq_true]
  unfold fb_X7_target_c13 f_X7_target_c55
  simp (disch := omega) only [mh9, h6.1, nI_lx, ↓reduceIte, by6, bd2, m_has, m_seen]
  rw [hc 0 (Or.inl rfl), hc 1 (Or.inr rfl)]
  unfold P_tst
  cases P_has (u (77 + 8 * i + 6)) s
  · cases P_seen u s (u (77 + 8 * i + 0)) d
    · simp only [Bool.not_false, Bool.and_false, Bool.false_and, ↓reduceIte, Bool.false_eq_true, i01, decide_false]
    · cases P_near u (u (77 + 8 * i + 0)) s best
      · simp only [Bool.not_false, Bool.and_false, ↓reduceIte, Bool.false_eq_true, i10]
      · simp only [Bool.not_false, Bool.and_true, ↓reduceIte, Bool.false_eq_true, i10, decide_true, eo]
  · simp only [Bool.not_true, Bool.false_and, ↓reduceIte, Bool.false_eq_true, i10, i01, decide_false]
theorem m_tgtL {d : Int32} (h : MV mm ns nb nf u) (hi : i < nb) : ∀ (k s n : Nat) (best : Option Nat), s + k = ns → k < n → (∀ j, best = some j → j < ns) →
    lp (fun _ _ _ _ => none) (fun k => fb_X7_target_c13 k (nI i) d) n (u (77 + 8 * i + 0)) (eo best) (nI s) (wr 2520 u N) = some (eo (P_tgt u i d k s best), wr 2520 u N)
  | 0, s, n + 1, best, hs, hn, hb => by
    have h6 := h.s
    rw [lp_s]
    unfold fb_X7_target_c13
    simp (disch := omega) only [mh9, h6.1, nI_ll, ↓reduceIte, P_tgt]
  | k + 1, s, n + 1, best, hs, hn, hb => by
    rw [lp_s, m_tstep _ h hi (by omega) hb]
    exact m_tgtL h hi k (s + 1) n _ (by omega) (by omega) (fun j hj => by
      unfold P_tst at hj
      split at hj
      · cases hj; omega
      · exact hb j hj)
theorem m_tgt {d : Int32} (h : MV mm ns nb nf u) (hi : i < nb) : f_X7_target (nI i) d (wr 2520 u N) = some (eo (P_tgt u i d ns 0 none), wr 2520 u N) := by
  have h6 := h.s.2
  have hb6 := h.b.2
  unfold f_X7_target f_X7_target_c13
  rw [by0 (by omega)]
  exact m_tgtL h hi ns 0 FU none (by omega) (FU_e _ (by omega)) (fun j hj => by cases hj)
theorem m_walk {to : Int32} (hi : i < 6) : f_X7_walk (nI i) to (wr 2520 u N) = some (wr 2520 (P_mv u i to) N) := by
  unfold f_X7_walk P_mv P_walk
  simp (disch := omega) only [by0, by3, bd2, m_apart, pt0, bd]
  split <;> rfl
theorem m_feel (hi : i < 6) (hs : s < 6) : f_X7_feel (nI i) (nI s) (wr 2520 u N) = some (P_feel u i s, wr 2520 u N) := by
  unfold f_X7_feel P_feel
  simp (disch := omega) only [by2, by1, st2, st4, st3, bd2]
  repeat' split
  all_goals rfl
theorem m_takes (hi : i < 6) (hs : s < 6) : f_X7_takes (nI i) (nI s) (wr 2520 u N) = some (wr 2520 (P_got u i s) N) := by
  unfold f_X7_takes P_got P_take P_avoid
  simp (disch := omega) only [m_feel, bd2, bd, mr4, pt4, st3, pt5, by6, pt6, un, sub_m1]
  split <;> rfl
theorem m_pay {q : Nat} (hi : i < 6) (hq : q < 6) (e : u (77 + 8 * i + 4) = nI q) : f_X7_pay (nI i) (wr 2520 u N) = some (1, wr 2520 (P_pay u i q) N) := by
  unfold f_X7_pay P_pay
  simp (disch := omega) only [by4, e, by5, bd2, bd, mr7, mr5, by1, pt1, by7, pt7, pt4, pt5, un]
theorem m_act {d : Int32} (h : MV mm ns nb nf u) (hi : i < nb) : f_X7_act (nI i) d (wr 2520 u N) = some (P_sold i u, wr 2520 (P_act ns d i u) N) := by
  have hb6 := h.b.2
  have hs := h.s
  unfold f_X7_act P_act P_sold
  rcases hold_cases (h.bu i hi) hs.2 with ⟨e1, e2, e3⟩ | ⟨q, hq, e1, e2⟩
  · simp (disch := omega) only [by4, e1, e2, bd2, ↓reduceIte, m_tgt h hi]
    rcases ht : P_tgt u i d ns 0 none with _ | s
    · simp only [eo, ↓reduceIte, P_actO]
    · have hsn : s < ns := P_tgt_lt ns 0 none (by omega) (fun j hj => by cases hj) s ht
      have e3 : P_mv u i (u (23 + 9 * s + 0)) (23 + 9 * s + 0) = u (23 + 9 * s + 0) := by unfold P_mv; rw [un (by omega)]
      simp (disch := omega) only [eo, nI_m1, ↓reduceIte, st0, bd2, m_walk, bd, by0, e3, m_takes, P_actO, P_actT]
      split <;> rfl
  · have e3 : P_mv u i (u 7) 7 = u 7 := by unfold P_mv; rw [un (by omega)]
    have e4 : P_mv u i (u 7) (77 + 8 * i + 4) = nI q := by unfold P_mv; rw [un (by omega), e2]
    simp (disch := omega) only [by4, e1, e2, bd2, nI_m1, ↓reduceIte, mh7, m_walk, bd, by0, e3, m_pay (u := P_mv u i (u 7)) (i := i) (q := q) (by omega) (by omega) e4, P_actH]
    split <;> rfl
theorem m_guard (l : Int32) (M : xM) : f_X7_guardOf l M = some (P_guard l, M) := by
  unfold f_X7_guardOf P_guard
  repeat' split
  all_goals rfl
theorem m_mists {d : Int32} : ∀ (k s n : Nat) (u : xM) (a : Int32), s + k = ns → k < n → MV mm ns nb nf u → lp (fun _ _ _ _ => none) (fun k => fb_X7_passMinute_c58 k) n d a (nI s) (wr 2520 u N) = some (a, wr 2520 (P_tick (P_since (P_mists d k s u))) N)
  | 0, s, n + 1, u, a, hs, hn, h => by
    have h6 := h.s
    rw [lp_s]
    unfold fb_X7_passMinute_c58 f_X7_passMinute_c122 P_tick P_since
    simp (disch := omega) only [mh9, mh3, mu3, mh0, mu0, h6.1, nI_ll, ↓reduceIte, P_mists]
  | k + 1, s, n + 1, u, a, hs, hn, h => by
    have h6 := h.s
    rw [lp_s]
    have ih := m_mists (d := d) k (s + 1) n (P_mist d s u) a (by omega) (by omega) (MV_mist h (by omega))
    generalize lp (fun _ _ _ _ => none) (fun k => fb_X7_passMinute_c58 k) n = K at ih ⊢
    show _ = some (a, wr 2520 (P_tick (P_since (P_mists d k (s + 1) (P_mist d s u)))) N)
    rw [← ih]
    unfold fb_X7_passMinute_c58 f_X7_passMinute_c106 P_mist
    simp (disch := omega) only [mh9, h6.1, nI_lx, ↓reduceIte, st4, st1, bd2, m_guard, mr4, mr6, bd, un, sub_m1, nI_1]
    repeat' split
    all_goals rfl
theorem m_acts {d : Int32} : ∀ (k i n : Nat) (u : xM) (a : Int32), i + k = nb → k < n → MV mm ns nb nf u → lp (fun _ _ _ _ => none) (fun k => fb_X7_passMinute_c30 k) n d a (nI i) (wr 2520 u N) = some (P_solds ns d k i u a, wr 2520 (P_tick (P_since (P_mists d ns 0 (P_acts ns d k i u)))) N)
  | 0, i, n + 1, u, a, hs, hn, h => by
    have h6 := h.b
    have h5 := h.s.2
    rw [lp_s]
    unfold fb_X7_passMinute_c30 f_X7_passMinute_c58
    simp (disch := omega) only [mh10, h6.1, nI_ll, ↓reduceIte, P_acts, P_solds]
    exact m_mists ns 0 FU u a (by omega) (FU_e _ (by omega)) h
  | k + 1, i, n + 1, u, a, hs, hn, h => by
    have h6 := h.b
    rw [lp_s]
    have ih := m_acts (d := d) k (i + 1) n (P_act ns d i u) (a + P_sold i u) (by omega) (by omega) (MV_act h (by omega))
    generalize lp (fun _ _ _ _ => none) (fun k => fb_X7_passMinute_c30 k) n = K at ih ⊢
    have hc := m_act (N := N) (d := d) h (show i < nb by omega)
    unfold fb_X7_passMinute_c30
    simp (disch := omega) only [mh10, h6.1, nI_lx, ↓reduceIte, hc, bd2, nI_1]
    exact ih
theorem m_min (h : MV mm ns nb nf u) (hm : mm < 2147483648) : f_X7_passMinute (wr 2520 u N) = some (P_minS ns nb nf u, wr 2520 (P_min ns nb nf u) (upd N 2512 (P_ended (P_dens nf u) (P_rdy (P_dens nf u) u)))) := by
  have hb := MV_bell (d := P_dens nf u) h
  have h6 := h.b.2
  unfold f_X7_passMinute P_min P_min1 P_minS
  simp (disch := omega) only [mh0, m_now h hm, bd2, m_bell h, bd, mh1]
  by_cases e : P_bell nb (P_dens nf u) u 1 = 1
  · rw [if_pos e, if_pos e, if_pos e]
    unfold f_X7_passMinute_c30
    exact m_acts nb 0 FU _ 0 (by omega) (FU_e _ (by omega)) hb
  · rw [if_neg e, if_neg e, if_neg e]
    unfold f_X7_passMinute_c122 P_tick
    rw [mh0, mu0]
theorem m_passL {t : Nat} (ht : t < 2147483648) : ∀ (k i n mm : Nat) (u N : xM) (a : Int32), i + k = t → k < n → mm + k < 2147483648 → MV mm ns nb nf u → ∃ e, lp (fun _ _ _ => none) (fun k => fb_X7_passAll_c4 k (nI t)) n a (nI i) (wr 2520 u N) = some (P_passS ns nb nf k u a, wr 2520 (P_pass ns nb nf k u) (upd N 2512 e))
  | 0, i, n + 1, mm, u, N, a, hi, hn, hm, h => by
    refine ⟨N 2512, ?_⟩
    rw [lp_s, usame rfl]
    unfold fb_X7_passAll_c4
    simp (disch := omega) only [nI_ll, ↓reduceIte, P_pass, P_passS]
  | k + 1, i, n + 1, mm, u, N, a, hi, hn, hm, h => by
    obtain ⟨e, ih⟩ := m_passL ht k (i + 1) n (mm + 1) _ (upd N 2512 (P_ended (P_dens nf u) (P_rdy (P_dens nf u) u))) (a + P_minS ns nb nf u) (by omega) (by omega) (by omega) (MV_min h)
    refine ⟨e, ?_⟩
    rw [lp_s]
    generalize lp (fun _ _ _ => none) (fun k => fb_X7_passAll_c4 k (nI t)) n = K at ih ⊢
    unfold fb_X7_passAll_c4
    rw [if_neg (nI_ge (by omega) (by omega)), m_min h (by omega), nI_1]
    rw [utwice] at ih
    exact ih
theorem m_pass {t : Nat} (h : MV mm ns nb nf u) (ht : t < 4096) (hm : mm + t < 2147483648) : ∃ e, f_X7_passAll (nI t) (wr 2520 u N) = some (P_passS ns nb nf t u 0, wr 2520 (P_pass ns nb nf t u) (upd N 2512 e)) := by
  unfold f_X7_passAll f_X7_passAll_c4
  exact m_passL (by omega) t 0 FU mm u N 0 (by omega) (FU_e _ ht) hm h
end
