/-! the changes -/
section
variable {mm : Nat} {M : xM}
theorem up0 {c : Nat} {x : Int32} {N : xM} (hc : c < 125) : upd N c x = wr 0 (upd (win 0 N) c x) N := by
  rw [← uw_in (b := 0) (a := c) (z := c) (by omega) hc, wr_win]
theorem m_lays' {c : Nat} {x : Int32} {N : xM} (hc : c < 125) : f_X7_lays (nI c) x N = some (win 2520 N c, wr 2520 (upd (win 2520 N) c x) N) := by
  have := m_lays (u := win 2520 N) (N := N) (x := x) hc
  rw [wr_win] at this
  exact this
theorem tk {N : xM} {v : xM} {z : Nat} (h : z < 2520 ∨ 2645 ≤ z) (h2 : z ≠ 2512) {e : Int32} : wr 2520 v (upd N 2512 e) z = N z := by rw [wr_out (by omega), un h2]
theorem s_cell (h : RR mm M) {x y lo hi kl : Int32} {k : Nat} (hk : k < 9) (hl : kl = nI k)
    (hMM : (lo ≤ y ∧ y ≤ hi) → ∀ (ns nb nf s : Nat) (u v : xM), s < ns → MM mm ns nb nf u v → MM mm ns nb nf (upd u (23 + 9 * s + k) y) (upd v (23 + 9 * s + k) y))
    {fc : xM → Option (Nat × Int32 × xM)} {fm : xM → Option (Int32 × xM)} (e1 : fc M = tbd (0 : Int32) (f_X6_stallAt x M) (fun r4 M3 => tbd (0 : Int32) (f_X6_checkRange y lo hi M3) (fun r10 M9 => bd (f_X6_remember M9) (fun M14 => some (0, M14 (r4 + k), upd M14 (r4 + k) y)))))
    (e2 : ∀ M, fm M = bd2 (f_X7_isStall x M) (fun r3 M2 => if r3 = 0 then some (0, M2) else bd2 (f_X7_inRange y lo hi M2) (fun r7 M6 => bd2 (f_X7_fails r7 2 M6) (fun r10 M9 => if r10 = 0 then bd (f_X7_record M9) (fun M13 => bd2 (f_X7_lays ((23 + (9 * x)) + kl) y M13) (fun r16 M15 => some (r16, M15))) else some (0, M9))))) : OkT mm [2, 1] fc fm M := by
  obtain ⟨ns', hn, e9, e29, -⟩ := h.ns
  rcases ixC x (n := ns') (by omega) with q | ⟨s, hs, rfl⟩
  · refine ⟨2, 0, M, 0, upd M 2504 1, by rw [e1, tbd_x (c_stO2 q e9)], ?_, (R_t0 h), Or.inr ⟨0, rfl, by omega, us⟩⟩
    rw [e2, m_isSO q hn e29]
    rfl
  · by_cases q : lo ≤ y ∧ y ≤ hi
    · obtain ⟨M1, ns, nb, nf, a1, a2, a3, a4⟩ := s_change h
      have en : ns = ns' := by
        have x1 := a3.1.s
        rw [w0, a2 9 (by omega) (by omega) (by omega), e9] at x1
        exact ((nI_eq (by omega) (by omega)).mp x1.1).symm
      subst en
      obtain ⟨N1, b1, b2, b3, b4⟩ := a4 (upd (win 0 M1) (23 + 9 * s + k) y)
      have hm := hMM q ns nb nf s _ _ hs b2
      have hR := b4 (upd (win 2520 N1) (23 + 9 * s + k) y) mm (N1 2512) (Nat.le_refl _) hm.mk
      rw [usame rfl] at hR
      refine ⟨0, M1 (23 + 9 * s + k), wr 0 (upd (win 0 M1) (23 + 9 * s + k) y) M1, win 2520 N1 (23 + 9 * s + k), wr 2520 (upd (win 2520 N1) (23 + 9 * s + k) y) N1, ?_, ?_, hR, Or.inl ⟨rfl, ?_, ?_⟩⟩
      · rw [e1, tbd_0 (c_stI hs hn e9), c_chk, if_pos q, tbd_0 rfl, bd_s a1, up0 (by omega)]
      · rw [e2, m_isSI hs hn (by rw [wr_out (by omega), a2 _ (by omega) (by omega) (by omega)]; exact e29)]
        simp only [bd2, i10, ↓reduceIte]
        rw [m_inR, if_pos q]
        simp only [m_fail1, ↓reduceIte]
        rw [bd_s b1, hl, ixs, m_lays' (by omega)]
      · have := b2.2.2.2.ss hs hk
        rw [w0] at this
        exact this
      · rw [wr_out (by omega)]; exact b3
    · refine ⟨1, 0, M, 0, upd M 2504 2, by rw [e1, tbd_0 (c_stI hs hn e9), c_chk, if_neg q, tbd_x rfl], ?_, (R_t0 h), Or.inr ⟨1, rfl, by omega, us⟩⟩
      rw [e2, m_isSI hs hn e29]
      simp only [bd2, i10, ↓reduceIte]
      rw [m_inR, if_neg q]
      simp only [m_fail0, i10, ↓reduceIte, utwice]
theorem rng1 {x : Int32} {n : Nat} (hn : n < 1073741824) (h : (1 : Int32) ≤ x ∧ x ≤ nI n) : ∃ j, 1 ≤ j ∧ j ≤ n ∧ x = nI j := by
  have h0 : (0 : Int32) ≤ x := Int32.le_trans (show (0 : Int32) ≤ 1 by decide) h.1
  obtain ⟨j, hj, rfl⟩ := rng_nI hn ⟨h0, h.2⟩
  refine ⟨j, ?_, hj, rfl⟩
  exact (nI_leI (a := 1) (by omega) (by omega)).mp h.1
theorem s_setPrice (h : RR mm M) (x y : Int32) : OkT mm [2, 1] (f_X6_setPrice x y) (f_X7_setPrice x y) M :=
  s_cell h (k := 3) (by decide) rfl (fun q ns nb nf s u v hs hm => by
    obtain ⟨j, -, hj, rfl⟩ := rng1 (n := 999) (by omega) q
    exact hm.price hs hj) rfl (fun _ => rfl)
theorem s_setLantern (h : RR mm M) (x y : Int32) : OkT mm [2, 1] (f_X6_setLantern x y) (f_X7_setLantern x y) M :=
  s_cell h (k := 1) (by decide) rfl (fun q ns nb nf s u v hs hm => hm.lan hs) rfl (fun _ => rfl)
theorem s_moveStall (h : RR mm M) (x y : Int32) : OkT mm [2, 1] (f_X6_moveStall x y) (f_X7_moveStall x y) M :=
  s_cell h (k := 0) (by decide) rfl (fun q ns nb nf s u v hs hm => by
    obtain ⟨j, hj, rfl⟩ := rng_nI (n := 99) (by omega) q
    exact hm.move hs (by omega)) rfl (fun _ => rfl)
theorem s_setFog (h : RR mm M) (x y : Int32) : OkT mm [2, 1] (f_X6_setFog x y) (f_X7_setFog x y) M := by
  obtain ⟨ns', nb', nf', h1, -, -, -, h5⟩ := h.mk
  have e8 := h1.f
  rw [w0] at e8
  have e28 : M 2528 = nI nf' := h5.f.1
  rcases ixC x (n := nf') (by omega) with q | ⟨i, hi, rfl⟩
  · refine ⟨2, 0, M, 0, upd M 2504 1, ?_, ?_, (R_t0 h), Or.inr ⟨0, rfl, by omega, us⟩⟩
    · unfold f_X6_setFog f_X6_setFog_c15
      by_cases q1 : x < 0
      · rw [if_pos q1]
      · rw [if_neg q1, e8.1, if_neg]
        rcases q with q | q
        · exact absurd q q1
        · rw [Int32.not_lt]; exact q
    · unfold f_X7_setFog
      rw [un (by omega), e28, m_inR, if_neg (rng_out q (by omega))]
      simp only [bd2, m_fail0, i10, ↓reduceIte, utwice]
  · have ec : f_X6_setFog (nI i) y M = tbd (0 : Int32) (f_X6_checkRange y 0 9 M) (fun r6 M5 => (bd (f_X6_remember M5) (fun M10 => (some (0, M10 (11 + i), upd M10 (11 + i) y))))) := by
      unfold f_X6_setFog
      rw [if_neg (nI_pos (by omega)), e8.1, if_pos (nI_lt hi (by omega))]
      simp only [gd_t (inb_nI (show i < 12 by omega) (by omega)), cl (show i < 2147483648 by omega)]
    by_cases q : (0 : Int32) ≤ y ∧ y ≤ 9
    · obtain ⟨d, hd, rfl⟩ := rng_nI (n := 9) (by omega) q
      obtain ⟨M1, ns, nb, nf, a1, a2, a3, a4⟩ := s_change h
      have en : nf = nf' := by
        have x1 := a3.1.f
        rw [w0, a2 8 (by omega) (by omega) (by omega), e8.1] at x1
        exact ((nI_eq (by omega) (by omega)).mp x1.1).symm
      subst en
      obtain ⟨N1, b1, b2, b3, b4⟩ := a4 (upd (win 0 M1) (11 + i) (nI d))
      have hm := b2.fog hi hd
      have hR := b4 (upd (win 2520 N1) (11 + i) (nI d)) mm (N1 2512) (Nat.le_refl _) hm.mk
      rw [usame rfl] at hR
      refine ⟨0, M1 (11 + i), wr 0 (upd (win 0 M1) (11 + i) (nI d)) M1, win 2520 N1 (11 + i), wr 2520 (upd (win 2520 N1) (11 + i) (nI d)) N1, ?_, ?_, hR, Or.inl ⟨rfl, ?_, ?_⟩⟩
      · rw [ec, c_chk, if_pos q, tbd_0 rfl, bd_s a1, up0 (by omega)]
      · unfold f_X7_setFog
        rw [un (by omega), wr_out (by omega), a2 _ (by omega) (by omega) (by omega), e28, m_inR, if_pos (rng_in hi (by omega))]
        simp only [bd2, m_fail1, ↓reduceIte]
        rw [m_inR, if_pos q]
        simp only [m_fail1, ↓reduceIte]
        rw [bd_s b1, show (11 : Int32) + nI i = nI (11 + i) from nI_add 11 i, m_lays' (by omega)]
      · have := b2.2.2.2.f hi
        rw [w0] at this
        exact this
      · rw [wr_out (by omega)]; exact b3
    · refine ⟨1, 0, M, 0, upd M 2504 2, by rw [ec, c_chk, if_neg q, tbd_x rfl], ?_, (R_t0 h), Or.inr ⟨1, rfl, by omega, us⟩⟩
      unfold f_X7_setFog
      rw [un (by omega), e28, m_inR, if_pos (rng_in hi (by omega))]
      simp only [bd2, m_fail1, ↓reduceIte]
      rw [m_inR, if_neg q]
      simp only [m_fail0, i10, ↓reduceIte, utwice]
theorem s_addStock (h : RR mm M) (x y : Int32) : OkT mm [2, 1, 3] (f_X6_addStock x y) (f_X7_addStock x y) M := by
  obtain ⟨ns', hn, e9, e29, hS⟩ := h.ns
  rcases ixC x (n := ns') (by omega) with q | ⟨s, hs, rfl⟩
  · refine ⟨2, 0, M, 0, upd M 2504 1, ?_, ?_, (R_t0 h), Or.inr ⟨0, rfl, by omega, us⟩⟩
    · unfold f_X6_addStock
      rw [tbd_x (c_stO2 q e9)]
    · unfold f_X7_addStock
      rw [m_isSO q hn e29]
      rfl
  · by_cases q : (0 : Int32) ≤ y ∧ y ≤ 99
    · have e4 := hS s 4 hs (by omega)
      by_cases q2 : 99 < M (23 + 9 * s + 4) + y
      · refine ⟨3, 0, M, 0, upd M 2504 3, ?_, ?_, (R_t0 h), Or.inr ⟨2, rfl, by omega, us⟩⟩
        · unfold f_X6_addStock f_X4_hasRoomFor
          rw [tbd_0 (c_stI hs hn e9), c_chk, if_pos q, tbd_0 rfl, if_pos q2]
          rfl
        · unfold f_X7_addStock
          rw [m_isSI hs hn e29]
          simp only [bd2, i10, ↓reduceIte]
          rw [m_inR, if_pos q]
          simp only [m_fail1, ↓reduceIte]
          rw [show f_X7_st (nI s) 4 (upd M 2504 0) = _ from m_st' (k := 4) (show s < 6 by omega) (by omega)]
          simp only []
          rw [un (by omega), ← e4, if_pos q2]
          unfold f_X7_addStock_c42
          simp only [bd2, m_fail0, i10, ↓reduceIte, utwice]
      · obtain ⟨M1, ns, nb, nf, a1, a2, a3, a4⟩ := s_change h
        have en : ns = ns' := by
          have x1 := a3.1.s
          rw [w0, a2 9 (by omega) (by omega) (by omega), e9] at x1
          exact ((nI_eq (by omega) (by omega)).mp x1.1).symm
        subst en
        obtain ⟨N1, b1, b2, b3, b4⟩ := a4 (P_stock (win 0 M1) s y)
        have hm := b2.stock hs (x := y)
        have hR := b4 (P_stock (win 2520 N1) s y) mm (N1 2512) (Nat.le_refl _) hm.mk
        rw [usame rfl] at hR
        have cr := c_receive (b := 0) (u := win 0 M1) (M := M1) (x := y) (s := s) (by omega)
        rw [wr_win, Nat.zero_add] at cr
        have mr := m_doStock (u := win 2520 N1) (N := N1) (x := y) (s := s) (by omega)
        rw [wr_win] at mr
        have e5 : P_stock (win 0 M1) s y (23 + 9 * s + 4) = win 0 M1 (23 + 9 * s + 4) + y := by
          unfold P_stock
          rw [un (by omega), us]
        have e6 : win 0 M1 (23 + 9 * s + 4) = win 2520 N1 (23 + 9 * s + 4) := b2.2.2.2.ss hs (by omega)
        refine ⟨0, win 0 M1 (23 + 9 * s + 4) + y, wr 0 (P_stock (win 0 M1) s y) M1, win 2520 N1 (23 + 9 * s + 4) + y, wr 2520 (P_stock (win 2520 N1) s y) N1, ?_, ?_, hR, Or.inl ⟨rfl, by rw [e6], ?_⟩⟩
        · unfold f_X6_addStock f_X4_hasRoomFor
          rw [tbd_0 (c_stI hs hn e9), c_chk, if_pos q, tbd_0 rfl, if_neg q2]
          simp only [bd2, i10, ↓reduceIte]
          rw [bd_s a1, bd_s cr, zs (by omega) (by omega), e5]
        · unfold f_X7_addStock
          rw [m_isSI hs hn (by rw [wr_out (by omega), a2 _ (by omega) (by omega) (by omega)]; exact e29)]
          simp only [bd2, i10, ↓reduceIte]
          rw [m_inR, if_pos q]
          simp only [m_fail1, ↓reduceIte]
          rw [show f_X7_st (nI s) 4 (upd (wr 0 (P_stock (win 0 M1) s y) M1) 2504 0) = _ from m_st' (k := 4) (show s < 6 by omega) (by omega)]
          simp only []
          rw [un (by omega), wr_out (by omega), a2 _ (by omega) (by omega) (by omega), ← e4, if_neg q2]
          unfold f_X7_addStock_c42
          simp only [bd2, m_fail1, ↓reduceIte]
          rw [bd_s b1, mr]
        · rw [wr_out (by omega)]; exact b3
    · refine ⟨1, 0, M, 0, upd M 2504 2, ?_, ?_, (R_t0 h), Or.inr ⟨1, rfl, by omega, us⟩⟩
      · unfold f_X6_addStock
        rw [tbd_0 (c_stI hs hn e9), c_chk, if_neg q, tbd_x rfl]
      · unfold f_X7_addStock
        rw [m_isSI hs hn e29]
        simp only [bd2, i10, ↓reduceIte]
        rw [m_inR, if_neg q]
        simp only [m_fail0, i10, ↓reduceIte, utwice]
theorem s_putBack (h : RR mm M) (x : Int32) : OkT mm [2, 3] (f_X6_putBack x) (f_X7_putBack x) M := by
  obtain ⟨nb', hn, e9, e29, hS⟩ := h.nb
  rcases ixC x (n := nb') (by omega) with q | ⟨i, hi, rfl⟩
  · refine ⟨2, 0, M, 0, upd M 2504 1, ?_, ?_, (R_t0 h), Or.inr ⟨0, rfl, by omega, us⟩⟩
    · unfold f_X6_putBack
      rw [tbd_x (c_byO2 q e9)]
    · unfold f_X7_putBack
      rw [m_isBO q hn e29]
      rfl
  · have e4 := hS i 4 hi (by omega)
    by_cases q : M (77 + 8 * i + 4) = -1
    · refine ⟨3, 0, M, 0, upd M 2504 2, ?_, ?_, (R_t0 h), Or.inr ⟨1, rfl, by omega, us⟩⟩
      · unfold f_X6_putBack f_X1_holds
        rw [tbd_0 (c_byI hi hn e9), if_pos q]
        rfl
      · unfold f_X7_putBack
        rw [m_isBI hi hn e29]
        simp only [bd2, i10, ↓reduceIte]
        rw [show f_X7_by (nI i) 4 (upd M 2504 0) = _ from m_by' (k := 4) (show i < 6 by omega) (by omega)]
        simp only []
        rw [un (by omega), ← e4, if_pos q]
        unfold f_X7_putBack_c24
        simp only [bd2, m_fail0, i10, ↓reduceIte, utwice]
    · obtain ⟨M1, ns, nb, nf, a1, a2, a3, a4⟩ := s_change h
      have en : nb = nb' := by
        have x1 := a3.1.b
        rw [w0, a2 10 (by omega) (by omega) (by omega), e9] at x1
        exact ((nI_eq (by omega) (by omega)).mp x1.1).symm
      subst en
      have em : M1 (77 + 8 * i + 4) = M (77 + 8 * i + 4) := a2 _ (by omega) (by omega) (by omega)
      rcases hold_cases (a3.1.bu i hi) a3.1.s.2 with ⟨-, x2, -⟩ | ⟨g, hg, x1, x2⟩
      · rw [w0, em] at x2
        exact absurd x2 q
      · have hs6 := a3.1.s.2
        obtain ⟨N1, b1, b2, b3, b4⟩ := a4 (P_back (win 0 M1) i g)
        have hm := b2.back hi (q := g)
        have hR := b4 (P_back (win 2520 N1) i g) mm (N1 2512) (Nat.le_refl _) hm.mk
        rw [usame rfl] at hR
        have cr := c_back (b := 0) (M := M1) a3.1 hi x2
        rw [wr_win, Nat.zero_add] at cr
        have y1 : P_hold (win 2520 N1) i = some g := by rw [← S_hold b2.2.2.2 hi]; exact x1
        have y2 : win 2520 N1 (77 + 8 * i + 4) = nI g := by rw [← b2.2.2.2.b hi (by omega)]; exact x2
        have mr := m_doBack (u := win 2520 N1) (N := N1) (i := i) (q := g) (by omega) (by omega) y1 y2
        rw [wr_win] at mr
        refine ⟨0, nI g, wr 0 (P_back (win 0 M1) i g) M1, nI g, wr 2520 (P_back (win 2520 N1) i g) N1, ?_, ?_, hR, Or.inl ⟨rfl, rfl, ?_⟩⟩
        · unfold f_X6_putBack f_X1_holds
          rw [tbd_0 (c_byI hi hn e9), if_neg q]
          simp only [bd2, i10, ↓reduceIte]
          rw [bd_s a1, bd_s cr, show M1 (77 + 8 * i + 4) = nI g from w0.symm.trans x2]
        · unfold f_X7_putBack
          rw [m_isBI hi hn (by rw [wr_out (by omega), a2 _ (by omega) (by omega) (by omega)]; exact e29)]
          simp only [bd2, i10, ↓reduceIte]
          rw [show f_X7_by (nI i) 4 (upd (wr 0 (P_back (win 0 M1) i g) M1) 2504 0) = _ from m_by' (k := 4) (show i < 6 by omega) (by omega)]
          simp only []
          rw [un (by omega), wr_out (by omega), a2 _ (by omega) (by omega) (by omega), ← e4, if_neg q]
          unfold f_X7_putBack_c24
          simp only [bd2, m_fail1, ↓reduceIte]
          rw [bd_s b1, mr]
        · rw [wr_out (by omega)]; exact b3
theorem s_passMinutes (h : RR mm M) (hm : mm < 536870912) (x : Int32) : OkT (mm + 100) [1] (f_X6_passMinutes x) (f_X7_passMinutes x) M := by
  by_cases q : (1 : Int32) ≤ x ∧ x ≤ 100
  · obtain ⟨t, ht1, ht, rfl⟩ := rng1 (n := 100) (by omega) q
    obtain ⟨M1, ns, nb, nf, a1, a2, a3, a4⟩ := s_change h
    obtain ⟨N1, b1, b2, b3, b4⟩ := a4 (P_pass ns nb nf t (win 0 M1))
    have hk := b2.pass t
    have c1 := c_soldA (b := 0) (M := M1) a3.1
    rw [wr_win] at c1
    have c2 := c_pass (b := 0) (M := M1) (t := t) a3.1 (by omega) (by omega)
    rw [wr_win] at c2
    have c3 := c_soldA (b := 0) (M := M1) hk.1
    have hv := b2.2.2.2.MV b2.1
    obtain ⟨e, he⟩ := m_pass (N := N1) (t := t) hv (by omega) (by omega)
    rw [wr_win] at he
    have hR := b4 (P_pass ns nb nf t (win 2520 N1)) (mm + t) e (by omega) hk.mk
    have hso := P_pass_so t mm _ 0 a3.1
    rw [Int32.zero_add, S_passS t mm _ _ 0 b2.2.2.2 a3.1] at hso
    have ea : SI (stC (P_pass ns nb nf t (win 0 M1)) 5) ns - SI (stC (win 0 M1) 5) ns = P_passS ns nb nf t (win 2520 N1) 0 := by
      have e1 : SI (stC (P_pass ns nb nf t (win 0 M1)) 5) ns = SI (soC (P_pass ns nb nf t (win 0 M1))) ns := rfl
      have e2 : SI (stC (win 0 M1) 5) ns = SI (soC (win 0 M1)) ns := rfl
      rw [e1, e2, ← hso]
      generalize P_passS ns nb nf t (win 2520 N1) 0 = a
      generalize SI (soC (win 0 M1)) ns = b
      grind
    refine ⟨0, SI (stC (P_pass ns nb nf t (win 0 M1)) 5) ns - SI (stC (win 0 M1) 5) ns, wr 0 (P_pass ns nb nf t (win 0 M1)) M1, P_passS ns nb nf t (win 2520 N1) 0, _, ?_, ?_, RR_mono hR (by omega), Or.inl ⟨rfl, ea, ?_⟩⟩
    · unfold f_X6_passMinutes
      rw [c_chk, if_pos q, tbd_0 rfl, bd_s a1, bd2_s c1, bd_s c2, bd2_s c3]
    · unfold f_X7_passMinutes
      rw [m_inR, if_pos q]
      simp only [bd2, m_fail1, ↓reduceIte]
      rw [bd_s b1, he]
    · rw [tk (by omega) (by omega)]; exact b3
  · refine ⟨1, 0, M, 0, upd M 2504 1, ?_, ?_, RR_mono (R_t0 h) (by omega), Or.inr ⟨0, rfl, by omega, us⟩⟩
    · unfold f_X6_passMinutes
      rw [c_chk, if_neg q, tbd_x rfl]
    · unfold f_X7_passMinutes
      rw [m_inR, if_neg q]
      simp only [bd2, m_fail0, i10, ↓reduceIte, utwice]
end
