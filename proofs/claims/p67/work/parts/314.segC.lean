/-! the law's buyers: the finding, the walk -/
def KCw (ns nb : Nat) (u w : xM) : Prop := (∀ s, s < ns → ∀ c, c < 4 → u (23 + 9 * s + c) = w (23 + 9 * s + c)) ∧ (∀ i, i < nb → ∀ c, c = 2 ∨ c = 3 → u (77 + 8 * i + c) = w (77 + 8 * i + c)) ∧ u 7 = w 7
def SB (K ns : Nat) (w : xM) : Prop := ∀ s, s < ns → ∃ t, t ≤ K ∧ w (23 + 9 * s + 4) = nI t
def LCt (K : Int32 → Int32 → xM → Option (Int32 × xM)) (ns nb : Nat) (d op al : Int32) (i : Nat) (w M : xM) : Option Nat → Option (Int32 × xM)
  | none => f_LS_C_c744 K ns nb d op al (nI i) (ars ns nb w M)
  | some s => f_LS_C_c538 K ns nb d op al (nI i) (w (23 + 9 * s + 0)) (nI s) (ars ns nb w M)
section
variable {mm ns nb nf i : Nat} {u w M : xM} {d op al : Int32} {K : Int32 → Int32 → xM → Option (Int32 × xM)}
theorem LCf (h : AG ns nb u M) (hv : MV mm ns nb nf w) (hk : KCw ns nb u w) (hi : i < nb) : ∀ (k n : Nat) (best : Option Nat), k ≤ ns → k < n → (∀ j, best = some j → j < ns) → lp (fun _ _ _ _ _ => none) (fun f => fb_LS_C_c432 K f ns nb d op) n al (nI i) (eo best) (nI k - 1) (ars ns nb w M) = LCt K ns nb d op al i w M (dnF (vV w i d) (vD w i) k best)
  | 0, n + 1, best, _, _, hB => by
    rw [lp_s]
    unfold fb_LS_C_c432
    rw [if_pos (show nI 0 - 1 < 0 by decide)]
    show _ = LCt K ns nb d op al i w M best
    rcases best with _ | j
    · rw [if_neg (show ¬ (0 : Int32) ≤ eo none by decide)]
      rfl
    · have hj := hB j rfl
      have hs := hv.s.2
      rw [if_pos (show (0 : Int32) ≤ eo (some j) from nI_le (a := 0) (Nat.zero_le _) (by omega))]
      show bd2 (f_X6_positionOf (nI j) (ars ns nb w M)) _ = _
      rw [bd2_s (gA_positionOf h hj), hk.1 j hj 0 (by omega)]
      rfl
  | k + 1, n + 1, best, hkn, hn, hB => by
    have hs := hv.s.2
    have hb := hv.b.2
    have hkn' : k < ns := by omega
    obtain ⟨p, hp, ep⟩ := hv.st k hkn'
    obtain ⟨q, hq, eq⟩ := (hv.bu i hi).1
    have iha := LCf h hv hk hi k n best (by omega) (by omega) hB
    have ihb := LCf h hv hk hi k n (some k) (by omega) (by omega) (fun j hj => by cases hj; exact hkn')
    have e0 : nI (k + 1) - 1 = nI k := pk_sub (b := 1) (by omega)
    have em : nI k + (-1) = nI k - 1 := sub_m1 _
    show _ = LCt K ns nb d op al i w M (dnF (vV w i d) (vD w i) k (if (vV w i d k && nrE (vD w i) k best) = true then some k else best))
    rw [lp_s]
    generalize lp (fun _ _ _ _ _ => none) (fun f => fb_LS_C_c432 K f ns nb d op) n = F at iha ihb ⊢
    unfold fb_LS_C_c432 f_LS_C_c512 f_LS_C_c516
    rw [e0, if_neg (nI_pos (by omega)), bd2_s (gA_positionOf h hkn'), gd_t (inb_nI hi (by omega)), gd_t (inb_nI hi (by omega)), cl (show i < 2147483648 by omega), aB6 hi hb, hk.1 k hkn' 0 (by omega)]
    by_cases q1 : ((w (77 + 8 * i + 6) >>> (nI k &&& 31)) &&& 1) = 1
    · have v0 : vV w i d k = false := by
        unfold vV P_has
        rw [decide_eq_true q1]
        rfl
      rw [if_pos q1, v0, Bool.false_and, if_neg (by decide), em]
      exact iha
    · have v0 : vV w i d k = P_seen w k (w (77 + 8 * i + 0)) d := by
        unfold vV P_has
        rw [decide_eq_false q1]
        rfl
      have ea : ∀ s, s < ns → iabs (w (23 + 9 * s + 0) - w (77 + 8 * i + 0)) = vD w i s := fun s hs2 => by
        obtain ⟨p2, hp2, ep2⟩ := hv.st s hs2
        unfold vD
        rw [ep2, eq]
        exact iabs_ap hp2 hq
      rw [if_neg q1, bd2_s (gA_lanternOf h hkn'), bd2_s (l_reach _ _ _), aB0 hi hb, ea k hkn', hk.1 k hkn' 1 (by omega), v0]
      by_cases q2 : vD w i k ≤ P_reach (w (23 + 9 * k + 1)) d
      · have v1 : P_seen w k (w (77 + 8 * i + 0)) d = true := decide_eq_true q2
        rw [if_pos q2, v1, Bool.true_and]
        rcases best with _ | j
        · rw [if_pos (show eo none < 0 by decide), if_pos (show nrE (vD w i) k none = true from rfl), em]
          exact ihb
        · have hj := hB j rfl
          rw [if_neg (show ¬ eo (some j) < 0 from nI_pos (by omega))]
          show bd2 (f_X6_positionOf (nI j) (ars ns nb w M)) _ = _
          rw [bd2_s (gA_positionOf h hj), hk.1 j hj 0 (by omega), gd_t (inb_nI hi (by omega)), aB0 hi hb, ea j hj]
          by_cases q3 : vD w i j < vD w i k
          · rw [if_pos q3, if_neg (show ¬ nrE (vD w i) k (some j) = true from fun e => absurd (of_decide_eq_true e) (Int32.not_le.mpr q3)), em]
            exact iha
          · rw [if_neg q3, if_pos (show nrE (vD w i) k (some j) = true from decide_eq_true (Int32.not_lt.mp q3)), em]
            exact ihb
      · have v1 : P_seen w k (w (77 + 8 * i + 0)) d = false := decide_eq_false q2
        rw [if_neg q2, v1, Bool.false_and, if_neg (by decide), em]
        exact iha
/-- the walk's end, whatever would go on -/
def LCx (K : Int32 → Int32 → xM → Option (Int32 × xM)) (ns nb : Nat) (d op al : Int32) (i : Nat) (t v23 vv : Int32) (M : xM) : Option (Int32 × xM) := fb_LS_C_c541 K (fun _ _ _ _ _ _ => none) ns nb d op al (nI i) t v23 vv M
theorem LCw (h : AG ns nb u M) (hi : i < nb) {v t : Nat} {v23 : Int32} (hV : u (77 + 8 * i + 3) = nI v) (hv20 : v ≤ 20) (ht : t < 100) : ∀ (c j n p : Nat) (w : xM), j + c = v → c < n → p < 100 → w (77 + 8 * i + 0) = nI p → lp (fun _ _ _ _ _ _ => none) (fun f => fb_LS_C_c541 K f ns nb d op) n al (nI i) (nI t) v23 (nI j) (ars ns nb w M) = LCx K ns nb d op al i (nI t) v23 (nI v) (ars ns nb (upd w (77 + 8 * i + 0) (nI (wk p c t))) M)
  | 0, j, n + 1, p, w, hj, hn, hp, e => by
    have ej : j = v := by omega
    subst ej
    rw [lp_s, wk_0, usame e]
    unfold LCx fb_LS_C_c541
    rw [bd2_s (gA_speedOf h hi), bd2_s (gA_speedOf h hi), hV, if_pos (nI_le (Nat.le_refl _) (by omega)), if_pos (nI_le (Nat.le_refl _) (by omega))]
  | c + 1, j, n + 1, p, w, hj, hn, hp, e => by
    have hb := h.2.2.2.2
    have hs := h.2.2.1
    have ih := LCw (v23 := v23) h hi hV hv20 ht c (j + 1) n (pc1 p t) (upd w (77 + 8 * i + 0) (nI (pc1 p t))) (by omega) (by omega) (pc1_lt hp ht) us
    rw [wk_s, utwice] at ih
    rw [lp_s]
    generalize lp (fun _ _ _ _ _ _ => none) (fun f => fb_LS_C_c541 K f ns nb d op) n = F at ih ⊢
    unfold fb_LS_C_c541
    rw [bd2_s (gA_speedOf h hi), hV, if_neg (nI_ge (show j < v by omega) (by omega)), gd_t (inb_nI hi (by omega)), gd_t (inb_nI hi (by omega)), cl (show i < 2147483648 by omega), aB0 hi hb, e, bd2_s (l_cmp ht hp _), gd_t (inb_nI hi (by omega)), uB0 hi hb hs, pc1_i hp ht, nI_1]
    exact ih
end
