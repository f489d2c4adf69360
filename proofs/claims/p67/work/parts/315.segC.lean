/-! the law's buyers: paying, feeling, taking -/
section
variable {mm ns nb nf i : Nat} {u w M : xM} {d op al : Int32} {K : Int32 → Int32 → xM → Option (Int32 × xM)}
set_option maxHeartbeats 1000000 in
theorem LCh (h : AG ns nb u M) (hi : i < nb) {v q : Nat} {t : Int32} (hV : u (77 + 8 * i + 3) = nI v) (hv20 : v ≤ 20) (hq : q < ns) (e4 : w (77 + 8 * i + 4) = nI q) : LCx K ns nb d op al i t (-1) (nI v) (ars ns nb w M) = if w (77 + 8 * i + 0) = t then f_LS_C_c744 K ns nb d op (al + 1) (nI i) (ars ns nb (P_pay w i q) M) else f_LS_C_c744 K ns nb d op al (nI i) (ars ns nb w M) := by
  have hb := h.2.2.2.2
  have hs := h.2.2.1
  unfold LCx fb_LS_C_c541
  rw [bd2_s (gA_speedOf h hi), hV, if_pos (nI_le (Nat.le_refl _) (by omega)), gd_t (inb_nI hi (by omega)), cl (show i < 2147483648 by omega), aB0 hi hb]
  by_cases q1 : w (77 + 8 * i + 0) = t
  · rw [if_pos q1, if_pos q1, gd_t (inb_nI hi (by omega)), aB4 hi hb, e4, if_neg (nI_pos (by omega)), cl (show q < 2147483648 by omega)]
    simp (disch := omega) only [gd, inb_nI, cl, aR5, aR7, aB1, aB4, aB5, aB7, uR5, uR7, uB1, uB4, uB5, uB7, un, e4]
    unfold P_pay
    rw [usw w (i := 23 + 9 * q + 5) (j := 23 + 9 * q + 7) (by omega)]
  · rw [if_neg q1, if_neg q1]
set_option maxHeartbeats 1000000 in
theorem LCg (h : AG ns nb u M) (hk : KCw ns nb u w) {B : Nat} (hB : B < 2147483648) (hSB : SB B ns w) (hi : i < nb) {v s : Nat} {t : Int32} (hV : u (77 + 8 * i + 3) = nI v) (hv20 : v ≤ 20) (hq : s < ns) (e4 : w (77 + 8 * i + 4) = -1) : LCx K ns nb d op al i t (nI s) (nI v) (ars ns nb w M) = if w (77 + 8 * i + 0) = t then f_LS_C_c744 K ns nb d op al (nI i) (ars ns nb (P_got w i s) M) else f_LS_C_c744 K ns nb d op al (nI i) (ars ns nb w M) := by
  have hb := h.2.2.2.2
  have hs := h.2.2.1
  obtain ⟨y, hy, ey⟩ := hSB s hq
  have ha : f_LS_C_c732 K ns nb d op al (nI i) (nI s) (ars ns nb w M) = f_LS_C_c744 K ns nb d op al (nI i) (ars ns nb (P_avoid w i s) M) := by
    unfold f_LS_C_c732 P_avoid
    simp (disch := omega) only [gd, inb_nI, cl, aB6, uB6]
  unfold LCx fb_LS_C_c541
  rw [bd2_s (gA_speedOf h hi), hV, if_pos (nI_le (Nat.le_refl _) (by omega)), gd_t (inb_nI hi (by omega)), cl (show i < 2147483648 by omega), aB0 hi hb]
  by_cases q1 : w (77 + 8 * i + 0) = t
  · rw [if_pos q1, if_pos q1, gd_t (inb_nI hi (by omega)), aB4 hi hb, e4, if_pos (by decide), bd2_s (gA_textureOf h hq), bd2_s (gA_wantedTexture h hi), hk.1 s hq 2 (by omega), hk.2.1 i hi 2 (by omega)]
    unfold P_got P_feel
    by_cases q2 : w (23 + 9 * s + 2) = w (77 + 8 * i + 2)
    · rw [if_pos q2, if_pos q2, gd_t (inb_nI hq (by omega)), cl (show s < 2147483648 by omega), aR4 hq hs, ey]
      by_cases q3 : y = 0
      · subst q3
        rw [if_pos (show nI 0 ≤ 0 by decide), if_pos (show nI 0 = 0 from rfl), if_neg (show ¬ (2 : Int32) = 0 by decide), ha]
      · have q4 : ¬ nI y = 0 := nI_ne0 (by omega) (by omega)
        have q5 : ¬ nI y ≤ 0 := fun e => absurd ((nI_leI (b := 0) (by omega) (by omega)).mp e) (by omega)
        rw [if_neg q5, if_neg q4, bd2_s (gA_priceOf h hq), hk.1 s hq 3 (by omega), gd_t (inb_nI hi (by omega)), aB1 hi hb]
        by_cases q6 : w (77 + 8 * i + 1) < w (23 + 9 * s + 3)
        · rw [if_pos q6, if_neg (show ¬ w (23 + 9 * s + 3) ≤ w (77 + 8 * i + 1) from Int32.not_le.mpr q6), if_neg (show ¬ (3 : Int32) = 0 by decide), ha]
        · rw [if_neg q6, if_pos (show w (23 + 9 * s + 3) ≤ w (77 + 8 * i + 1) from Int32.not_lt.mp q6), if_pos rfl]
          rw [gd_t (inb_nI hq (by omega)), gd_t (inb_nI hq (by omega)), gd_t (inb_nI hi (by omega)), uR4 hq hs, uB4 hi hb hs, bd2_s (gA_priceOf h hq), gd_t (inb_nI hi (by omega)), uB5 hi hb hs, hk.1 s hq 3 (by omega)]
          unfold P_take
          rw [aR4 hq hs, ey]
    · rw [if_neg q2, if_neg q2, if_neg (show ¬ (1 : Int32) = 0 by decide), ha]
  · rw [if_neg q1, if_neg q1]
end
section
variable {mm ns nb nf i : Nat} {u w M : xM} {d op al : Int32} {K : Int32 → Int32 → xM → Option (Int32 × xM)}
/-- what one buyer leaves -/
theorem KCw_mv (hk : KCw ns nb u w) (hs : ns ≤ 6) {to : Int32} : KCw ns nb u (P_mv w i to) := by
  unfold P_mv
  exact ⟨fun s hs2 c hc => by rw [un (by omega)]; exact hk.1 s hs2 c hc, fun j hj c hc => by rw [un (by omega)]; exact hk.2.1 j hj c hc, by rw [un (by omega)]; exact hk.2.2⟩
theorem KCw_act (hk : KCw ns nb u w) (hv : MV mm ns nb nf w) (hi : i < nb) : KCw ns nb u (P_act ns d i w) := by
  have hs := hv.s.2
  have hb := hv.b.2
  unfold P_act
  rcases hold_cases (hv.bu i hi) hs with ⟨e1, -, -⟩ | ⟨q, hq, e1, -⟩
  · rw [e1]
    show KCw ns nb u (P_actO w i (P_tgt w i d ns 0 none))
    rcases ht : P_tgt w i d ns 0 none with _ | s
    · exact hk
    · have hsn : s < ns := P_tgt_lt ns 0 none (by omega) (fun j hj => by cases hj) s ht
      show KCw ns nb u (P_actT w i s)
      have h1 := KCw_mv (i := i) (to := w (23 + 9 * s + 0)) hk hs
      unfold P_actT
      split
      · unfold P_got P_take P_avoid
        split
        · exact ⟨fun s2 hs2 c hc => by rw [un (by omega), un (by omega), un (by omega)]; exact h1.1 s2 hs2 c hc, fun j hj c hc => by rw [un (by omega), un (by omega), un (by omega)]; exact h1.2.1 j hj c hc, by rw [un (by omega), un (by omega), un (by omega)]; exact h1.2.2⟩
        · exact ⟨fun s2 hs2 c hc => by rw [un (by omega)]; exact h1.1 s2 hs2 c hc, fun j hj c hc => by rw [un (by omega)]; exact h1.2.1 j hj c hc, by rw [un (by omega)]; exact h1.2.2⟩
      · exact h1
  · rw [e1]
    show KCw ns nb u (P_actH w i q)
    have h1 := KCw_mv (i := i) (to := w 7) hk hs
    unfold P_actH
    split
    · unfold P_pay
      exact ⟨fun s2 hs2 c hc => by rw [un (by omega), un (by omega), un (by omega), un (by omega), un (by omega), un (by omega)]; exact h1.1 s2 hs2 c hc, fun j hj c hc => by rw [un (by omega), un (by omega), un (by omega), un (by omega), un (by omega), un (by omega)]; exact h1.2.1 j hj c hc, by rw [un (by omega), un (by omega), un (by omega), un (by omega), un (by omega), un (by omega)]; exact h1.2.2⟩
    · exact h1
theorem SB_mv {B : Nat} (h : SB B ns w) (hs : ns ≤ 6) {to : Int32} : SB B ns (P_mv w i to) := fun s hs2 => by
  obtain ⟨t, h1, h2⟩ := h s hs2
  exact ⟨t, h1, by unfold P_mv; rw [un (by omega)]; exact h2⟩
theorem SB_act {B : Nat} (hB : B < 2147483648) (h : SB B ns w) (hv : MV mm ns nb nf w) (hi : i < nb) : SB B ns (P_act ns d i w) := by
  have hs := hv.s.2
  have hb := hv.b.2
  unfold P_act
  rcases hold_cases (hv.bu i hi) hs with ⟨e1, -, -⟩ | ⟨q, hq, e1, -⟩
  · rw [e1]
    show SB B ns (P_actO w i (P_tgt w i d ns 0 none))
    rcases ht : P_tgt w i d ns 0 none with _ | s
    · exact h
    · have hsn : s < ns := P_tgt_lt ns 0 none (by omega) (fun j hj => by cases hj) s ht
      show SB B ns (P_actT w i s)
      have h1 := SB_mv (i := i) (to := w (23 + 9 * s + 0)) h hs
      unfold P_actT
      split
      · unfold P_got
        split
        · rename_i hf
          intro s2 hs2
          obtain ⟨t, t1, t2⟩ := h1 s2 hs2
          unfold P_take
          by_cases e : s2 = s
          · subst e
            have t0 : t ≠ 0 := by
              rintro rfl
              unfold P_feel at hf
              rw [t2, if_pos (show nI 0 = 0 from rfl)] at hf
              split at hf
              · exact absurd hf (by decide)
              · exact absurd hf (by decide)
            exact ⟨t - 1, by omega, by rw [un (by omega), un (by omega), us, t2]; exact pk_sub (b := 1) (by omega)⟩
          · exact ⟨t, t1, by rw [un (by omega), un (by omega), un (by omega)]; exact t2⟩
        · intro s2 hs2
          obtain ⟨t, t1, t2⟩ := h1 s2 hs2
          unfold P_avoid
          exact ⟨t, t1, by rw [un (by omega)]; exact t2⟩
      · exact h1
  · rw [e1]
    show SB B ns (P_actH w i q)
    have h1 := SB_mv (i := i) (to := w 7) h hs
    unfold P_actH
    split
    · intro s2 hs2
      obtain ⟨t, t1, t2⟩ := h1 s2 hs2
      unfold P_pay
      exact ⟨t, t1, by rw [un (by omega), un (by omega), un (by omega), un (by omega), un (by omega), un (by omega)]; exact t2⟩
    · exact h1
/-- one buyer -/
theorem LCs (h : AG ns nb u M) (hv : MV mm ns nb nf w) (hk : KCw ns nb u w) {B : Nat} (hB : B < 2147483648) (hSB : SB B ns w) (hi : i < nb) (hop : ¬ op = 0) : fb_LS_C_c398 K ns nb d op al (nI i) (ars ns nb w M) = K (al + P_sold i w) (nI (i + 1)) (ars ns nb (P_act ns d i w) M) := by
  have hb := hv.b.2
  have hs := hv.s.2
  obtain ⟨⟨p, hp, e1⟩, ⟨v, hv1, hv20, e2⟩, -⟩ := hv.bu i hi
  have hV : u (77 + 8 * i + 3) = nI v := by rw [hk.2.1 i hi 3 (by omega)]; exact e2
  have e744 : ∀ (a : Int32) (X : xM), f_LS_C_c744 K ns nb d op a (nI i) X = K a (nI (i + 1)) X := fun a X => by
    unfold f_LS_C_c744
    rw [nI_1]
  unfold fb_LS_C_c398
  rw [if_neg (nI_ge hi (by omega)), if_neg hop, bd2_s (gA_bellPosition h), gd_t (inb_nI hi (by omega)), cl (show i < 2147483648 by omega), aB4 hi hb, hk.2.2]
  rcases hold_cases (hv.bu i hi) hs with ⟨z1, z2, z3⟩ | ⟨q, hq, z1, z2⟩
  · rw [z2, if_neg (show ¬ (0 : Int32) ≤ -1 by decide)]
    unfold P_act P_sold f_LS_C_c432
    rw [z1]
    show lp (fun _ _ _ _ _ => none) (fun f => fb_LS_C_c432 K f ns nb d op) FU al (nI i) (eo none) (nI ns - 1) (ars ns nb w M) = K (al + 0) (nI (i + 1)) (ars ns nb (P_actO w i (P_tgt w i d ns 0 none)) M)
    rw [LCf h hv hk hi ns FU none (Nat.le_refl _) (FU_e _ (by omega)) (fun j hj => by cases hj), tgt_dn, Int32.add_zero]
    rcases ht : P_tgt w i d ns 0 none with _ | s
    · exact e744 _ _
    · have hsn : s < ns := P_tgt_lt ns 0 none (by omega) (fun j hj => by cases hj) s ht
      obtain ⟨t, ht1, ht2⟩ := hv.st s hsn
      show f_LS_C_c538 K ns nb d op al (nI i) (w (23 + 9 * s + 0)) (nI s) (ars ns nb w M) = K al (nI (i + 1)) (ars ns nb (P_actT w i s) M)
      have hw := LCw (d := d) (op := op) (al := al) (K := K) (v23 := nI s) h hi hV hv20 ht1 v 0 FU p w (by omega) (FU_e _ (by omega)) hp e1
      unfold f_LS_C_c538 f_LS_C_c541
      rw [ht2]
      refine Eq.trans (show _ = _ from hw) ?_
      have em : P_mv w i (nI t) = upd w (77 + 8 * i + 0) (nI (wk p v t)) := by
        unfold P_mv
        rw [e1, e2, walk_nI hp ht1 hv20]
      unfold P_actT
      rw [ht2, em]
      rw [LCg h (by rw [← em]; exact KCw_mv hk hs) hB (by rw [← em]; exact SB_mv hSB hs) hi hV hv20 hsn (by rw [un (by omega)]; exact z2)]
      by_cases q1 : upd w (77 + 8 * i + 0) (nI (wk p v t)) (77 + 8 * i + 0) = nI t
      · rw [if_pos q1, if_pos q1, e744]
      · rw [if_neg q1, if_neg q1, e744]
  · obtain ⟨t, ht1, ht2⟩ := hv.p
    rw [z2, if_pos (show (0 : Int32) ≤ nI q from nI_le (a := 0) (Nat.zero_le _) (by omega))]
    unfold P_act P_sold
    rw [z1]
    show f_LS_C_c538 K ns nb d op al (nI i) (w 7) (-1) (ars ns nb w M) = K (al + (if P_mv w i (w 7) (77 + 8 * i + 0) = w 7 then 1 else 0)) (nI (i + 1)) (ars ns nb (P_actH w i q) M)
    have hw := LCw (d := d) (op := op) (al := al) (K := K) (v23 := -1) h hi hV hv20 ht1 v 0 FU p w (by omega) (FU_e _ (by omega)) hp e1
    unfold f_LS_C_c538 f_LS_C_c541
    rw [ht2]
    refine Eq.trans (show _ = _ from hw) ?_
    have em : P_mv w i (nI t) = upd w (77 + 8 * i + 0) (nI (wk p v t)) := by
      unfold P_mv
      rw [e1, e2, walk_nI hp ht1 hv20]
    unfold P_actH
    rw [ht2, em, LCh h hi hV hv20 hq (by rw [un (by omega)]; exact z2)]
    by_cases q1 : upd w (77 + 8 * i + 0) (nI (wk p v t)) (77 + 8 * i + 0) = nI t
    · rw [if_pos q1, if_pos q1, if_pos q1, e744]
    · rw [if_neg q1, if_neg q1, if_neg q1, e744, Int32.add_zero]
theorem LCl (h : AG ns nb u M) {B : Nat} (hB : B < 2147483648) (hop : ¬ op = 0) : ∀ (k i n : Nat) (w : xM) (al : Int32), i + k = nb → k < n → MV mm ns nb nf w → KCw ns nb u w → SB B ns w → lp (fun _ _ _ => none) (fun f => fb_LS_C_c398 f ns nb d op) n al (nI i) (ars ns nb w M) = some (P_solds ns d k i w al, ars ns nb (P_acts ns d k i w) M)
  | 0, i, n + 1, w, al, hk, hn, hv, _, _ => by
    have hb := hv.b.2
    have e : i = nb := by omega
    subst e
    rw [lp_s]
    unfold fb_LS_C_c398
    rw [if_pos (nI_le (Nat.le_refl _) (by omega))]
    rfl
  | k + 1, i, n + 1, w, al, hk, hn, hv, hkc, hsb => by
    rw [lp_s, LCs h hv hkc hB hsb (by omega) hop]
    exact LCl h hB hop k (i + 1) n (P_act ns d i w) (al + P_sold i w) (by omega) (by omega) (MV_act hv (by omega)) (KCw_act hkc hv (by omega)) (SB_act hB hsb hv (by omega))
/-- segment C: the buyers -/
theorem LSC (h : AG ns nb u M) (hv : MV mm ns nb nf w) (hk : KCw ns nb u w) {B : Nat} (hB : B < 2147483648) (hSB : SB B ns w) : f_LS_C ns nb d op (ars ns nb w M) = some (if op = 0 then 0 else P_solds ns d nb 0 w 0, if op = 0 then ars ns nb w M else ars ns nb (P_acts ns d nb 0 w) M) := by
  have hb := hv.b.2
  unfold f_LS_C f_LS_C_c398
  by_cases e : op = 0
  · subst e
    obtain ⟨n, hn⟩ : ∃ n, FU = n + 1 := ⟨4095, rfl⟩
    rw [if_pos rfl, if_pos rfl, hn, lp_s]
    unfold fb_LS_C_c398
    by_cases q : (nI nb) ≤ 0
    · rw [if_pos q]
    · rw [if_neg q, if_pos rfl]
  · rw [if_neg e, if_neg e]
    exact LCl h hB e nb 0 FU w 0 (by omega) (FU_e _ (by omega)) hv hk hSB
end
