/-! the class reads a command -/
def AK (ns nb nf c x : Nat) : Prop := if c = 108 then x < 4 else if c = 116 then x < 3 else loK c ≤ x ∧ x < hiK ns nb nf c
theorem PRef_0 {u : xM} {verb a0 a1 V : Nat} : PRef u verb 0 a0 V = PRef u verb 0 a1 V := by
  unfold PRef
  rw [decide_eq_false (show ¬ (verb = 4 ∧ 0 = 1) from fun e => absurd e.2 (by decide)), Bool.false_and, Bool.false_and]
section
variable {l : Nat} {B : Nat → Nat} {M : xM} {ns nb nf verb : Nat} {u : xM}
theorem PArg_ok {i a0 c p : Nat} (h : (PArg B l ns nb nf u verb i a0 c p).1 = 0) : AK ns nb nf c (PArg B l ns nb nf u verb i a0 c p).2.1 ∧ (c = 108 ∨ c = 116 ∨ PRef u verb i a0 (PArg B l ns nb nf u verb i a0 c p).2.1 = false) ∧ (PArg B l ns nb nf u verb i a0 c p).2.2 = tE B l p := by
  unfold PArg AK at *
  by_cases q1 : c = 108
  · rw [if_pos q1] at h
    simp only [if_pos q1]
    have := PLan_lt (B := B) (l := l) (p := p)
    by_cases q : PLan B l p = 9
    · rw [if_pos q] at h; cases h
    · simp only [if_neg q]
      exact ⟨by omega, Or.inl q1, trivial⟩
  · rw [if_neg q1] at h
    simp only [if_neg q1]
    by_cases q2 : c = 116
    · rw [if_pos q2] at h
      simp only [if_pos q2]
      have := PTex_lt (B := B) (l := l) (p := p)
      by_cases q : PTex B l p = 9
      · rw [if_pos q] at h; cases h
      · simp only [if_neg q]
        exact ⟨by omega, Or.inr (Or.inl q2), trivial⟩
    · rw [if_neg q2] at h
      simp only [if_neg q2]
      by_cases q3 : tK B l p = 1
      · rw [if_pos q3] at h
        simp only [if_pos q3]
        by_cases q4 : loK c ≤ tkV B l p ∧ tkV B l p < hiK ns nb nf c
        · rw [if_pos q4] at h
          simp only [if_pos q4]
          by_cases q5 : PRef u verb i a0 (tkV B l p) = true
          · rw [if_pos q5] at h; cases h
          · simp only [if_neg q5]
            exact ⟨q4, Or.inr (Or.inr (Bool.eq_false_iff.mpr q5)), trivial⟩
        · rw [if_neg q4] at h; cases h
      · rw [if_neg q3] at h; cases h
theorem PArgs_c {c : Nat} {ks : List Nat} {i p : Nat} {a : Nat → Nat} : PArgs B l ns nb nf u verb (c :: ks) i a p = if (PArg B l ns nb nf u verb i (a 0) c p).1 = 0 then PArgs B l ns nb nf u verb ks (i + 1) (setf a i (PArg B l ns nb nf u verb i (a 0) c p).2.1) (PArg B l ns nb nf u verb i (a 0) c p).2.2 else ((PArg B l ns nb nf u verb i (a 0) c p).1, (PArg B l ns nb nf u verb i (a 0) c p).2.1, a) := rfl
theorem PArgs_ok : ∀ (ks : List Nat) (i : Nat) (a : Nat → Nat) (p : Nat), (PArgs B l ns nb nf u verb ks i a p).1 = 0 → (∀ j, j < i → (PArgs B l ns nb nf u verb ks i a p).2.2 j = a j) ∧ ∀ m, m < ks.length → AK ns nb nf (ks.getD m 0) ((PArgs B l ns nb nf u verb ks i a p).2.2 (i + m)) ∧ (ks.getD m 0 = 108 ∨ ks.getD m 0 = 116 ∨ PRef u verb (i + m) ((PArgs B l ns nb nf u verb ks i a p).2.2 0) ((PArgs B l ns nb nf u verb ks i a p).2.2 (i + m)) = false)
  | [], _, _, _, _ => ⟨fun _ _ => rfl, fun m hm => absurd hm (Nat.not_lt_zero m)⟩
  | c :: ks, i, a, p, h => by
    rw [PArgs_c] at h ⊢
    by_cases q : (PArg B l ns nb nf u verb i (a 0) c p).1 = 0
    · rw [if_pos q] at h ⊢
      obtain ⟨k1, k2, -⟩ := PArg_ok q
      generalize (PArg B l ns nb nf u verb i (a 0) c p).2.1 = x at h k1 k2 ⊢
      generalize (PArg B l ns nb nf u verb i (a 0) c p).2.2 = p2 at h ⊢
      obtain ⟨h1, h2⟩ := PArgs_ok ks (i + 1) (setf a i x) p2 h
      have hi : (PArgs B l ns nb nf u verb ks (i + 1) (setf a i x) p2).2.2 i = x := by rw [h1 i (by omega)]; exact if_pos rfl
      refine ⟨fun j hj => by rw [h1 j (by omega)]; exact if_neg (by omega), fun m hm => ?_⟩
      cases m with
      | zero =>
        refine ⟨by rw [show i + 0 = i from rfl, hi]; exact k1, ?_⟩
        rcases k2 with k2 | k2 | k2
        · exact Or.inl k2
        · exact Or.inr (Or.inl k2)
        · refine Or.inr (Or.inr ?_)
          rw [show i + 0 = i from rfl, hi]
          by_cases q0 : i = 0
          · subst q0
            rw [← k2]; exact PRef_0
          · rw [h1 0 (by omega), show setf a i x 0 = a 0 from if_neg (by omega)]
            exact k2
      | succ m =>
        have := h2 m (by simpa using hm)
        rw [show i + 1 + m = i + (m + 1) by omega] at this
        exact this
    · rw [if_neg q] at h
      exact absurd h q
theorem PArgs_le : ∀ (ks : List Nat) (i : Nat) (a : Nat → Nat) (p : Nat), p ≤ l → (PArgs B l ns nb nf u verb ks i a p).1 = 0 → (PArgs B l ns nb nf u verb ks i a p).2.1 ≤ l
  | [], _, _, _, hp, _ => hp
  | c :: ks, i, a, p, hp, h => by
    rw [PArgs_c] at h ⊢
    by_cases q : (PArg B l ns nb nf u verb i (a 0) c p).1 = 0
    · rw [if_pos q] at h ⊢
      refine PArgs_le ks _ _ _ ?_ h
      rw [(PArg_ok q).2.2]
      exact (tE_b hp).2
    · rw [if_neg q] at h
      exact absurd h q
theorem PRef_cong {u' : xM} {i a0 V : Nat} (e : ∀ z, z < 125 → u z = u' z) (hs : ns ≤ 6) (hb : nb ≤ 6) (h4 : verb = 4 → i = 1 → a0 < ns) (h8 : verb = 8 → V < nb) : PRef u verb i a0 V = PRef u' verb i a0 V := by
  unfold PRef
  by_cases y4 : verb = 4 ∧ i = 1
  · have := h4 y4.1 y4.2
    rw [e (23 + 9 * a0 + 4) (by omega), decide_eq_false (show ¬ verb = 8 by omega), Bool.false_and, Bool.false_and]
  · rw [decide_eq_false y4, Bool.false_and, Bool.false_and]
    by_cases y8 : verb = 8
    · have := h8 y8
      rw [e (77 + 8 * V + 4) (by omega)]
    · rw [decide_eq_false y8, Bool.false_and, Bool.false_and]
theorem PArg_cong {u' : xM} {i a0 c p : Nat} (e : ∀ z, z < 125 → u z = u' z) (hs : ns ≤ 6) (hb : nb ≤ 6) (h4 : verb = 4 → i = 1 → a0 < ns) (h8 : verb = 8 → c = 98) : PArg B l ns nb nf u verb i a0 c p = PArg B l ns nb nf u' verb i a0 c p := by
  unfold PArg
  by_cases q4 : loK c ≤ tkV B l p ∧ tkV B l p < hiK ns nb nf c
  · rw [PRef_cong (u := u) (u' := u') e hs hb h4 (fun y => by
      have := q4.2
      rw [h8 y] at this
      exact this)]
  · simp only [if_neg q4]
theorem win_KR {M' : xM} (k : KR M M') {z : Nat} (hz : z < 125) : win 128 M' z = win 128 M z := k _ (by unfold rc; omega)
theorem MV_KR {mm : Nat} {M' : xM} (k : KR M M') (h : MV mm ns nb nf (win 128 M)) : MV mm ns nb nf (win 128 M') := by
  have hS : Sim ns nb nf (win 128 M) (win 128 M') := fun z hz => (win_KR k (Lv_lt h.s.2 h.b.2 h.f.2.2 hz)).symm
  exact hS.MV h
def PSem (B : Nat → Nat) (l : Nat) (R : Nat × Nat × (Nat → Nat)) : Nat × Nat × (Nat → Nat) := if R.1 = 0 then (if tK B l R.2.1 = 2 then (0, tE B l R.2.1, R.2.2) else (1, tS B l R.2.1, R.2.2)) else R
def COut (n l : Nat) (Q : Nat × Nat × (Nat → Nat)) (M : xM) (o : Option (Int32 × xM)) : Prop :=
  (Q.1 = 0 ∧ ∃ M', o = some (1, M') ∧ KR M M' ∧ M' 1783 = nI Q.2.1 ∧ Q.2.1 ≤ l ∧ (∀ j, j < n → M' (1787 + j) = nI (Q.2.2 j)) ∧ M' 1779 = M 1779 ∧ M' 1780 = M 1780) ∨
  (Q.1 ≠ 0 ∧ ∃ M', o = some (0, M') ∧ KR M M' ∧ M' 1779 = nI Q.1 ∧ M' 1780 = nI Q.2.1)
theorem c_semi {p : Nat} (h : CT l B M) (hp : M 1783 = nI p) (hpl : p ≤ l) : (tK B l p = 2 ∧ ∃ M', f_X3_readSemicolon M = some (1, M') ∧ KR M M' ∧ M' 1783 = nI (tE B l p) ∧ M' 1779 = M 1779 ∧ M' 1780 = M 1780 ∧ ∀ j, j < 5 → M' (1787 + j) = M (1787 + j)) ∨ (tK B l p ≠ 2 ∧ ∃ M', f_X3_readSemicolon M = some (0, M') ∧ KR M M' ∧ M' 1779 = 1 ∧ M' 1780 = nI (tS B l p)) := by
  obtain ⟨M1, k0, k3, k4, k5, k6, kz⟩ := c_tokR h hp hpl
  have hKR : KR M M1 := fun z hz => kz z (fun e => hz (by unfold rc; omega)) (fun e => hz (by unfold rc; omega)) (fun e => hz (by unfold rc; omega)) (fun e => hz (by unfold rc; omega))
  have e3 : (nI (ckn (tK B l p)) = 3) = (tK B l p = 2) := ckn_i (q := 2) tK_le (by omega)
  unfold f_X3_readSemicolon
  rw [bd_s k0, k4]
  simp only [e3]
  by_cases q : tK B l p = 2
  · refine Or.inl ⟨q, M1, if_pos q, hKR, k3, kz _ (by omega) (by omega) (by omega) (by omega), kz _ (by omega) (by omega) (by omega) (by omega), fun j hj => kz _ (by omega) (by omega) (by omega) (by omega)⟩
  · refine Or.inr ⟨q, upd (upd M1 1779 1) 1780 (nI (tS B l p)), ?_, (hKR.tr (KR.u (by unfold rc; omega))).tr (KR.u (by unfold rc; omega)), ?_, us⟩
    · rw [if_neg q, c_fail, k5]
      simp only [bd2, ↓reduceIte]
    · rw [un (by omega), us]
theorem vk_lt : ∀ v : Fin 10, x_vk (v.val - 1) < 40 := by decide +kernel
theorem k4_0 : ∀ v : Fin 10, v.val = 4 → (kinds v.val).getD 0 0 = 115 := by decide +kernel
theorem k8_c : ∀ v : Fin 10, v.val = 8 → ∀ c ∈ kinds v.val, c = 98 := by decide +kernel
theorem c_args {mm : Nat} {cnt : Int32} (hv1 : 1 ≤ verb) (hv9 : verb ≤ 9) : ∀ (k i n p : Nat) (a : Nat → Nat) (M : xM), i + k = (kinds verb).length → k < n → CT l B M → M 1783 = nI p → p ≤ l → M 1781 = nI verb → (∀ j, j < i → M (1787 + j) = nI (a j)) → (verb = 4 → 1 ≤ i → a 0 < ns) → MV mm ns nb nf (win 128 M) → (∀ z, z < 125 → win 128 M z = u z) →
    COut (kinds verb).length l (PSem B l (PArgs B l ns nb nf u verb ((kinds verb).drop i) i a p)) M (lp (fun _ _ => none) (fun k => fb_X3_readCommand_c56 k 128 cnt) n (nI i) M)
  | 0, i, n + 1, p, a, M, hi, hn, h, hp, hpl, h81, hA, h4, hMV, hu => by
    have hkx := (kinds_x ⟨verb, by omega⟩ hv1).1
    have hle := kinds_le ⟨verb, by omega⟩
    have e81 : M 1781 - 1 = nI (verb - 1) := by rw [h81]; exact pk_sub hv1
    rw [lp_s, List.drop_eq_nil_of_le (by omega)]
    unfold fb_X3_readCommand_c56
    simp only at hkx hle
    rw [e81, gd_t (inb_nI (by omega) (by omega)), cl (by omega), bd2_s (j_len _ M), hkx, if_pos (nI_le (by omega) (by omega))]
    rcases c_semi h hp hpl with ⟨q, M', s1, s2, s3, s4, s5, s6⟩ | ⟨q, M', s1, s2, s3, s4⟩
    · rw [bd2_s s1, gd_t (show isb 1 = true from rfl)]
      refine Or.inl ⟨by show (PSem B l (0, p, a)).1 = 0; unfold PSem; rw [if_pos rfl, if_pos q], M', rfl, s2, ?_, ?_, ?_, s4, s5⟩
      · show M' 1783 = nI (PSem B l (0, p, a)).2.1
        unfold PSem; rw [if_pos rfl, if_pos q, s3]
      · show (PSem B l (0, p, a)).2.1 ≤ l
        unfold PSem; rw [if_pos rfl, if_pos q]; exact (tE_b hpl).2
      · intro j hj
        show M' (1787 + j) = nI ((PSem B l (0, p, a)).2.2 j)
        unfold PSem; rw [if_pos rfl, if_pos q, s6 j (by omega)]
        exact hA j (by omega)
    · rw [bd2_s s1, gd_t (show isb 0 = true from rfl)]
      refine Or.inr ⟨by show (PSem B l (0, p, a)).1 ≠ 0; unfold PSem; rw [if_pos rfl, if_neg q]; exact Nat.one_ne_zero, M', rfl, s2, ?_, ?_⟩
      · show M' 1779 = nI (PSem B l (0, p, a)).1
        unfold PSem; rw [if_pos rfl, if_neg q, s3]; rfl
      · show M' 1780 = nI (PSem B l (0, p, a)).2.1
        unfold PSem; rw [if_pos rfl, if_neg q, s4]
  | k + 1, i, n + 1, p, a, M, hi, hn, h, hp, hpl, h81, hA, h4, hMV, hu => by
    have hkx := kinds_x ⟨verb, by omega⟩ hv1
    have hle := kinds_le ⟨verb, by omega⟩
    have hvk := vk_lt ⟨verb, by omega⟩
    have hk40 := k4_0 ⟨verb, by omega⟩
    have hk8 := k8_c ⟨verb, by omega⟩
    have hkk := kinds_k ⟨verb, by omega⟩
    have hs6 := hMV.s.2
    have hb6 := hMV.b.2
    simp only at hkx hle hvk hk40 hk8 hkk
    have hlt : i < (kinds verb).length := by omega
    have hkc := hkx.2 ⟨i, by omega⟩ hlt
    simp only at hkc
    have egd : (kinds verb).getD i 0 = (kinds verb)[i] := by rw [List.getD_eq_getElem?_getD, List.getElem?_eq_getElem hlt]; rfl
    have hmem : (kinds verb)[i] ∈ kinds verb := List.getElem_mem hlt
    have e81 : M 1781 - 1 = nI (verb - 1) := by rw [h81]; exact pk_sub hv1
    have ih := c_args (mm := mm) (cnt := cnt) hv1 hv9 k (i + 1) n
    rw [lp_s, List.drop_eq_getElem_cons hlt]
    generalize lp (fun _ _ => none) (fun k => fb_X3_readCommand_c56 k 128 cnt) n = K at ih ⊢
    unfold fb_X3_readCommand_c56
    rw [e81, gd_t (inb_nI (by omega) (by omega)), cl (by omega), bd2_s (j_len _ M), hkx.1, if_neg (nI_ge hlt (by omega)), e81, gd_t (inb_nI (by omega) (by omega)), cl (by omega), bd2_s (j_char hvk (by omega) (by omega) M), hkc, egd]
    have h40 : verb = 4 → i = 1 → a 0 < ns := fun y1 y2 => h4 y1 (by omega)
    have h8c : verb = 8 → (kinds verb)[i] = 98 := fun y => hk8 y _ hmem
    have hr := c_readArg (c := (kinds verb)[i]) h hp hpl hv1 hv9 h81 (fun y => hA 0 (by omega)) (by omega) h40 h8c hMV (hkk _ hmem)
    rw [PArg_cong hu hs6 hb6 h40 h8c] at hr
    generalize hcc : (kinds verb)[i] = c at hr hmem h8c egd ⊢
    rw [PArgs_c]
    rcases hr with ⟨q, M', r1, r2, r3, r4, r5, r6, r7, r8⟩ | ⟨q, M', r1, r2, r3, r4⟩
    · have hok := PArg_ok q
      rw [bd2_s r1, if_pos q, if_neg (show ¬ (1 : Int32) = 0 by decide), nI_1]
      generalize hx : (PArg B l ns nb nf u verb i (a 0) c p).2.1 = x at hok r3 r5 ⊢
      generalize (PArg B l ns nb nf u verb i (a 0) c p).2.2 = p2 at hok r3 r4 ⊢
      have hA2 : ∀ j, j < i + 1 → M' (1787 + j) = nI (setf a i x j) := fun j hj => by
        unfold setf
        by_cases y : j = i
        · rw [if_pos y, y]; exact r5
        · rw [if_neg y, r6 j (by omega) y]; exact hA j (by omega)
      have h42 : verb = 4 → 1 ≤ i + 1 → setf a i x 0 < ns := fun y _ => by
        unfold setf
        by_cases y0 : 0 = i
        · rw [if_pos y0]
          have hc : c = 115 := by rw [← egd, ← y0]; exact hk40 y
          have := hok.1
          rw [hc] at this
          exact this.2
        · rw [if_neg y0]; exact h4 y (by omega)
      have := ih p2 (setf a i x) M' (by omega) (by omega) (h.kr r2) r3 r4 (by rw [r2 _ (by unfold rc; omega)]; exact h81) hA2 h42 (MV_KR r2 hMV) (fun z hz => by rw [win_KR r2 hz]; exact hu z hz)
      rcases this with ⟨w, M2, t1, t2, t3, t4, t5, t6, t7⟩ | ⟨w, M2, t1, t2, t3, t4⟩
      · exact Or.inl ⟨w, M2, t1, r2.tr t2, t3, t4, t5, t6.trans r7, t7.trans r8⟩
      · exact Or.inr ⟨w, M2, t1, r2.tr t2, t3, t4⟩
    · rw [bd2_s r1, if_neg q, if_pos (show (0 : Int32) = 0 from rfl)]
      generalize (PArg B l ns nb nf u verb i (a 0) c p).1 = y1 at q r3 ⊢
      generalize (PArg B l ns nb nf u verb i (a 0) c p).2.1 = y2 at r4 ⊢
      refine Or.inr ⟨?_, M', rfl, r2, ?_, ?_⟩
      · unfold PSem; rw [if_neg q]; exact q
      · unfold PSem; rw [if_neg q]; exact r3
      · unfold PSem; rw [if_neg q]; exact r4
end

