/-! the class reads a command's arguments -/
def AOut (l i : Nat) (r : Nat × Nat × Nat) (M : xM) (o : Option (Int32 × xM)) : Prop :=
  (r.1 = 0 ∧ ∃ M', o = some (1, M') ∧ KR M M' ∧ M' 1783 = nI r.2.2 ∧ r.2.2 ≤ l ∧ M' (1787 + i) = nI r.2.1 ∧ (∀ j, j < 5 → j ≠ i → M' (1787 + j) = M (1787 + j)) ∧ M' 1779 = M 1779 ∧ M' 1780 = M 1780) ∨
  (r.1 ≠ 0 ∧ ∃ M', o = some (0, M') ∧ KR M M' ∧ M' 1779 = nI r.1 ∧ M' 1780 = nI r.2.1)
def kinds : Nat → List Nat
  | 1 => [112, 108, 116, 99, 103]
  | 2 => [112, 109, 116, 118]
  | 3 => [115, 99]
  | 4 => [115, 103]
  | 5 => [115, 108]
  | 6 => [115, 112]
  | 7 => [105, 100]
  | 8 => [98]
  | 9 => [110]
  | _ => []
theorem kinds_x : ∀ v : Fin 10, 1 ≤ v.val → x_slen (x_vk (v.val - 1)) = (kinds v.val).length ∧ ∀ j : Fin 5, j.val < (kinds v.val).length → x_sb (x_vk (v.val - 1)) j.val = nI ((kinds v.val).getD j.val 0) := by decide +kernel
theorem kinds_le : ∀ v : Fin 10, (kinds v.val).length ≤ 5 := by decide +kernel
theorem kinds_k : ∀ v : Fin 10, ∀ c ∈ kinds v.val, c = 108 ∨ c = 116 ∨ kN c := by unfold kN; decide +kernel
section
variable {l : Nat} {B : Nat → Nat} {M : xM}
theorem c_keep {i : Nat} {x : Int32} (hi : i < 5) : f_X3_keepArgument (nI i) x M = some (upd M (1787 + i) x) := by
  unfold f_X3_keepArgument
  rw [if_neg (nI_pos (by omega)), if_neg (show ¬ (5 : Int32) ≤ nI i from nI_ge (a := i) (b := 5) hi (by decide)), gd_t (inb_nI hi (by omega)), cl (by omega)]
theorem c_lan {p : Nat} (h : CT l B M) (h3 : M 1783 = nI (tE B l p)) (h4 : M 1784 = nI (ckn (tK B l p))) (h5 : M 1785 = nI (tS B l p)) (hp : p ≤ l) : f_X3_lanternRead M = some (if PLan B l p = 9 then -1 else nI (PLan B l p), M) := by
  have hw := fun a ha => c_isWord (a := a) (s := tS B l p) ha h h3 h4 h5 (tS_b hp).2
  unfold f_X3_lanternRead PLan tW
  simp only [hw 3 (by omega), hw 4 (by omega), hw 5 (by omega), hw 6 (by omega), bd2]
  by_cases q1 : isWt (x_byt 3) B l (tS B l p) = true
  · simp only [q1, ↓reduceIte, i10]
    rfl
  · by_cases q2 : isWt (x_byt 4) B l (tS B l p) = true
    · simp only [q1, q2, Bool.false_eq_true, ↓reduceIte, i10]
      rfl
    · by_cases q3 : isWt (x_byt 5) B l (tS B l p) = true
      · simp only [q1, q2, q3, Bool.false_eq_true, ↓reduceIte, i10]
        rfl
      · by_cases q4 : isWt (x_byt 6) B l (tS B l p) = true
        · simp only [q1, q2, q3, q4, Bool.false_eq_true, ↓reduceIte, i10]
          rfl
        · simp only [q1, q2, q3, q4, Bool.false_eq_true, ↓reduceIte]
theorem c_tex {p : Nat} (h : CT l B M) (h3 : M 1783 = nI (tE B l p)) (h4 : M 1784 = nI (ckn (tK B l p))) (h5 : M 1785 = nI (tS B l p)) (hp : p ≤ l) : f_X3_textureRead M = some (if PTex B l p = 9 then -1 else nI (PTex B l p), M) := by
  have hw := fun a ha => c_isWord (a := a) (s := tS B l p) ha h h3 h4 h5 (tS_b hp).2
  unfold f_X3_textureRead PTex tW
  simp only [hw 7 (by omega), hw 8 (by omega), hw 9 (by omega), bd2]
  by_cases q1 : isWt (x_byt 7) B l (tS B l p) = true
  · simp only [q1, ↓reduceIte, i10]
    rfl
  · by_cases q2 : isWt (x_byt 8) B l (tS B l p) = true
    · simp only [q1, q2, Bool.false_eq_true, ↓reduceIte, i10]
      rfl
    · by_cases q3 : isWt (x_byt 9) B l (tS B l p) = true
      · simp only [q1, q2, q3, Bool.false_eq_true, ↓reduceIte, i10]
        rfl
      · simp only [q1, q2, q3, Bool.false_eq_true, ↓reduceIte]
theorem PLan_lt {p : Nat} : PLan B l p = 9 ∨ PLan B l p < 4 := by
  unfold PLan
  repeat' split
  all_goals omega
theorem PTex_lt {p : Nat} : PTex B l p = 9 ∨ PTex B l p < 3 := by
  unfold PTex
  repeat' split
  all_goals omega
/-- the class's test against the market -/
theorem c_ref {mm ns nb nf verb i a0 V : Nat} (hv1 : 1 ≤ verb) (hv9 : verb ≤ 9) (h81 : M 1781 = nI verb) (hV : M 1786 = nI V) (hV2 : V < 1000000) (h87 : 1 ≤ i → M 1787 = nI a0) (hi : i < 5) (h4 : verb = 4 → i = 1 → a0 < ns) (h8 : verb = 8 → V < nb) (h : MV mm ns nb nf (win 128 M)) :
    f_X3_isRefusedBy 128 (nI i) M = some (if PRef (win 128 M) verb i a0 V = true then 1 else 0, M) := by
  have hs := h.s
  have hb := h.b
  have e4 : (nI verb = 4) = (verb = 4) := propext (nI_eq (b := 4) (by omega) (by omega))
  have e8 : (nI verb = 8) = (verb = 8) := propext (nI_eq (b := 8) (by omega) (by omega))
  have e1 : (nI i = 1) = (i = 1) := propext (nI_eq (b := 1) (by omega) (by omega))
  have wS : wr 128 (win 128 M) M = M := wr_win 128 M
  unfold f_X3_isRefusedBy f_X3_isRefusedBy_c51 PRef
  rw [h81, gd_t (inb_nI (by omega) (by omega)), gd_t (inb_nI (by omega) (by omega))]
  simp only [e4, e8, e1]
  by_cases q4 : verb = 4
  · rw [if_pos q4, if_neg (show ¬ verb = 8 by omega)]
    by_cases q1 : i = 1
    · have ha := h4 q4 q1
      have hn : ns ≤ 6 := hs.2
      have hM := h87 (by omega)
      have ea : f_X3_argument 0 M = some (nI a0, M) := by
        unfold f_X3_argument
        rw [if_neg (by decide), if_neg (by decide), gd_t (by decide), show M (1787 + (0 : Int32).toNatClampNeg) = M 1787 from rfl, hM]
      have ei : f_X2_isStall 128 (nI a0) M = some (1, M) := by
        have := c_isS (b := 128) (M := M) h ha
        rw [wS] at this
        exact this
      have er : f_X4_hasRoomFor (128 + 23 + 9 * a0) (M 1786) M = some (if 99 < win 128 M (23 + 9 * a0 + 4) + nI V then 0 else 1, M) := by
        unfold f_X4_hasRoomFor
        rw [hV, show M (128 + 23 + 9 * a0 + 4) = win 128 M (23 + 9 * a0 + 4) from by unfold win; congr 1; omega]
        split <;> rfl
      rw [if_pos q1, bd2_s ea, bd2_s ei, if_neg (by decide), gd_t (inb_nI (by omega) (by omega)), cl (by omega), bd2_s er, decide_eq_true (⟨q4, q1⟩ : verb = 4 ∧ i = 1), Bool.true_and, decide_eq_false (show ¬ verb = 8 by omega), Bool.false_and, Bool.or_false]
      by_cases q : 99 < win 128 M (23 + 9 * a0 + 4) + nI V
      · rw [if_pos q, if_pos rfl, decide_eq_true q, if_pos rfl]
      · rw [if_neg q, if_neg (by decide), decide_eq_false q, if_neg (by decide)]
    · rw [if_neg q1, decide_eq_false (show ¬ (verb = 4 ∧ i = 1) from fun e => q1 e.2), Bool.false_and, Bool.false_or, decide_eq_false (show ¬ verb = 8 by omega), Bool.false_and]
      rfl
  · rw [if_neg q4, decide_eq_false (show ¬ (verb = 4 ∧ i = 1) from fun e => q4 e.1), Bool.false_and, Bool.false_or]
    by_cases q8 : verb = 8
    · have hVn := h8 q8
      have hn : nb ≤ 6 := hb.2
      have ei : f_X2_isBuyer 128 (M 1786) M = some (1, M) := by
        have e10 : M (128 + 10) = nI nb := hb.1
        unfold f_X2_isBuyer
        rw [hV, if_neg (nI_pos (by omega)), e10, if_neg (nI_ge hVn (by omega))]
      have er : f_X1_holds (128 + 77 + 8 * V) M = some (if win 128 M (77 + 8 * V + 4) = -1 then 0 else 1, M) := by
        unfold f_X1_holds
        rw [show M (128 + 77 + 8 * V + 4) = win 128 M (77 + 8 * V + 4) from by unfold win; congr 1; omega]
        split <;> rfl
      rw [if_pos q8, bd2_s ei, if_neg (by decide), hV, gd_t (inb_nI (by omega) (by omega)), cl (by omega), bd2_s er, decide_eq_true q8, Bool.true_and]
      by_cases q : win 128 M (77 + 8 * V + 4) = -1
      · rw [if_pos q, if_pos rfl, decide_eq_true q, if_pos rfl]
      · rw [if_neg q, if_neg (by decide), decide_eq_false q, if_neg (by decide)]
    · rw [if_neg q8, decide_eq_false q8, Bool.false_and]
      rfl
theorem c_readArg {mm ns nb nf verb i a0 c p : Nat} (h : CT l B M) (hp : M 1783 = nI p) (hpl : p ≤ l) (hv1 : 1 ≤ verb) (hv9 : verb ≤ 9) (h81 : M 1781 = nI verb) (h87 : 1 ≤ i → M 1787 = nI a0) (hi : i < 5) (h4 : verb = 4 → i = 1 → a0 < ns) (h8 : verb = 8 → c = 98) (hMV : MV mm ns nb nf (win 128 M)) (hc : c = 108 ∨ c = 116 ∨ kN c) :
    AOut l i (PArg B l ns nb nf (win 128 M) verb i a0 c p) M (f_X3_readArgument 128 (nI c) (nI i) M) := by
  have hb := tS_b (B := B) hpl
  have hE := tE_b (B := B) hpl
  obtain ⟨M1, k0, k3, k4, k5, k6, kz⟩ := c_tokR h hp hpl
  have hKR : KR M M1 := fun z hz => kz z (fun e => hz (by unfold rc; omega)) (fun e => hz (by unfold rc; omega)) (fun e => hz (by unfold rc; omega)) (fun e => hz (by unfold rc; omega))
  have h1 := h.kr hKR
  have hc200 : c < 200 := by unfold kN at hc; omega
  have g : ∀ (q : Nat) (x : Int32), q < 200 → x = nI q → (nI c = x) = (c = q) := fun q x hq hx => by rw [hx]; exact propext (nI_eq (by omega) (by omega))
  unfold f_X3_readArgument PArg
  rw [bd_s k0]
  simp only [g 108 108 (by omega) rfl, g 116 116 (by omega) rfl]
  have word : ∀ (W : Nat) (f : xM → Option (Int32 × xM)), (W = 9 ∨ W < 4) → f M1 = some (if W = 9 then -1 else nI W, M1) → AOut l i (if W = 9 then (1, tS B l p, 0) else (0, W, tE B l p)) M (bd2 (f M1) (fun r M => f_X3_readArgument_c33 128 (nI c) (nI i) r M)) := by
    intro W f hW hf
    rw [bd2_s hf]
    unfold f_X3_readArgument_c33
    rw [bd_s (c_keep hi)]
    by_cases q : W = 9
    · rw [if_pos q, if_pos q, if_pos rfl, c_fail, un (by omega), k5]
      simp only [bd2, ↓reduceIte]
      refine Or.inr ⟨by omega, _, rfl, ((hKR.tr (KR.u (by unfold rc; omega))).tr (KR.u (by unfold rc; omega))).tr (KR.u (by unfold rc; omega)), ?_, us⟩
      rw [un (by omega), us]; rfl
    · rw [if_neg q, if_neg q, if_neg (by rw [nI_m1 (by omega)]; exact fun h => h)]
      refine Or.inl ⟨rfl, _, rfl, hKR.tr (KR.u (by unfold rc; omega)), ?_, hE.2, us, fun j hj hn => ?_, ?_, ?_⟩
      · rw [un (by omega), k3]
      · rw [un (by omega), kz _ (by omega) (by omega) (by omega) (by omega)]
      · rw [un (by omega), kz _ (by omega) (by omega) (by omega) (by omega)]
      · rw [un (by omega), kz _ (by omega) (by omega) (by omega) (by omega)]
  by_cases q1 : c = 108
  · rw [if_pos q1, if_pos q1]
    have := word (PLan B l p) f_X3_lanternRead PLan_lt (c_lan h1 k3 k4 k5 hpl)
    unfold f_X3_readArgument_c16
    simp only [g 108 108 (by omega) rfl]
    rw [if_pos q1]
    exact this
  · rw [if_neg q1, if_neg q1]
    by_cases q2 : c = 116
    · rw [if_pos q2, if_pos q2]
      have := word (PTex B l p) f_X3_textureRead (by have := PTex_lt (B := B) (l := l) (p := p); omega) (c_tex h1 k3 k4 k5 hpl)
      unfold f_X3_readArgument_c16
      simp only [g 108 108 (by omega) rfl]
      rw [if_neg q1]
      exact this
    · rw [if_neg q2, if_neg q2]
      have hk : kN c := by
        rcases hc with e | e | e
        · exact absurd e q1
        · exact absurd e q2
        · exact e
      have hlo : loK c < 100000 := by unfold loK; split <;> omega
      have hw1 : win 128 M1 = win 128 M1 := rfl
      have hMV1 : MV mm ns nb nf (win 128 M1) := by
        have hS : Sim ns nb nf (win 128 M) (win 128 M1) := fun z hz => by
          have := Lv_lt hMV.s.2 hMV.b.2 hMV.f.2.2 hz
          exact (hKR _ (by unfold rc; omega)).symm
        exact hS.MV hMV
      obtain ⟨x, e1, e2⟩ := c_high hk hMV1
      rw [bd2_s (c_low hc200 M1), bd2_s e1, c_numFrom (hi' := x) k4 k5 k6 hpl hlo e2]
      by_cases qk : tK B l p = 1
      · rw [if_pos qk, if_pos qk]
        by_cases qr : loK c ≤ tkV B l p ∧ tkV B l p < hiK ns nb nf c
        · rw [if_pos qr, if_pos qr]
          have hv := tkV_lt hpl qk
          simp only [bd2, i10, ↓reduceIte]
          rw [k6 qk, bd_s (c_keep hi)]
          have hKR2 : KR M (upd M1 (1787 + i) (nI (tkV B l p))) := hKR.tr (KR.u (by unfold rc; omega))
          have hMV2 : MV mm ns nb nf (win 128 (upd M1 (1787 + i) (nI (tkV B l p)))) := by
            have hS : Sim ns nb nf (win 128 M) (win 128 (upd M1 (1787 + i) (nI (tkV B l p)))) := fun z hz => by
              have := Lv_lt hMV.s.2 hMV.b.2 hMV.f.2.2 hz
              exact (hKR2 _ (by unfold rc; omega)).symm
            exact hS.MV hMV
          have hV8 : verb = 8 → tkV B l p < nb := fun e => by
            have := qr.2
            rw [h8 e] at this
            exact this
          have er := c_ref (M := upd M1 (1787 + i) (nI (tkV B l p))) (V := tkV B l p) (i := i) (a0 := a0) hv1 hv9 (by rw [un (by omega), kz _ (by omega) (by omega) (by omega) (by omega), h81]) (by rw [un (by omega), k6 qk]) hv.1 (fun e => by rw [un (by omega), kz _ (by omega) (by omega) (by omega) (by omega), h87 e]) hi h4 hV8 hMV2
          have eP : PRef (win 128 (upd M1 (1787 + i) (nI (tkV B l p)))) verb i a0 (tkV B l p) = PRef (win 128 M) verb i a0 (tkV B l p) := by
            have hs := hMV.s.2
            have hb := hMV.b.2
            have x4 : verb = 4 ∧ i = 1 → win 128 (upd M1 (1787 + i) (nI (tkV B l p))) (23 + 9 * a0 + 4) = win 128 M (23 + 9 * a0 + 4) := fun e => by
              have := h4 e.1 e.2
              exact hKR2 _ (by unfold rc; omega)
            have x8 : verb = 8 → win 128 (upd M1 (1787 + i) (nI (tkV B l p))) (77 + 8 * tkV B l p + 4) = win 128 M (77 + 8 * tkV B l p + 4) := fun e => by
              have := hV8 e
              exact hKR2 _ (by unfold rc; omega)
            unfold PRef
            by_cases y4 : verb = 4 ∧ i = 1
            · rw [x4 y4, decide_eq_false (show ¬ verb = 8 by omega), Bool.false_and, Bool.false_and]
            · rw [decide_eq_false y4, Bool.false_and, Bool.false_and]
              by_cases y8 : verb = 8
              · rw [x8 y8]
              · rw [decide_eq_false y8, Bool.false_and, Bool.false_and]
          rw [eP] at er
          rw [er]
          simp only []
          by_cases qq : PRef (win 128 M) verb i a0 (tkV B l p) = true
          · rw [if_pos qq, if_pos qq, if_neg (by decide), c_fail, un (by omega), k5]
            simp only [↓reduceIte]
            refine Or.inr ⟨by omega, _, rfl, (hKR2.tr (KR.u (by unfold rc; omega))).tr (KR.u (by unfold rc; omega)), ?_, us⟩
            rw [un (by omega), us]; rfl
          · rw [if_neg qq, if_neg qq, if_pos rfl]
            refine Or.inl ⟨rfl, _, rfl, hKR2, ?_, hE.2, us, fun j hj hn => ?_, ?_, ?_⟩
            · rw [un (by omega), k3]
            · rw [un (by omega), kz _ (by omega) (by omega) (by omega) (by omega)]
            · rw [un (by omega), kz _ (by omega) (by omega) (by omega) (by omega)]
            · rw [un (by omega), kz _ (by omega) (by omega) (by omega) (by omega)]
        · rw [if_neg qr, if_neg qr]
          simp only [bd2, ↓reduceIte]
          refine Or.inr ⟨by omega, _, rfl, (hKR.tr (KR.u (by unfold rc; omega))).tr (KR.u (by unfold rc; omega)), ?_, us⟩
          rw [un (by omega), us]; rfl
      · rw [if_neg qk, if_neg qk]
        simp only [bd2, ↓reduceIte]
        refine Or.inr ⟨by omega, _, rfl, (hKR.tr (KR.u (by unfold rc; omega))).tr (KR.u (by unfold rc; omega)), ?_, us⟩
        rw [un (by omega), us]; rfl
end

