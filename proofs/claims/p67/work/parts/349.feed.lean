/-! the text is fed, twenty bytes at a time -/
def W4 (b0 b1 b2 b3 : Nat) : Int32 := (((0 ||| (nI b0 <<< (nI 24 &&& 31))) ||| (nI b1 <<< (nI 16 &&& 31))) ||| (nI b2 <<< (nI 8 &&& 31))) ||| (nI b3 <<< (nI 0 &&& 31))
theorem sh_e : ∀ k, k < 20 → (24 : Int32) - 8 * (nI k - nI k / 4 * 4) = nI (24 - 8 * (k % 4)) := by decide +kernel
theorem b_nI {b i : Nat} (h : b < 256) (hi : 8 ≤ i) : bt (nI b) i = false := by
  rcases Nat.lt_or_ge i 32 with q | q
  · exact (by decide +kernel : ∀ b, b < 256 → ∀ i, i < 32 → 8 ≤ i → bt (nI b) i = false) b h i q hi
  · exact b_big q
theorem b_W4 {b0 b1 b2 b3 i : Nat} (hi : i < 32) : bt (W4 b0 b1 b2 b3) i = ((((false || (decide (24 ≤ i) && bt (nI b0) (i - 24))) || (decide (16 ≤ i) && bt (nI b1) (i - 16))) || (decide (8 ≤ i) && bt (nI b2) (i - 8))) || (decide (0 ≤ i) && bt (nI b3) (i - 0))) := by
  unfold W4
  rw [b_or, b_or, b_or, b_or, b_0, b_shl 24 (by omega) _ hi, b_shl 16 (by omega) _ hi, b_shl 8 (by omega) _ hi, b_shl 0 (by omega) _ hi]
theorem BS_W4 {b0 b1 b2 b3 : Nat} (h0 : b0 < 128) (h1 : b1 < 256) (h2 : b2 < 256) (h3 : b3 < 256) : BS (W4 b0 b1 b2 b3) 3 = nI b0 ∧ BS (W4 b0 b1 b2 b3) 2 = nI b1 ∧ BS (W4 b0 b1 b2 b3) 1 = nI b2 ∧ BS (W4 b0 b1 b2 b3) 0 = nI b3 := by
  have key : ∀ k (x : Nat), k < 4 → x < 256 → (∀ i, i < 8 → bt (W4 b0 b1 b2 b3) (8 * k + i) = bt (nI x) i) → BS (W4 b0 b1 b2 b3) k = nI x := by
    intro k x hk hx h
    unfold BS
    refine b_ext (fun i hi => ?_)
    rw [b_and, b_255, b_sshr (8 * k) (by omega) _ hi]
    by_cases q : i < 8
    · rw [if_pos (by omega), h i q, decide_eq_true q, Bool.and_true]
    · rw [decide_eq_false q, Bool.and_false, b_nI hx (by omega)]
  refine ⟨key 3 b0 (by omega) (by omega) (fun i hi => ?_), key 2 b1 (by omega) h1 (fun i hi => ?_), key 1 b2 (by omega) h2 (fun i hi => ?_), key 0 b3 (by omega) h3 (fun i hi => ?_)⟩
  · rw [b_W4 (by omega), decide_eq_true (show 24 ≤ 8 * 3 + i by omega), show 8 * 3 + i - 24 = i by omega, b_nI h1 (show 8 ≤ 8 * 3 + i - 16 by omega), b_nI h2 (show 8 ≤ 8 * 3 + i - 8 by omega), b_nI h3 (show 8 ≤ 8 * 3 + i - 0 by omega)]
    simp
  · rw [b_W4 (by omega), decide_eq_false (show ¬ 24 ≤ 8 * 2 + i by omega), decide_eq_true (show 16 ≤ 8 * 2 + i by omega), show 8 * 2 + i - 16 = i by omega, b_nI h2 (show 8 ≤ 8 * 2 + i - 8 by omega), b_nI h3 (show 8 ≤ 8 * 2 + i - 0 by omega)]
    simp
  · rw [b_W4 (by omega), decide_eq_false (show ¬ 24 ≤ 8 * 1 + i by omega), decide_eq_false (show ¬ 16 ≤ 8 * 1 + i by omega), decide_eq_true (show 8 ≤ 8 * 1 + i by omega), show 8 * 1 + i - 8 = i by omega, b_nI h3 (show 8 ≤ 8 * 1 + i - 0 by omega)]
    simp
  · rw [b_W4 (by omega), decide_eq_false (show ¬ 24 ≤ 8 * 0 + i by omega), decide_eq_false (show ¬ 16 ≤ 8 * 0 + i by omega), decide_eq_false (show ¬ 8 ≤ 8 * 0 + i by omega), show 8 * 0 + i - 0 = i by omega]
    simp
theorem WA_0 (t : Nat → Nat) (a : Nat) : WA t a 20 0 = W4 (t (a + 0)) (t (a + 1)) (t (a + 2)) (t (a + 3)) := by
  show ((((0 : Int32) ||| (nI (t (a + 0)) <<< ((24 - 8 * (nI 0 - nI 0 / 4 * 4)) &&& 31))) ||| (nI (t (a + 1)) <<< ((24 - 8 * (nI 1 - nI 1 / 4 * 4)) &&& 31))) ||| (nI (t (a + 2)) <<< ((24 - 8 * (nI 2 - nI 2 / 4 * 4)) &&& 31))) ||| (nI (t (a + 3)) <<< ((24 - 8 * (nI 3 - nI 3 / 4 * 4)) &&& 31)) = _
  rw [sh_e 0 (by decide), sh_e 1 (by decide), sh_e 2 (by decide), sh_e 3 (by decide)]
  rfl
theorem WA_1 (t : Nat → Nat) (a : Nat) : WA t a 20 1 = W4 (t (a + 4)) (t (a + 5)) (t (a + 6)) (t (a + 7)) := by
  show ((((0 : Int32) ||| (nI (t (a + 4)) <<< ((24 - 8 * (nI 4 - nI 4 / 4 * 4)) &&& 31))) ||| (nI (t (a + 5)) <<< ((24 - 8 * (nI 5 - nI 5 / 4 * 4)) &&& 31))) ||| (nI (t (a + 6)) <<< ((24 - 8 * (nI 6 - nI 6 / 4 * 4)) &&& 31))) ||| (nI (t (a + 7)) <<< ((24 - 8 * (nI 7 - nI 7 / 4 * 4)) &&& 31)) = _
  rw [sh_e 4 (by decide), sh_e 5 (by decide), sh_e 6 (by decide), sh_e 7 (by decide)]
  rfl
theorem WA_2 (t : Nat → Nat) (a : Nat) : WA t a 20 2 = W4 (t (a + 8)) (t (a + 9)) (t (a + 10)) (t (a + 11)) := by
  show ((((0 : Int32) ||| (nI (t (a + 8)) <<< ((24 - 8 * (nI 8 - nI 8 / 4 * 4)) &&& 31))) ||| (nI (t (a + 9)) <<< ((24 - 8 * (nI 9 - nI 9 / 4 * 4)) &&& 31))) ||| (nI (t (a + 10)) <<< ((24 - 8 * (nI 10 - nI 10 / 4 * 4)) &&& 31))) ||| (nI (t (a + 11)) <<< ((24 - 8 * (nI 11 - nI 11 / 4 * 4)) &&& 31)) = _
  rw [sh_e 8 (by decide), sh_e 9 (by decide), sh_e 10 (by decide), sh_e 11 (by decide)]
  rfl
theorem WA_3 (t : Nat → Nat) (a : Nat) : WA t a 20 3 = W4 (t (a + 12)) (t (a + 13)) (t (a + 14)) (t (a + 15)) := by
  show ((((0 : Int32) ||| (nI (t (a + 12)) <<< ((24 - 8 * (nI 12 - nI 12 / 4 * 4)) &&& 31))) ||| (nI (t (a + 13)) <<< ((24 - 8 * (nI 13 - nI 13 / 4 * 4)) &&& 31))) ||| (nI (t (a + 14)) <<< ((24 - 8 * (nI 14 - nI 14 / 4 * 4)) &&& 31))) ||| (nI (t (a + 15)) <<< ((24 - 8 * (nI 15 - nI 15 / 4 * 4)) &&& 31)) = _
  rw [sh_e 12 (by decide), sh_e 13 (by decide), sh_e 14 (by decide), sh_e 15 (by decide)]
  rfl
theorem WA_4 (t : Nat → Nat) (a : Nat) : WA t a 20 4 = W4 (t (a + 16)) (t (a + 17)) (t (a + 18)) (t (a + 19)) := by
  show ((((0 : Int32) ||| (nI (t (a + 16)) <<< ((24 - 8 * (nI 16 - nI 16 / 4 * 4)) &&& 31))) ||| (nI (t (a + 17)) <<< ((24 - 8 * (nI 17 - nI 17 / 4 * 4)) &&& 31))) ||| (nI (t (a + 18)) <<< ((24 - 8 * (nI 18 - nI 18 / 4 * 4)) &&& 31))) ||| (nI (t (a + 19)) <<< ((24 - 8 * (nI 19 - nI 19 / 4 * 4)) &&& 31)) = _
  rw [sh_e 16 (by decide), sh_e 17 (by decide), sh_e 18 (by decide), sh_e 19 (by decide)]
  rfl
theorem nz_c {x : Nat} (h : 1 ≤ x) (h2 : x < 128) : ¬ nI x = 0 := fun e => absurd ((nI_eq (b := 0) (by omega) (by decide)).mp e) (by omega)
theorem AW_W4 {b0 b1 b2 b3 l : Nat} {f : xM} (h0 : 1 ≤ b0 ∧ b0 < 128) (h1 : 1 ≤ b1 ∧ b1 < 128) (h2 : 1 ≤ b2 ∧ b2 < 128) (h3 : 1 ≤ b3 ∧ b3 < 128) : AWl (W4 b0 b1 b2 b3) 4 l = l + 4 ∧ AWf (W4 b0 b1 b2 b3) 4 l f = upd (upd (upd (upd f l (nI b0)) (l + 1) (nI b1)) (l + 2) (nI b2)) (l + 3) (nI b3) := by
  obtain ⟨e3, e2, e1, e0⟩ := BS_W4 h0.2 (show b1 < 256 by omega) (show b2 < 256 by omega) (show b3 < 256 by omega)
  refine ⟨?_, ?_⟩
  · show (if BS (W4 b0 b1 b2 b3) 3 = 0 then _ else (if BS (W4 b0 b1 b2 b3) 2 = 0 then _ else (if BS (W4 b0 b1 b2 b3) 1 = 0 then _ else (if BS (W4 b0 b1 b2 b3) 0 = 0 then l + 1 + 1 + 1 else l + 1 + 1 + 1 + 1)))) = l + 4
    rw [e3, e2, e1, e0, if_neg (nz_c h0.1 h0.2), if_neg (nz_c h1.1 h1.2), if_neg (nz_c h2.1 h2.2), if_neg (nz_c h3.1 h3.2)]
  · show (if BS (W4 b0 b1 b2 b3) 3 = 0 then _ else (if BS (W4 b0 b1 b2 b3) 2 = 0 then _ else (if BS (W4 b0 b1 b2 b3) 1 = 0 then _ else (if BS (W4 b0 b1 b2 b3) 0 = 0 then upd (upd (upd f l (BS (W4 b0 b1 b2 b3) 3)) (l + 1) (BS (W4 b0 b1 b2 b3) 2)) (l + 1 + 1) (BS (W4 b0 b1 b2 b3) 1) else upd (upd (upd (upd f l (BS (W4 b0 b1 b2 b3) 3)) (l + 1) (BS (W4 b0 b1 b2 b3) 2)) (l + 1 + 1) (BS (W4 b0 b1 b2 b3) 1)) (l + 1 + 1 + 1) (BS (W4 b0 b1 b2 b3) 0))))) = _
    rw [e3, e2, e1, e0, if_neg (nz_c h0.1 h0.2), if_neg (nz_c h1.1 h1.2), if_neg (nz_c h2.1 h2.2), if_neg (nz_c h3.1 h3.2)]
/-- bytes up to l are those of the text -/
def FB (t : Nat → Nat) (l : Nat) (f : xM) : Prop := ∀ j, j < l → f j = nI (t j)
theorem FB4 {t : Nat → Nat} {l : Nat} {f : xM} (h : FB t l f) : FB t (l + 4) (upd (upd (upd (upd f l (nI (t l))) (l + 1) (nI (t (l + 1)))) (l + 2) (nI (t (l + 2)))) (l + 3) (nI (t (l + 3)))) := fun j hj => by
  rcases (show j < l ∨ j = l ∨ j = l + 1 ∨ j = l + 2 ∨ j = l + 3 by omega) with q | rfl | rfl | rfl | rfl
  · rw [un (by omega), un (by omega), un (by omega), un (by omega)]
    exact h j q
  · rw [un (by omega), un (by omega), un (by omega), us]
  · rw [un (by omega), un (by omega), us]
  · rw [un (by omega), us]
  · rw [us]
theorem one_word {t : Nat → Nat} (ht : ∀ j, 1 ≤ t j ∧ t j < 128) {w : Int32} {l : Nat} (hw : w = W4 (t l) (t (l + 1)) (t (l + 2)) (t (l + 3))) {f M : xM} (hf : FB t l f) (hl : l + 4 ≤ 700) : (∀ N : xM, f_X6_bytesIn w N = some (nI 4, N)) ∧ ∃ f2, f_X3_appendWord w (KC l f M) = some (KC (l + 4) f2 M) ∧ FB t (l + 4) f2 := by
  subst hw
  have e := fun (l' : Nat) (f' : xM) => AW_W4 (l := l') (f := f') (ht l) (ht (l + 1)) (ht (l + 2)) (ht (l + 3))
  refine ⟨fun N => by rw [c_bytesIn, (e 0 f).1], _, ?_, FB4 hf⟩
  rw [c_appWd (by rw [(e l f).1]; exact hl), (e l f).1, (e l f).2]
theorem one_feed {t : Nat → Nat} (ht : ∀ j, 1 ≤ t j ∧ t j < 128) {i : Nat} {f M : xM} (hf : FB t (20 * i) f) (hl : 20 * i + 20 ≤ 700) : ∃ r f2, f_X6_feed (WA t (20 * i) 20 0) (WA t (20 * i) 20 1) (WA t (20 * i) 20 2) (WA t (20 * i) 20 3) (WA t (20 * i) 20 4) (KC (20 * i) f M) = some (r, KC (20 * (i + 1)) f2 M) ∧ FB t (20 * (i + 1)) f2 := by
  obtain ⟨p0, f0, q0, g0⟩ := one_word (M := M) ht (l := 20 * i) (WA_0 t (20 * i)) hf (by omega)
  obtain ⟨p1, f1, q1, g1⟩ := one_word (M := M) ht (l := 20 * i + 4) (WA_1 t (20 * i)) g0 (by omega)
  obtain ⟨p2, f2, q2, g2⟩ := one_word (M := M) ht (l := 20 * i + 4 + 4) (WA_2 t (20 * i)) g1 (by omega)
  obtain ⟨p3, f3, q3, g3⟩ := one_word (M := M) ht (l := 20 * i + 4 + 4 + 4) (WA_3 t (20 * i)) g2 (by omega)
  obtain ⟨p4, f4, q4, g4⟩ := one_word (M := M) ht (l := 20 * i + 4 + 4 + 4 + 4) (WA_4 t (20 * i)) g3 (by omega)
  have e5 : 20 * i + 4 + 4 + 4 + 4 + 4 = 20 * (i + 1) := by omega
  rw [e5] at q4 g4
  refine ⟨nI (20 * (i + 1)), f4, ?_, g4⟩
  unfold f_X6_feed
  rw [bd2_s (p0 _), bd2_s (p1 _), bd2_s (p2 _), bd2_s (p3 _), bd2_s (p4 _)]
  have hc : (KC (20 * i) f M) 1778 + ((((nI 4 + nI 4) + nI 4) + nI 4) + nI 4) ≤ 700 := by
    rw [KC_l, nI_add, nI_add, nI_add, nI_add, nI_add]
    exact nI_le (b := 700) (by omega) (by decide)
  rw [if_pos hc, bd_s q0, bd_s q1, bd_s q2, bd_s q3, bd_s q4, KC_l]
theorem all_feed {t : Nat → Nat} (ht : ∀ j, 1 ≤ t j ∧ t j < 128) : ∀ (d i : Nat) (f M : xM), 20 * (i + d) ≤ 700 → FB t (20 * i) f → ∃ f2, PFd t d i (KC (20 * i) f M) = some (KC (20 * (i + d)) f2 M) ∧ FB t (20 * (i + d)) f2
  | 0, i, f, M, _, hf => ⟨f, rfl, hf⟩
  | d + 1, i, f, M, hl, hf => by
    obtain ⟨r, f1, a, b⟩ := one_feed (M := M) ht hf (by omega)
    obtain ⟨f2, c, e⟩ := all_feed ht d (i + 1) f1 M (by omega) b
    rw [show i + 1 + d = i + (d + 1) by omega] at c e
    refine ⟨f2, ?_, e⟩
    show bd2 _ _ = _
    rw [bd2_s a]
    exact c
theorem TXT_n {D1 D2 D3 : Nat} {ds : List Nat} : ∀ z ∈ TXT D1 D2 D3 ds, 1 ≤ z := by
  have hs : ∀ i, i < 14 → 9 < i → ∀ x ∈ SL i, 1 ≤ x := by decide +kernel
  have hdl : ∀ x, ∀ z ∈ DL x, 1 ≤ z := by
    intro x z hz
    unfold DL at hz
    split at hz
    · rw [List.mem_singleton] at hz
      omega
    · simp only [List.mem_cons, List.not_mem_nil, or_false] at hz
      omega
  intro z hz
  unfold TXT MKH at hz
  simp only [List.mem_append, List.mem_flatMap] at hz
  rcases hz with ((((((((hz | hz) | hz) | hz) | hz) | hz) | hz) | ⟨d, hdd, hz | hz⟩) | hz)
  · exact hs 10 (by decide) (by decide) z hz
  · exact hdl _ z hz
  · exact hs 11 (by decide) (by decide) z hz
  · exact hdl _ z hz
  · exact hs 11 (by decide) (by decide) z hz
  · exact hdl _ z hz
  · exact hs 12 (by decide) (by decide) z hz
  · exact hs 11 (by decide) (by decide) z hz
  · exact hdl _ z hz
  · exact hs 13 (by decide) (by decide) z hz
theorem getD_n {L : List Nat} (h : ∀ z ∈ L, 1 ≤ z) (j : Nat) : 1 ≤ L.getD j 32 := by
  rw [List.getD_eq_getElem?_getD]
  cases e : L[j]? with
  | none => show 1 ≤ 32; decide
  | some z => exact h z (List.mem_of_getElem? e)
/-- what the machine's side asked of the mirrors -/
theorem MKP_PQ : MKP PQ := by
  refine ⟨fun D1 D2 D3 ds h1 h2 h3 k1 k2 hd M1 hM => ?_, fun i a b d q r M hi ha hb hd hq hq2 hr h => a_stall hi ha hb hd hq hq2 hr h, fun n i a b d q M _ hn hi ha hb hd hq hq2 h => a_buyer hn hi ha hb hd hq hq2 h⟩
  have hlen := TXT_len (D1 := D1) (D2 := D2) (D3 := D3) hd
  have n1 := dgN_b D1
  have n2 := dgN_b D2
  have n3 := dgN_b D3
  have ht : ∀ j, 1 ≤ (TXT D1 D2 D3 ds).getD j 32 ∧ (TXT D1 D2 D3 ds).getD j 32 < 128 := fun j => ⟨getD_n TXT_n j, getD_c (TXT_c (by omega) (by omega) h3 hd) j⟩
  have e0 : KC 0 (fun _ => 0) M1 = M1 := by
    funext z
    by_cases q : z = 1778
    · subst q
      rw [KC_l, hM]
      rfl
    · unfold KC
      rw [un q, if_neg (by omega)]
  obtain ⟨f2, a, b⟩ := all_feed (t := fun j => (TXT D1 D2 D3 ds).getD j 32) ht (((TXT D1 D2 D3 ds).length + 19) / 20) 0 (fun _ => 0) M1 (by omega) (fun j hj => absurd hj (by omega))
  rw [show 20 * 0 = 0 from rfl, e0, Nat.zero_add] at a
  rw [Nat.zero_add] at b
  refine ⟨_, a, text_loads h1 h2 h3 k1 k2 hd (l := 20 * (((TXT D1 D2 D3 ds).length + 19) / 20)) (by omega) ⟨KC_l, by omega, fun j hj => ⟨Nat.lt_trans (ht j).2 (by decide), ?_⟩⟩⟩
  unfold KC
  rw [un (by omega), if_pos (by omega), show 1792 + j - 1792 = j by omega, b j hj]
