/-! the text of a setup: where its tokens lie; it loads -/
theorem gA {X Y : List Nat} (j : Nat) : (X ++ Y).getD (X.length + j) 32 = Y.getD j 32 := by
  rw [List.getD_eq_getElem?_getD, List.getD_eq_getElem?_getD, List.getElem?_append_right (by omega), show X.length + j - X.length = j by omega]
theorem gL {X Y : List Nat} {j : Nat} (h : j < X.length) : (X ++ Y).getD j 32 = X.getD j 32 := by
  rw [List.getD_eq_getElem?_getD, List.getD_eq_getElem?_getD, List.getElem?_append_left h]
theorem SL_v : SL 10 = [109, 97, 114, 107, 101, 116, 32] ∧ SL 11 = [32] ∧ SL 12 = [59, 102, 111, 103] ∧ SL 13 = [59] := by decide +kernel
def FL (ds : List Nat) : List Nat := ds.flatMap (fun d => SL 11 ++ DL d)
theorem FL_c {d : Nat} {r : List Nat} (h : d < 10) : FL (d :: r) = 32 :: (48 + d) :: FL r := by
  unfold FL
  rw [List.flatMap_cons, SL_v.2.1]
  unfold DL
  rw [if_pos h]
  rfl
theorem dgN1 {d : Nat} (h : d < 10) : dgN d = 1 := if_pos h
section
variable {B : Nat → Nat} {l : Nat}
theorem fog_ok : ∀ (ds : List Nat) (p : Nat), (∀ d ∈ ds, d < 10) → (∀ j, B (p + j) = (FL ds ++ [59]).getD j 32) → p + 2 * ds.length < l → ∃ qs, qs.length = ds.length ∧ FOGB B l qs p = true ∧ lastP qs p = p + 2 * ds.length
  | [], p, _, hB, hl => ⟨[], rfl, decide_eq_true (semi_at (hB 0) (by simpa using hl)).1, rfl⟩
  | d :: r, p, hd, hB, hl => by
    have h10 := hd d List.mem_cons_self
    have hl2 : p + 2 * (r.length + 1) < l := hl
    rw [FL_c h10] at hB
    have b0 : B p = 32 := hB 0
    have b1 : B (p + 1) = 48 + d := hB 1
    have bR : ∀ j, B (p + 2 + j) = (FL r ++ [59]).getD j 32 := fun j => by
      rw [show p + 2 + j = p + (j + 2) by omega]
      exact hB (j + 2)
    have b2 : isD (B (p + 2)) = false := by
      have := bR 0
      rw [Nat.add_zero] at this
      rw [this]
      cases r with
      | nil => rfl
      | cons d2 r2 =>
        rw [FL_c (hd d2 (by simp))]
        rfl
    obtain ⟨t1, t2, t3⟩ := num_sp (B := B) (l := l) (p := p) (x := d) (by omega) b0 (fun j hj => by
      rw [dgN1 h10] at hj
      obtain rfl : j = 0 := by omega
      rw [Nat.add_zero, b1]
      unfold DL
      rw [if_pos h10]
      rfl) (by rw [dgN1 h10]; exact b2) (by rw [dgN1 h10]; omega)
    rw [dgN1 h10] at t2
    obtain ⟨qs, q1, q2, q3⟩ := fog_ok r (p + 2) (fun z hz => hd z (List.mem_cons_of_mem _ hz)) bR (by omega)
    refine ⟨(p + 2) :: qs, by simp [q1], ?_, ?_⟩
    · show (decide (tK B l p = 1) && (decide (tkV B l p < 10) && (decide (tE B l p = p + 2) && FOGB B l qs (p + 2)))) = true
      rw [decide_eq_true t1, decide_eq_true (by omega), decide_eq_true t2, q2]
      rfl
    · show lastP qs (p + 2) = p + 2 * (r.length + 1)
      rw [q3]
      omega
end
theorem TXT_e (D1 D2 D3 : Nat) (ds : List Nat) : TXT D1 D2 D3 ds = SL 10 ++ (DL D1 ++ (SL 11 ++ (DL D2 ++ (SL 11 ++ (DL D3 ++ (SL 12 ++ (FL ds ++ [59]))))))) := by
  unfold TXT MKH FL
  rw [SL_v.2.2.2]
  simp only [List.append_assoc]
theorem TXT_len {D1 D2 D3 : Nat} {ds : List Nat} (hd : ∀ d ∈ ds, d < 10) : (TXT D1 D2 D3 ds).length = 7 + dgN D1 + 1 + dgN D2 + 1 + dgN D3 + 4 + 2 * ds.length + 1 := by
  have a := SL_len
  have e : (FL ds).length = 2 * ds.length := flat_len ds hd
  rw [TXT_e]
  simp only [List.length_append, DL_len, e, List.length_cons, List.length_nil]
  omega
theorem dgN_b (x : Nat) : 1 ≤ dgN x ∧ dgN x ≤ 2 := by
  unfold dgN
  split <;> omega
theorem text_loads {D1 D2 D3 : Nat} {ds : List Nat} (h1 : 1 ≤ D1 ∧ D1 ≤ 9) (h2 : 1 ≤ D2 ∧ D2 ≤ 40) (h3 : D3 < 100) (k1 : 1 ≤ ds.length) (k2 : ds.length ≤ 12) (hd : ∀ d ∈ ds, d < 10) {l : Nat} (hl : (TXT D1 D2 D3 ds).length ≤ l) {M : xM} (ct : CT l (fun j => (TXT D1 D2 D3 ds).getD j 32) M) : ∃ M2, f_X6_loadSetup M = some (0, M2) ∧ PQ 0 0 M2 := by
  have la := SL_len
  have e := TXT_e D1 D2 D3 ds
  have hlen := TXT_len (D1 := D1) (D2 := D2) (D3 := D3) hd
  generalize hBB : (fun j => (TXT D1 D2 D3 ds).getD j 32) = B at ct
  have hB : ∀ j, B j = (TXT D1 D2 D3 ds).getD j 32 := fun j => by rw [← hBB]
  generalize TXT D1 D2 D3 ds = T at hB e hlen hl
  have n1 := dgN_b D1
  have n2 := dgN_b D2
  have n3 := dgN_b D3
  have l1 := DL_len D1
  have l2 := DL_len D2
  have l3 := DL_len D3
  have f1 : ∀ j, j < 7 → B j = (SL 10).getD j 32 := fun j hj => by
    rw [hB, e, gL (by omega)]
  have f2 : ∀ j, j < dgN D1 → B (6 + 1 + j) = (DL D1).getD j 32 := fun j hj => by
    rw [hB, e, show 6 + 1 + j = (SL 10).length + j by omega, gA, gL (by omega)]
  have f3 : B (6 + 1 + dgN D1) = 32 := by
    rw [hB, e, show 6 + 1 + dgN D1 = (SL 10).length + ((DL D1).length + 0) by omega, gA, gA, gL (by omega), SL_v.2.1]
    rfl
  have f4 : ∀ j, j < dgN D2 → B (6 + 1 + dgN D1 + 1 + j) = (DL D2).getD j 32 := fun j hj => by
    rw [hB, e, show 6 + 1 + dgN D1 + 1 + j = (SL 10).length + ((DL D1).length + ((SL 11).length + j)) by omega, gA, gA, gA, gL (by omega)]
  have f5 : B (6 + 1 + dgN D1 + 1 + dgN D2) = 32 := by
    rw [hB, e, show 6 + 1 + dgN D1 + 1 + dgN D2 = (SL 10).length + ((DL D1).length + ((SL 11).length + ((DL D2).length + 0))) by omega, gA, gA, gA, gA, gL (by omega), SL_v.2.1]
    rfl
  have f6 : ∀ j, j < dgN D3 → B (6 + 1 + dgN D1 + 1 + dgN D2 + 1 + j) = (DL D3).getD j 32 := fun j hj => by
    rw [hB, e, show 6 + 1 + dgN D1 + 1 + dgN D2 + 1 + j = (SL 10).length + ((DL D1).length + ((SL 11).length + ((DL D2).length + ((SL 11).length + j)))) by omega, gA, gA, gA, gA, gA, gL (by omega)]
  have f7 : ∀ j, j < 4 → B (6 + 1 + dgN D1 + 1 + dgN D2 + 1 + dgN D3 + j) = (SL 12).getD j 32 := fun j hj => by
    rw [hB, e, show 6 + 1 + dgN D1 + 1 + dgN D2 + 1 + dgN D3 + j = (SL 10).length + ((DL D1).length + ((SL 11).length + ((DL D2).length + ((SL 11).length + ((DL D3).length + j))))) by omega, gA, gA, gA, gA, gA, gA, gL (by omega)]
  have f8 : ∀ j, B (6 + 1 + dgN D1 + 1 + dgN D2 + 1 + dgN D3 + 1 + 3 + j) = (FL ds ++ [59]).getD j 32 := fun j => by
    rw [hB, e, show 6 + 1 + dgN D1 + 1 + dgN D2 + 1 + dgN D3 + 1 + 3 + j = (SL 10).length + ((DL D1).length + ((SL 11).length + ((DL D2).length + ((SL 11).length + ((DL D3).length + ((SL 12).length + j)))))) by omega, gA, gA, gA, gA, gA, gA, gA]
  have f9 : ∀ j, T.length ≤ j → B j = 32 := fun j hj => by
    rw [hB, List.getD_eq_getElem?_getD, List.getElem?_eq_none hj]
    rfl
  rw [SL_v.1] at f1
  rw [SL_v.2.2.1] at f7
  have x1 : (x_byt 1).length = 6 := rfl
  have x2 : (x_byt 2).length = 3 := rfl
  have c6 : B 6 = 32 := f1 6 (by decide)
  obtain ⟨w1, w2⟩ := wrd_at (B := B) (l := l) (p := 0) (a := 1) (by decide) (fun j hj => by
    rw [Nat.zero_add, f1 j (by omega)]
    rcases (show j = 0 ∨ j = 1 ∨ j = 2 ∨ j = 3 ∨ j = 4 ∨ j = 5 by omega) with rfl | rfl | rfl | rfl | rfl | rfl
    all_goals exact ⟨rfl, rfl⟩) (by rw [x1, Nat.zero_add, c6]; rfl) (by omega)
  rw [x1, Nat.zero_add] at w2
  obtain ⟨a1, a2, a3⟩ := num_sp (B := B) (l := l) (p := 6) (x := D1) (by omega) c6 f2 (by rw [f3]; rfl) (by omega)
  obtain ⟨b1, b2, b3⟩ := num_sp (B := B) (l := l) (p := 6 + 1 + dgN D1) (x := D2) (by omega) f3 f4 (by rw [f5]; rfl) (by omega)
  obtain ⟨d1, d2, d3⟩ := num_sp (B := B) (l := l) (p := 6 + 1 + dgN D1 + 1 + dgN D2) (x := D3) h3 f5 f6 (by
    have := f7 0 (by decide)
    rw [Nat.add_zero] at this
    rw [this]
    rfl) (by omega)
  obtain ⟨s1, s2⟩ := semi_at (B := B) (l := l) (p := 6 + 1 + dgN D1 + 1 + dgN D2 + 1 + dgN D3) (f7 0 (by decide)) (by omega)
  obtain ⟨v1, v2⟩ := wrd_at (B := B) (l := l) (p := 6 + 1 + dgN D1 + 1 + dgN D2 + 1 + dgN D3 + 1) (a := 2) (by decide) (fun j hj => by
    rw [show 6 + 1 + dgN D1 + 1 + dgN D2 + 1 + dgN D3 + 1 + j = 6 + 1 + dgN D1 + 1 + dgN D2 + 1 + dgN D3 + (j + 1) by omega, f7 (j + 1) (by omega)]
    rcases (show j = 0 ∨ j = 1 ∨ j = 2 by omega) with rfl | rfl | rfl
    all_goals exact ⟨rfl, rfl⟩) (by
    rw [x2]
    have := f8 0
    rw [Nat.add_zero] at this
    rw [this]
    cases ds with
    | nil => rfl
    | cons d r =>
      rw [FL_c (hd d List.mem_cons_self)]
      rfl) (by omega)
  rw [x2] at v2
  obtain ⟨qs, q1, q2, q3⟩ := fog_ok (B := B) (l := l) ds (6 + 1 + dgN D1 + 1 + dgN D2 + 1 + dgN D3 + 1 + 3) hd f8 (by omega)
  have hend : B (6 + 1 + dgN D1 + 1 + dgN D2 + 1 + dgN D3 + 1 + 3 + 2 * ds.length) = 59 := by
    have el : (FL ds).length = 2 * ds.length := flat_len ds hd
    rw [f8, show 2 * ds.length = (FL ds).length + 0 by omega, gA]
    rfl
  obtain ⟨z1, z2⟩ := semi_at (B := B) (l := l) hend (by omega)
  have hpath : ∀ C, CS l B C 0 → ∃ M', PATH C = some (1, M') ∧ ∃ ns nb mm, MM mm ns nb ds.length (win 128 M') (win 128 M') ∧ (mm = 0 ∧ ns = 0 ∧ nb = 0) := by
    intro C hC
    have hh := k_head w1 w2 a1 (by omega) (by omega) a2 b1 (by omega) (by omega) b2 d1 (by omega) d2 s1 s2 v1 v2 q2 (by omega) (by omega) hC
    rw [q3, z2, q1] at hh
    obtain ⟨M', ns, nb, mm, y1, y2, y3⟩ := k_path2 (qf := qs) (qc := []) (by rw [q1]; exact hh) (decide_eq_true (tK_end (by omega) (fun j hj _ => f9 j (by omega)))) (by decide)
    rw [q1] at y2
    exact ⟨M', y1, ns, nb, mm, y2, y3 rfl⟩
  obtain ⟨M1, r1, r2, r3, r4, ns, nb, mm, r5, rfl, rfl, rfl⟩ := k_repl (G := fun mm ns nb => mm = 0 ∧ ns = 0 ∧ nb = 0) ct hpath
  rw [win0] at r5
  refine ⟨M1, ?_, ds.length, r5.mono (by decide), ⟨0, 0, by decide, by decide, r3, r4⟩, fun s hs => absurd hs (Nat.not_lt_zero s), fun s hs => absurd hs (Nat.not_lt_zero s)⟩
  unfold f_X6_loadSetup
  rw [bd2_s r1, if_neg (show ¬ (1 : Int32) = 0 by decide), r5.1.s.1]
  rfl
