/-! the model reads all arguments of a command -/
def AO (l : Nat) (B : Nat → Nat) (n : Nat) (R : Nat × Nat × (Nat → Nat)) (N : xM) (o : Option (Int32 × xM)) : Prop :=
  (R.1 = 0 ∧ ∃ N', o = some (1, N') ∧ KM N N' ∧ NXt l B N' R.2.1 ∧ (∀ j, j < n → N' (4147 + j) = nI (R.2.2 j)) ∧ N' 2502 = N 2502 ∧ N' 2503 = N 2503) ∨
  (R.1 ≠ 0 ∧ ∃ N', o = some (0, N') ∧ KM N N' ∧ N' 2502 = nI R.1 ∧ N' 2503 = nI R.2.1)
/-- text and market, on the model's side -/
def XX (l : Nat) (B : Nat → Nat) (ns nb nf : Nat) (u N : xM) : Prop := MT l B N ∧ (∃ mm, MV mm ns nb nf (win 2520 N)) ∧ Sim ns nb nf u (win 2520 N)
section
variable {l : Nat} {B : Nat → Nat} {N : xM} {ns nb nf verb p : Nat} {u : xM}
theorem win_KM {N' : xM} (k : KM N N') {z : Nat} (hz : z < 125) : win 2520 N' z = win 2520 N z := k _ (by unfold rm; omega)
theorem XX.km {N' : xM} (h : XX l B ns nb nf u N) (k : KM N N') : XX l B ns nb nf u N' := by
  obtain ⟨a, ⟨mm, b⟩, c⟩ := h
  have hS : Sim ns nb nf (win 2520 N) (win 2520 N') := fun z hz => (win_KM k (Lv_lt b.s.2 b.b.2 b.f.2.2 hz)).symm
  exact ⟨a.km k, ⟨mm, hS.MV b⟩, c.trans hS⟩
theorem PRef_no {i a0 V : Nat} (h4 : verb ≠ 4 ∨ i ≠ 1) (h8 : verb ≠ 8) : PRef u verb i a0 V = false := by
  unfold PRef
  rw [decide_eq_false (show ¬ (verb = 4 ∧ i = 1) by omega), decide_eq_false h8, Bool.false_and, Bool.false_and]
  rfl
theorem m_step {n c i : Nat} {ks : List Nat} {a : Nat → Nat} {o : Option (Int32 × xM)} {g : xM → Option (Int32 × xM)} (hi : i < 5) (hpl : p ≤ l) (hf : MOut l B i (PArg B l ns nb nf u verb i (a 0) c p) N o) (hX : XX l B ns nb nf u N) (hA : ∀ j, j < i → N (4147 + j) = nI (a j))
    (hg : ∀ N' x p2, (PArg B l ns nb nf u verb i (a 0) c p).1 = 0 → (PArg B l ns nb nf u verb i (a 0) c p).2.1 = x → p2 ≤ l → XX l B ns nb nf u N' → NXt l B N' p2 → (∀ j, j < i + 1 → N' (4147 + j) = nI (setf a i x j)) → AO l B n (PArgs B l ns nb nf u verb ks (i + 1) (setf a i x) p2) N' (g N')) :
    AO l B n (PArgs B l ns nb nf u verb (c :: ks) i a p) N (bd2 o (fun r M => if r = 0 then some (0, M) else g M)) := by
  rw [PArgs_c]
  rcases hf with ⟨q, N', r1, r2, r3, r4, r5, r6, r7⟩ | ⟨q, N', r1, r2, r3, r4⟩
  · have hok := PArg_ok q
    have hp2 : (PArg B l ns nb nf u verb i (a 0) c p).2.2 ≤ l := by rw [hok.2.2]; exact (tE_b hpl).2
    rw [if_pos q, r1]
    simp only [bd2, i10, ↓reduceIte]
    have hA2 : ∀ j, j < i + 1 → N' (4147 + j) = nI (setf a i (PArg B l ns nb nf u verb i (a 0) c p).2.1 j) := fun j hj => by
      unfold setf
      by_cases y : j = i
      · rw [if_pos y, y]; exact r4
      · rw [if_neg y, r5 j (by omega) y]; exact hA j (by omega)
    rcases hg N' _ _ q rfl hp2 (hX.km r2) r3 hA2 with ⟨w, N2, t1, t2, t3, t4, t5, t6⟩ | ⟨w, N2, t1, t2, t3, t4⟩
    · exact Or.inl ⟨w, N2, t1, r2.tr t2, t3, t4, t5.trans r6, t6.trans r7⟩
    · exact Or.inr ⟨w, N2, t1, r2.tr t2, t3, t4⟩
  · rw [if_neg q, r1]
    simp only [bd2, ↓reduceIte]
    exact Or.inr ⟨q, N', rfl, r2, r3, r4⟩
theorem m_fin {n : Nat} {a : Nat → Nat} (hx : NXt l B N p) (hA : ∀ j, j < n → N (4147 + j) = nI (a j)) : AO l B n (PArgs B l ns nb nf u verb [] n a p) N (some (1, N)) :=
  Or.inl ⟨rfl, N, rfl, KM.rfl', hx, hA, rfl, rfl⟩
theorem isb_g {o : Option (Int32 × xM)} (h : ∀ r M, o = some (r, M) → r = 0 ∨ r = 1) : bd2 o (fun r M => gd (isb r) (some (r, M))) = bd2 o (fun r M => if r = 0 then some (0, M) else some (1, M)) := by
  rcases o with _ | ⟨r, M⟩
  · rfl
  · rcases h r M rfl with rfl | rfl
    · rfl
    · rfl
theorem MOut.b {i : Nat} {r : Nat × Nat × Nat} {o : Option (Int32 × xM)} (h : MOut l B i r N o) : ∀ r M, o = some (r, M) → r = 0 ∨ r = 1 := by
  intro r M e
  rcases h with ⟨-, N', q, -⟩ | ⟨-, N', q, -⟩
  · rw [q] at e; cases e; exact Or.inr rfl
  · rw [q] at e; cases e; exact Or.inl rfl
theorem h99 : ∀ v, v ≤ 99999 → ((nI v ≤ (99 : Int32)) = (v < 100)) := fun v hv => hi_c (h := 99) rfl (by omega) (by omega)
theorem h999 : ∀ v, v ≤ 99999 → ((nI v ≤ (999 : Int32)) = (v < 1000)) := fun v hv => hi_c (h := 999) rfl (by omega) (by omega)
theorem h9999 : ∀ v, v ≤ 99999 → ((nI v ≤ (9999 : Int32)) = (v < 10000)) := fun v hv => hi_c (h := 9999) rfl (by omega) (by omega)
theorem h20 : ∀ v, v ≤ 99999 → ((nI v ≤ (20 : Int32)) = (v < 21)) := fun v hv => hi_c (h := 20) rfl (by omega) (by omega)
theorem h9i : ∀ v, v ≤ 99999 → ((nI v ≤ (9 : Int32)) = (v < 10)) := fun v hv => hi_c (h := 9) rfl (by omega) (by omega)
theorem h100 : ∀ v, v ≤ 99999 → ((nI v ≤ (100 : Int32)) = (v < 101)) := fun v hv => hi_c (h := 100) rfl (by omega) (by omega)
theorem h60 : ∀ v, v ≤ 99999 → ((nI v ≤ (60 : Int32)) = (v < 61)) := fun v hv => hi_c (h := 60) rfl (by omega) (by omega)
/-- an index of a stall -/
theorem m_stIx {i a0 : Nat} (hi : i < 5) (hX : XX l B ns nb nf u N) (hx : NXt l B N p) (hpl : p ≤ l) (h4 : verb ≠ 4 ∨ i ≠ 1) (h8 : verb ≠ 8) : MOut l B i (PArg B l ns nb nf u verb i a0 115 p) N (f_X7_into (nI i) 0 ((N 2529) - 1) N) := by
  obtain ⟨a, ⟨mm, b⟩, c⟩ := hX
  have hs := b.s.2
  have e : N 2529 = nI ns := b.s.1
  rw [e]
  exact m_into (c := 115) (lo := 0) hi a hx hpl (by unfold kN; omega) rfl (fun v hv => hi_m (by omega) (by omega)) (show ns ≤ 10000 by omega) (fun V => PRef_no h4 h8)
theorem m_fgIx {i a0 : Nat} (hi : i < 5) (hX : XX l B ns nb nf u N) (hx : NXt l B N p) (hpl : p ≤ l) (h4 : verb ≠ 4 ∨ i ≠ 1) (h8 : verb ≠ 8) : MOut l B i (PArg B l ns nb nf u verb i a0 105 p) N (f_X7_into (nI i) 0 ((N 2528) - 1) N) := by
  obtain ⟨a, ⟨mm, b⟩, c⟩ := hX
  have hs := b.f.2
  have e : N 2528 = nI nf := b.f.1
  rw [e]
  exact m_into (c := 105) (lo := 0) hi a hx hpl (by unfold kN; omega) rfl (fun v hv => hi_m (by omega) (by omega)) (show nf ≤ 10000 by omega) (fun V => PRef_no h4 h8)
theorem m_args (hX : XX l B ns nb nf u N) (hx : NXt l B N p) (hpl : p ≤ l) (h1 : 1 ≤ verb) (h9 : verb ≤ 9) : AO l B (kinds verb).length (PArgs B l ns nb nf u verb (kinds verb) 0 zf p) N (f_X7_argumentsText (nI (mi verb)) N) := by
  have z0 : ∀ j, j < 0 → N (4147 + j) = nI (zf j) := fun j hj => absurd hj (Nat.not_lt_zero j)
  unfold f_X7_argumentsText
  rcases v9 h1 h9 with rfl | rfl | rfl | rfl | rfl | rfl | rfl | rfl | rfl
  · rw [if_pos (by decide)]
    refine m_step (c := 112) (i := 0) (by omega) hpl (m_into (c := 112) (i := 0) (lo := 0) (by omega) hX.1 hx hpl (by unfold kN; omega) rfl h99 (show 100 ≤ 10000 by omega) (fun V => PRef_no (Or.inl (by omega)) (by omega))) hX z0 (fun N1 x1 p1 _ _ l1 X1 n1 A1 => ?_)
    refine m_step (c := 108) (i := 1) (by omega) l1 (m_lanI (i := 1) (by omega) X1.1 n1 l1) X1 A1 (fun N2 x2 p2 _ _ l2 X2 n2 A2 => ?_)
    refine m_step (c := 116) (i := 2) (by omega) l2 (m_texI (i := 2) (by omega) X2.1 n2 l2) X2 A2 (fun N3 x3 p3 _ _ l3 X3 n3 A3 => ?_)
    refine m_step (c := 99) (i := 3) (by omega) l3 (m_into (c := 99) (i := 3) (lo := 1) (by omega) X3.1 n3 l3 (by unfold kN; omega) rfl h999 (show 1000 ≤ 10000 by omega) (fun V => PRef_no (Or.inl (by omega)) (by omega))) X3 A3 (fun N4 x4 p4 _ _ l4 X4 n4 A4 => ?_)
    refine m_step (c := 103) (i := 4) (by omega) l4 (m_into (c := 103) (i := 4) (lo := 0) (by omega) X4.1 n4 l4 (by unfold kN; omega) rfl h99 (show 100 ≤ 10000 by omega) (fun V => PRef_no (Or.inl (by omega)) (by omega))) X4 A4 (fun N5 x5 p5 _ _ l5 X5 n5 A5 => ?_)
    exact m_fin n5 A5
  · rw [if_neg (by decide), if_pos (by decide)]
    refine m_step (c := 112) (i := 0) (by omega) hpl (m_into (c := 112) (i := 0) (lo := 0) (by omega) hX.1 hx hpl (by unfold kN; omega) rfl h99 (show 100 ≤ 10000 by omega) (fun V => PRef_no (Or.inl (by omega)) (by omega))) hX z0 (fun N1 x1 p1 _ _ l1 X1 n1 A1 => ?_)
    refine m_step (c := 109) (i := 1) (by omega) l1 (m_into (c := 109) (i := 1) (lo := 0) (by omega) X1.1 n1 l1 (by unfold kN; omega) rfl h9999 (show 10000 ≤ 10000 by omega) (fun V => PRef_no (Or.inl (by omega)) (by omega))) X1 A1 (fun N2 x2 p2 _ _ l2 X2 n2 A2 => ?_)
    refine m_step (c := 116) (i := 2) (by omega) l2 (m_texI (i := 2) (by omega) X2.1 n2 l2) X2 A2 (fun N3 x3 p3 _ _ l3 X3 n3 A3 => ?_)
    refine m_step (c := 118) (i := 3) (by omega) l3 (m_into (c := 118) (i := 3) (lo := 1) (by omega) X3.1 n3 l3 (by unfold kN; omega) rfl h20 (show 21 ≤ 10000 by omega) (fun V => PRef_no (Or.inl (by omega)) (by omega))) X3 A3 (fun N4 x4 p4 _ _ l4 X4 n4 A4 => ?_)
    exact m_fin n4 A4
  · rw [if_neg (by decide), if_neg (by decide), if_pos (by decide)]
    refine m_step (c := 115) (i := 0) (by omega) hpl (m_stIx (i := 0) (by omega) hX hx hpl (Or.inl (by omega)) (by omega)) hX z0 (fun N1 x1 p1 _ _ l1 X1 n1 A1 => ?_)
    refine m_step (c := 99) (i := 1) (by omega) l1 (m_into (c := 99) (i := 1) (lo := 1) (by omega) X1.1 n1 l1 (by unfold kN; omega) rfl h999 (show 1000 ≤ 10000 by omega) (fun V => PRef_no (Or.inl (by omega)) (by omega))) X1 A1 (fun N2 x2 p2 _ _ l2 X2 n2 A2 => ?_)
    exact m_fin n2 A2
  · rw [if_neg (by decide), if_neg (by decide), if_neg (by decide), if_pos (by decide)]
    unfold f_X7_argumentsText_c308
    refine m_step (c := 115) (i := 0) (by omega) hpl (m_stIx (i := 0) (by omega) hX hx hpl (Or.inr (by omega)) (by omega)) hX z0 (fun N1 x1 p1 q1 e1 l1 X1 n1 A1 => ?_)
    have k1 : x1 < ns := by
      have := (PArg_ok q1).1
      rw [e1] at this
      have h2 : 0 ≤ x1 ∧ x1 < ns := this
      exact h2.2
    obtain ⟨y1, ⟨mm, y2⟩, y3⟩ := X1
    refine m_step (c := 103) (i := 1) (by omega) l1 (m_stockI (a0 := x1) y1 n1 l1 y2 (A1 0 (by omega)) k1 y3) ⟨y1, ⟨mm, y2⟩, y3⟩ A1 (fun N2 x2 p2 _ _ l2 X2 n2 A2 => ?_)
    exact m_fin n2 A2
  · rw [if_neg (by decide), if_neg (by decide), if_neg (by decide), if_neg (by decide), if_pos (by decide)]
    refine m_step (c := 115) (i := 0) (by omega) hpl (m_stIx (i := 0) (by omega) hX hx hpl (Or.inl (by omega)) (by omega)) hX z0 (fun N1 x1 p1 _ _ l1 X1 n1 A1 => ?_)
    refine m_step (c := 108) (i := 1) (by omega) l1 (m_lanI (i := 1) (by omega) X1.1 n1 l1) X1 A1 (fun N2 x2 p2 _ _ l2 X2 n2 A2 => ?_)
    exact m_fin n2 A2
  · rw [if_neg (by decide), if_neg (by decide), if_neg (by decide), if_neg (by decide), if_neg (by decide), if_neg (by decide), if_pos (by decide)]
    refine m_step (c := 115) (i := 0) (by omega) hpl (m_stIx (i := 0) (by omega) hX hx hpl (Or.inl (by omega)) (by omega)) hX z0 (fun N1 x1 p1 _ _ l1 X1 n1 A1 => ?_)
    refine m_step (c := 112) (i := 1) (by omega) l1 (m_into (c := 112) (i := 1) (lo := 0) (by omega) X1.1 n1 l1 (by unfold kN; omega) rfl h99 (show 100 ≤ 10000 by omega) (fun V => PRef_no (Or.inl (by omega)) (by omega))) X1 A1 (fun N2 x2 p2 _ _ l2 X2 n2 A2 => ?_)
    exact m_fin n2 A2
  · rw [if_neg (by decide), if_neg (by decide), if_neg (by decide), if_neg (by decide), if_neg (by decide), if_neg (by decide), if_neg (by decide), if_pos (by decide)]
    refine m_step (c := 105) (i := 0) (by omega) hpl (m_fgIx (i := 0) (by omega) hX hx hpl (Or.inl (by omega)) (by omega)) hX z0 (fun N1 x1 p1 _ _ l1 X1 n1 A1 => ?_)
    refine m_step (c := 100) (i := 1) (by omega) l1 (m_into (c := 100) (i := 1) (lo := 0) (by omega) X1.1 n1 l1 (by unfold kN; omega) rfl h9i (show 10 ≤ 10000 by omega) (fun V => PRef_no (Or.inl (by omega)) (by omega))) X1 A1 (fun N2 x2 p2 _ _ l2 X2 n2 A2 => ?_)
    exact m_fin n2 A2
  · rw [if_neg (by decide), if_neg (by decide), if_neg (by decide), if_neg (by decide), if_neg (by decide), if_neg (by decide), if_neg (by decide), if_neg (by decide), if_pos (by decide)]
    obtain ⟨y1, ⟨mm, y2⟩, y3⟩ := hX
    have hh := m_holdI (a0 := zf 0) y1 hx hpl y2 y3
    rw [isb_g hh.b]
    refine m_step (c := 98) (i := 0) (by omega) hpl hh ⟨y1, ⟨mm, y2⟩, y3⟩ z0 (fun N1 x1 p1 _ _ l1 X1 n1 A1 => ?_)
    exact m_fin n1 A1
  · rw [if_neg (by decide), if_neg (by decide), if_neg (by decide), if_neg (by decide), if_neg (by decide), if_pos (by decide)]
    have hh := m_into (ns := ns) (nb := nb) (nf := nf) (u := u) (verb := 9) (a0 := zf 0) (hi' := 100) (c := 110) (i := 0) (lo := 1) (by omega) hX.1 hx hpl (by unfold kN; omega) rfl h100 (show 101 ≤ 10000 by omega) (fun V => PRef_no (Or.inl (by omega)) (by omega))
    rw [show f_X7_into 0 1 100 N = f_X7_into (nI 0) (nI 1) 100 N from rfl, isb_g hh.b]
    refine m_step (c := 110) (i := 0) (by omega) hpl hh hX z0 (fun N1 x1 p1 _ _ l1 X1 n1 A1 => ?_)
    exact m_fin n1 A1
end
