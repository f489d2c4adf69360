/-! a setup's head, whole -/
section
variable {l : Nat} {B : Nat → Nat} {M N : xM} {p : Nat}
theorem Er.bd {M0 N0 : xM} {o1 o2 : Option (Int32 × xM)} {g1 g2 : xM → Option (Int32 × xM)} (h : Er M N o1 o2) (k1 : KW M0 M) (k2 : KX N0 N) : Er2 M0 N0 (bd2 o1 (fun r M => if r = 0 then some (0, M) else g1 M)) (bd2 o2 (fun r M => if r = 0 then some (0, M) else g2 M)) := by
  obtain ⟨M', N', a, b, c, d, e⟩ := h
  refine ⟨M', N', by rw [a]; rfl, by rw [b]; rfl, k1.tr c.d.w, k2.tr d.x, e⟩
theorem bdS {o : Option (Int32 × xM)} {M' : xM} {g : xM → Option (Int32 × xM)} (h : o = some (1, M')) : bd2 o (fun r M => if r = 0 then some (0, M) else g M) = g M' := by
  rw [h]
  rfl
theorem w9 : ∀ v, v < 1000000 → ((nI v ≤ (9 : Int32)) = (v < 10)) := fun v hv => hi_c (h := 9) rfl (by omega) hv
theorem w60 : ∀ v, v < 1000000 → ((nI v ≤ (60 : Int32)) = (v < 61)) := fun v hv => hi_c (h := 60) rfl (by omega) hv
theorem w99 : ∀ v, v < 1000000 → ((nI v ≤ (99 : Int32)) = (v < 100)) := fun v hv => hi_c (h := 99) rfl (by omega) hv
theorem s_head (h : JS l B M N p) (hz : ∀ z, z < 125 → N (2520 + z) = 0) : Er2 M N (f_X3_readHead 128 M) (f_X7_setupText N) ∨ ∃ M' N' p' nf, f_X3_readHead 128 M = some (1, M') ∧ f_X7_setupText N = bd2 (f_X7_commandsText N') (fun r31 M30 => (if r31 < 0 then (some (0, M30)) else (some (1, M30)))) ∧ KW M M' ∧ KX N N' ∧ JS l B M' N' p' ∧ MM 0 0 0 nf (win 128 M') (win 2520 N') := by
  have kw0 : KW M M := fun _ _ => rfl
  have kx0 : KX N N := fun _ _ => rfl
  unfold f_X3_readHead f_X7_setupText
  rcases s_word (a := 1) (a' := 21) (by omega) (by omega) rfl h with e | ⟨M1, N1, c1, m1, r1, q1, J1, A1⟩
  · exact Or.inl (e.bd kw0 kx0)
  rw [bdS c1, bdS m1]
  have kw1 := kw0.tr r1.d.w
  have kx1 := kx0.tr q1.x
  rcases s_num (i := 0) (lo := 1) (hi := 10) (hi' := 9) (by omega) (by omega) (by omega) w9 J1 with e | ⟨a1, a2, M2, N2, c2, m2, r2, q2, J2, V2, W2, A2⟩
  · exact Or.inl (e.bd kw1 kx1)
  rw [bdS (show f_X3_readNumber 1 9 M1 = _ from c2), bdS (show f_X7_into 0 1 9 N1 = _ from m2)]
  have kw2 := kw1.tr r2.d.w
  have kx2 := kx1.tr q2.x
  generalize tkV B l (tE B l p) = a at a1 a2 V2 W2
  rcases s_num (i := 1) (lo := 1) (hi := 61) (hi' := 60) (by omega) (by omega) (by omega) w60 J2 with e | ⟨b1, b2, M3, N3, c3, m3, r3, q3, J3, V3, W3, A3⟩
  · exact Or.inl (e.bd kw2 kx2)
  rw [bdS (show f_X3_readNumber 1 60 M2 = _ from c3), bdS (show f_X7_into 1 1 60 N2 = _ from m3)]
  have kw3 := kw2.tr r3.d.w
  have kx3 := kx2.tr q3.x
  generalize tkV B l (tE B l (tE B l p)) = b at b1 b2 V3 W3
  rcases s_num (i := 2) (lo := 0) (hi := 100) (hi' := 99) (by omega) (by omega) (by omega) w99 J3 with e | ⟨-, d2, M4, N4, c4, m4, r4, q4, J4, V4, W4, A4⟩
  · exact Or.inl (e.bd kw3 kx3)
  rw [bdS (show f_X3_readNumber 0 99 M3 = _ from c4), bdS (show f_X7_into 2 0 99 N3 = _ from m4)]
  have kw4 := kw3.tr r4.d.w
  have kx4 := kx3.tr q4.x
  generalize tkV B l (tE B l (tE B l (tE B l p))) = c at d2 V4 W4
  rw [V2, V3, V4]
  obtain ⟨M5, e5⟩ : ∃ M5, f_X2_reset 128 (nI a) (nI b) (nI c) M4 = some M5 ∧ (∀ z, (z < 128 ∨ 139 ≤ z) → M5 z = M4 z) ∧ HS 0 a b c zf (win 128 M5) := by
    refine ⟨_, rfl, fun z hz => ?_, ?_⟩
    · simp (disch := omega) only [un]
    · unfold HS win
      refine ⟨?_, ?_, ?_, ?_, ?_, ?_, ?_, ?_, ?_, ?_, ?_, fun i hi => absurd hi (Nat.not_lt_zero i)⟩
      all_goals simp (disch := omega) only [un, us]
      rfl
  obtain ⟨e5, k5, H5⟩ := e5
  rw [bd_s e5]
  have J5 : JS l B M5 N4 (tE B l (tE B l (tE B l (tE B l p)))) := J4.up (fun z hz => k5 z (by omega)) (fun _ _ => rfl)
  have kw5 : KW M M5 := kw4.tr (fun z hz => k5 z (by omega))
  rcases s_semi J5 with e | ⟨M6, N6, c6, m6, r6, q6, J6, A6⟩
  · exact Or.inl (e.bd kw5 kx4)
  rw [bdS c6, bdS m6]
  have kw6 := kw5.tr r6.d.w
  have kx6 := kx4.tr q6.x
  have y0 : N6 4147 = nI a := by
    have x1 := A6 0 (by omega)
    have x2 := A4 0 (by omega) (by omega)
    have x3 := A3 0 (by omega) (by omega)
    exact x1.trans (x2.trans (x3.trans W2))
  have y1 : N6 4148 = nI b := by
    have x1 := A6 1 (by omega)
    have x2 := A4 1 (by omega) (by omega)
    exact x1.trans (x2.trans W3)
  have y2 : N6 4149 = nI c := (A6 2 (by omega)).trans W4
  have q06 : KM N N6 := ((((q1.tr q2).tr q3).tr q4).tr q6)
  rw [un (show 4148 ≠ 2525 by omega), un (show 4149 ≠ 2526 by omega), un (show 4149 ≠ 2525 by omega), y0, y1, y2]
  have J7 : JS l B M6 (upd (upd (upd (upd N6 2525 (nI a)) 2526 (nI b)) 2527 (nI c)) 2522 1) (tE B l (tE B l (tE B l (tE B l (tE B l p))))) := J6.up (fun _ _ => rfl) (fun z hz => by rw [un (by omega), un (by omega), un (by omega), un (by omega)])
  have kx7 : KX N (upd (upd (upd (upd N6 2525 (nI a)) 2526 (nI b)) 2527 (nI c)) 2522 1) := kx6.tr (fun z hz => by rw [un (by omega), un (by omega), un (by omega), un (by omega)])
  have zz : ∀ z, z < 125 → N6 (2520 + z) = 0 := fun z hz' => by rw [q06 _ (by unfold rm; omega), hz z hz']
  have H7 : HS 0 a b c zf (win 2520 (upd (upd (upd (upd N6 2525 (nI a)) 2526 (nI b)) 2527 (nI c)) 2522 1)) := by
    unfold HS win
    refine ⟨?_, ?_, ?_, ?_, ?_, ?_, ?_, ?_, ?_, ?_, ?_, fun i hi => absurd hi (Nat.not_lt_zero i)⟩
    all_goals simp (disch := omega) only [un, us, zz]
    rfl
  have H6 : HS 0 a b c zf (win 128 M6) := HS_cong H5 (by omega) (fun z hz => win_KR r6 hz)
  generalize upd (upd (upd (upd N6 2525 (nI a)) 2526 (nI b)) 2527 (nI c)) 2522 1 = N7 at J7 kx7 H7
  rcases s_word (a := 2) (a' := 22) (by omega) (by omega) rfl J7 with e | ⟨M8, N8, c8, m8, r8, q8, J8, A8⟩
  · exact Or.inl (e.bd kw6 kx7)
  rw [bdS c8, bdS m8]
  have kw8 := kw6.tr r8.d.w
  have kx8 := kx7.tr q8.x
  have hf := s_fog (a := a) (b := b) (c := c) 12 0 FU FU _ zf M8 N8 rfl (FU_e _ (by omega)) (FU_e _ (by omega)) J8 (HS_cong H6 (by omega) (fun z hz => win_KR r8 hz)) (HS_cong H7 (by omega) (fun z hz => win_KM q8 hz))
  rw [show f_X3_readFog 128 M8 = lp (fun _ _ => none) (fun k => fb_X3_readFog_c2 k 128) FU (nI 0) M8 from rfl, show f_X7_setupText_c107 N8 = lp (fun _ => none) (fun k => fb_X7_setupText_c107 k) FU N8 from rfl]
  generalize lp (fun _ _ => none) (fun k => fb_X3_readFog_c2 k 128) FU (nI 0) M8 = o1 at hf ⊢
  generalize lp (fun _ => none) (fun k => fb_X7_setupText_c107 k) FU N8 = o2 at hf ⊢
  rcases hf.pre kw8 kx8 with ⟨M', N', z1, z2, z3⟩ | ⟨M', N', p', nf, f, n1, n2, z1, z2, z3, z4, z5, z6, z7⟩
  · refine Or.inl ⟨M', N', by rw [z1]; rfl, z2, z3⟩
  · refine Or.inr ⟨M', N', p', nf, by rw [z1]; rfl, z2, z3, z4, z5, HS_MM z6 z7 n1 n2 b1 (by omega) d2⟩
end
