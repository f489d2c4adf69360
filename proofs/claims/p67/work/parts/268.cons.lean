/-! the constructor of the class -/
theorem dX6_init_0 : decode cX6_init 0 = .ok (.aload_n 0, 1) := by decide +kernel
theorem dX6_init_1 : decode cX6_init 1 = .ok (.invokespecial 1, 3) := by decide +kernel
theorem dX6_init_4 : decode cX6_init 4 = .ok (.aload_n 0, 1) := by decide +kernel
theorem dX6_init_5 : decode cX6_init 5 = .ok (.new 7, 3) := by decide +kernel
theorem dX6_init_8 : decode cX6_init 8 = .ok (.dup, 1) := by decide +kernel
theorem dX6_init_9 : decode cX6_init 9 = .ok (.invokespecial 9, 3) := by decide +kernel
theorem dX6_init_12 : decode cX6_init 12 = .ok (.putfield 10, 3) := by decide +kernel
theorem dX6_init_15 : decode cX6_init 15 = .ok (.aload_n 0, 1) := by decide +kernel
theorem dX6_init_16 : decode cX6_init 16 = .ok (.new 7, 3) := by decide +kernel
theorem dX6_init_19 : decode cX6_init 19 = .ok (.dup, 1) := by decide +kernel
theorem dX6_init_20 : decode cX6_init 20 = .ok (.invokespecial 9, 3) := by decide +kernel
theorem dX6_init_23 : decode cX6_init 23 = .ok (.putfield 16, 3) := by decide +kernel
theorem dX6_init_26 : decode cX6_init 26 = .ok (.aload_n 0, 1) := by decide +kernel
theorem dX6_init_27 : decode cX6_init 27 = .ok (.new 7, 3) := by decide +kernel
theorem dX6_init_30 : decode cX6_init 30 = .ok (.dup, 1) := by decide +kernel
theorem dX6_init_31 : decode cX6_init 31 = .ok (.invokespecial 9, 3) := by decide +kernel
theorem dX6_init_34 : decode cX6_init 34 = .ok (.putfield 19, 3) := by decide +kernel
theorem dX6_init_37 : decode cX6_init 37 = .ok (.aload_n 0, 1) := by decide +kernel
theorem dX6_init_38 : decode cX6_init 38 = .ok (.new 22, 3) := by decide +kernel
theorem dX6_init_41 : decode cX6_init 41 = .ok (.dup, 1) := by decide +kernel
theorem dX6_init_42 : decode cX6_init 42 = .ok (.invokespecial 24, 3) := by decide +kernel
theorem dX6_init_45 : decode cX6_init 45 = .ok (.putfield 25, 3) := by decide +kernel
theorem dX6_init_48 : decode cX6_init 48 = .ok (.aload_n 0, 1) := by decide +kernel
theorem dX6_init_49 : decode cX6_init 49 = .ok (.bipush 8, 2) := by decide +kernel
theorem dX6_init_51 : decode cX6_init 51 = .ok (.anewarray 7, 3) := by decide +kernel
theorem dX6_init_54 : decode cX6_init 54 = .ok (.putfield 29, 3) := by decide +kernel
theorem dX6_init_57 : decode cX6_init 57 = .ok (.aload_n 0, 1) := by decide +kernel
theorem dX6_init_58 : decode cX6_init 58 = .ok (.iconst 2, 1) := by decide +kernel
theorem dX6_init_59 : decode cX6_init 59 = .ok (.anewarray 7, 3) := by decide +kernel
theorem dX6_init_62 : decode cX6_init 62 = .ok (.putfield 33, 3) := by decide +kernel
theorem dX6_init_65 : decode cX6_init 65 = .ok (.aload_n 0, 1) := by decide +kernel
theorem dX6_init_66 : decode cX6_init 66 = .ok (.iconst 2, 1) := by decide +kernel
theorem dX6_init_67 : decode cX6_init 67 = .ok (.newarray .boolean, 2) := by decide +kernel
theorem dX6_init_69 : decode cX6_init 69 = .ok (.putfield 36, 3) := by decide +kernel
theorem dX6_init_72 : decode cX6_init 72 = .ok (.aload_n 0, 1) := by decide +kernel
theorem dX6_init_73 : decode cX6_init 73 = .ok (.bipush 100, 2) := by decide +kernel
theorem dX6_init_75 : decode cX6_init 75 = .ok (.newarray .byte, 2) := by decide +kernel
theorem dX6_init_77 : decode cX6_init 77 = .ok (.putfield 40, 3) := by decide +kernel
theorem dX6_init_80 : decode cX6_init 80 = .ok (.iconst 0, 1) := by decide +kernel
theorem dX6_init_81 : decode cX6_init 81 = .ok (.istore_n 1, 1) := by decide +kernel
theorem dX6_init_82 : decode cX6_init 82 = .ok (.iload_n 1, 1) := by decide +kernel
theorem dX6_init_83 : decode cX6_init 83 = .ok (.aload_n 0, 1) := by decide +kernel
theorem dX6_init_84 : decode cX6_init 84 = .ok (.getfield 29, 3) := by decide +kernel
theorem dX6_init_87 : decode cX6_init 87 = .ok (.arraylength, 1) := by decide +kernel
theorem dX6_init_88 : decode cX6_init 88 = .ok (.if_icmp .ge 22, 3) := by decide +kernel
theorem dX6_init_91 : decode cX6_init 91 = .ok (.aload_n 0, 1) := by decide +kernel
theorem dX6_init_92 : decode cX6_init 92 = .ok (.getfield 29, 3) := by decide +kernel
theorem dX6_init_95 : decode cX6_init 95 = .ok (.iload_n 1, 1) := by decide +kernel
theorem dX6_init_96 : decode cX6_init 96 = .ok (.new 7, 3) := by decide +kernel
theorem dX6_init_99 : decode cX6_init 99 = .ok (.dup, 1) := by decide +kernel
theorem dX6_init_100 : decode cX6_init 100 = .ok (.invokespecial 9, 3) := by decide +kernel
theorem dX6_init_103 : decode cX6_init 103 = .ok (.aastore, 1) := by decide +kernel
theorem dX6_init_104 : decode cX6_init 104 = .ok (.iinc 1 1, 3) := by decide +kernel
theorem dX6_init_107 : decode cX6_init 107 = .ok (.goto (-25), 3) := by decide +kernel
theorem dX6_init_110 : decode cX6_init 110 = .ok (.iconst 0, 1) := by decide +kernel
theorem dX6_init_111 : decode cX6_init 111 = .ok (.istore_n 1, 1) := by decide +kernel
theorem dX6_init_112 : decode cX6_init 112 = .ok (.iload_n 1, 1) := by decide +kernel
theorem dX6_init_113 : decode cX6_init 113 = .ok (.aload_n 0, 1) := by decide +kernel
theorem dX6_init_114 : decode cX6_init 114 = .ok (.getfield 33, 3) := by decide +kernel
theorem dX6_init_117 : decode cX6_init 117 = .ok (.arraylength, 1) := by decide +kernel
theorem dX6_init_118 : decode cX6_init 118 = .ok (.if_icmp .ge 22, 3) := by decide +kernel
theorem dX6_init_121 : decode cX6_init 121 = .ok (.aload_n 0, 1) := by decide +kernel
theorem dX6_init_122 : decode cX6_init 122 = .ok (.getfield 33, 3) := by decide +kernel
theorem dX6_init_125 : decode cX6_init 125 = .ok (.iload_n 1, 1) := by decide +kernel
theorem dX6_init_126 : decode cX6_init 126 = .ok (.new 7, 3) := by decide +kernel
theorem dX6_init_129 : decode cX6_init 129 = .ok (.dup, 1) := by decide +kernel
theorem dX6_init_130 : decode cX6_init 130 = .ok (.invokespecial 9, 3) := by decide +kernel
theorem dX6_init_133 : decode cX6_init 133 = .ok (.aastore, 1) := by decide +kernel
theorem dX6_init_134 : decode cX6_init 134 = .ok (.iinc 1 1, 3) := by decide +kernel
theorem dX6_init_137 : decode cX6_init 137 = .ok (.goto (-25), 3) := by decide +kernel
theorem dX6_init_140 : decode cX6_init 140 = .ok (.aload_n 0, 1) := by decide +kernel
theorem dX6_init_141 : decode cX6_init 141 = .ok (.getfield 25, 3) := by decide +kernel
theorem dX6_init_144 : decode cX6_init 144 = .ok (.ldc 44, 2) := by decide +kernel
theorem dX6_init_146 : decode cX6_init 146 = .ok (.invokevirtual 46, 3) := by decide +kernel
theorem dX6_init_149 : decode cX6_init 149 = .ok (.aload_n 0, 1) := by decide +kernel
theorem dX6_init_150 : decode cX6_init 150 = .ok (.invokevirtual 50, 3) := by decide +kernel
theorem dX6_init_153 : decode cX6_init 153 = .ok (.pop, 1) := by decide +kernel
theorem dX6_init_154 : decode cX6_init 154 = .ok (.return_, 1) := by decide +kernel
theorem hd_X6_init : yX6_init.cls = RX6 ∧ yX6_init.cls ≠ "java/lang/invoke/MethodHandle" ∧ yX6_init.cls ≠ "java/lang/invoke/VarHandle" ∧ (parseMethodDescriptor yX6_init.desc).map (fun d => d.parameters.length) = some 0 := by decide +kernel
def f6 (a0 a1 a2 ar qp qs qh qo : Value) : List Value := [a0, a1, a2, ar, qp, .int 0, .int 0, qs, qh, qo, .int 0]
def plM (g : xG) (b0 i : Nat) (G : Nat → Nat → Nat → Nat) : va_W := (List.range i).flatMap (fun j => x_ws (G j, g.2) (tbMk (b0 + 128 * j)) Z0)
theorem plM_s {g : xG} {b0 i : Nat} {G : Nat → Nat → Nat → Nat} {a : Nat → Nat → Nat} : plM g b0 i G ++ x_ws (a, g.2) (tbMk (b0 + 128 * i)) Z0 = plM g b0 (i + 1) (va_up G i a) := by
  unfold plM
  rw [List.range_succ, List.flatMap_append]
  have e1 : ∀ j ∈ List.range i, x_ws (G j, g.2) (tbMk (b0 + 128 * j)) Z0 = x_ws (va_up G i a j, g.2) (tbMk (b0 + 128 * j)) Z0 := fun j hj => by
    rw [va_up_ne _ _ (by have := List.mem_range.mp hj; omega)]
  have e2 : (List.range i).flatMap (fun j => x_ws (G j, g.2) (tbMk (b0 + 128 * j)) Z0) = (List.range i).flatMap (fun j => x_ws (va_up G i a j, g.2) (tbMk (b0 + 128 * j)) Z0) := by
    rw [List.flatMap_def, List.flatMap_def, List.map_congr_left e1]
  rw [e2]
  congr 1
  show x_ws (a, g.2) (tbMk (b0 + 128 * i)) Z0 = x_ws (va_up G i a i, g.2) (tbMk (b0 + 128 * i)) Z0 ++ []
  rw [va_up_self, List.append_nil]
def gM (b0 : Nat) (G : Nat → Nat → Nat → Nat) : Nat → Nat := fun j => G j 2 (b0 + 128 * j)
theorem gM_s {b0 i : Nat} {G : Nat → Nat → Nat → Nat} {a : Nat → Nat → Nat} : va_up (gM b0 G) i (a 2 (b0 + 128 * i)) = gM b0 (va_up G i a) := by
  funext j
  show (if j = i then a 2 (b0 + 128 * i) else G j 2 (b0 + 128 * j)) = (if j = i then a else G j) 2 (b0 + 128 * j)
  by_cases h : j = i
  · subst h
    rw [if_pos rfl, if_pos rfl]
  · rw [if_neg h, if_neg h]
theorem perm1 {X P : va_W} {n : Nat × va_E} : ((X ++ P) ++ [n]).Perm ((X ++ [n]) ++ P) := by
  rw [List.append_assoc, List.append_assoc]
  exact List.Perm.append_left X List.perm_append_comm
def xX (g : xG) (h0 qp qs qh qo : Nat) (a0 a1 a2 ar : Nat → Nat → Nat) (f1 f2 : Nat → Option Nat) : va_W := [(h0, .inr (4, f6 (.ref (a0 2 0)) (.ref (a1 2 128)) (.ref (a2 2 256)) (.ref (ar 3 1777)) (.ref qp) (.ref qs) (.ref qh) (.ref qo))), (qp, .inl (g.2.1 6, 8, .inr (.inr (.inr (.inr f1))))), (qs, .inl (g.2.1 6, 2, .inr (.inr (.inr (.inr f2))))), (qh, .inl (g.2.1 2, 2, .inl (fun _ => 0))), (qo, .inl (g.2.1 1, 100, .inl (fun _ => 0)))]
def pX (g : xG) (a0 a1 a2 ar : Nat → Nat → Nat) : va_W := x_ws (a0, g.2) (tbMk 0) Z0 ++ x_ws (a1, g.2) (tbMk 128) Z0 ++ x_ws (a2, g.2) (tbMk 256) Z0 ++ x_ws (ar, g.2) tbR Z0
def wX (g : xG) (h0 qp qs qh qo : Nat) (a0 a1 a2 ar : Nat → Nat → Nat) (i j : Nat) (G G2 : Nat → Nat → Nat → Nat) : va_W :=
  xX g h0 qp qs qh qo a0 a1 a2 ar (fI i (gM 384 G)) (fI j (gM 1408 G2)) ++ ((pX g a0 a1 a2 ar ++ plM g 384 i G) ++ plM g 1408 j G2)
def aX (gs : Nat → Nat → Nat) (h0 qp qs qh qo : Nat) (a0 a1 a2 ar : Nat → Nat → Nat) (G G2 : Nat → Nat → Nat → Nat) : Nat → Nat → Nat := fun k z =>
  if 20 ≤ k then gs k z else if k = 4 then h0 else if k = 12 then (if z = 384 then qp else qs) else if k = 8 then qh else if z = 1677 then qo else if z < 128 then a0 k z else if z < 256 then a1 k z else if z < 384 then a2 k z else if z < 1408 then G ((z - 384) / 128) k z else if z < 1664 then G2 ((z - 1408) / 128) k z else ar k z
section AX
variable {D : va_G} {g : xG} {h0 qp qs qh qo : Nat} {a0 a1 a2 ar : Nat → Nat → Nat} {G G2 : Nat → Nat → Nat → Nat}
theorem aX_0 {k z : Nat} (h : k < 12) (h4 : k ≠ 4) (h8 : k ≠ 8) (hz : z < 128) : aX g.1 h0 qp qs qh qo a0 a1 a2 ar G G2 k z = a0 k z := by
  unfold aX
  rw [if_neg (by omega), if_neg h4, if_neg (by omega), if_neg h8, if_neg (by omega), if_pos hz]
theorem aX_1 {k z : Nat} (h : k < 12) (h4 : k ≠ 4) (h8 : k ≠ 8) (hz : 128 ≤ z) (hz2 : z < 256) : aX g.1 h0 qp qs qh qo a0 a1 a2 ar G G2 k z = a1 k z := by
  unfold aX
  rw [if_neg (by omega), if_neg h4, if_neg (by omega), if_neg h8, if_neg (by omega), if_neg (by omega), if_pos hz2]
theorem aX_2 {k z : Nat} (h : k < 12) (h4 : k ≠ 4) (h8 : k ≠ 8) (hz : 256 ≤ z) (hz2 : z < 384) : aX g.1 h0 qp qs qh qo a0 a1 a2 ar G G2 k z = a2 k z := by
  unfold aX
  rw [if_neg (by omega), if_neg h4, if_neg (by omega), if_neg h8, if_neg (by omega), if_neg (by omega), if_neg (by omega), if_pos hz2]
theorem aX_3 {k z j : Nat} (h : k < 12) (h4 : k ≠ 4) (h8 : k ≠ 8) (hj : j < 8) (hz : 384 + 128 * j ≤ z) (hz2 : z < 384 + 128 * j + 125) : aX g.1 h0 qp qs qh qo a0 a1 a2 ar G G2 k z = G j k z := by
  unfold aX
  rw [if_neg (by omega), if_neg h4, if_neg (by omega), if_neg h8, if_neg (by omega), if_neg (by omega), if_neg (by omega), if_neg (by omega), if_pos (by omega), show (z - 384) / 128 = j by omega]
theorem aX_4 {k z j : Nat} (h : k < 12) (h4 : k ≠ 4) (h8 : k ≠ 8) (hj : j < 2) (hz : 1408 + 128 * j ≤ z) (hz2 : z < 1408 + 128 * j + 125) : aX g.1 h0 qp qs qh qo a0 a1 a2 ar G G2 k z = G2 j k z := by
  unfold aX
  rw [if_neg (by omega), if_neg h4, if_neg (by omega), if_neg h8, if_neg (by omega), if_neg (by omega), if_neg (by omega), if_neg (by omega), if_neg (by omega), if_pos (by omega), show (z - 1408) / 128 = j by omega]
theorem aX_F {D : va_G} {H : Heap} (hP : va_P D xCl [(h0, .inr (4, f6 (.ref (a0 2 0)) (.ref (a1 2 128)) (.ref (a2 2 256)) (.ref (ar 3 1777)) (.ref qp) (.ref qs) (.ref qh) (.ref qo))), (qp, .inl (g.2.1 6, 8, .inr (.inr (.inr (.inr (fI 8 (gM 384 G))))))), (qs, .inl (g.2.1 6, 2, .inr (.inr (.inr (.inr (fI 2 (gM 1408 G2))))))), (qh, .inl (g.2.1 2, 2, .inl (fun _ => 0))), (qo, .inl (g.2.1 1, 100, .inl (fun _ => 0)))] H) : x_H D (aX g.1 h0 qp qs qh qo a0 a1 a2 ar G G2, g.2) tbF Z0 H := by
  have hp := P_iff.mp hP
  refine P_iff.mpr (fun q hq => ?_)
  obtain ⟨r, hr, rfl⟩ := List.mem_map.mp hq
  simp only [tbF, List.mem_cons, List.not_mem_nil, or_false] at hr
  rcases hr with rfl | rfl | rfl | rfl | rfl
  · have h := hp _ List.mem_cons_self
    have e : x_cell (aX g.1 h0 qp qs qh qo a0 a1 a2 ar G G2, g.2) Z0 (4, 1664, 0) = .inr (4, f6 (.ref (a0 2 0)) (.ref (a1 2 128)) (.ref (a2 2 256)) (.ref (ar 3 1777)) (.ref qp) (.ref qs) (.ref qh) (.ref qo)) := by
      show (Sum.inr (4, x_f4 (aX g.1 h0 qp qs qh qo a0 a1 a2 ar G G2, g.2) 1664 Z0) : va_E) = _
      unfold x_f4
      rw [Z0_0 (z := 1664 + 5) (by decide) (by decide), Z0_0 (z := 1664 + 6) (by decide) (by decide), Z0_0 (z := 1664 + 10) (by decide) (by decide)]
      rfl
    rw [e]
    exact h
  · have h := hp (qp, .inl (g.2.1 6, 8, .inr (.inr (.inr (.inr (fI 8 (gM 384 G))))))) (List.mem_of_getElem? (i := 1) rfl)
    refine Eq.trans (show H[qp]? = some (vp_cell (g.2.1 6) (8, .inr (.inr (.inr (.inr (fI 8 (gM 384 G))))))) from h) (congrArg some (arr_q (fun j hj => ?_)))
    refine Eq.trans ?_ (congrArg some (aX_3 (g := g) (h0 := h0) (qp := qp) (qs := qs) (qh := qh) (qo := qo) (a0 := a0) (a1 := a1) (a2 := a2) (ar := ar) (G := G) (G2 := G2) (k := 2) (z := 384 + 128 * j) (by decide) (by decide) (by decide) hj (Nat.le_refl _) (by omega)).symm)
    exact if_pos hj
  · have h := hp (qs, .inl (g.2.1 6, 2, .inr (.inr (.inr (.inr (fI 2 (gM 1408 G2))))))) (List.mem_of_getElem? (i := 2) rfl)
    refine Eq.trans (show H[qs]? = some (vp_cell (g.2.1 6) (2, .inr (.inr (.inr (.inr (fI 2 (gM 1408 G2))))))) from h) (congrArg some (arr_q (fun j hj => ?_)))
    refine Eq.trans ?_ (congrArg some (aX_4 (g := g) (h0 := h0) (qp := qp) (qs := qs) (qh := qh) (qo := qo) (a0 := a0) (a1 := a1) (a2 := a2) (ar := ar) (G := G) (G2 := G2) (k := 2) (z := 1408 + 128 * j) (by decide) (by decide) (by decide) hj (Nat.le_refl _) (by omega)).symm)
    exact if_pos hj
  · have h := hp (qh, .inl (g.2.1 2, 2, .inl (fun _ => 0))) (List.mem_of_getElem? (i := 3) rfl)
    exact Eq.trans (show H[qh]? = some (vp_cell (g.2.1 2) (2, .inl (fun _ => 0))) from h) (congrArg some (arr_i (fun j hj => (show Z0 (1675 + j) = 0 from Z0_0 (by omega) (by omega)).symm)))
  · have h := hp (qo, .inl (g.2.1 1, 100, .inl (fun _ => 0))) (List.mem_of_getElem? (i := 4) rfl)
    exact Eq.trans (show H[qo]? = some (vp_cell (g.2.1 1) (100, .inl (fun _ => 0))) from h) (congrArg some (arr_i (fun j hj => (show Z0 (1677 + j) = 0 from Z0_0 (by omega) (by omega)).symm)))
theorem aX_all {D : va_G} : tbX.map (x_ad (aX g.1 h0 qp qs qh qo a0 a1 a2 ar G G2, g.2)) = (wX g h0 qp qs qh qo a0 a1 a2 ar 8 2 G G2).map Prod.fst ∧ ∀ H, va_P D xCl (wX g h0 qp qs qh qo a0 a1 a2 ar 8 2 G G2) H → x_H D (aX g.1 h0 qp qs qh qo a0 a1 a2 ar G G2, g.2) tbX Z0 H := by
  have e0 := mk_g (D := D) (a := a0) (a' := aX g.1 h0 qp qs qh qo a0 a1 a2 ar G G2) (g2 := g.2) (b := 0) (Z := Z0) (fun k z h1 h2 h3 h4 h5 => aX_0 h1 h2 h3 (by omega))
  have e1 := mk_g (D := D) (a := a1) (a' := aX g.1 h0 qp qs qh qo a0 a1 a2 ar G G2) (g2 := g.2) (b := 128) (Z := Z0) (fun k z h1 h2 h3 h4 h5 => aX_1 h1 h2 h3 (by omega) (by omega))
  have e2 := mk_g (D := D) (a := a2) (a' := aX g.1 h0 qp qs qh qo a0 a1 a2 ar G G2) (g2 := g.2) (b := 256) (Z := Z0) (fun k z h1 h2 h3 h4 h5 => aX_2 h1 h2 h3 (by omega) (by omega))
  have e3 := fun j (hj : j < 8) => mk_g (D := D) (a := G j) (a' := aX g.1 h0 qp qs qh qo a0 a1 a2 ar G G2) (g2 := g.2) (b := 384 + 128 * j) (Z := Z0) (fun k z h1 h2 h3 h4 h5 => aX_3 h1 h2 h3 hj h4 h5)
  have e4 := fun j (hj : j < 2) => mk_g (D := D) (a := G2 j) (a' := aX g.1 h0 qp qs qh qo a0 a1 a2 ar G G2) (g2 := g.2) (b := 1408 + 128 * j) (Z := Z0) (fun k z h1 h2 h3 h4 h5 => aX_4 h1 h2 h3 hj h4 h5)
  have e5 := rd_g (D := D) (a := ar) (a' := aX g.1 h0 qp qs qh qo a0 a1 a2 ar G G2) (g2 := g.2) (Z := Z0) rfl rfl rfl
  refine ⟨?_, fun H hP => ?_⟩
  · unfold tbX wX xX pX plM
    simp only [List.map_append, List.map_flatMap, ws_fst]
    have f3 : (List.range 8).flatMap (fun j => (tbMk (384 + 128 * j)).map (x_ad (aX g.1 h0 qp qs qh qo a0 a1 a2 ar G G2, g.2))) = (List.range 8).flatMap (fun j => (tbMk (384 + 128 * j)).map (x_ad (G j, g.2))) := by
      rw [List.flatMap_def, List.flatMap_def, List.map_congr_left (fun j hj => (e3 j (List.mem_range.mp hj)).1)]
    have f4 : (List.range 2).flatMap (fun j => (tbMk (1408 + 128 * j)).map (x_ad (aX g.1 h0 qp qs qh qo a0 a1 a2 ar G G2, g.2))) = (List.range 2).flatMap (fun j => (tbMk (1408 + 128 * j)).map (x_ad (G2 j, g.2))) := by
      rw [List.flatMap_def, List.flatMap_def, List.map_congr_left (fun j hj => (e4 j (List.mem_range.mp hj)).1)]
    rw [e0.1, e1.1, e2.1, e5.1, f3, f4]
    rfl
  · unfold wX pX at hP
    obtain ⟨p1, p2⟩ := P_app.mp hP
    obtain ⟨p2, p3⟩ := P_app.mp p2
    obtain ⟨p2, p4⟩ := P_app.mp p2
    obtain ⟨p2, p5⟩ := P_app.mp p2
    obtain ⟨p2, p6⟩ := P_app.mp p2
    obtain ⟨p2, p7⟩ := P_app.mp p2
    refine H_app.mpr ⟨aX_F p1, H_app.mpr ⟨H_app.mpr ⟨H_app.mpr ⟨H_app.mpr ⟨H_app.mpr ⟨e0.2 H p2, e1.2 H p7⟩, e2.2 H p6⟩, e5.2 H p5⟩, ?_⟩, ?_⟩⟩
    · refine P_iff.mpr (fun q hq => ?_)
      obtain ⟨r, hr, rfl⟩ := List.mem_map.mp hq
      obtain ⟨j, hj, hr⟩ := List.mem_flatMap.mp hr
      have hj := List.mem_range.mp hj
      refine P_iff.mp ((e3 j hj).2 H (P_iff.mpr (fun q hq => P_iff.mp p4 q (List.mem_flatMap.mpr ⟨j, List.mem_range.mpr hj, hq⟩)))) _ (List.mem_map.mpr ⟨r, hr, rfl⟩)
    · refine P_iff.mpr (fun q hq => ?_)
      obtain ⟨r, hr, rfl⟩ := List.mem_map.mp hq
      obtain ⟨j, hj, hr⟩ := List.mem_flatMap.mp hr
      have hj := List.mem_range.mp hj
      refine P_iff.mp ((e4 j hj).2 H (P_iff.mpr (fun q hq => P_iff.mp p3 q (List.mem_flatMap.mpr ⟨j, List.mem_range.mpr hj, hq⟩)))) _ (List.mem_map.mpr ⟨r, hr, rfl⟩)
end AX
/-- what the class's constructor leaves -/
def oX (M1 : xM) : Prop := M1 1778 = 0
def RX : Room := { frames := 10, cells := 215, slots := 2647, locals := 217 }
theorem WN.eqw {p : Program} {l : Launch} {e : Env} {R : Room} {s : State} {m : MethodId} {args : Array Value} {below : List Frame} {meth : Method} {c : Code} {cells slots : Nat} {Q : State → Prop} {nL : Nat} {D : va_G} {A : Nat → Prop} {pc : Nat} {lv : List (Nat × Value)} {st : List Value} {ws ws2 : va_W} (h : ws = ws2) (k : WN p l e R s m args below meth c cells slots Q nL D A pc lv st ws2) : WN p l e R s m args below meth c cells slots Q nL D A pc lv st ws := h ▸ k
set_option maxRecDepth 100000 in
set_option maxHeartbeats 4000000 in
theorem c_X6_init (l : Launch) (D : va_G) (g : xG) : nM l D g yX6_init cX6_init 2 RX 4 (f6 .null .null .null .null .null .null .null .null) 215 2647 (fun h w1 => ∃ (a : Nat → Nat → Nat) (M1 : xM), a 4 1664 = h ∧ (∀ k z, 20 ≤ k → a k z = g.1 k z) ∧ w1 = x_ws (a, g.2) tbX M1 ∧ oX M1) := by
  refine n_start (own := RX6) (by decide +kernel) rfl rfl (Nat.le_of_ble_eq_true rfl) ?_
  intro p e s m args below meth c h0 A Q C0 hA0 hA1 hname hend
  have FIN : ∀ (qp qs qh qo : Nat) (a0 a1 a2 ar : Nat → Nat → Nat) (G G2 : Nat → Nat → Nat → Nat), WN p l e RX s m args below meth c 215 2647 Q 2 D A 140 [(0, .ref h0), (1, .int (nI 2))] [] (wX g h0 qp qs qh qo a0 a1 a2 ar 8 2 G G2) := by
    intro qp qs qh qo a0 a1 a2 ar G G2 H locs ls h1 h2 h3 h4
    obtain ⟨eA, eP⟩ := aX_all (D := D) (g := g) (h0 := h0) (qp := qp) (qs := qs) (qh := qh) (qo := qo) (a0 := a0) (a1 := a1) (a2 := a2) (ar := ar) (G := G) (G2 := G2)
    have hPX := eP H h1
    have hDX : ∀ M : xM, va_D A (x_ws (aX g.1 h0 qp qs qh qo a0 a1 a2 ar G G2, g.2) tbX M) := fun M => D_addr (by rw [ws_fst]; exact eA) h2
    have hT : x_T (aX g.1 h0 qp qs qh qo a0 a1 a2 ar G G2, g.2) tbX := T_of (hDX Z0) apt_X
    have hAX : ∀ q, x_A (aX g.1 h0 qp qs qh qo a0 a1 a2 ar G G2, g.2) tbX s.heap.size q → A q := by
      intro q hq
      rcases hq with ⟨r, hr, e⟩ | hq
      · rw [e]
        exact (D_iff.mp (hDX Z0)).2 (x_ad _ r, x_cell _ Z0 r) (List.mem_map.mpr ⟨r, hr, rfl⟩)
      · exact C0.2.2.2.2.2.2.2.1 q hq
    have hXA : ∀ q, A q → x_A (aX g.1 h0 qp qs qh qo a0 a1 a2 ar G G2, g.2) tbX s.heap.size q := by
      intro q hq
      rcases hA1 q hq with e | hq
      · exact Or.inl ⟨(4, 1664, 0), List.mem_append_left _ List.mem_cons_self, e⟩
      · exact Or.inr hq
    obtain ⟨M0, e1, ct, k1⟩ := c_first (M := Z0) rfl
    obtain ⟨M1, e2, hX⟩ := c_start ct
    have hKS : x_KS (aX g.1 h0 qp qs qh qo a0 a1 a2 ar G G2, g.2) tbX s := by
      obtain ⟨u1, u2, u3, u4, u5⟩ := C0.2.2.2.2.2.2.2.2
      exact ⟨u1, u2, u3, u4, x_KA.to (Vm.Alike.refl s.vm) (fun _ _ _ => rfl) hAX u5⟩
    have C1 : CC p s m args c cX6_init 2 RX6 D (aX g.1 h0 qp qs qh qo a0 a1 a2 ar G G2, g.2) tbX := ⟨C0.1, C0.2.1, C0.2.2.1, C0.2.2.2.1, C0.2.2.2.2.1, C0.2.2.2.2.2.1, hT, hKS⟩
    have hfb : x_fb tbX := fb_in (fun q hq => hq)
    have K : WW p l e RX s m args below meth c 215 2647 Q 2 D (aX g.1 h0 qp qs qh qo a0 a1 a2 ar G G2, g.2) tbX 140 [(0, .ref h0), (1, .int (nI 2))] [] Z0 := by
      refine r_aload_n C1 (kk := 0) 0 rfl dX6_init_140 ?_
      refine r_get4 C1 hfb.1 3 (by decide) (v := .ref ((aX g.1 h0 qp qs qh qo a0 a1 a2 ar G G2) 3 1777)) rfl rfl w5_90 dX6_init_141 ?_
      refine r_ldcs C1 (si := 0) rfl dX6_init_144 ?_
      refine r_callVv C1 (As := [.ref ((aX g.1 h0 qp qs qh qo a0 a1 a2 ar G G2) 20 0)]) (rest := []) (c_X3_appendText l D (aX g.1 h0 qp qs qh qo a0 a1 a2 ar G G2, g.2) tbX hT hfb.2.2.2.2.1 (by decide) e1) w4_99 w4_100 w4_101 w1_17 w4_102 (x_rec3 C1 hfb.2.2.2.2.1.1) hd_X3_appendText rfl ⟨rfl, rfl⟩ ⟨Nat.le_of_ble_eq_true rfl, Nat.le_of_ble_eq_true rfl⟩ (Nat.le_of_ble_eq_true rfl) (Nat.le_of_ble_eq_true rfl) rfl (Nat.le_of_ble_eq_true rfl) dX6_init_146 ?_
      refine r_aload_n C1 (kk := 0) 0 rfl dX6_init_149 ?_
      refine r_callVi C1 (As := []) (rest := []) (c_X6_replaceMarket l D (aX g.1 h0 qp qs qh qo a0 a1 a2 ar G G2, g.2) tbX hT hfb e2) w4_132 w4_134 wp1_9 w1_13 w4_135 (x_rec4 C1 hfb.1) hd_X6_replaceMarket rfl ⟨rfl, rfl⟩ ⟨Nat.le_of_ble_eq_true rfl, Nat.le_of_ble_eq_true rfl⟩ (Nat.le_of_ble_eq_true rfl) (Nat.le_of_ble_eq_true rfl) rfl (Nat.le_of_ble_eq_true rfl) dX6_init_150 ?_
      refine r_pop C1 rfl dX6_init_153 ?_
      intro H locs ls h1 h2 h3
      exact hend (ws := x_ws (aX g.1 h0 qp qs qh qo a0 a1 a2 ar G G2, g.2) tbX M1) ⟨_, M1, rfl, fun k z hk => if_pos hk, rfl, hX⟩ (fun H h => h) (fun h => h) dX6_init_154 H locs ls h1 (hDX M1) (S_up hAX h2) h3
    exact K H locs ls hPX (S_up hXA h3) h4
  have LB : ∀ (k i qp qs qh qo : Nat) (a0 a1 a2 ar : Nat → Nat → Nat) (G G2 : Nat → Nat → Nat → Nat), i + k = 2 → WN p l e RX s m args below meth c (183 + 16 * i) (2367 + 140 * i) Q 2 D A 112 [(0, .ref h0), (1, .int (nI i))] [] (wX g h0 qp qs qh qo a0 a1 a2 ar 8 i G G2) := by
    intro k
    induction k with
    | zero =>
      intro i qp qs qh qo a0 a1 a2 ar G G2 hi
      have hi : i = 2 := by omega
      subst hi
      refine n_iload_n C0 (kk := 1) 1 rfl dX6_init_112 ?_
      refine n_aload_n C0 (kk := 0) 0 rfl dX6_init_113 ?_
      refine n_get C0 (q0 := 0) (ci := 4) (T := TX6) (N := 11) (ref := RX6) (fs := (f6 (.ref (a0 2 0)) (.ref (a1 2 128)) (.ref (a2 2 256)) (.ref (ar 3 1777)) (.ref qp) (.ref qs) (.ref qh) (.ref qo))) x_lays4 rfl rfl 7 (by decide) w5_94 rfl rfl dX6_init_114 ?_
      refine n_alen C0 (q0 := 2) (t0 := 6) rfl rfl (v := 2) rfl dX6_init_117 ?_
      refine n_icmp_ge C0 (tgt := 140) (by decide) dX6_init_118 (fun q => ?_) (fun q => absurd (by decide) q)
      exact FIN qp qs qh qo a0 a1 a2 ar G G2
    | succ k ih =>
      intro i qp qs qh qo a0 a1 a2 ar G G2 hi
      refine n_iload_n C0 (kk := 1) 1 rfl dX6_init_112 ?_
      refine n_aload_n C0 (kk := 0) 0 rfl dX6_init_113 ?_
      refine n_get C0 (q0 := 0) (ci := 4) (T := TX6) (N := 11) (ref := RX6) (fs := (f6 (.ref (a0 2 0)) (.ref (a1 2 128)) (.ref (a2 2 256)) (.ref (ar 3 1777)) (.ref qp) (.ref qs) (.ref qh) (.ref qo))) x_lays4 rfl rfl 7 (by decide) w5_94 rfl rfl dX6_init_114 ?_
      refine n_alen C0 (q0 := 2) (t0 := 6) rfl rfl (v := 2) rfl dX6_init_117 ?_
      refine n_icmp_ge C0 (tgt := 140) (by decide) dX6_init_118 (fun q => absurd q (by rw [show (2 : Int32) = nI 2 from rfl]; exact nI_ge (by omega) (by decide))) (fun q => ?_)
      refine n_aload_n C0 (kk := 0) 0 rfl dX6_init_121 ?_
      refine n_get C0 (q0 := 0) (ci := 4) (T := TX6) (N := 11) (ref := RX6) (fs := (f6 (.ref (a0 2 0)) (.ref (a1 2 128)) (.ref (a2 2 256)) (.ref (ar 3 1777)) (.ref qp) (.ref qs) (.ref qh) (.ref qo))) x_lays4 rfl rfl 7 (by decide) w5_94 rfl rfl dX6_init_122 ?_
      refine n_iload_n C0 (kk := 1) 1 rfl dX6_init_125 ?_
      refine n_make C0 (c_X2_init l D g (b := 1408 + 128 * i) (Z := Z0) (Z0_m (11 + i) (by omega) (by omega))) x_lays2 tyX2 tyX2_ok rfl (fun j hj => by rcases (show j = 0 ∨ j = 1 ∨ j = 2 ∨ j = 3 ∨ j = 4 ∨ j = 5 ∨ j = 6 ∨ j = 7 ∨ j = 8 ∨ j = 9 ∨ j = 10 ∨ j = 11 ∨ j = 12 ∨ j = 13 by omega) with rfl | rfl | rfl | rfl | rfl | rfl | rfl | rfl | rfl | rfl | rfl | rfl | rfl | rfl <;> rfl) w3_133 w2_73 w1_14 w3_134 w3_135 w1_14 w3_136 rfl ⟨by decide +kernel, by decide +kernel, by decide +kernel⟩ ⟨rfl, rfl⟩ ⟨Nat.le_of_ble_eq_true rfl, Nat.le_of_ble_eq_true rfl⟩ (show 183 + 16 * i + 1 + 15 ≤ 215 by omega) (show 2367 + 140 * i + 14 + 126 ≤ 2647 by omega) (Nat.le_of_ble_eq_true rfl) dX6_init_126 dX6_init_129 dX6_init_130 (fun q w1 hw1 => ?_)
      obtain ⟨a, rfl, rfl⟩ := hw1
      refine n_astq C0 (q0 := 2) (t0 := 6) (n := 2) (f := fI i (gM 1408 G2)) (ci := 1) (r := (RX2, TX2, 14)) (vs := x_f2 (a, g.2) (1408 + 128 * i) Z0) rfl rfl (List.mem_append_right _ List.mem_cons_self) rfl (vp_in_nI (by omega) (by decide)) dX6_init_133 ?_
      refine n_iinc C0 1 rfl (v := nI (i + 1)) (show nI i + Int32.ofInt 1 = nI (i + 1) from nI_1 i) (by decide) (lv2 := [(1, .int (nI (i + 1))), (0, .ref h0)]) rfl dX6_init_134 ?_
      refine n_goto C0 (tgt := 112) (by decide) dX6_init_137 ?_
      refine WN.sub [1, 0] rfl ?_
      have := ih (i + 1) qp qs qh qo a0 a1 a2 ar G (va_up G2 i a) (by omega)
      refine WN.widen (k := 183 + 16 * (i + 1)) (n := 2367 + 140 * (i + 1)) (by omega) (by omega) ?_
      rw [nI_clamp (show i < 2 ^ 31 by omega), fI_s, gM_s]
      have e : xX g h0 qp qs qh qo a0 a1 a2 ar (fI 8 (gM 384 G)) (fI (i + 1) (gM 1408 (va_up G2 i a))) ++ (((pX g a0 a1 a2 ar ++ plM g 384 8 G) ++ plM g 1408 i G2) ++ x_ws (a, g.2) (tbMk (1408 + 128 * i)) Z0) = wX g h0 qp qs qh qo a0 a1 a2 ar 8 (i + 1) G (va_up G2 i a) := by
        unfold wX
        rw [← plM_s, List.append_assoc (pX g a0 a1 a2 ar ++ plM g 384 8 G)]
      rw [← e] at this
      exact this
  have LA : ∀ (k i qp qs qh qo : Nat) (a0 a1 a2 ar : Nat → Nat → Nat) (G G2 : Nat → Nat → Nat → Nat), i + k = 8 → WN p l e RX s m args below meth c (55 + 16 * i) (1247 + 140 * i) Q 2 D A 82 [(0, .ref h0), (1, .int (nI i))] [] (wX g h0 qp qs qh qo a0 a1 a2 ar i 0 G G2) := by
    intro k
    induction k with
    | zero =>
      intro i qp qs qh qo a0 a1 a2 ar G G2 hi
      have hi : i = 8 := by omega
      subst hi
      refine n_iload_n C0 (kk := 1) 1 rfl dX6_init_82 ?_
      refine n_aload_n C0 (kk := 0) 0 rfl dX6_init_83 ?_
      refine n_get C0 (q0 := 0) (ci := 4) (T := TX6) (N := 11) (ref := RX6) (fs := (f6 (.ref (a0 2 0)) (.ref (a1 2 128)) (.ref (a2 2 256)) (.ref (ar 3 1777)) (.ref qp) (.ref qs) (.ref qh) (.ref qo))) x_lays4 rfl rfl 4 (by decide) w5_91 rfl rfl dX6_init_84 ?_
      refine n_alen C0 (q0 := 1) (t0 := 6) rfl rfl (v := 8) rfl dX6_init_87 ?_
      refine n_icmp_ge C0 (tgt := 110) (by decide) dX6_init_88 (fun q => ?_) (fun q => absurd (by decide) q)
      refine n_iconst C0 (v := 0) rfl dX6_init_110 ?_
      refine n_istore_n C0 (kk := 1) (lv2 := [(1, .int 0), (0, .ref h0)]) (by decide) rfl dX6_init_111 ?_
      refine WN.sub [1, 0] rfl ?_
      exact LB 2 0 qp qs qh qo a0 a1 a2 ar G G2 rfl
    | succ k ih =>
      intro i qp qs qh qo a0 a1 a2 ar G G2 hi
      refine n_iload_n C0 (kk := 1) 1 rfl dX6_init_82 ?_
      refine n_aload_n C0 (kk := 0) 0 rfl dX6_init_83 ?_
      refine n_get C0 (q0 := 0) (ci := 4) (T := TX6) (N := 11) (ref := RX6) (fs := (f6 (.ref (a0 2 0)) (.ref (a1 2 128)) (.ref (a2 2 256)) (.ref (ar 3 1777)) (.ref qp) (.ref qs) (.ref qh) (.ref qo))) x_lays4 rfl rfl 4 (by decide) w5_91 rfl rfl dX6_init_84 ?_
      refine n_alen C0 (q0 := 1) (t0 := 6) rfl rfl (v := 8) rfl dX6_init_87 ?_
      refine n_icmp_ge C0 (tgt := 110) (by decide) dX6_init_88 (fun q => absurd q (by rw [show (8 : Int32) = nI 8 from rfl]; exact nI_ge (by omega) (by decide))) (fun q => ?_)
      refine n_aload_n C0 (kk := 0) 0 rfl dX6_init_91 ?_
      refine n_get C0 (q0 := 0) (ci := 4) (T := TX6) (N := 11) (ref := RX6) (fs := (f6 (.ref (a0 2 0)) (.ref (a1 2 128)) (.ref (a2 2 256)) (.ref (ar 3 1777)) (.ref qp) (.ref qs) (.ref qh) (.ref qo))) x_lays4 rfl rfl 4 (by decide) w5_91 rfl rfl dX6_init_92 ?_
      refine n_iload_n C0 (kk := 1) 1 rfl dX6_init_95 ?_
      refine n_make C0 (c_X2_init l D g (b := 384 + 128 * i) (Z := Z0) (Z0_m (3 + i) (by omega) (by omega))) x_lays2 tyX2 tyX2_ok rfl (fun j hj => by rcases (show j = 0 ∨ j = 1 ∨ j = 2 ∨ j = 3 ∨ j = 4 ∨ j = 5 ∨ j = 6 ∨ j = 7 ∨ j = 8 ∨ j = 9 ∨ j = 10 ∨ j = 11 ∨ j = 12 ∨ j = 13 by omega) with rfl | rfl | rfl | rfl | rfl | rfl | rfl | rfl | rfl | rfl | rfl | rfl | rfl | rfl <;> rfl) w3_133 w2_73 w1_14 w3_134 w3_135 w1_14 w3_136 rfl ⟨by decide +kernel, by decide +kernel, by decide +kernel⟩ ⟨rfl, rfl⟩ ⟨Nat.le_of_ble_eq_true rfl, Nat.le_of_ble_eq_true rfl⟩ (show 55 + 16 * i + 1 + 15 ≤ 215 by omega) (show 1247 + 140 * i + 14 + 126 ≤ 2647 by omega) (Nat.le_of_ble_eq_true rfl) dX6_init_96 dX6_init_99 dX6_init_100 (fun q w1 hw1 => ?_)
      obtain ⟨a, rfl, rfl⟩ := hw1
      refine n_astq C0 (q0 := 1) (t0 := 6) (n := 8) (f := fI i (gM 384 G)) (ci := 1) (r := (RX2, TX2, 14)) (vs := x_f2 (a, g.2) (384 + 128 * i) Z0) rfl rfl (List.mem_append_right _ List.mem_cons_self) rfl (vp_in_nI (by omega) (by decide)) dX6_init_103 ?_
      refine n_iinc C0 1 rfl (v := nI (i + 1)) (show nI i + Int32.ofInt 1 = nI (i + 1) from nI_1 i) (by decide) (lv2 := [(1, .int (nI (i + 1))), (0, .ref h0)]) rfl dX6_init_104 ?_
      refine n_goto C0 (tgt := 82) (by decide) dX6_init_107 ?_
      refine WN.sub [1, 0] rfl ?_
      have := ih (i + 1) qp qs qh qo a0 a1 a2 ar (va_up G i a) G2 (by omega)
      refine WN.widen (k := 55 + 16 * (i + 1)) (n := 1247 + 140 * (i + 1)) (by omega) (by omega) ?_
      rw [nI_clamp (show i < 2 ^ 31 by omega), fI_s, gM_s]
      have e : xX g h0 qp qs qh qo a0 a1 a2 ar (fI (i + 1) (gM 384 (va_up G i a))) (fI 0 (gM 1408 G2)) ++ (((pX g a0 a1 a2 ar ++ plM g 384 i G) ++ plM g 1408 0 G2) ++ x_ws (a, g.2) (tbMk (384 + 128 * i)) Z0) = wX g h0 qp qs qh qo a0 a1 a2 ar (i + 1) 0 (va_up G i a) G2 := by
        unfold wX
        rw [← plM_s, show plM g 1408 0 G2 = [] from rfl, List.append_nil, List.append_nil, List.append_assoc]
      rw [← e] at this
      exact this
  refine n_aload_n C0 (kk := 0) 0 rfl dX6_init_0 ?_
  refine n_obj C0 w3_132 wO2 wO3 (by decide) (by decide) dX6_init_1 ?_
  refine n_aload_n C0 (kk := 0) 0 rfl dX6_init_4 ?_
  refine n_make C0 (c_X2_init l D g (b := 0) (Z := Z0) (Z0_m 0 (by decide) rfl)) x_lays2 tyX2 tyX2_ok rfl (fun j hj => by rcases (show j = 0 ∨ j = 1 ∨ j = 2 ∨ j = 3 ∨ j = 4 ∨ j = 5 ∨ j = 6 ∨ j = 7 ∨ j = 8 ∨ j = 9 ∨ j = 10 ∨ j = 11 ∨ j = 12 ∨ j = 13 by omega) with rfl | rfl | rfl | rfl | rfl | rfl | rfl | rfl | rfl | rfl | rfl | rfl | rfl | rfl <;> rfl) w3_133 w2_73 w1_14 w3_134 w3_135 w1_14 w3_136 rfl ⟨by decide +kernel, by decide +kernel, by decide +kernel⟩ ⟨rfl, rfl⟩ ⟨Nat.le_of_ble_eq_true rfl, Nat.le_of_ble_eq_true rfl⟩ (Nat.le_of_ble_eq_true rfl) (Nat.le_of_ble_eq_true rfl) (Nat.le_of_ble_eq_true rfl) dX6_init_5 dX6_init_8 dX6_init_9 (fun q w1 hw1 => ?_)
  obtain ⟨a0, rfl, rfl⟩ := hw1
  refine n_putF C0 (q0 := 0) (ci := 4) (T := TX6) (N := 11) (ref := RX6) (fs := f6 .null .null .null .null .null .null .null .null) x_lays4 tyX6 tyX6_ok nmX6 rfl rfl 0 (by decide) w5_87 rfl rfl hname rfl rfl rfl (Nat.le_of_ble_eq_true rfl) dX6_init_12 ?_
  show WN _ _ _ _ _ _ _ _ _ _ _ _ _ _ _ _ _ _ _ ([(h0, .inr (4, f6 (.ref (a0 2 0)) .null .null .null .null .null .null .null))] ++ x_ws (a0, g.2) (tbMk 0) Z0)
  refine n_aload_n C0 (kk := 0) 0 rfl dX6_init_15 ?_
  refine n_make C0 (c_X2_init l D g (b := 128) (Z := Z0) (Z0_m 1 (by decide) rfl)) x_lays2 tyX2 tyX2_ok rfl (fun j hj => by rcases (show j = 0 ∨ j = 1 ∨ j = 2 ∨ j = 3 ∨ j = 4 ∨ j = 5 ∨ j = 6 ∨ j = 7 ∨ j = 8 ∨ j = 9 ∨ j = 10 ∨ j = 11 ∨ j = 12 ∨ j = 13 by omega) with rfl | rfl | rfl | rfl | rfl | rfl | rfl | rfl | rfl | rfl | rfl | rfl | rfl | rfl <;> rfl) w3_133 w2_73 w1_14 w3_134 w3_135 w1_14 w3_136 rfl ⟨by decide +kernel, by decide +kernel, by decide +kernel⟩ ⟨rfl, rfl⟩ ⟨Nat.le_of_ble_eq_true rfl, Nat.le_of_ble_eq_true rfl⟩ (Nat.le_of_ble_eq_true rfl) (Nat.le_of_ble_eq_true rfl) (Nat.le_of_ble_eq_true rfl) dX6_init_16 dX6_init_19 dX6_init_20 (fun q w1 hw1 => ?_)
  obtain ⟨a1, rfl, rfl⟩ := hw1
  refine n_putF C0 (q0 := 0) (ci := 4) (T := TX6) (N := 11) (ref := RX6) (fs := f6 (.ref (a0 2 0)) .null .null .null .null .null .null .null) x_lays4 tyX6 tyX6_ok nmX6 rfl rfl 1 (by decide) w5_88 rfl rfl hname rfl rfl rfl (Nat.le_of_ble_eq_true rfl) dX6_init_23 ?_
  show WN _ _ _ _ _ _ _ _ _ _ _ _ _ _ _ _ _ _ _ ([(h0, .inr (4, f6 (.ref (a0 2 0)) (.ref (a1 2 128)) .null .null .null .null .null .null))] ++ x_ws (a0, g.2) (tbMk 0) Z0 ++ x_ws (a1, g.2) (tbMk 128) Z0)
  refine n_aload_n C0 (kk := 0) 0 rfl dX6_init_26 ?_
  refine n_make C0 (c_X2_init l D g (b := 256) (Z := Z0) (Z0_m 2 (by decide) rfl)) x_lays2 tyX2 tyX2_ok rfl (fun j hj => by rcases (show j = 0 ∨ j = 1 ∨ j = 2 ∨ j = 3 ∨ j = 4 ∨ j = 5 ∨ j = 6 ∨ j = 7 ∨ j = 8 ∨ j = 9 ∨ j = 10 ∨ j = 11 ∨ j = 12 ∨ j = 13 by omega) with rfl | rfl | rfl | rfl | rfl | rfl | rfl | rfl | rfl | rfl | rfl | rfl | rfl | rfl <;> rfl) w3_133 w2_73 w1_14 w3_134 w3_135 w1_14 w3_136 rfl ⟨by decide +kernel, by decide +kernel, by decide +kernel⟩ ⟨rfl, rfl⟩ ⟨Nat.le_of_ble_eq_true rfl, Nat.le_of_ble_eq_true rfl⟩ (Nat.le_of_ble_eq_true rfl) (Nat.le_of_ble_eq_true rfl) (Nat.le_of_ble_eq_true rfl) dX6_init_27 dX6_init_30 dX6_init_31 (fun q w1 hw1 => ?_)
  obtain ⟨a2, rfl, rfl⟩ := hw1
  refine n_putF C0 (q0 := 0) (ci := 4) (T := TX6) (N := 11) (ref := RX6) (fs := f6 (.ref (a0 2 0)) (.ref (a1 2 128)) .null .null .null .null .null .null) x_lays4 tyX6 tyX6_ok nmX6 rfl rfl 2 (by decide) w5_89 rfl rfl hname rfl rfl rfl (Nat.le_of_ble_eq_true rfl) dX6_init_34 ?_
  show WN _ _ _ _ _ _ _ _ _ _ _ _ _ _ _ _ _ _ _ ([(h0, .inr (4, f6 (.ref (a0 2 0)) (.ref (a1 2 128)) (.ref (a2 2 256)) .null .null .null .null .null))] ++ (x_ws (a0, g.2) (tbMk 0) Z0 ++ x_ws (a1, g.2) (tbMk 128) Z0 ++ x_ws (a2, g.2) (tbMk 256) Z0))
  refine n_aload_n C0 (kk := 0) 0 rfl dX6_init_37 ?_
  refine n_makeN C0 (c_X3_init l D g (Z := Z0) Z0_r) x_lays3 tyX3 tyX3_ok rfl (fun j hj => by rcases (show j = 0 ∨ j = 1 ∨ j = 2 ∨ j = 3 ∨ j = 4 ∨ j = 5 ∨ j = 6 ∨ j = 7 ∨ j = 8 ∨ j = 9 by omega) with rfl | rfl | rfl | rfl | rfl | rfl | rfl | rfl | rfl | rfl <;> rfl) w4_57 w4_58 w1_17 C0.2.2.2.2.2.2.1.2.2.2 w4_60 w1_17 w4_61 rfl ⟨by decide +kernel, by decide +kernel, by decide +kernel⟩ ⟨rfl, rfl⟩ ⟨Nat.le_of_ble_eq_true rfl, Nat.le_of_ble_eq_true rfl⟩ (Nat.le_of_ble_eq_true rfl) (Nat.le_of_ble_eq_true rfl) (Nat.le_of_ble_eq_true rfl) dX6_init_38 dX6_init_41 dX6_init_42 (fun q w1 hw1 => ?_)
  obtain ⟨ar, rfl, rfl⟩ := hw1
  refine n_putF C0 (q0 := 0) (ci := 4) (T := TX6) (N := 11) (ref := RX6) (fs := f6 (.ref (a0 2 0)) (.ref (a1 2 128)) (.ref (a2 2 256)) .null .null .null .null .null) x_lays4 tyX6 tyX6_ok nmX6 rfl rfl 3 (by decide) w5_90 rfl rfl hname rfl rfl rfl (Nat.le_of_ble_eq_true rfl) dX6_init_45 ?_
  show WN _ _ _ _ _ _ _ _ _ _ _ _ _ _ _ _ _ _ _ ([(h0, .inr (4, f6 (.ref (a0 2 0)) (.ref (a1 2 128)) (.ref (a2 2 256)) (.ref (ar 3 1777)) .null .null .null .null))] ++ (x_ws (a0, g.2) (tbMk 0) Z0 ++ x_ws (a1, g.2) (tbMk 128) Z0 ++ x_ws (a2, g.2) (tbMk 256) Z0 ++ x_ws (ar, g.2) tbR Z0))
  refine n_aload_n C0 (kk := 0) 0 rfl dX6_init_48 ?_
  refine n_bipush C0 (v := 8) rfl dX6_init_49 ?_
  refine n_newq C0 6 rfl w3_133 C0.2.2.2.2.2.2.1.1.2.2 (N := 8) (by decide) (by decide) (by decide) (Nat.le_of_ble_eq_true rfl) (Nat.le_of_ble_eq_true rfl) dX6_init_51 (fun qp => ?_)
  refine WN.perm perm1 ?_
  refine n_putF C0 (q0 := 0) (ci := 4) (T := TX6) (N := 11) (ref := RX6) (fs := f6 (.ref (a0 2 0)) (.ref (a1 2 128)) (.ref (a2 2 256)) (.ref (ar 3 1777)) .null .null .null .null) x_lays4 tyX6 tyX6_ok nmX6 rfl rfl 4 (by decide) w5_91 rfl rfl hname rfl rfl rfl (Nat.le_of_ble_eq_true rfl) dX6_init_54 ?_
  show WN _ _ _ _ _ _ _ _ _ _ _ _ _ _ _ _ _ _ _ ([(h0, .inr (4, f6 (.ref (a0 2 0)) (.ref (a1 2 128)) (.ref (a2 2 256)) (.ref (ar 3 1777)) (.ref qp) .null .null .null)), (qp, .inl (g.2.1 6, 8, .inr (.inr (.inr (.inr (fun _ => none))))))] ++ (x_ws (a0, g.2) (tbMk 0) Z0 ++ x_ws (a1, g.2) (tbMk 128) Z0 ++ x_ws (a2, g.2) (tbMk 256) Z0 ++ x_ws (ar, g.2) tbR Z0))
  refine n_aload_n C0 (kk := 0) 0 rfl dX6_init_57 ?_
  refine n_iconst C0 (v := 2) rfl dX6_init_58 ?_
  refine n_newq C0 6 rfl w3_133 C0.2.2.2.2.2.2.1.1.2.2 (N := 2) (by decide) (by decide) (by decide) (Nat.le_of_ble_eq_true rfl) (Nat.le_of_ble_eq_true rfl) dX6_init_59 (fun qs => ?_)
  refine WN.perm perm1 ?_
  refine n_putF C0 (q0 := 0) (ci := 4) (T := TX6) (N := 11) (ref := RX6) (fs := f6 (.ref (a0 2 0)) (.ref (a1 2 128)) (.ref (a2 2 256)) (.ref (ar 3 1777)) (.ref qp) .null .null .null) x_lays4 tyX6 tyX6_ok nmX6 rfl rfl 7 (by decide) w5_94 rfl rfl hname rfl rfl rfl (Nat.le_of_ble_eq_true rfl) dX6_init_62 ?_
  show WN _ _ _ _ _ _ _ _ _ _ _ _ _ _ _ _ _ _ _ ([(h0, .inr (4, f6 (.ref (a0 2 0)) (.ref (a1 2 128)) (.ref (a2 2 256)) (.ref (ar 3 1777)) (.ref qp) (.ref qs) .null .null)), (qp, .inl (g.2.1 6, 8, .inr (.inr (.inr (.inr (fun _ => none)))))), (qs, .inl (g.2.1 6, 2, .inr (.inr (.inr (.inr (fun _ => none))))))] ++ (x_ws (a0, g.2) (tbMk 0) Z0 ++ x_ws (a1, g.2) (tbMk 128) Z0 ++ x_ws (a2, g.2) (tbMk 256) Z0 ++ x_ws (ar, g.2) tbR Z0))
  refine n_aload_n C0 (kk := 0) 0 rfl dX6_init_65 ?_
  refine n_iconst C0 (v := 2) rfl dX6_init_66 ?_
  refine n_newi C0 2 (ty := .boolean) rfl rfl (fun U cA h => h) w5_120 (N := 2) rfl (by decide) (by decide) (by decide) (Nat.le_of_ble_eq_true rfl) (Nat.le_of_ble_eq_true rfl) dX6_init_67 (fun qh => ?_)
  refine WN.perm perm1 ?_
  refine n_putF C0 (q0 := 0) (ci := 4) (T := TX6) (N := 11) (ref := RX6) (fs := f6 (.ref (a0 2 0)) (.ref (a1 2 128)) (.ref (a2 2 256)) (.ref (ar 3 1777)) (.ref qp) (.ref qs) .null .null) x_lays4 tyX6 tyX6_ok nmX6 rfl rfl 8 (by decide) w5_95 rfl rfl hname rfl rfl rfl (Nat.le_of_ble_eq_true rfl) dX6_init_69 ?_
  show WN _ _ _ _ _ _ _ _ _ _ _ _ _ _ _ _ _ _ _ ([(h0, .inr (4, f6 (.ref (a0 2 0)) (.ref (a1 2 128)) (.ref (a2 2 256)) (.ref (ar 3 1777)) (.ref qp) (.ref qs) (.ref qh) .null)), (qp, .inl (g.2.1 6, 8, .inr (.inr (.inr (.inr (fun _ => none)))))), (qs, .inl (g.2.1 6, 2, .inr (.inr (.inr (.inr (fun _ => none)))))), (qh, .inl (g.2.1 2, 2, .inl (fun _ => 0)))] ++ (x_ws (a0, g.2) (tbMk 0) Z0 ++ x_ws (a1, g.2) (tbMk 128) Z0 ++ x_ws (a2, g.2) (tbMk 256) Z0 ++ x_ws (ar, g.2) tbR Z0))
  refine n_aload_n C0 (kk := 0) 0 rfl dX6_init_72 ?_
  refine n_bipush C0 (v := 100) rfl dX6_init_73 ?_
  refine n_newi C0 1 (ty := .byte) rfl rfl (fun U cA h => h) w1_120 (N := 100) rfl (by decide) (by decide) (by decide) (Nat.le_of_ble_eq_true rfl) (Nat.le_of_ble_eq_true rfl) dX6_init_75 (fun qo => ?_)
  refine WN.perm perm1 ?_
  refine n_putF C0 (q0 := 0) (ci := 4) (T := TX6) (N := 11) (ref := RX6) (fs := f6 (.ref (a0 2 0)) (.ref (a1 2 128)) (.ref (a2 2 256)) (.ref (ar 3 1777)) (.ref qp) (.ref qs) (.ref qh) .null) x_lays4 tyX6 tyX6_ok nmX6 rfl rfl 9 (by decide) w5_96 rfl rfl hname rfl rfl rfl (Nat.le_of_ble_eq_true rfl) dX6_init_77 ?_
  show WN _ _ _ _ _ _ _ _ _ _ _ _ _ _ _ _ _ _ _ ([(h0, .inr (4, f6 (.ref (a0 2 0)) (.ref (a1 2 128)) (.ref (a2 2 256)) (.ref (ar 3 1777)) (.ref qp) (.ref qs) (.ref qh) (.ref qo))), (qp, .inl (g.2.1 6, 8, .inr (.inr (.inr (.inr (fun _ => none)))))), (qs, .inl (g.2.1 6, 2, .inr (.inr (.inr (.inr (fun _ => none)))))), (qh, .inl (g.2.1 2, 2, .inl (fun _ => 0))), (qo, .inl (g.2.1 1, 100, .inl (fun _ => 0)))] ++ (x_ws (a0, g.2) (tbMk 0) Z0 ++ x_ws (a1, g.2) (tbMk 128) Z0 ++ x_ws (a2, g.2) (tbMk 256) Z0 ++ x_ws (ar, g.2) tbR Z0))
  refine n_iconst C0 (v := 0) rfl dX6_init_80 ?_
  refine n_istore_n C0 (kk := 1) (lv2 := [(1, .int 0), (0, .ref h0)]) (by decide) rfl dX6_init_81 ?_
  refine WN.sub [1, 0] rfl ?_
  have := LA 8 0 qp qs qh qo a0 a1 a2 ar (fun _ _ _ => 0) (fun _ _ _ => 0) rfl
  unfold wX xX pX plM at this
  rw [fI_0, fI_0] at this
  rw [show (List.range 0).flatMap (fun j => x_ws ((fun _ _ _ => 0 : Nat → Nat → Nat → Nat) j, g.2) (tbMk (384 + 128 * j)) Z0) = [] from rfl, show (List.range 0).flatMap (fun j => x_ws ((fun _ _ _ => 0 : Nat → Nat → Nat → Nat) j, g.2) (tbMk (1408 + 128 * j)) Z0) = [] from rfl, List.append_nil, List.append_nil] at this
  exact this
