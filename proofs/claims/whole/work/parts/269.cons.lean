/-! the model's constructor -/
theorem dX7_init_0 : decode cX7_init 0 = .ok (.aload_n 0, 1) := by decide +kernel
theorem dX7_init_1 : decode cX7_init 1 = .ok (.invokespecial 1, 3) := by decide +kernel
theorem dX7_init_4 : decode cX7_init 4 = .ok (.aload_n 0, 1) := by decide +kernel
theorem dX7_init_5 : decode cX7_init 5 = .ok (.sipush 700, 3) := by decide +kernel
theorem dX7_init_8 : decode cX7_init 8 = .ok (.newarray .int, 2) := by decide +kernel
theorem dX7_init_10 : decode cX7_init 10 = .ok (.putfield 7, 3) := by decide +kernel
theorem dX7_init_13 : decode cX7_init 13 = .ok (.aload_n 0, 1) := by decide +kernel
theorem dX7_init_14 : decode cX7_init 14 = .ok (.iconst (-1), 1) := by decide +kernel
theorem dX7_init_15 : decode cX7_init 15 = .ok (.putfield 13, 3) := by decide +kernel
theorem dX7_init_18 : decode cX7_init 18 = .ok (.aload_n 0, 1) := by decide +kernel
theorem dX7_init_19 : decode cX7_init 19 = .ok (.bipush 125, 2) := by decide +kernel
theorem dX7_init_21 : decode cX7_init 21 = .ok (.newarray .int, 2) := by decide +kernel
theorem dX7_init_23 : decode cX7_init 23 = .ok (.putfield 17, 3) := by decide +kernel
theorem dX7_init_26 : decode cX7_init 26 = .ok (.aload_n 0, 1) := by decide +kernel
theorem dX7_init_27 : decode cX7_init 27 = .ok (.bipush 125, 2) := by decide +kernel
theorem dX7_init_29 : decode cX7_init 29 = .ok (.newarray .int, 2) := by decide +kernel
theorem dX7_init_31 : decode cX7_init 31 = .ok (.putfield 20, 3) := by decide +kernel
theorem dX7_init_34 : decode cX7_init 34 = .ok (.aload_n 0, 1) := by decide +kernel
theorem dX7_init_35 : decode cX7_init 35 = .ok (.bipush 125, 2) := by decide +kernel
theorem dX7_init_37 : decode cX7_init 37 = .ok (.newarray .int, 2) := by decide +kernel
theorem dX7_init_39 : decode cX7_init 39 = .ok (.putfield 23, 3) := by decide +kernel
theorem dX7_init_42 : decode cX7_init 42 = .ok (.aload_n 0, 1) := by decide +kernel
theorem dX7_init_43 : decode cX7_init 43 = .ok (.sipush 1000, 3) := by decide +kernel
theorem dX7_init_46 : decode cX7_init 46 = .ok (.newarray .int, 2) := by decide +kernel
theorem dX7_init_48 : decode cX7_init 48 = .ok (.putfield 26, 3) := by decide +kernel
theorem dX7_init_51 : decode cX7_init 51 = .ok (.aload_n 0, 1) := by decide +kernel
theorem dX7_init_52 : decode cX7_init 52 = .ok (.sipush 250, 3) := by decide +kernel
theorem dX7_init_55 : decode cX7_init 55 = .ok (.newarray .int, 2) := by decide +kernel
theorem dX7_init_57 : decode cX7_init 57 = .ok (.putfield 29, 3) := by decide +kernel
theorem dX7_init_60 : decode cX7_init 60 = .ok (.aload_n 0, 1) := by decide +kernel
theorem dX7_init_61 : decode cX7_init 61 = .ok (.iconst 2, 1) := by decide +kernel
theorem dX7_init_62 : decode cX7_init 62 = .ok (.newarray .boolean, 2) := by decide +kernel
theorem dX7_init_64 : decode cX7_init 64 = .ok (.putfield 32, 3) := by decide +kernel
theorem dX7_init_67 : decode cX7_init 67 = .ok (.aload_n 0, 1) := by decide +kernel
theorem dX7_init_68 : decode cX7_init 68 = .ok (.iconst 5, 1) := by decide +kernel
theorem dX7_init_69 : decode cX7_init 69 = .ok (.newarray .int, 2) := by decide +kernel
theorem dX7_init_71 : decode cX7_init 71 = .ok (.putfield 36, 3) := by decide +kernel
theorem dX7_init_74 : decode cX7_init 74 = .ok (.aload_n 0, 1) := by decide +kernel
theorem dX7_init_75 : decode cX7_init 75 = .ok (.bipush 100, 2) := by decide +kernel
theorem dX7_init_77 : decode cX7_init 77 = .ok (.newarray .int, 2) := by decide +kernel
theorem dX7_init_79 : decode cX7_init 79 = .ok (.putfield 39, 3) := by decide +kernel
theorem dX7_init_82 : decode cX7_init 82 = .ok (.ldc 42, 2) := by decide +kernel
theorem dX7_init_84 : decode cX7_init 84 = .ok (.astore_n 1, 1) := by decide +kernel
theorem dX7_init_85 : decode cX7_init 85 = .ok (.iconst 0, 1) := by decide +kernel
theorem dX7_init_86 : decode cX7_init 86 = .ok (.istore_n 2, 1) := by decide +kernel
theorem dX7_init_87 : decode cX7_init 87 = .ok (.iload_n 2, 1) := by decide +kernel
theorem dX7_init_88 : decode cX7_init 88 = .ok (.aload_n 1, 1) := by decide +kernel
theorem dX7_init_89 : decode cX7_init 89 = .ok (.invokevirtual 44, 3) := by decide +kernel
theorem dX7_init_92 : decode cX7_init 92 = .ok (.if_icmp .ge 20, 3) := by decide +kernel
theorem dX7_init_95 : decode cX7_init 95 = .ok (.aload_n 0, 1) := by decide +kernel
theorem dX7_init_96 : decode cX7_init 96 = .ok (.getfield 7, 3) := by decide +kernel
theorem dX7_init_99 : decode cX7_init 99 = .ok (.iload_n 2, 1) := by decide +kernel
theorem dX7_init_100 : decode cX7_init 100 = .ok (.aload_n 1, 1) := by decide +kernel
theorem dX7_init_101 : decode cX7_init 101 = .ok (.iload_n 2, 1) := by decide +kernel
theorem dX7_init_102 : decode cX7_init 102 = .ok (.invokevirtual 50, 3) := by decide +kernel
theorem dX7_init_105 : decode cX7_init 105 = .ok (.iastore, 1) := by decide +kernel
theorem dX7_init_106 : decode cX7_init 106 = .ok (.iinc 2 1, 3) := by decide +kernel
theorem dX7_init_109 : decode cX7_init 109 = .ok (.goto (-22), 3) := by decide +kernel
theorem dX7_init_112 : decode cX7_init 112 = .ok (.aload_n 0, 1) := by decide +kernel
theorem dX7_init_113 : decode cX7_init 113 = .ok (.aload_n 1, 1) := by decide +kernel
theorem dX7_init_114 : decode cX7_init 114 = .ok (.invokevirtual 44, 3) := by decide +kernel
theorem dX7_init_117 : decode cX7_init 117 = .ok (.putfield 54, 3) := by decide +kernel
theorem dX7_init_120 : decode cX7_init 120 = .ok (.aload_n 0, 1) := by decide +kernel
theorem dX7_init_121 : decode cX7_init 121 = .ok (.invokevirtual 57, 3) := by decide +kernel
theorem dX7_init_124 : decode cX7_init 124 = .ok (.istore_n 2, 1) := by decide +kernel
theorem dX7_init_125 : decode cX7_init 125 = .ok (.return_, 1) := by decide +kernel
theorem hd_X7_init : yX7_init.cls = RX7 ∧ yX7_init.cls ≠ "java/lang/invoke/MethodHandle" ∧ yX7_init.cls ≠ "java/lang/invoke/VarHandle" ∧ (parseMethodDescriptor yX7_init.desc).map (fun d => d.parameters.length) = some 0 := by decide +kernel
def f7 (bu ep no as tr hi sa is' te ou : Value) : List Value := [bu, .int 0, .int 0, ep, .int 0, no, as, tr, hi, .int 0, sa, is', .int 0, te, ou, .int 0, .int 0, .int 0, .int 0, .int 0]
def aY (gs : Nat → Nat → Nat) (h0 q0 q1 q2 q3 q4 q5 q6 q7 q8 : Nat) : Nat → Nat → Nat := fun k z => if 20 ≤ k then gs k z else if k = 5 then h0 else if k = 8 then q6 else if z = 4252 then q0 else if z = 2520 then q1 else if z = 2645 then q2 else if z = 2770 then q3 else if z = 2895 then q4 else if z = 3895 then q5 else if z = 4147 then q7 else q8
def wY (g : xG) (h0 q0 q1 q2 q3 q4 q5 q6 q7 q8 : Nat) : va_W := [(h0, .inr (5, f7 (.ref q0) (.int (-1)) (.ref q1) (.ref q2) (.ref q3) (.ref q4) (.ref q5) (.ref q6) (.ref q7) (.ref q8))), (q0, .inl (g.2.1 0, 700, .inl (fun _ => 0))), (q1, .inl (g.2.1 0, 125, .inl (fun _ => 0))), (q2, .inl (g.2.1 0, 125, .inl (fun _ => 0))), (q3, .inl (g.2.1 0, 125, .inl (fun _ => 0))), (q4, .inl (g.2.1 0, 1000, .inl (fun _ => 0))), (q5, .inl (g.2.1 0, 250, .inl (fun _ => 0))), (q6, .inl (g.2.1 2, 2, .inl (fun _ => 0))), (q7, .inl (g.2.1 0, 5, .inl (fun _ => 0))), (q8, .inl (g.2.1 0, 100, .inl (fun _ => 0)))]
def Yb (M1 : xM) : xM := fun z => if z < 2500 then M1 z else Z0 z
theorem Yb_0 {M1 : xM} {z : Nat} (h : 2500 ≤ z) (h2 : z ≠ 2503) : Yb M1 z = 0 := by
  unfold Yb
  rw [if_neg (by omega)]
  exact Z0_0 (by omega) (by omega) h2
theorem aY_P {D : va_G} {g : xG} {M1 : xM} {h0 q0 q1 q2 q3 q4 q5 q6 q7 q8 : Nat} {H : Heap} (hP : va_P D xCl (wY g h0 q0 q1 q2 q3 q4 q5 q6 q7 q8) H) : x_H D (aY g.1 h0 q0 q1 q2 q3 q4 q5 q6 q7 q8, g.2) tbM (Yb M1) H := by
  have hp := P_iff.mp hP
  refine P_iff.mpr (fun q hq => ?_)
  obtain ⟨r, hr, rfl⟩ := List.mem_map.mp hq
  simp only [tbM, List.mem_cons, List.not_mem_nil, or_false] at hr
  rcases hr with rfl | rfl | rfl | rfl | rfl | rfl | rfl | rfl | rfl | rfl
  · have h := hp _ List.mem_cons_self
    have e : x_cell (aY g.1 h0 q0 q1 q2 q3 q4 q5 q6 q7 q8, g.2) (Yb M1) (5, 2500, 0) = .inr (5, f7 (.ref q0) (.int (-1)) (.ref q1) (.ref q2) (.ref q3) (.ref q4) (.ref q5) (.ref q6) (.ref q7) (.ref q8)) := by
      show (Sum.inr (5, x_f5 (aY g.1 h0 q0 q1 q2 q3 q4 q5 q6 q7 q8, g.2) 2500 (Yb M1)) : va_E) = _
      unfold x_f5
      rw [show Yb M1 (2500 + 3) = -1 from rfl, Yb_0 (z := 2500 + 1) (by decide) (by decide), Yb_0 (z := 2500 + 2) (by decide) (by decide), Yb_0 (z := 2500 + 4) (by decide) (by decide), Yb_0 (z := 2500 + 9) (by decide) (by decide), Yb_0 (z := 2500 + 12) (by decide) (by decide), Yb_0 (z := 2500 + 15) (by decide) (by decide), Yb_0 (z := 2500 + 16) (by decide) (by decide), Yb_0 (z := 2500 + 17) (by decide) (by decide), Yb_0 (z := 2500 + 18) (by decide) (by decide), Yb_0 (z := 2500 + 19) (by decide) (by decide)]
      rfl
    rw [e]
    exact h
  · have h := hp (q0, .inl (g.2.1 0, 700, .inl (fun _ => 0))) (List.mem_of_getElem? (i := 1) rfl)
    exact Eq.trans (show H[q0]? = some (vp_cell (g.2.1 0) (700, .inl (fun _ => 0))) from h) (congrArg some (arr_i (fun j hj => (show Yb M1 (4252 + j) = 0 from Yb_0 (by omega) (by omega)).symm)))
  · have h := hp (q1, .inl (g.2.1 0, 125, .inl (fun _ => 0))) (List.mem_of_getElem? (i := 2) rfl)
    exact Eq.trans (show H[q1]? = some (vp_cell (g.2.1 0) (125, .inl (fun _ => 0))) from h) (congrArg some (arr_i (fun j hj => (show Yb M1 (2520 + j) = 0 from Yb_0 (by omega) (by omega)).symm)))
  · have h := hp (q2, .inl (g.2.1 0, 125, .inl (fun _ => 0))) (List.mem_of_getElem? (i := 3) rfl)
    exact Eq.trans (show H[q2]? = some (vp_cell (g.2.1 0) (125, .inl (fun _ => 0))) from h) (congrArg some (arr_i (fun j hj => (show Yb M1 (2645 + j) = 0 from Yb_0 (by omega) (by omega)).symm)))
  · have h := hp (q3, .inl (g.2.1 0, 125, .inl (fun _ => 0))) (List.mem_of_getElem? (i := 4) rfl)
    exact Eq.trans (show H[q3]? = some (vp_cell (g.2.1 0) (125, .inl (fun _ => 0))) from h) (congrArg some (arr_i (fun j hj => (show Yb M1 (2770 + j) = 0 from Yb_0 (by omega) (by omega)).symm)))
  · have h := hp (q4, .inl (g.2.1 0, 1000, .inl (fun _ => 0))) (List.mem_of_getElem? (i := 5) rfl)
    exact Eq.trans (show H[q4]? = some (vp_cell (g.2.1 0) (1000, .inl (fun _ => 0))) from h) (congrArg some (arr_i (fun j hj => (show Yb M1 (2895 + j) = 0 from Yb_0 (by omega) (by omega)).symm)))
  · have h := hp (q5, .inl (g.2.1 0, 250, .inl (fun _ => 0))) (List.mem_of_getElem? (i := 6) rfl)
    exact Eq.trans (show H[q5]? = some (vp_cell (g.2.1 0) (250, .inl (fun _ => 0))) from h) (congrArg some (arr_i (fun j hj => (show Yb M1 (3895 + j) = 0 from Yb_0 (by omega) (by omega)).symm)))
  · have h := hp (q6, .inl (g.2.1 2, 2, .inl (fun _ => 0))) (List.mem_of_getElem? (i := 7) rfl)
    exact Eq.trans (show H[q6]? = some (vp_cell (g.2.1 2) (2, .inl (fun _ => 0))) from h) (congrArg some (arr_i (fun j hj => (show Yb M1 (4145 + j) = 0 from Yb_0 (by omega) (by omega)).symm)))
  · have h := hp (q7, .inl (g.2.1 0, 5, .inl (fun _ => 0))) (List.mem_of_getElem? (i := 8) rfl)
    exact Eq.trans (show H[q7]? = some (vp_cell (g.2.1 0) (5, .inl (fun _ => 0))) from h) (congrArg some (arr_i (fun j hj => (show Yb M1 (4147 + j) = 0 from Yb_0 (by omega) (by omega)).symm)))
  · have h := hp (q8, .inl (g.2.1 0, 100, .inl (fun _ => 0))) (List.mem_of_getElem? (i := 9) rfl)
    exact Eq.trans (show H[q8]? = some (vp_cell (g.2.1 0) (100, .inl (fun _ => 0))) from h) (congrArg some (arr_i (fun j hj => (show Yb M1 (4152 + j) = 0 from Yb_0 (by omega) (by omega)).symm)))
def Yt (M1 : xM) (i : Nat) : xM := fun z => if 4252 ≤ z ∧ z < 4252 + i then x_sb 20 (z - 4252) else Yb M1 z
theorem Yt_0 {M1 : xM} : Yt M1 0 = Yb M1 := by
  funext z
  exact if_neg (by omega)
theorem Yt_s {M1 : xM} {i : Nat} : upd (Yt M1 i) (4252 + i) (x_sb 20 i) = Yt M1 (i + 1) := by
  funext z
  by_cases h : z = 4252 + i
  · subst h
    rw [us]
    unfold Yt
    rw [if_pos (by omega), show 4252 + i - 4252 = i by omega]
  · rw [un h]
    unfold Yt
    by_cases h2 : 4252 ≤ z ∧ z < 4252 + i
    · rw [if_pos h2, if_pos (by omega)]
    · rw [if_neg h2, if_neg (by omega)]
theorem Yt_mt {M1 : xM} : MT 181 B20 (upd (Yt M1 181) 2501 (nI 181)) := by
  refine ⟨us, by decide, fun j hj => ?_⟩
  have := B20_x.2 ⟨j, hj⟩
  refine ⟨Nat.lt_trans (B20_lt hj) (by decide), ?_⟩
  rw [un (by omega)]
  unfold Yt
  rw [if_pos (by omega), show 4252 + j - 4252 = j by omega]
  exact this.1
def RY : Room := { frames := 11, cells := 9, slots := 2432, locals := 249 }
set_option maxRecDepth 100000 in
set_option maxHeartbeats 4000000 in
theorem c_X7_init (l : Launch) (D : va_G) (g : xG) {M1 : xM} (hX : oX M1) : nM l D g yX7_init cX7_init 3 RY 5 (f7 .null (.int 0) .null .null .null .null .null .null .null .null) 9 2432 (fun h w1 => ∃ (a : Nat → Nat → Nat) (M2 : xM), a 5 2500 = h ∧ (∀ k z, 20 ≤ k → a k z = g.1 k z) ∧ w1 = x_ws (a, g.2) tbM M2 ∧ (∀ z, z < 2500 → M2 z = M1 z) ∧ RR 4000 M2) := by
  refine n_start (own := RX7) (by decide +kernel) rfl rfl (Nat.le_of_ble_eq_true rfl) ?_
  intro p e s m args below meth c h0 A Q C0 hA0 hA1 hname hend
  refine n_aload_n C0 (kk := 0) 0 rfl dX7_init_0 ?_
  refine n_obj C0 w5_229 wO2 wO3 (by decide) (by decide) dX7_init_1 ?_
  refine n_aload_n C0 (kk := 0) 0 rfl dX7_init_4 ?_
  refine n_sipush C0 (v := 700) rfl dX7_init_5 ?_
  refine n_newi C0 0 (ty := .int) rfl rfl (fun U cA h => h) w1_93 (N := 700) rfl (by decide) (by decide) (by decide) (Nat.le_of_ble_eq_true rfl) (Nat.le_of_ble_eq_true rfl) dX7_init_8 (fun q0 => ?_)
  refine n_putF C0 (q0 := 0) (ci := 5) (T := TX7) (N := 20) (ref := RX7) (fs := f7 .null (.int 0) .null .null .null .null .null .null .null .null) x_lays5 tyX7 tyX7_ok nmX7 rfl rfl 0 (by decide) w6_216 rfl rfl hname rfl rfl rfl (Nat.le_of_ble_eq_true rfl) dX7_init_10 ?_
  show WN _ _ _ _ _ _ _ _ _ _ _ _ _ _ _ _ _ _ _ ([(h0, .inr (5, f7 (.ref q0) (.int 0) .null .null .null .null .null .null .null .null)), (q0, .inl (g.2.1 0, 700, .inl (fun _ => 0)))])
  refine n_aload_n C0 (kk := 0) 0 rfl dX7_init_13 ?_
  refine n_iconst C0 (v := -1) rfl dX7_init_14 ?_
  refine n_put C0 (q0 := 0) (ci := 5) (T := TX7) (N := 20) (ref := RX7) (fs := f7 (.ref q0) (.int 0) .null .null .null .null .null .null .null .null) x_lays5 tyX7 tyX7_ok nmX7 rfl rfl 3 (by decide) w6_219 rfl rfl rfl rfl (Nat.le_of_ble_eq_true rfl) dX7_init_15 ?_
  show WN _ _ _ _ _ _ _ _ _ _ _ _ _ _ _ _ _ _ _ ([(h0, .inr (5, f7 (.ref q0) (.int (-1)) .null .null .null .null .null .null .null .null)), (q0, .inl (g.2.1 0, 700, .inl (fun _ => 0)))])
  refine n_aload_n C0 (kk := 0) 0 rfl dX7_init_18 ?_
  refine n_bipush C0 (v := 125) rfl dX7_init_19 ?_
  refine n_newi C0 0 (ty := .int) rfl rfl (fun U cA h => h) w1_93 (N := 125) rfl (by decide) (by decide) (by decide) (Nat.le_of_ble_eq_true rfl) (Nat.le_of_ble_eq_true rfl) dX7_init_21 (fun q1 => ?_)
  refine n_putF C0 (q0 := 0) (ci := 5) (T := TX7) (N := 20) (ref := RX7) (fs := f7 (.ref q0) (.int (-1)) .null .null .null .null .null .null .null .null) x_lays5 tyX7 tyX7_ok nmX7 rfl rfl 5 (by decide) w6_221 rfl rfl hname rfl rfl rfl (Nat.le_of_ble_eq_true rfl) dX7_init_23 ?_
  show WN _ _ _ _ _ _ _ _ _ _ _ _ _ _ _ _ _ _ _ ([(h0, .inr (5, f7 (.ref q0) (.int (-1)) (.ref q1) .null .null .null .null .null .null .null)), (q0, .inl (g.2.1 0, 700, .inl (fun _ => 0))), (q1, .inl (g.2.1 0, 125, .inl (fun _ => 0)))])
  refine n_aload_n C0 (kk := 0) 0 rfl dX7_init_26 ?_
  refine n_bipush C0 (v := 125) rfl dX7_init_27 ?_
  refine n_newi C0 0 (ty := .int) rfl rfl (fun U cA h => h) w1_93 (N := 125) rfl (by decide) (by decide) (by decide) (Nat.le_of_ble_eq_true rfl) (Nat.le_of_ble_eq_true rfl) dX7_init_29 (fun q2 => ?_)
  refine n_putF C0 (q0 := 0) (ci := 5) (T := TX7) (N := 20) (ref := RX7) (fs := f7 (.ref q0) (.int (-1)) (.ref q1) .null .null .null .null .null .null .null) x_lays5 tyX7 tyX7_ok nmX7 rfl rfl 6 (by decide) w6_222 rfl rfl hname rfl rfl rfl (Nat.le_of_ble_eq_true rfl) dX7_init_31 ?_
  show WN _ _ _ _ _ _ _ _ _ _ _ _ _ _ _ _ _ _ _ ([(h0, .inr (5, f7 (.ref q0) (.int (-1)) (.ref q1) (.ref q2) .null .null .null .null .null .null)), (q0, .inl (g.2.1 0, 700, .inl (fun _ => 0))), (q1, .inl (g.2.1 0, 125, .inl (fun _ => 0))), (q2, .inl (g.2.1 0, 125, .inl (fun _ => 0)))])
  refine n_aload_n C0 (kk := 0) 0 rfl dX7_init_34 ?_
  refine n_bipush C0 (v := 125) rfl dX7_init_35 ?_
  refine n_newi C0 0 (ty := .int) rfl rfl (fun U cA h => h) w1_93 (N := 125) rfl (by decide) (by decide) (by decide) (Nat.le_of_ble_eq_true rfl) (Nat.le_of_ble_eq_true rfl) dX7_init_37 (fun q3 => ?_)
  refine n_putF C0 (q0 := 0) (ci := 5) (T := TX7) (N := 20) (ref := RX7) (fs := f7 (.ref q0) (.int (-1)) (.ref q1) (.ref q2) .null .null .null .null .null .null) x_lays5 tyX7 tyX7_ok nmX7 rfl rfl 7 (by decide) w6_223 rfl rfl hname rfl rfl rfl (Nat.le_of_ble_eq_true rfl) dX7_init_39 ?_
  show WN _ _ _ _ _ _ _ _ _ _ _ _ _ _ _ _ _ _ _ ([(h0, .inr (5, f7 (.ref q0) (.int (-1)) (.ref q1) (.ref q2) (.ref q3) .null .null .null .null .null)), (q0, .inl (g.2.1 0, 700, .inl (fun _ => 0))), (q1, .inl (g.2.1 0, 125, .inl (fun _ => 0))), (q2, .inl (g.2.1 0, 125, .inl (fun _ => 0))), (q3, .inl (g.2.1 0, 125, .inl (fun _ => 0)))])
  refine n_aload_n C0 (kk := 0) 0 rfl dX7_init_42 ?_
  refine n_sipush C0 (v := 1000) rfl dX7_init_43 ?_
  refine n_newi C0 0 (ty := .int) rfl rfl (fun U cA h => h) w1_93 (N := 1000) rfl (by decide) (by decide) (by decide) (Nat.le_of_ble_eq_true rfl) (Nat.le_of_ble_eq_true rfl) dX7_init_46 (fun q4 => ?_)
  refine n_putF C0 (q0 := 0) (ci := 5) (T := TX7) (N := 20) (ref := RX7) (fs := f7 (.ref q0) (.int (-1)) (.ref q1) (.ref q2) (.ref q3) .null .null .null .null .null) x_lays5 tyX7 tyX7_ok nmX7 rfl rfl 8 (by decide) w6_224 rfl rfl hname rfl rfl rfl (Nat.le_of_ble_eq_true rfl) dX7_init_48 ?_
  show WN _ _ _ _ _ _ _ _ _ _ _ _ _ _ _ _ _ _ _ ([(h0, .inr (5, f7 (.ref q0) (.int (-1)) (.ref q1) (.ref q2) (.ref q3) (.ref q4) .null .null .null .null)), (q0, .inl (g.2.1 0, 700, .inl (fun _ => 0))), (q1, .inl (g.2.1 0, 125, .inl (fun _ => 0))), (q2, .inl (g.2.1 0, 125, .inl (fun _ => 0))), (q3, .inl (g.2.1 0, 125, .inl (fun _ => 0))), (q4, .inl (g.2.1 0, 1000, .inl (fun _ => 0)))])
  refine n_aload_n C0 (kk := 0) 0 rfl dX7_init_51 ?_
  refine n_sipush C0 (v := 250) rfl dX7_init_52 ?_
  refine n_newi C0 0 (ty := .int) rfl rfl (fun U cA h => h) w1_93 (N := 250) rfl (by decide) (by decide) (by decide) (Nat.le_of_ble_eq_true rfl) (Nat.le_of_ble_eq_true rfl) dX7_init_55 (fun q5 => ?_)
  refine n_putF C0 (q0 := 0) (ci := 5) (T := TX7) (N := 20) (ref := RX7) (fs := f7 (.ref q0) (.int (-1)) (.ref q1) (.ref q2) (.ref q3) (.ref q4) .null .null .null .null) x_lays5 tyX7 tyX7_ok nmX7 rfl rfl 10 (by decide) w6_226 rfl rfl hname rfl rfl rfl (Nat.le_of_ble_eq_true rfl) dX7_init_57 ?_
  show WN _ _ _ _ _ _ _ _ _ _ _ _ _ _ _ _ _ _ _ ([(h0, .inr (5, f7 (.ref q0) (.int (-1)) (.ref q1) (.ref q2) (.ref q3) (.ref q4) (.ref q5) .null .null .null)), (q0, .inl (g.2.1 0, 700, .inl (fun _ => 0))), (q1, .inl (g.2.1 0, 125, .inl (fun _ => 0))), (q2, .inl (g.2.1 0, 125, .inl (fun _ => 0))), (q3, .inl (g.2.1 0, 125, .inl (fun _ => 0))), (q4, .inl (g.2.1 0, 1000, .inl (fun _ => 0))), (q5, .inl (g.2.1 0, 250, .inl (fun _ => 0)))])
  refine n_aload_n C0 (kk := 0) 0 rfl dX7_init_60 ?_
  refine n_iconst C0 (v := 2) rfl dX7_init_61 ?_
  refine n_newi C0 2 (ty := .boolean) rfl rfl (fun U cA h => h) w3_136 (N := 2) rfl (by decide) (by decide) (by decide) (Nat.le_of_ble_eq_true rfl) (Nat.le_of_ble_eq_true rfl) dX7_init_62 (fun q6 => ?_)
  refine n_putF C0 (q0 := 0) (ci := 5) (T := TX7) (N := 20) (ref := RX7) (fs := f7 (.ref q0) (.int (-1)) (.ref q1) (.ref q2) (.ref q3) (.ref q4) (.ref q5) .null .null .null) x_lays5 tyX7 tyX7_ok nmX7 rfl rfl 11 (by decide) w6_227 rfl rfl hname rfl rfl rfl (Nat.le_of_ble_eq_true rfl) dX7_init_64 ?_
  show WN _ _ _ _ _ _ _ _ _ _ _ _ _ _ _ _ _ _ _ ([(h0, .inr (5, f7 (.ref q0) (.int (-1)) (.ref q1) (.ref q2) (.ref q3) (.ref q4) (.ref q5) (.ref q6) .null .null)), (q0, .inl (g.2.1 0, 700, .inl (fun _ => 0))), (q1, .inl (g.2.1 0, 125, .inl (fun _ => 0))), (q2, .inl (g.2.1 0, 125, .inl (fun _ => 0))), (q3, .inl (g.2.1 0, 125, .inl (fun _ => 0))), (q4, .inl (g.2.1 0, 1000, .inl (fun _ => 0))), (q5, .inl (g.2.1 0, 250, .inl (fun _ => 0))), (q6, .inl (g.2.1 2, 2, .inl (fun _ => 0)))])
  refine n_aload_n C0 (kk := 0) 0 rfl dX7_init_67 ?_
  refine n_iconst C0 (v := 5) rfl dX7_init_68 ?_
  refine n_newi C0 0 (ty := .int) rfl rfl (fun U cA h => h) w1_93 (N := 5) rfl (by decide) (by decide) (by decide) (Nat.le_of_ble_eq_true rfl) (Nat.le_of_ble_eq_true rfl) dX7_init_69 (fun q7 => ?_)
  refine n_putF C0 (q0 := 0) (ci := 5) (T := TX7) (N := 20) (ref := RX7) (fs := f7 (.ref q0) (.int (-1)) (.ref q1) (.ref q2) (.ref q3) (.ref q4) (.ref q5) (.ref q6) .null .null) x_lays5 tyX7 tyX7_ok nmX7 rfl rfl 13 (by decide) w6_229 rfl rfl hname rfl rfl rfl (Nat.le_of_ble_eq_true rfl) dX7_init_71 ?_
  show WN _ _ _ _ _ _ _ _ _ _ _ _ _ _ _ _ _ _ _ ([(h0, .inr (5, f7 (.ref q0) (.int (-1)) (.ref q1) (.ref q2) (.ref q3) (.ref q4) (.ref q5) (.ref q6) (.ref q7) .null)), (q0, .inl (g.2.1 0, 700, .inl (fun _ => 0))), (q1, .inl (g.2.1 0, 125, .inl (fun _ => 0))), (q2, .inl (g.2.1 0, 125, .inl (fun _ => 0))), (q3, .inl (g.2.1 0, 125, .inl (fun _ => 0))), (q4, .inl (g.2.1 0, 1000, .inl (fun _ => 0))), (q5, .inl (g.2.1 0, 250, .inl (fun _ => 0))), (q6, .inl (g.2.1 2, 2, .inl (fun _ => 0))), (q7, .inl (g.2.1 0, 5, .inl (fun _ => 0)))])
  refine n_aload_n C0 (kk := 0) 0 rfl dX7_init_74 ?_
  refine n_bipush C0 (v := 100) rfl dX7_init_75 ?_
  refine n_newi C0 0 (ty := .int) rfl rfl (fun U cA h => h) w1_93 (N := 100) rfl (by decide) (by decide) (by decide) (Nat.le_of_ble_eq_true rfl) (Nat.le_of_ble_eq_true rfl) dX7_init_77 (fun q8 => ?_)
  refine n_putF C0 (q0 := 0) (ci := 5) (T := TX7) (N := 20) (ref := RX7) (fs := f7 (.ref q0) (.int (-1)) (.ref q1) (.ref q2) (.ref q3) (.ref q4) (.ref q5) (.ref q6) (.ref q7) .null) x_lays5 tyX7 tyX7_ok nmX7 rfl rfl 14 (by decide) w6_230 rfl rfl hname rfl rfl rfl (Nat.le_of_ble_eq_true rfl) dX7_init_79 ?_
  show WN _ _ _ _ _ _ _ _ _ _ _ _ _ _ _ _ _ _ _ ([(h0, .inr (5, f7 (.ref q0) (.int (-1)) (.ref q1) (.ref q2) (.ref q3) (.ref q4) (.ref q5) (.ref q6) (.ref q7) (.ref q8))), (q0, .inl (g.2.1 0, 700, .inl (fun _ => 0))), (q1, .inl (g.2.1 0, 125, .inl (fun _ => 0))), (q2, .inl (g.2.1 0, 125, .inl (fun _ => 0))), (q3, .inl (g.2.1 0, 125, .inl (fun _ => 0))), (q4, .inl (g.2.1 0, 1000, .inl (fun _ => 0))), (q5, .inl (g.2.1 0, 250, .inl (fun _ => 0))), (q6, .inl (g.2.1 2, 2, .inl (fun _ => 0))), (q7, .inl (g.2.1 0, 5, .inl (fun _ => 0))), (q8, .inl (g.2.1 0, 100, .inl (fun _ => 0)))])
  intro H locs ls h1 h2 h3 h4
  have hPX : x_H D (aY g.1 h0 q0 q1 q2 q3 q4 q5 q6 q7 q8, g.2) tbM (Yb M1) H := aY_P h1
  have hDX : ∀ M : xM, va_D A (x_ws (aY g.1 h0 q0 q1 q2 q3 q4 q5 q6 q7 q8, g.2) tbM M) := fun M => D_addr (by rw [ws_fst]; rfl) h2
  have hT : x_T (aY g.1 h0 q0 q1 q2 q3 q4 q5 q6 q7 q8, g.2) tbM := T_of (hDX Z0) apt_M
  have hAX : ∀ q, x_A (aY g.1 h0 q0 q1 q2 q3 q4 q5 q6 q7 q8, g.2) tbM s.heap.size q → A q := by
    intro q hq
    rcases hq with ⟨r, hr, e⟩ | hq
    · rw [e]
      exact (D_iff.mp (hDX Z0)).2 (x_ad _ r, x_cell _ Z0 r) (List.mem_map.mpr ⟨r, hr, rfl⟩)
    · exact C0.2.2.2.2.2.2.2.1 q hq
  have hXA : ∀ q, A q → x_A (aY g.1 h0 q0 q1 q2 q3 q4 q5 q6 q7 q8, g.2) tbM s.heap.size q := by
    intro q hq
    rcases hA1 q hq with e | hq
    · exact Or.inl ⟨(5, 2500, 0), List.mem_cons_self, e⟩
    · exact Or.inr hq
  have hKS : x_KS (aY g.1 h0 q0 q1 q2 q3 q4 q5 q6 q7 q8, g.2) tbM s := by
    obtain ⟨u1, u2, u3, u4, u5⟩ := C0.2.2.2.2.2.2.2.2
    exact ⟨u1, u2, u3, u4, x_KA.to (Vm.Alike.refl s.vm) (fun _ _ _ => rfl) hAX u5⟩
  have C1 : CC p s m args c cX7_init 3 RX7 D (aY g.1 h0 q0 q1 q2 q3 q4 q5 q6 q7 q8, g.2) tbM := ⟨C0.1, C0.2.1, C0.2.2.1, C0.2.2.2.1, C0.2.2.2.2.1, C0.2.2.2.2.2.1, hT, hKS⟩
  have hmd : x_md tbM := md_in (fun q hq => hq)
  obtain ⟨M2, e2, k2, hR⟩ := hX (upd (Yt M1 181) 2501 (nI 181)) Yt_mt (fun z hz => by
    rw [un (by omega)]
    unfold Yt Yb
    rw [if_neg (by omega), if_pos hz]) (by
    rw [un (by omega)]
    unfold Yt
    rw [if_neg (by omega)]
    exact Yb_0 (by decide) (by decide))
  have kM : ∀ z, z < 2500 → M2 z = M1 z := fun z hz => by
    rw [k2 z hz, un (by omega)]
    unfold Yt Yb
    rw [if_neg (by omega), if_pos hz]
  have L : ∀ k i : Nat, i + k = 181 → WW p l e RY s m args below meth c 9 2432 Q 3 D (aY g.1 h0 q0 q1 q2 q3 q4 q5 q6 q7 q8, g.2) tbM 87 [(0, .ref h0), (1, .ref (g.1 20 20)), (2, .int (nI i))] [] (Yt M1 i) := by
    intro k
    induction k with
    | zero =>
      intro i hi
      have hi : i = 181 := by omega
      subst hi
      refine r_iload_n C1 (kk := 2) 2 rfl dX7_init_87 ?_
      refine r_aload_n C1 (kk := 1) 1 rfl dX7_init_88 ?_
      refine r_callVi C1 (As := []) (rest := [.int (nI 181)]) (c_J0_length_8abf5 l D (aY g.1 h0 q0 q1 q2 q3 q4 q5 q6 q7 q8, g.2) tbM hT (by decide) (j_len 20 _)) w5_231 w2_6 w2_7 w1_6 w2_8 (x_rec20 C1 (by decide)) hd_J0_length_8abf5 rfl ⟨rfl, rfl⟩ ⟨Nat.le_of_ble_eq_true rfl, Nat.le_of_ble_eq_true rfl⟩ (Nat.le_of_ble_eq_true rfl) (Nat.le_of_ble_eq_true rfl) rfl (Nat.le_of_ble_eq_true rfl) dX7_init_89 ?_
      refine r_icmp_ge C1 (tgt := 112) (by decide) dX7_init_92 (fun q => ?_) (fun q => absurd (by rw [B20_x.1]; decide) q)
      refine r_aload_n C1 (kk := 0) 0 rfl dX7_init_112 ?_
      refine r_aload_n C1 (kk := 1) 1 rfl dX7_init_113 ?_
      refine r_callVi C1 (As := []) (rest := [.ref h0]) (c_J0_length_8abf5 l D (aY g.1 h0 q0 q1 q2 q3 q4 q5 q6 q7 q8, g.2) tbM hT (by decide) (j_len 20 _)) w5_231 w2_6 w2_7 w1_6 w2_8 (x_rec20 C1 (by decide)) hd_J0_length_8abf5 rfl ⟨rfl, rfl⟩ ⟨Nat.le_of_ble_eq_true rfl, Nat.le_of_ble_eq_true rfl⟩ (Nat.le_of_ble_eq_true rfl) (Nat.le_of_ble_eq_true rfl) rfl (Nat.le_of_ble_eq_true rfl) dX7_init_114 ?_
      rw [B20_x.1]
      refine r_put5 C1 hmd.1 1 rfl rfl w6_217 rfl rfl rfl dX7_init_117 ?_
      refine r_aload_n C1 (kk := 0) 0 rfl dX7_init_120 ?_
      refine r_callVi C1 (As := []) (rest := []) (c_X7_loadSetup l D (aY g.1 h0 q0 q1 q2 q3 q4 q5 q6 q7 q8, g.2) tbM hT hmd e2) w5_233 w5_234 w5_235 w1_14 w5_236 (x_rec5 C1 hmd.1) hd_X7_loadSetup rfl ⟨rfl, rfl⟩ ⟨Nat.le_of_ble_eq_true rfl, Nat.le_of_ble_eq_true rfl⟩ (Nat.le_of_ble_eq_true rfl) (Nat.le_of_ble_eq_true rfl) rfl (Nat.le_of_ble_eq_true rfl) dX7_init_121 ?_
      refine r_istore_n C1 (kk := 2) (lv2 := [(2, .int (M1 9)), (0, .ref h0), (1, .ref (g.1 20 20))]) (by decide) rfl dX7_init_124 ?_
      intro H locs ls h1 h2 h3
      exact hend (ws := x_ws (aY g.1 h0 q0 q1 q2 q3 q4 q5 q6 q7 q8, g.2) tbM M2) ⟨_, M2, rfl, fun k z hk => if_pos hk, rfl, kM, hR⟩ (fun H h => h) (fun h => h) dX7_init_125 H locs ls h1 (hDX M2) (S_up hAX h2) h3
    | succ k ih =>
      intro i hi
      refine r_iload_n C1 (kk := 2) 2 rfl dX7_init_87 ?_
      refine r_aload_n C1 (kk := 1) 1 rfl dX7_init_88 ?_
      refine r_callVi C1 (As := []) (rest := [.int (nI i)]) (c_J0_length_8abf5 l D (aY g.1 h0 q0 q1 q2 q3 q4 q5 q6 q7 q8, g.2) tbM hT (by decide) (j_len 20 _)) w5_231 w2_6 w2_7 w1_6 w2_8 (x_rec20 C1 (by decide)) hd_J0_length_8abf5 rfl ⟨rfl, rfl⟩ ⟨Nat.le_of_ble_eq_true rfl, Nat.le_of_ble_eq_true rfl⟩ (Nat.le_of_ble_eq_true rfl) (Nat.le_of_ble_eq_true rfl) rfl (Nat.le_of_ble_eq_true rfl) dX7_init_89 ?_
      refine r_icmp_ge C1 (tgt := 112) (by decide) dX7_init_92 (fun q => absurd q (by rw [B20_x.1]; exact nI_ge (by omega) (by decide))) (fun q => ?_)
      refine r_aload_n C1 (kk := 0) 0 rfl dX7_init_95 ?_
      refine r_get5 C1 hmd.1 0 (by decide) (v := .ref q0) rfl rfl w6_216 dX7_init_96 ?_
      refine r_iload_n C1 (kk := 2) 2 rfl dX7_init_99 ?_
      refine r_aload_n C1 (kk := 1) 1 rfl dX7_init_100 ?_
      refine r_iload_n C1 (kk := 2) 2 rfl dX7_init_101 ?_
      refine r_callVi C1 (As := [.int (nI i)]) (rest := [.int (nI i), .ref q0]) (c_J0_charAt_5068e l D (aY g.1 h0 q0 q1 q2 q3 q4 q5 q6 q7 q8, g.2) tbM hT (by decide) (j_char (a := 20) (j := i) (by decide) (by rw [B20_x.1]; omega) (by rw [B20_x.1]; decide) _)) w5_232 w2_16 w2_17 w1_6 w2_18 (x_rec20 C1 (by decide)) hd_J0_charAt_5068e rfl ⟨rfl, rfl⟩ ⟨Nat.le_of_ble_eq_true rfl, Nat.le_of_ble_eq_true rfl⟩ (Nat.le_of_ble_eq_true rfl) (Nat.le_of_ble_eq_true rfl) rfl (Nat.le_of_ble_eq_true rfl) dX7_init_102 ?_
      refine r_iast C1 (b := 4252) (n := 700) hmd.2.2.2.2.2.2.2.2.2 (vp_in_nI (by omega) (by decide)) dX7_init_105 ?_
      refine r_iincc C1 2 rfl (k0 := 1) (by decide) (by decide) (lv2 := [(2, .int (nI i + 1)), (0, .ref h0), (1, .ref (g.1 20 20))]) rfl dX7_init_106 ?_
      refine r_goto C1 (tgt := 87) (by decide) dX7_init_109 ?_
      refine WW.sub [1, 2, 0] rfl ?_
      rw [nI_clamp (show i < 2 ^ 31 by omega), Yt_s, nI_1]
      exact ih (i + 1) (by omega)
  have K : WW p l e RY s m args below meth c 9 2432 Q 3 D (aY g.1 h0 q0 q1 q2 q3 q4 q5 q6 q7 q8, g.2) tbM 82 [(0, .ref h0)] [] (Yb M1) := by
    refine r_ldcs C1 (si := 20) rfl dX7_init_82 ?_
    refine r_astore_n C1 (kk := 1) (lv2 := [(1, .ref (g.1 20 20)), (0, .ref h0)]) (by decide) rfl dX7_init_84 ?_
    refine r_iconst C1 (v := 0) dX7_init_85 rfl ?_
    refine r_istore_n C1 (kk := 2) (lv2 := [(2, .int 0), (1, .ref (g.1 20 20)), (0, .ref h0)]) (by decide) rfl dX7_init_86 ?_
    refine WW.sub [2, 1, 0] rfl ?_
    have := L 181 0 rfl
    rw [Yt_0] at this
    exact this
  exact K H locs ls hPX (S_up hXA h3) h4
