/-! the constructors of stall, buyer, reader, market -/
theorem dX4_init_0 : decode cX4_init 0 = .ok (.aload_n 0, 1) := by decide +kernel
theorem dX4_init_1 : decode cX4_init 1 = .ok (.invokespecial 3, 3) := by decide +kernel
theorem dX4_init_4 : decode cX4_init 4 = .ok (.return_, 1) := by decide +kernel
theorem hd_X4_init : yX4_init.cls = RX4 ∧ yX4_init.cls ≠ "java/lang/invoke/MethodHandle" ∧ yX4_init.cls ≠ "java/lang/invoke/VarHandle" ∧ (parseMethodDescriptor yX4_init.desc).map (fun d => d.parameters.length) = some 0 := by decide +kernel
theorem dX1_init_0 : decode cX1_init 0 = .ok (.aload_n 0, 1) := by decide +kernel
theorem dX1_init_1 : decode cX1_init 1 = .ok (.invokespecial 3, 3) := by decide +kernel
theorem dX1_init_4 : decode cX1_init 4 = .ok (.aload_n 0, 1) := by decide +kernel
theorem dX1_init_5 : decode cX1_init 5 = .ok (.iconst (-1), 1) := by decide +kernel
theorem dX1_init_6 : decode cX1_init 6 = .ok (.putfield 9, 3) := by decide +kernel
theorem dX1_init_9 : decode cX1_init 9 = .ok (.return_, 1) := by decide +kernel
theorem hd_X1_init : yX1_init.cls = RX1 ∧ yX1_init.cls ≠ "java/lang/invoke/MethodHandle" ∧ yX1_init.cls ≠ "java/lang/invoke/VarHandle" ∧ (parseMethodDescriptor yX1_init.desc).map (fun d => d.parameters.length) = some 0 := by decide +kernel
theorem dX3_init_0 : decode cX3_init 0 = .ok (.aload_n 0, 1) := by decide +kernel
theorem dX3_init_1 : decode cX3_init 1 = .ok (.invokespecial 3, 3) := by decide +kernel
theorem dX3_init_4 : decode cX3_init 4 = .ok (.aload_n 0, 1) := by decide +kernel
theorem dX3_init_5 : decode cX3_init 5 = .ok (.sipush 700, 3) := by decide +kernel
theorem dX3_init_8 : decode cX3_init 8 = .ok (.newarray .byte, 2) := by decide +kernel
theorem dX3_init_10 : decode cX3_init 10 = .ok (.putfield 9, 3) := by decide +kernel
theorem dX3_init_13 : decode cX3_init 13 = .ok (.aload_n 0, 1) := by decide +kernel
theorem dX3_init_14 : decode cX3_init 14 = .ok (.iconst (-1), 1) := by decide +kernel
theorem dX3_init_15 : decode cX3_init 15 = .ok (.putfield 15, 3) := by decide +kernel
theorem dX3_init_18 : decode cX3_init 18 = .ok (.aload_n 0, 1) := by decide +kernel
theorem dX3_init_19 : decode cX3_init 19 = .ok (.iconst 5, 1) := by decide +kernel
theorem dX3_init_20 : decode cX3_init 20 = .ok (.newarray .int, 2) := by decide +kernel
theorem dX3_init_22 : decode cX3_init 22 = .ok (.putfield 19, 3) := by decide +kernel
theorem dX3_init_25 : decode cX3_init 25 = .ok (.return_, 1) := by decide +kernel
theorem hd_X3_init : yX3_init.cls = RX3 ∧ yX3_init.cls ≠ "java/lang/invoke/MethodHandle" ∧ yX3_init.cls ≠ "java/lang/invoke/VarHandle" ∧ (parseMethodDescriptor yX3_init.desc).map (fun d => d.parameters.length) = some 0 := by decide +kernel
theorem dX2_init_0 : decode cX2_init 0 = .ok (.aload_n 0, 1) := by decide +kernel
theorem dX2_init_1 : decode cX2_init 1 = .ok (.invokespecial 3, 3) := by decide +kernel
theorem dX2_init_4 : decode cX2_init 4 = .ok (.aload_n 0, 1) := by decide +kernel
theorem dX2_init_5 : decode cX2_init 5 = .ok (.bipush 6, 2) := by decide +kernel
theorem dX2_init_7 : decode cX2_init 7 = .ok (.anewarray 9, 3) := by decide +kernel
theorem dX2_init_10 : decode cX2_init 10 = .ok (.putfield 11, 3) := by decide +kernel
theorem dX2_init_13 : decode cX2_init 13 = .ok (.aload_n 0, 1) := by decide +kernel
theorem dX2_init_14 : decode cX2_init 14 = .ok (.bipush 6, 2) := by decide +kernel
theorem dX2_init_16 : decode cX2_init 16 = .ok (.anewarray 17, 3) := by decide +kernel
theorem dX2_init_19 : decode cX2_init 19 = .ok (.putfield 19, 3) := by decide +kernel
theorem dX2_init_22 : decode cX2_init 22 = .ok (.aload_n 0, 1) := by decide +kernel
theorem dX2_init_23 : decode cX2_init 23 = .ok (.bipush 12, 2) := by decide +kernel
theorem dX2_init_25 : decode cX2_init 25 = .ok (.newarray .int, 2) := by decide +kernel
theorem dX2_init_27 : decode cX2_init 27 = .ok (.putfield 23, 3) := by decide +kernel
theorem dX2_init_30 : decode cX2_init 30 = .ok (.iconst 0, 1) := by decide +kernel
theorem dX2_init_31 : decode cX2_init 31 = .ok (.istore_n 1, 1) := by decide +kernel
theorem dX2_init_32 : decode cX2_init 32 = .ok (.iload_n 1, 1) := by decide +kernel
theorem dX2_init_33 : decode cX2_init 33 = .ok (.aload_n 0, 1) := by decide +kernel
theorem dX2_init_34 : decode cX2_init 34 = .ok (.getfield 11, 3) := by decide +kernel
theorem dX2_init_37 : decode cX2_init 37 = .ok (.arraylength, 1) := by decide +kernel
theorem dX2_init_38 : decode cX2_init 38 = .ok (.if_icmp .ge 22, 3) := by decide +kernel
theorem dX2_init_41 : decode cX2_init 41 = .ok (.aload_n 0, 1) := by decide +kernel
theorem dX2_init_42 : decode cX2_init 42 = .ok (.getfield 11, 3) := by decide +kernel
theorem dX2_init_45 : decode cX2_init 45 = .ok (.iload_n 1, 1) := by decide +kernel
theorem dX2_init_46 : decode cX2_init 46 = .ok (.new 9, 3) := by decide +kernel
theorem dX2_init_49 : decode cX2_init 49 = .ok (.dup, 1) := by decide +kernel
theorem dX2_init_50 : decode cX2_init 50 = .ok (.invokespecial 27, 3) := by decide +kernel
theorem dX2_init_53 : decode cX2_init 53 = .ok (.aastore, 1) := by decide +kernel
theorem dX2_init_54 : decode cX2_init 54 = .ok (.iinc 1 1, 3) := by decide +kernel
theorem dX2_init_57 : decode cX2_init 57 = .ok (.goto (-25), 3) := by decide +kernel
theorem dX2_init_60 : decode cX2_init 60 = .ok (.iconst 0, 1) := by decide +kernel
theorem dX2_init_61 : decode cX2_init 61 = .ok (.istore_n 1, 1) := by decide +kernel
theorem dX2_init_62 : decode cX2_init 62 = .ok (.iload_n 1, 1) := by decide +kernel
theorem dX2_init_63 : decode cX2_init 63 = .ok (.aload_n 0, 1) := by decide +kernel
theorem dX2_init_64 : decode cX2_init 64 = .ok (.getfield 19, 3) := by decide +kernel
theorem dX2_init_67 : decode cX2_init 67 = .ok (.arraylength, 1) := by decide +kernel
theorem dX2_init_68 : decode cX2_init 68 = .ok (.if_icmp .ge 22, 3) := by decide +kernel
theorem dX2_init_71 : decode cX2_init 71 = .ok (.aload_n 0, 1) := by decide +kernel
theorem dX2_init_72 : decode cX2_init 72 = .ok (.getfield 19, 3) := by decide +kernel
theorem dX2_init_75 : decode cX2_init 75 = .ok (.iload_n 1, 1) := by decide +kernel
theorem dX2_init_76 : decode cX2_init 76 = .ok (.new 17, 3) := by decide +kernel
theorem dX2_init_79 : decode cX2_init 79 = .ok (.dup, 1) := by decide +kernel
theorem dX2_init_80 : decode cX2_init 80 = .ok (.invokespecial 28, 3) := by decide +kernel
theorem dX2_init_83 : decode cX2_init 83 = .ok (.aastore, 1) := by decide +kernel
theorem dX2_init_84 : decode cX2_init 84 = .ok (.iinc 1 1, 3) := by decide +kernel
theorem dX2_init_87 : decode cX2_init 87 = .ok (.goto (-25), 3) := by decide +kernel
theorem dX2_init_90 : decode cX2_init 90 = .ok (.return_, 1) := by decide +kernel
theorem hd_X2_init : yX2_init.cls = RX2 ∧ yX2_init.cls ≠ "java/lang/invoke/MethodHandle" ∧ yX2_init.cls ≠ "java/lang/invoke/VarHandle" ∧ (parseMethodDescriptor yX2_init.desc).map (fun d => d.parameters.length) = some 0 := by decide +kernel
theorem wO2 : Cond.instanceMethod objectInit ∈ xA := w1_77
theorem wO3 : Cond.code objectInit ⟨#[0xb1]⟩ 1 none ∈ xA := w1_78
def r4 : List Value := [.int 0, .int 0, .int 0, .int 0, .int 0, .int 0, .int 0, .int 0, .int 0]
def r1 : List Value := [.int 0, .int 0, .int 0, .int 0, .int 0, .int 0, .int 0, .int 0]
def b1 : List Value := [.int 0, .int 0, .int 0, .int 0, .int (-1), .int 0, .int 0, .int 0]
def r2 : List Value := [.null, .int 0, .null, .int 0, .null, .int 0, .int 0, .int 0, .int 0, .int 0, .int 0, .int 0, .int 0, .int 0]
def r3 : List Value := [.null, .int 0, .int 0, .int 0, .null, .null, .int 0, .int 0, .int 0, .int 0]
def m2 (qs qb qf : Nat) : List Value := [.ref qs, .int 0, .ref qb, .int 0, .ref qf, .int 0, .int 0, .int 0, .int 0, .int 0, .int 0, .int 0, .int 0, .int 0]
def eS : va_E := .inr (3, r4)
def eB : va_E := .inr (0, b1)
def fI (i : Nat) (a : Nat → Nat) : Nat → Option Nat := fun j => if j < i then some (a j) else none
theorem fI_0 {a : Nat → Nat} : fI 0 a = fun _ => none := by
  funext j
  exact if_neg (Nat.not_lt_zero j)
theorem fI_s {i q : Nat} {a : Nat → Nat} : va_up (fI i a) i (some q) = fI (i + 1) (va_up a i q) := by
  funext j
  unfold fI va_up
  show (if j = i then some q else if j < i then some (a j) else none) = if j < i + 1 then some (if j = i then q else a j) else none
  by_cases h : j = i
  · subst h
    rw [if_pos rfl, if_pos (by omega), if_pos rfl]
  · rw [if_neg h]
    by_cases h2 : j < i
    · rw [if_pos h2, if_pos (by omega), if_neg h]
    · rw [if_neg h2, if_neg (by omega)]
def plI (i : Nat) (a : Nat → Nat) (e : va_E) : va_W := (List.range i).map (fun j => (a j, e))
theorem plI_s {i q : Nat} {a : Nat → Nat} {e : va_E} : plI i a e ++ [(q, e)] = plI (i + 1) (va_up a i q) e := by
  unfold plI
  rw [List.range_succ, List.map_append]
  congr 1
  · refine List.map_congr_left (fun j hj => ?_)
    rw [va_up_ne _ _ (by have := List.mem_range.mp hj; omega)]
  · show [(q, e)] = [(va_up a i q i, e)]
    rw [va_up_self]
set_option maxRecDepth 100000 in
set_option maxHeartbeats 4000000 in
theorem c_X4_init (l : Launch) (D : va_G) (g : xG) : nM l D g yX4_init cX4_init 1 ({ frames := 1, cells := 0, slots := 0, locals := 12 } : Room) 3 r4 0 0 (fun h w1 => w1 = [(h, eS)]) := by
  refine n_start (own := RX4) (by decide +kernel) rfl rfl (Nat.le_of_ble_eq_true rfl) ?_
  intro p e s m args below meth c h0 A Q C0 hA0 hA1 hname hend
  refine n_aload_n C0 (kk := 0) 0 rfl dX4_init_0 ?_
  refine n_obj C0 w3_145 wO2 wO3 (by decide) (by decide) dX4_init_1 ?_
  exact hend rfl (fun H h => h) (fun h => h) dX4_init_4
set_option maxRecDepth 100000 in
set_option maxHeartbeats 4000000 in
theorem c_X1_init (l : Launch) (D : va_G) (g : xG) : nM l D g yX1_init cX1_init 1 ({ frames := 1, cells := 0, slots := 0, locals := 12 } : Room) 0 r1 0 0 (fun h w1 => w1 = [(h, eB)]) := by
  refine n_start (own := RX1) (by decide +kernel) rfl rfl (Nat.le_of_ble_eq_true rfl) ?_
  intro p e s m args below meth c h0 A Q C0 hA0 hA1 hname hend
  refine n_aload_n C0 (kk := 0) 0 rfl dX1_init_0 ?_
  refine n_obj C0 w3_198 wO2 wO3 (by decide) (by decide) dX1_init_1 ?_
  refine n_aload_n C0 (kk := 0) 0 rfl dX1_init_4 ?_
  refine n_iconst C0 (v := -1) rfl dX1_init_5 ?_
  refine n_put C0 (q0 := 0) (ci := 0) (T := TX1) (N := 8) (ref := RX1) (fs := r1) x_lays1 tyX1 tyX1_ok nmX1 rfl rfl 4 (by decide) w3_208 rfl rfl rfl rfl (by decide) dX1_init_6 ?_
  exact hend rfl (fun H h => h) (fun h => h) dX1_init_9
/-- what a memory is at the start: a market at b -/
def Zm (b : Nat) (Z : xM) : Prop := (∀ i, i < 23 → Z (b + i) = 0) ∧ (∀ j, j < 6 → ∀ c, c < 9 → Z (b + 23 + 9 * j + c) = 0) ∧ ∀ j, j < 6 → ∀ c, c < 8 → Z (b + 77 + 8 * j + c) = if c = 4 then -1 else 0
def tbMk (b : Nat) : List xQ := [(2, b, 0), (10, b + 23, 6), (11, b + 77, 6), (6, b + 11, 12)] ++ (List.range 6).map (fun j => (0, b + 23 + 9 * j, 0)) ++ (List.range 6).map (fun j => (1, b + 77 + 8 * j, 0))
def aMk (b h0 qs qb qf : Nat) (sa ba : Nat → Nat) : Nat → Nat → Nat := fun k z => if k = 2 then h0 else if k = 10 then qs else if k = 11 then qb else if k = 6 then qf else if k = 0 then sa ((z - (b + 23)) / 9) else ba ((z - (b + 77)) / 8)
theorem aMk0 {b h0 qs qb qf : Nat} {sa ba : Nat → Nat} {j : Nat} : aMk b h0 qs qb qf sa ba 0 (b + 23 + 9 * j) = sa j := by
  show sa ((b + 23 + 9 * j - (b + 23)) / 9) = sa j
  rw [show (b + 23 + 9 * j - (b + 23)) / 9 = j by omega]
theorem aMk1 {b h0 qs qb qf : Nat} {sa ba : Nat → Nat} {j : Nat} : aMk b h0 qs qb qf sa ba 1 (b + 77 + 8 * j) = ba j := by
  show ba ((b + 77 + 8 * j - (b + 77)) / 8) = ba j
  rw [show (b + 77 + 8 * j - (b + 77)) / 8 = j by omega]
def wMk (g : xG) (h0 qs qb qf : Nat) (sa ba : Nat → Nat) (i j : Nat) : va_W := [(h0, .inr (1, m2 qs qb qf)), (qs, .inl (g.2.1 4, 6, .inr (.inr (.inr (.inr (fI i sa)))))), (qb, .inl (g.2.1 5, 6, .inr (.inr (.inr (.inr (fI j ba)))))), (qf, .inl (g.2.1 0, 12, .inl (fun _ => 0)))] ++ (plI i sa eS ++ plI j ba eB)
theorem arr_q {cA : ClassId} {n : Nat} {f f' : Nat → Option Nat} (h : ∀ j, j < n → f j = f' j) : vp_cell cA (n, .inr (.inr (.inr (.inr f)))) = vp_cell cA (n, .inr (.inr (.inr (.inr f')))) := (x_arr (fun j hj => congrArg va_rf (h j hj)) : arrV cA n (fun j => va_rf (f j)) = arrV cA n (fun j => va_rf (f' j)))
theorem arr_i {cA : ClassId} {n : Nat} {f f' : Nat → Int32} (h : ∀ j, j < n → f j = f' j) : vp_cell cA (n, .inl f) = vp_cell cA (n, .inl f') := (x_arr (fun j hj => congrArg Value.int (h j hj)) : arrV cA n (fun j => .int (f j)) = arrV cA n (fun j => .int (f' j)))
theorem mk_P {D : va_G} {g : xG} {b h0 qs qb qf : Nat} {sa ba : Nat → Nat} {Z : xM} (hZ : Zm b Z) {H : Heap} (hP : va_P D xCl (wMk g h0 qs qb qf sa ba 6 6) H) : va_P D xCl (x_ws (aMk b h0 qs qb qf sa ba, g.2) (tbMk b) Z) H := by
  refine P_iff.mpr (fun q hq => ?_)
  obtain ⟨r, hr, rfl⟩ := List.mem_map.mp hq
  have hp := P_iff.mp hP
  simp only [tbMk, List.mem_append, List.mem_cons, List.not_mem_nil, or_false, List.mem_map, List.mem_range] at hr
  rcases hr with ((rfl | rfl | rfl | rfl) | ⟨j, hj, rfl⟩) | ⟨j, hj, rfl⟩
  · have h := hp (h0, .inr (1, m2 qs qb qf)) (List.mem_append_left _ List.mem_cons_self)
    have e : x_cell (aMk b h0 qs qb qf sa ba, g.2) Z (2, b, 0) = .inr (1, m2 qs qb qf) := by
      show (Sum.inr (1, x_f2 (aMk b h0 qs qb qf sa ba, g.2) b Z) : va_E) = _
      unfold x_f2
      rw [hZ.1 9 (by decide), hZ.1 10 (by decide), hZ.1 8 (by decide), hZ.1 0 (by decide), hZ.1 7 (by decide), hZ.1 5 (by decide), hZ.1 6 (by decide), hZ.1 1 (by decide), hZ.1 2 (by decide), hZ.1 3 (by decide), hZ.1 4 (by decide)]
      rfl
    rw [e]
    exact h
  · have h := hp (qs, .inl (g.2.1 4, 6, .inr (.inr (.inr (.inr (fI 6 sa)))))) (List.mem_append_left _ (List.mem_cons_of_mem _ List.mem_cons_self))
    refine Eq.trans (show H[qs]? = some (vp_cell (g.2.1 4) (6, .inr (.inr (.inr (.inr (fI 6 sa)))))) from h) (congrArg some (arr_q (fun j hj => ?_)))
    refine Eq.trans ?_ (congrArg some (aMk0 (b := b) (h0 := h0) (qs := qs) (qb := qb) (qf := qf) (sa := sa) (ba := ba) (j := j)).symm)
    exact if_pos hj
  · have h := hp (qb, .inl (g.2.1 5, 6, .inr (.inr (.inr (.inr (fI 6 ba)))))) (List.mem_append_left _ (List.mem_cons_of_mem _ (List.mem_cons_of_mem _ List.mem_cons_self)))
    refine Eq.trans (show H[qb]? = some (vp_cell (g.2.1 5) (6, .inr (.inr (.inr (.inr (fI 6 ba)))))) from h) (congrArg some (arr_q (fun j hj => ?_)))
    refine Eq.trans ?_ (congrArg some (aMk1 (b := b) (h0 := h0) (qs := qs) (qb := qb) (qf := qf) (sa := sa) (ba := ba) (j := j)).symm)
    exact if_pos hj
  · have h := hp (qf, .inl (g.2.1 0, 12, .inl (fun _ => 0))) (List.mem_append_left _ (List.mem_cons_of_mem _ (List.mem_cons_of_mem _ (List.mem_cons_of_mem _ List.mem_cons_self))))
    refine Eq.trans (show H[qf]? = some (vp_cell (g.2.1 0) (12, .inl (fun _ => 0))) from h) (congrArg some (arr_i (fun j hj => ?_)))
    have := hZ.1 (11 + j) (by omega)
    rw [← Nat.add_assoc] at this
    exact this.symm
  · have h := hp (sa j, eS) (List.mem_append_right _ (List.mem_append_left _ (List.mem_map.mpr ⟨j, List.mem_range.mpr hj, rfl⟩)))
    have e : x_cell (aMk b h0 qs qb qf sa ba, g.2) Z (0, b + 23 + 9 * j, 0) = eS := by
      show (Sum.inr (3, x_f0 (aMk b h0 qs qb qf sa ba, g.2) (b + 23 + 9 * j) Z) : va_E) = _
      unfold x_f0
      rw [hZ.2.1 j hj 0 (by decide), hZ.2.1 j hj 1 (by decide), hZ.2.1 j hj 2 (by decide), hZ.2.1 j hj 3 (by decide), hZ.2.1 j hj 4 (by decide), hZ.2.1 j hj 5 (by decide), hZ.2.1 j hj 6 (by decide), hZ.2.1 j hj 7 (by decide), hZ.2.1 j hj 8 (by decide)]
      rfl
    rw [e, show x_ad (aMk b h0 qs qb qf sa ba, g.2) (0, b + 23 + 9 * j, 0) = sa j from aMk0 (b := b) (h0 := h0) (qs := qs) (qb := qb) (qf := qf) (sa := sa) (ba := ba) (j := j)]
    exact h
  · have h := hp (ba j, eB) (List.mem_append_right _ (List.mem_append_right _ (List.mem_map.mpr ⟨j, List.mem_range.mpr hj, rfl⟩)))
    have e : x_cell (aMk b h0 qs qb qf sa ba, g.2) Z (1, b + 77 + 8 * j, 0) = eB := by
      show (Sum.inr (0, x_f1 (aMk b h0 qs qb qf sa ba, g.2) (b + 77 + 8 * j) Z) : va_E) = _
      unfold x_f1
      rw [hZ.2.2 j hj 0 (by decide), hZ.2.2 j hj 1 (by decide), hZ.2.2 j hj 2 (by decide), hZ.2.2 j hj 3 (by decide), hZ.2.2 j hj 4 (by decide), hZ.2.2 j hj 5 (by decide), hZ.2.2 j hj 6 (by decide), hZ.2.2 j hj 7 (by decide)]
      rfl
    rw [e, show x_ad (aMk b h0 qs qb qf sa ba, g.2) (1, b + 77 + 8 * j, 0) = ba j from aMk1 (b := b) (h0 := h0) (qs := qs) (qb := qb) (qf := qf) (sa := sa) (ba := ba) (j := j)]
    exact h
theorem mk_a {g : xG} {b h0 qs qb qf : Nat} {sa ba : Nat → Nat} {Z : xM} : (x_ws (aMk b h0 qs qb qf sa ba, g.2) (tbMk b) Z).map Prod.fst = (wMk g h0 qs qb qf sa ba 6 6).map Prod.fst := by
  unfold x_ws wMk tbMk plI
  simp only [List.map_append, List.map_map, List.map_cons, List.map_nil]
  rw [List.append_assoc]
  congr 1
  congr 1
  · exact List.map_congr_left (fun j _ => aMk0 (b := b) (h0 := h0) (qs := qs) (qb := qb) (qf := qf) (sa := sa) (ba := ba) (j := j))
  · exact List.map_congr_left (fun j _ => aMk1 (b := b) (h0 := h0) (qs := qs) (qb := qb) (qf := qf) (sa := sa) (ba := ba) (j := j))
set_option maxRecDepth 100000 in
set_option maxHeartbeats 4000000 in
theorem c_X2_init (l : Launch) (D : va_G) (g : xG) {b : Nat} {Z : xM} (hZ : Zm b Z) : nM l D g yX2_init cX2_init 2 ({ frames := 2, cells := 15, slots := 126, locals := 32 } : Room) 1 r2 15 126 (fun h w1 => ∃ a : Nat → Nat → Nat, a 2 b = h ∧ w1 = x_ws (a, g.2) (tbMk b) Z) := by
  refine n_start (own := RX2) (by decide +kernel) rfl rfl (Nat.le_of_ble_eq_true rfl) ?_
  intro p e s m args below meth c h0 A Q C0 hA0 hA1 hname hend
  have LB : ∀ (k i qs qb qf : Nat) (sa ba : Nat → Nat), i + k = 6 → WN p l e ({ frames := 2, cells := 15, slots := 126, locals := 32 } : Room) s m args below meth c (9 + i) (78 + 8 * i) Q 2 D A 62 [(0, .ref h0), (1, .int (nI i))] [] (wMk g h0 qs qb qf sa ba 6 i) := by
    intro k
    induction k with
    | zero =>
      intro i qs qb qf sa ba hi
      have hi : i = 6 := by omega
      subst hi
      refine n_iload_n C0 (kk := 1) 1 rfl dX2_init_62 ?_
      refine n_aload_n C0 (kk := 0) 0 rfl dX2_init_63 ?_
      refine n_get C0 (q0 := 0) (ci := 1) (T := TX2) (N := 14) (ref := RX2) (fs := m2 qs qb qf) x_lays2 rfl rfl 2 (by decide) w4_1 rfl rfl dX2_init_64 ?_
      refine n_alen C0 (q0 := 2) (t0 := 5) rfl rfl (v := 6) rfl dX2_init_67 ?_
      refine n_icmp_ge C0 (tgt := 90) (by decide) dX2_init_68 (fun q => ?_) (fun q => absurd (by decide) q)
      exact hend ⟨_, rfl, rfl⟩ (fun H h => mk_P hZ h) (fun h => D_addr (by exact mk_a) h) dX2_init_90
    | succ k ih =>
      intro i qs qb qf sa ba hi
      refine n_iload_n C0 (kk := 1) 1 rfl dX2_init_62 ?_
      refine n_aload_n C0 (kk := 0) 0 rfl dX2_init_63 ?_
      refine n_get C0 (q0 := 0) (ci := 1) (T := TX2) (N := 14) (ref := RX2) (fs := m2 qs qb qf) x_lays2 rfl rfl 2 (by decide) w4_1 rfl rfl dX2_init_64 ?_
      refine n_alen C0 (q0 := 2) (t0 := 5) rfl rfl (v := 6) rfl dX2_init_67 ?_
      refine n_icmp_ge C0 (tgt := 90) (by decide) dX2_init_68 (fun q => absurd q (by rw [show (6 : Int32) = nI 6 from rfl]; exact nI_ge (by omega) (by decide))) (fun q => ?_)
      refine n_aload_n C0 (kk := 0) 0 rfl dX2_init_71 ?_
      refine n_get C0 (q0 := 0) (ci := 1) (T := TX2) (N := 14) (ref := RX2) (fs := m2 qs qb qf) x_lays2 rfl rfl 2 (by decide) w4_1 rfl rfl dX2_init_72 ?_
      refine n_iload_n C0 (kk := 1) 1 rfl dX2_init_75 ?_
      refine n_makeN C0 (c_X1_init l D g) x_lays1 tyX1 tyX1_ok rfl (fun j hj => by rcases (show j = 0 ∨ j = 1 ∨ j = 2 ∨ j = 3 ∨ j = 4 ∨ j = 5 ∨ j = 6 ∨ j = 7 by omega) with rfl | rfl | rfl | rfl | rfl | rfl | rfl | rfl <;> rfl) w3_140 w3_194 w1_16 C0.2.2.2.2.2.2.1.2.2.1 w3_196 w1_16 w3_197 rfl ⟨by decide +kernel, by decide +kernel, by decide +kernel⟩ ⟨rfl, rfl⟩ ⟨Nat.le_of_ble_eq_true rfl, Nat.le_of_ble_eq_true rfl⟩ (show 9 + i + 1 + 0 ≤ 15 by omega) (show 78 + 8 * i + 8 + 0 ≤ 126 by omega) (Nat.le_of_ble_eq_true rfl) dX2_init_76 dX2_init_79 dX2_init_80 (fun q w1 hw1 => ?_)
      subst hw1
      refine n_astq C0 (q0 := 2) (t0 := 5) (n := 6) (f := fI i ba) rfl rfl (List.mem_append_right _ List.mem_cons_self) rfl (vp_in_nI (by omega) (by decide)) dX2_init_83 ?_
      refine n_iinc C0 1 rfl (v := nI (i + 1)) (show nI i + Int32.ofInt 1 = nI (i + 1) from nI_1 i) (by decide) (lv2 := [(1, .int (nI (i + 1))), (0, .ref h0)]) rfl dX2_init_84 ?_
      refine n_goto C0 (tgt := 62) (by decide) dX2_init_87 ?_
      refine WN.sub [1, 0] rfl ?_
      have := ih (i + 1) qs qb qf sa (va_up ba i q) (by omega)
      refine WN.widen (k := 9 + (i + 1)) (n := 78 + 8 * (i + 1)) (by omega) (by omega) ?_
      rw [nI_clamp (show i < 2 ^ 31 by omega), fI_s]
      have e : wMk g h0 qs qb qf sa (va_up ba i q) 6 (i + 1) = [(h0, .inr (1, m2 qs qb qf)), (qs, .inl (g.2.1 4, 6, .inr (.inr (.inr (.inr (fI 6 sa)))))), (qb, .inl (g.2.1 5, 6, .inr (.inr (.inr (.inr (fI (i + 1) (va_up ba i q))))))), (qf, .inl (g.2.1 0, 12, .inl (fun _ => 0)))] ++ ((plI 6 sa eS ++ plI i ba eB) ++ [(q, eB)]) := by
        unfold wMk
        rw [List.append_assoc (plI 6 sa eS), plI_s]
      rw [e] at this
      exact this
  have LA : ∀ (k i qs qb qf : Nat) (sa ba : Nat → Nat), i + k = 6 → WN p l e ({ frames := 2, cells := 15, slots := 126, locals := 32 } : Room) s m args below meth c (3 + i) (24 + 9 * i) Q 2 D A 32 [(0, .ref h0), (1, .int (nI i))] [] (wMk g h0 qs qb qf sa ba i 0) := by
    intro k
    induction k with
    | zero =>
      intro i qs qb qf sa ba hi
      have hi : i = 6 := by omega
      subst hi
      refine n_iload_n C0 (kk := 1) 1 rfl dX2_init_32 ?_
      refine n_aload_n C0 (kk := 0) 0 rfl dX2_init_33 ?_
      refine n_get C0 (q0 := 0) (ci := 1) (T := TX2) (N := 14) (ref := RX2) (fs := m2 qs qb qf) x_lays2 rfl rfl 0 (by decide) w3_235 rfl rfl dX2_init_34 ?_
      refine n_alen C0 (q0 := 1) (t0 := 4) rfl rfl (v := 6) rfl dX2_init_37 ?_
      refine n_icmp_ge C0 (tgt := 60) (by decide) dX2_init_38 (fun q => ?_) (fun q => absurd (by decide) q)
      refine n_iconst C0 (v := 0) rfl dX2_init_60 ?_
      refine n_istore_n C0 (kk := 1) (lv2 := [(1, .int 0), (0, .ref h0)]) (by decide) rfl dX2_init_61 ?_
      refine WN.sub [1, 0] rfl ?_
      exact LB 6 0 qs qb qf sa ba rfl
    | succ k ih =>
      intro i qs qb qf sa ba hi
      refine n_iload_n C0 (kk := 1) 1 rfl dX2_init_32 ?_
      refine n_aload_n C0 (kk := 0) 0 rfl dX2_init_33 ?_
      refine n_get C0 (q0 := 0) (ci := 1) (T := TX2) (N := 14) (ref := RX2) (fs := m2 qs qb qf) x_lays2 rfl rfl 0 (by decide) w3_235 rfl rfl dX2_init_34 ?_
      refine n_alen C0 (q0 := 1) (t0 := 4) rfl rfl (v := 6) rfl dX2_init_37 ?_
      refine n_icmp_ge C0 (tgt := 60) (by decide) dX2_init_38 (fun q => absurd q (by rw [show (6 : Int32) = nI 6 from rfl]; exact nI_ge (by omega) (by decide))) (fun q => ?_)
      refine n_aload_n C0 (kk := 0) 0 rfl dX2_init_41 ?_
      refine n_get C0 (q0 := 0) (ci := 1) (T := TX2) (N := 14) (ref := RX2) (fs := m2 qs qb qf) x_lays2 rfl rfl 0 (by decide) w3_235 rfl rfl dX2_init_42 ?_
      refine n_iload_n C0 (kk := 1) 1 rfl dX2_init_45 ?_
      refine n_makeN C0 (c_X4_init l D g) x_lays0 tyX4 tyX4_ok rfl (fun j hj => by rcases (show j = 0 ∨ j = 1 ∨ j = 2 ∨ j = 3 ∨ j = 4 ∨ j = 5 ∨ j = 6 ∨ j = 7 ∨ j = 8 by omega) with rfl | rfl | rfl | rfl | rfl | rfl | rfl | rfl | rfl <;> rfl) w3_138 w2_115 w1_15 C0.2.2.2.2.2.2.1.2.1 w3_143 w1_15 w3_144 rfl ⟨by decide +kernel, by decide +kernel, by decide +kernel⟩ ⟨rfl, rfl⟩ ⟨Nat.le_of_ble_eq_true rfl, Nat.le_of_ble_eq_true rfl⟩ (show 3 + i + 1 + 0 ≤ 15 by omega) (show 24 + 9 * i + 9 + 0 ≤ 126 by omega) (Nat.le_of_ble_eq_true rfl) dX2_init_46 dX2_init_49 dX2_init_50 (fun q w1 hw1 => ?_)
      subst hw1
      refine n_astq C0 (q0 := 1) (t0 := 4) (n := 6) (f := fI i sa) rfl rfl (List.mem_append_right _ List.mem_cons_self) rfl (vp_in_nI (by omega) (by decide)) dX2_init_53 ?_
      refine n_iinc C0 1 rfl (v := nI (i + 1)) (show nI i + Int32.ofInt 1 = nI (i + 1) from nI_1 i) (by decide) (lv2 := [(1, .int (nI (i + 1))), (0, .ref h0)]) rfl dX2_init_54 ?_
      refine n_goto C0 (tgt := 32) (by decide) dX2_init_57 ?_
      refine WN.sub [1, 0] rfl ?_
      have := ih (i + 1) qs qb qf (va_up sa i q) ba (by omega)
      refine WN.widen (k := 3 + (i + 1)) (n := 24 + 9 * (i + 1)) (by omega) (by omega) ?_
      rw [nI_clamp (show i < 2 ^ 31 by omega), fI_s]
      have e : wMk g h0 qs qb qf (va_up sa i q) ba (i + 1) 0 = [(h0, .inr (1, m2 qs qb qf)), (qs, .inl (g.2.1 4, 6, .inr (.inr (.inr (.inr (fI (i + 1) (va_up sa i q))))))), (qb, .inl (g.2.1 5, 6, .inr (.inr (.inr (.inr (fI 0 ba)))))), (qf, .inl (g.2.1 0, 12, .inl (fun _ => 0)))] ++ ((plI i sa eS ++ plI 0 ba eB) ++ [(q, eS)]) := by
        unfold wMk
        rw [← plI_s]
        show _ ++ ((plI i sa eS ++ [(q, eS)]) ++ []) = _ ++ ((plI i sa eS ++ []) ++ [(q, eS)])
        rw [List.append_nil, List.append_nil]
      rw [e] at this
      exact this
  refine n_aload_n C0 (kk := 0) 0 rfl dX2_init_0 ?_
  refine n_obj C0 w3_137 wO2 wO3 (by decide) (by decide) dX2_init_1 ?_
  refine n_aload_n C0 (kk := 0) 0 rfl dX2_init_4 ?_
  refine n_bipush C0 (v := 6) rfl dX2_init_5 ?_
  refine n_newq C0 4 rfl w3_138 C0.2.2.2.2.2.2.1.1.1 (N := 6) (by decide) (by decide) (by decide) (by decide) (by decide) dX2_init_7 (fun qs => ?_)
  refine n_putF C0 (q0 := 0) (ci := 1) (T := TX2) (N := 14) (ref := RX2) (fs := r2) x_lays2 tyX2 tyX2_ok nmX2 rfl rfl 0 (by decide) w3_235 rfl rfl hname rfl rfl rfl (Nat.le_of_ble_eq_true rfl) dX2_init_10 ?_
  refine n_aload_n C0 (kk := 0) 0 rfl dX2_init_13 ?_
  refine n_bipush C0 (v := 6) rfl dX2_init_14 ?_
  refine n_newq C0 5 rfl w3_140 C0.2.2.2.2.2.2.1.1.2.1 (N := 6) (by decide) (by decide) (by decide) (by decide) (by decide) dX2_init_16 (fun qb => ?_)
  refine n_putF C0 (q0 := 0) (ci := 1) (T := TX2) (N := 14) (ref := RX2) (fs := r2.set 0 (.ref qs)) x_lays2 tyX2 tyX2_ok nmX2 rfl rfl 2 (by decide) w4_1 rfl rfl hname rfl rfl rfl (Nat.le_of_ble_eq_true rfl) dX2_init_19 ?_
  refine n_aload_n C0 (kk := 0) 0 rfl dX2_init_22 ?_
  refine n_bipush C0 (v := 12) rfl dX2_init_23 ?_
  refine n_newi C0 0 (ty := .int) rfl rfl (fun U cA h => h) w3_193 (N := 12) rfl (by decide) (by decide) (by decide) (by decide) (by decide) dX2_init_25 (fun qf => ?_)
  refine n_putF C0 (q0 := 0) (ci := 1) (T := TX2) (N := 14) (ref := RX2) (fs := (r2.set 0 (.ref qs)).set 2 (.ref qb)) x_lays2 tyX2 tyX2_ok nmX2 rfl rfl 4 (by decide) w4_7 rfl rfl hname rfl rfl rfl (Nat.le_of_ble_eq_true rfl) dX2_init_27 ?_
  refine n_iconst C0 (v := 0) rfl dX2_init_30 ?_
  refine n_istore_n C0 (kk := 1) (lv2 := [(1, .int 0), (0, .ref h0)]) (by decide) rfl dX2_init_31 ?_
  refine WN.sub [1, 0] rfl ?_
  have := LA 6 0 qs qb qf (fun _ => 0) (fun _ => 0) rfl
  unfold wMk at this
  rw [fI_0] at this
  exact this
def Zr (Z : xM) : Prop := (∀ i, i < 5 → i ≠ 2 → Z (1778 + i) = 0) ∧ Z 1780 = -1 ∧ (∀ i, i < 4 → Z (1783 + i) = 0) ∧ (∀ i, i < 5 → Z (1787 + i) = 0) ∧ ∀ i, i < 700 → Z (1792 + i) = 0
def tbR : List xQ := [(3, 1777, 0), (7, 1792, 700), (6, 1787, 5)]
def aR (h0 qb qa : Nat) : Nat → Nat → Nat := fun k _ => if k = 3 then h0 else if k = 7 then qb else qa
def m3 (qb qa : Nat) : List Value := [.ref qb, .int 0, .int 0, .int (-1), .null, .ref qa, .int 0, .int 0, .int 0, .int 0]
theorem rd_P {D : va_G} {g : xG} {h0 qb qa : Nat} {Z : xM} (hZ : Zr Z) {H : Heap} (hP : va_P D xCl [(h0, .inr (2, m3 qb qa)), (qb, .inl (g.2.1 1, 700, .inl (fun _ => 0))), (qa, .inl (g.2.1 0, 5, .inl (fun _ => 0)))] H) : va_P D xCl (x_ws (aR h0 qb qa, g.2) tbR Z) H := by
  have hp := P_iff.mp hP
  refine P_iff.mpr (fun q hq => ?_)
  obtain ⟨r, hr, rfl⟩ := List.mem_map.mp hq
  simp only [tbR, List.mem_cons, List.not_mem_nil, or_false] at hr
  rcases hr with rfl | rfl | rfl
  · have h := hp _ List.mem_cons_self
    have e : x_cell (aR h0 qb qa, g.2) Z (3, 1777, 0) = .inr (2, m3 qb qa) := by
      show (Sum.inr (2, x_f3 (aR h0 qb qa, g.2) 1777 Z) : va_E) = _
      unfold x_f3
      rw [show Z (1777 + 1) = 0 from hZ.1 0 (by decide) (by decide), show Z (1777 + 2) = 0 from hZ.1 1 (by decide) (by decide), show Z (1777 + 3) = -1 from hZ.2.1, show Z (1777 + 4) = 0 from hZ.1 3 (by decide) (by decide), show Z (1777 + 6) = 0 from hZ.2.2.1 0 (by decide), show Z (1777 + 7) = 0 from hZ.2.2.1 1 (by decide), show Z (1777 + 8) = 0 from hZ.2.2.1 2 (by decide), show Z (1777 + 9) = 0 from hZ.2.2.1 3 (by decide)]
      rfl
    rw [e]
    exact h
  · have h := hp (qb, .inl (g.2.1 1, 700, .inl (fun _ => 0))) (List.mem_cons_of_mem _ List.mem_cons_self)
    exact Eq.trans (show H[qb]? = some (vp_cell (g.2.1 1) (700, .inl (fun _ => 0))) from h) (congrArg some (arr_i (fun j hj => (hZ.2.2.2.2 j hj).symm)))
  · have h := hp (qa, .inl (g.2.1 0, 5, .inl (fun _ => 0))) (List.mem_cons_of_mem _ (List.mem_cons_of_mem _ List.mem_cons_self))
    exact Eq.trans (show H[qa]? = some (vp_cell (g.2.1 0) (5, .inl (fun _ => 0))) from h) (congrArg some (arr_i (fun j hj => (hZ.2.2.2.1 j hj).symm)))
set_option maxRecDepth 100000 in
set_option maxHeartbeats 4000000 in
theorem c_X3_init (l : Launch) (D : va_G) (g : xG) {Z : xM} (hZ : Zr Z) : nM l D g yX3_init cX3_init 1 ({ frames := 1, cells := 2, slots := 705, locals := 13 } : Room) 2 r3 2 705 (fun h w1 => ∃ a : Nat → Nat → Nat, a 3 1777 = h ∧ w1 = x_ws (a, g.2) tbR Z) := by
  refine n_start (own := RX3) (by decide +kernel) rfl rfl (Nat.le_of_ble_eq_true rfl) ?_
  intro p e s m args below meth c h0 A Q C0 hA0 hA1 hname hend
  refine n_aload_n C0 (kk := 0) 0 rfl dX3_init_0 ?_
  refine n_obj C0 w4_62 wO2 wO3 (by decide) (by decide) dX3_init_1 ?_
  refine n_aload_n C0 (kk := 0) 0 rfl dX3_init_4 ?_
  refine n_sipush C0 (v := 700) rfl dX3_init_5 ?_
  refine n_newi C0 1 (ty := .byte) rfl rfl (fun U cA h => h) w1_120 (N := 700) rfl (by decide) (by decide) (by decide) (by decide) (by decide) dX3_init_8 (fun qb => ?_)
  refine n_putF C0 (q0 := 0) (ci := 2) (T := TX3) (N := 10) (ref := RX3) (fs := r3) x_lays3 tyX3 tyX3_ok nmX3 rfl rfl 0 (by decide) w4_63 rfl rfl hname rfl rfl rfl (Nat.le_of_ble_eq_true rfl) dX3_init_10 ?_
  refine n_aload_n C0 (kk := 0) 0 rfl dX3_init_13 ?_
  refine n_iconst C0 (v := -1) rfl dX3_init_14 ?_
  refine n_put C0 (q0 := 0) (ci := 2) (T := TX3) (N := 10) (ref := RX3) (fs := r3.set 0 (.ref qb)) x_lays3 tyX3 tyX3_ok nmX3 rfl rfl 3 (by decide) w4_68 rfl rfl rfl rfl (Nat.le_of_ble_eq_true rfl) dX3_init_15 ?_
  refine n_aload_n C0 (kk := 0) 0 rfl dX3_init_18 ?_
  refine n_iconst C0 (v := 5) rfl dX3_init_19 ?_
  refine n_newi C0 0 (ty := .int) rfl rfl (fun U cA h => h) w3_193 (N := 5) rfl (by decide) (by decide) (by decide) (by decide) (by decide) dX3_init_20 (fun qa => ?_)
  refine n_putF C0 (q0 := 0) (ci := 2) (T := TX3) (N := 10) (ref := RX3) (fs := (r3.set 0 (.ref qb)).set 3 (.int (-1))) x_lays3 tyX3 tyX3_ok nmX3 rfl rfl 5 (by decide) w4_71 rfl rfl hname rfl rfl rfl (Nat.le_of_ble_eq_true rfl) dX3_init_22 ?_
  exact hend ⟨aR h0 qb qa, rfl, rfl⟩ (fun H h => rd_P hZ h) (fun h => D_addr (by rfl) h) dX3_init_25
