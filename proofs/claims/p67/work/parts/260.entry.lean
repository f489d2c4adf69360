/-! the statics at the law's entry -/
def zF : List Cond := flatC (Jvm.Cond.and given_1 narrow_1)
def zS (i : Nat) : String × Nat × String := x_sl.getD i ("", 0, "")
def zt (i : Nat) : Term := .string (zS i).1 (zS i).2.1
def zv (i : Nat) : Term := .field (zt i) "java/lang/String" "value" "[B"
def zB (i : Nat) : List Cond := .exactly (zt i) "java/lang/String" :: .eq (.field (zt i) "java/lang/String" "coder" "B") (.int 0) :: .arrayOf (zv i) .byte :: .eq (.length (zv i)) (.int (Int32.ofNat (x_slen i))) :: (List.range (x_slen i)).map (fun j => Cond.eq (.elem (zv i) (.int (Int32.ofNat j))) (.int (x_sb i j)))
def zi : List Nat := [422, 607, 617, 624, 631, 640, 648, 657, 666, 676, 398, 409, 414, 684, 348, 364, 381, 689, 712, 735, 767, 803, 830, 839, 848, 857, 865, 874, 880, 888, 893, 902, 908, 919, 925, 933, 939, 947, 953, 964]
set_option maxRecDepth 100000 in
theorem zB_at : ∀ i, i < 40 → (zF.drop (zi.getD i 0)).take (4 + x_slen i) = zB i := by decide +kernel
theorem zB_in {i : Nat} (hi : i < 40) {c : Cond} (hc : c ∈ zB i) : c ∈ zF := by
  rw [← zB_at i hi] at hc
  exact List.mem_of_mem_drop (List.mem_of_mem_take hc)
set_option maxRecDepth 100000 in
theorem zR_in : ∀ i, i < 40 → Cond.stringRef (zS i).1 (zS i).2.1 (zS i).2.2 ∈ lw_tbl := by decide +kernel
theorem zl_lt : ∀ i, i < 40 → x_slen i < 2 ^ 31 := by decide +kernel
def zw (i : Nat) : Term := .static RX5 (x_vn i) "LFogBellMarket$Verb;"
def zV (i : Nat) : List Cond := [.exactly (zw i) RX5, .eq (.field (zw i) "java/lang/Enum" "ordinal" "I") (.int (nI i)), .eq (.field (zw i) RX5 "word" "Ljava/lang/String;") (zt (x_vw i)), .eq (.field (zw i) RX5 "kinds" "Ljava/lang/String;") (zt (x_vk i))]
set_option maxRecDepth 100000 in
theorem zV_in : ∀ i, i < 9 → ∀ c ∈ zV i, c ∈ zF := by decide +kernel
set_option maxRecDepth 100000 in
theorem zVl_in : ∀ i, i < 9 → Cond.laysStatic RX5 (x_vn i) "LFogBellMarket$Verb;" ∈ lw_tbl := by decide +kernel
set_option maxRecDepth 100000 in
theorem zVd_in : ∀ i, i < 9 → ∀ j, j < 9 → i < j → Cond.not (.eq (zw i) (zw j)) ∈ zF ∨ Cond.not (.eq (zw j) (zw i)) ∈ zF := by decide +kernel
theorem zk_lt : ∀ i, i < 9 → x_vw i < 40 ∧ x_vk i < 40 := by decide +kernel
def zu : Term := .static RX3 "VERBS" "[LFogBellMarket$Verb;"
set_option maxRecDepth 100000 in
theorem zu_in : ∀ c ∈ Cond.arrayOf zu (.object RX5) :: .eq (.length zu) (.int (Int32.ofNat 9)) :: (List.range 9).map (fun j => Cond.eq (.elem zu (.int (Int32.ofNat j))) (zw j)), c ∈ zF := by decide +kernel
def zm : Term := .static RX0 "$SwitchMap$FogBellMarket$Verb" "[I"
set_option maxRecDepth 100000 in
theorem zm_in : ∀ c ∈ Cond.arrayOf zm .int :: .eq (.length zm) (.int (Int32.ofNat 9)) :: (List.range 9).map (fun j => Cond.eq (.elem zm (.int (Int32.ofNat j))) (.int (x_smap j))), c ∈ zF := by decide +kernel
set_option maxRecDepth 100000 in
theorem zd_in : ∀ w ∈ x_dw, w ∈ lw_tbl := by decide +kernel
set_option maxRecDepth 100000 in
theorem zg_in : ∀ w ∈ [Cond.laysStatic RX3 "VERBS" "[LFogBellMarket$Verb;", .initialized RX3, .laysStatic RX0 "$SwitchMap$FogBellMarket$Verb" "[I", .initialized RX0, .laysStatic "java/lang/Integer" "DigitOnes" "[B", .initialized "java/lang/Integer", .laysStatic "java/lang/Integer" "DigitTens" "[B", .laysStatic "jdk/internal/util/Preconditions" "SIOOBE_FORMATTER" "Ljava/util/function/BiFunction;", .initialized "jdk/internal/util/Preconditions", .laysStatic "java/lang/String" "COMPACT_STRINGS" "Z", .initialized "java/lang/String", .initialized RX5, .arrayClass .int, .arrayClass .byte, .arrayClass .boolean, .arrayClass .int, .arrayOver (.object RX4), .arrayOver (.object RX1), .arrayOver (.object RX2)], w ∈ lw_tbl := by decide +kernel
set_option maxRecDepth 100000 in
theorem zh_in : ∀ w ∈ [Cond.isRef (.static "jdk/internal/util/Preconditions" "SIOOBE_FORMATTER" "Ljava/util/function/BiFunction;"), .eq (.static "java/lang/String" "COMPACT_STRINGS" "Z") (.int 1)], w ∈ zF := by decide +kernel
def zo (i : Nat) : Term := .static "java/lang/Integer" (if i = 0 then "DigitOnes" else "DigitTens") "[B"
def zof (i : Nat) : Nat → Int32 := if i = 0 then x_ones else x_tens
def zoB (i : Nat) : List Cond := Cond.arrayOf (zo i) .byte :: .eq (.length (zo i)) (.int (Int32.ofNat 100)) :: (List.range 100).map (fun j => Cond.eq (.elem (zo i) (.int (Int32.ofNat j))) (.int (zof i j)))
set_option maxRecDepth 100000 in
theorem zo_at : ∀ i, i < 2 → (zF.drop ([12, 115].getD i 0)).take 102 = zoB i := by decide +kernel
theorem zo_in (i : Nat) (hi : i < 2) (c : Cond) (hc : c ∈ zoB i) : c ∈ zF := by
  rw [← zo_at i hi] at hc
  exact List.mem_of_mem_drop (List.mem_of_mem_take hc)
theorem x_lays5 : ∀ w ∈ u_ws RJ4 TJ4 4, w ∈ xA := fun w h => List.mem_append_right _ (List.mem_filter.mpr ⟨(by decide +kernel : ∀ w ∈ u_ws RJ4 TJ4 4, w ∈ lw_tbl) w h, (by decide +kernel : ∀ w ∈ u_ws RJ4 TJ4 4, goodWord w = true) w h⟩)
theorem x_lays6 : ∀ w ∈ u_ws RJ0 TJ0 4, w ∈ xA := fun w h => List.mem_append_right _ (List.mem_filter.mpr ⟨(by decide +kernel : ∀ w ∈ u_ws RJ0 TJ0 4, w ∈ lw_tbl) w h, (by decide +kernel : ∀ w ∈ u_ws RJ0 TJ0 4, goodWord w = true) w h⟩)
section ZE
variable {args : Array Value} {s : State} {A : Nat → Prop}
theorem z_str (hs : ∀ c ∈ zF, c.before args s = true) (hts : ∀ w ∈ lw_tbl, w.before args s = true) (hA : ∀ a : Nat, a < s.heap.size → ¬ A a) {i : Nat} (hi : i < 40) : ∃ q : Nat × Nat, (zt i).eval args s none [] s = some (.ref q.1) ∧ vk_R (zS i).1 (zS i).2.1 (zS i).2.2 q.1 s ∧ va_O "java/lang/String" q.1 A s s.heap ∧ va_OF "java/lang/String" "coder" "B" (.int 0) q.1 A s s.heap ∧ va_OF "java/lang/String" "value" "[B" (.ref q.2) q.1 A s s.heap ∧ va_T .byte q.2 (x_slen i) (fun j => .int (x_sb i j)) A s s.heap := by
  have hz : ∀ c ∈ zB i, c.before args s = true := fun c hc => hs c (zB_in hi hc)
  have h1 : (Cond.exactly (zt i) "java/lang/String").before args s = true := hz _ (List.mem_of_getElem? (i := 0) rfl)
  obtain ⟨a, c, cA, kA, q1, -⟩ := Cond.exactly_spec (args := args) (first := s) (o := none) (s := s) (idx := []) (t := zt i) (cls := "java/lang/String") h1
  have h2 : (Term.field (zt i) "java/lang/String" "coder" "B").eval args s none [] s = some (.int 0) := va_eqt (hz _ (List.mem_of_getElem? (i := 1) rfl))
  have h3 : (Cond.arrayOf (zv i) .byte).before args s = true := hz _ (List.mem_of_getElem? (i := 2) rfl)
  have h4 : (Term.length (zv i)).eval args s none [] s = some (.int (Int32.ofNat (x_slen i))) := va_eqt (hz _ (List.mem_of_getElem? (i := 3) rfl))
  have h5 : ∀ j, j < x_slen i → (Term.elem (zv i) (.int (Int32.ofNat j))).eval args s none [] s = some (.int (x_sb i j)) := fun j hj => va_eqt (hz _ (List.mem_cons_of_mem _ (List.mem_cons_of_mem _ (List.mem_cons_of_mem _ (List.mem_cons_of_mem _ (List.mem_map.mpr ⟨j, List.mem_range.mpr hj, rfl⟩))))))
  obtain ⟨t, ht, hT⟩ := va_Tof (f := fun j => .int (x_sb i j)) (zl_lt i hi) h3 h4 h5 hA
  exact ⟨(a, t), q1, vk_R.of (hts _ (zR_in i hi)) q1, va_Oof h1 q1 hA, vk_OFof q1 h2 hA, vk_OFof q1 ht hA, hT⟩
theorem z_verb (hs : ∀ c ∈ zF, c.before args s = true) (hts : ∀ w ∈ lw_tbl, w.before args s = true) (hA : ∀ a : Nat, a < s.heap.size → ¬ A a) {sa : Nat → Nat} (hsa : ∀ i, i < 40 → (zt i).eval args s none [] s = some (.ref (sa i))) {i : Nat} (hi : i < 9) : ∃ a : Nat, (zw i).eval args s none [] s = some (.ref a) ∧ va_Z RX5 (x_vn i) "LFogBellMarket$Verb;" (.ref a) A s s.heap ∧ va_O RX5 a A s s.heap ∧ va_OF "java/lang/Enum" "ordinal" "I" (.int (nI i)) a A s s.heap ∧ va_OF RX5 "word" "Ljava/lang/String;" (.ref (sa (x_vw i))) a A s s.heap ∧ va_OF RX5 "kinds" "Ljava/lang/String;" (.ref (sa (x_vk i))) a A s s.heap := by
  have hz : ∀ c ∈ zV i, c.before args s = true := fun c hc => hs c (zV_in i hi c hc)
  have h1 : (Cond.exactly (zw i) RX5).before args s = true := hz _ (List.mem_of_getElem? (i := 0) rfl)
  obtain ⟨a, c, cA, kA, q1, -⟩ := Cond.exactly_spec (args := args) (first := s) (o := none) (s := s) (idx := []) (t := zw i) (cls := RX5) h1
  have h2 : (Term.field (zw i) "java/lang/Enum" "ordinal" "I").eval args s none [] s = some (.int (nI i)) := va_eqt (hz _ (List.mem_of_getElem? (i := 1) rfl))
  have h3 : (Term.field (zw i) RX5 "word" "Ljava/lang/String;").eval args s none [] s = some (.ref (sa (x_vw i))) := va_eqv (hz _ (List.mem_of_getElem? (i := 2) rfl)) (hsa _ (zk_lt i hi).1)
  have h4 : (Term.field (zw i) RX5 "kinds" "Ljava/lang/String;").eval args s none [] s = some (.ref (sa (x_vk i))) := va_eqv (hz _ (List.mem_of_getElem? (i := 3) rfl)) (hsa _ (zk_lt i hi).2)
  exact ⟨a, q1, va_Zof (hts _ (zVl_in i hi)) (hts _ (zg_in _ (List.mem_of_getElem? (i := 11) rfl))) q1 hA, va_Oof h1 q1 hA, vk_OFof q1 h2 hA, vk_OFof q1 h3 hA, vk_OFof q1 h4 hA⟩
theorem z_ne {t u : Term} {a : Nat} (h : (Cond.not (.eq t u)).before args s = true) (ht : t.eval args s none [] s = some (.ref a)) (hu : u.eval args s none [] s = some (.ref a)) : False := by
  simp [Cond.before, Cond.holds, Cond.value, ht, hu] at h
theorem z_prim {ty : FieldType} (h : (Cond.arrayClass ty).before args s = true) : ∃ cA : ClassId, ArrOfT s cA ty ∧ s.vm.findClass ("[" ++ ty.toString) = some cA := by
  obtain ⟨cA, kA, comp, h1, h2, h3⟩ := Cond.arrayClass_spec (args := args) (first := s) (o := none) (s := s) (idx := []) h
  exact ⟨cA, fun n z => ⟨fun k h => (by cases h), kA, h2, comp, h3⟩, h1⟩
theorem z_over {C : String} (h : (Cond.arrayOver (.object C)).before args s = true) : ∃ cA : ClassId, ArrOfT s cA (.object C) ∧ va_RA s cA (.object C) := by
  obtain ⟨comp, c, k, h1, h2, h3, h4, h5⟩ := Cond.arrayOver_spec (args := args) (first := s) (o := none) (s := s) (idx := []) h
  exact ⟨c, fun n z => ⟨fun k h => (by cases h), k, h3, comp, h4⟩, k, comp, h3, h4, h1, h5⟩
end ZE
/-- what a walk needs of the statics; A: what may change -/
def x_KS2 (g : xG) (A : Nat → Prop) (U : State) : Prop :=
  (∀ w ∈ x_dw, va_Nw w U) ∧ True ∧ (∀ (i : Nat) (q : String × Nat × String), x_sl[i]? = some q → vk_R q.1 q.2.1 q.2.2 (g.1 20 i) U) ∧ (∀ i j, i < 9 → j < 9 → g.2.2 i = g.2.2 j → i = j) ∧ x_KA g A U U.heap
theorem zS_at {i : Nat} {q : String × Nat × String} (h : x_sl[i]? = some q) : i < 40 ∧ zS i = q := by
  refine ⟨?_, ?_⟩
  · have := (List.getElem?_eq_some_iff.mp h).1
    have e : x_sl.length = 40 := by decide +kernel
    omega
  · unfold zS
    rw [List.getD_eq_getElem?_getD, h]
    rfl
theorem z_all {args : Array Value} {s : State} {A : Nat → Prop} {b L : Nat} {xs : Nat → Int32} (hX : va_X b L xs s s.heap) (hbA : ¬ A b) (hs : ∀ c ∈ zF, c.before args s = true) (hts : ∀ w ∈ lw_tbl, w.before args s = true) (hA : ∀ a : Nat, a < s.heap.size → ¬ A a) : ∃ (D : va_G) (g : xG), va_K D xCl (x_tys g) s ∧ x_KS2 g A s ∧ g.1 26 0 = b ∧ g.1 27 0 = L := by
  obtain ⟨sf, hsf⟩ := Classical.axiomOfChoice (fun i : Nat => (by
    by_cases hi : i < 40
    · obtain ⟨q, hq⟩ := z_str hs hts hA hi
      exact ⟨q, fun _ => hq⟩
    · exact ⟨(0, 0), fun h => absurd h hi⟩ : ∃ q : Nat × Nat, i < 40 → ((zt i).eval args s none [] s = some (.ref q.1) ∧ vk_R (zS i).1 (zS i).2.1 (zS i).2.2 q.1 s ∧ va_O "java/lang/String" q.1 A s s.heap ∧ va_OF "java/lang/String" "coder" "B" (.int 0) q.1 A s s.heap ∧ va_OF "java/lang/String" "value" "[B" (.ref q.2) q.1 A s s.heap ∧ va_T .byte q.2 (x_slen i) (fun j => .int (x_sb i j)) A s s.heap)))
  have hsa : ∀ i, i < 40 → (zt i).eval args s none [] s = some (.ref ((fun i => (sf i).1) i)) := fun i hi => (hsf i hi).1
  obtain ⟨vf, hvf⟩ := Classical.axiomOfChoice (fun i : Nat => (by
    by_cases hi : i < 9
    · obtain ⟨q, hq⟩ := z_verb (sa := fun i => (sf i).1) hs hts hA hsa hi
      exact ⟨q, fun _ => hq⟩
    · exact ⟨0, fun h => absurd h hi⟩ : ∃ a : Nat, i < 9 → ((zw i).eval args s none [] s = some (.ref a) ∧ va_Z RX5 (x_vn i) "LFogBellMarket$Verb;" (.ref a) A s s.heap ∧ va_O RX5 a A s s.heap ∧ va_OF "java/lang/Enum" "ordinal" "I" (.int (nI i)) a A s s.heap ∧ va_OF RX5 "word" "Ljava/lang/String;" (.ref (sf (x_vw i)).1) a A s s.heap ∧ va_OF RX5 "kinds" "Ljava/lang/String;" (.ref (sf (x_vk i)).1) a A s s.heap)))
  have hu : ∀ c ∈ Cond.arrayOf zu (.object RX5) :: .eq (.length zu) (.int (Int32.ofNat 9)) :: (List.range 9).map (fun j => Cond.eq (.elem zu (.int (Int32.ofNat j))) (zw j)), c.before args s = true := fun c hc => hs c (zu_in c hc)
  obtain ⟨ut, hut, hUT⟩ := va_Tof (f := fun j => .ref (vf j)) (tm := zu) (ty := .object RX5) (N := 9) (by decide) (hu _ (List.mem_of_getElem? (i := 0) rfl)) (va_eqt (hu _ (List.mem_of_getElem? (i := 1) rfl))) (fun j hj => va_eqv (hu _ (List.mem_cons_of_mem _ (List.mem_cons_of_mem _ (List.mem_map.mpr ⟨j, List.mem_range.mpr hj, rfl⟩)))) (hvf j hj).1) hA
  have hm : ∀ c ∈ Cond.arrayOf zm .int :: .eq (.length zm) (.int (Int32.ofNat 9)) :: (List.range 9).map (fun j => Cond.eq (.elem zm (.int (Int32.ofNat j))) (.int (x_smap j))), c.before args s = true := fun c hc => hs c (zm_in c hc)
  obtain ⟨mt, hmt, hMT⟩ := va_Tof (f := fun j => .int (x_smap j)) (tm := zm) (ty := .int) (N := 9) (by decide) (hm _ (List.mem_of_getElem? (i := 0) rfl)) (va_eqt (hm _ (List.mem_of_getElem? (i := 1) rfl))) (fun j hj => va_eqt (hm _ (List.mem_cons_of_mem _ (List.mem_cons_of_mem _ (List.mem_map.mpr ⟨j, List.mem_range.mpr hj, rfl⟩))))) hA
  have hz9 : ∀ i, i < 2 → ∀ c ∈ zoB i, c.before args s = true := fun i hi c hc => hs c (zo_in i hi c hc)
  obtain ⟨ot, hot, hOT⟩ := va_Tof (f := fun j => .int (zof 0 j)) (tm := zo 0) (ty := .byte) (N := 100) (by decide) (hz9 0 (by decide) _ (List.mem_of_getElem? (i := 0) rfl)) (va_eqt (hz9 0 (by decide) _ (List.mem_of_getElem? (i := 1) rfl))) (fun j hj => va_eqt (hz9 0 (by decide) _ (List.mem_cons_of_mem _ (List.mem_cons_of_mem _ (List.mem_map.mpr ⟨j, List.mem_range.mpr hj, rfl⟩))))) hA
  obtain ⟨nt, hnt, hNT⟩ := va_Tof (f := fun j => .int (zof 1 j)) (tm := zo 1) (ty := .byte) (N := 100) (by decide) (hz9 1 (by decide) _ (List.mem_of_getElem? (i := 0) rfl)) (va_eqt (hz9 1 (by decide) _ (List.mem_of_getElem? (i := 1) rfl))) (fun j hj => va_eqt (hz9 1 (by decide) _ (List.mem_cons_of_mem _ (List.mem_cons_of_mem _ (List.mem_map.mpr ⟨j, List.mem_range.mpr hj, rfl⟩))))) hA
  have hg := fun w hw => hts w (zg_in w hw)
  have hh := fun w hw => hs w (zh_in w hw)
  obtain ⟨t0, a0, b0⟩ := z_prim (ty := .int) (hg _ (List.mem_of_getElem? (i := 12) rfl))
  obtain ⟨t1, a1, b1⟩ := z_prim (ty := .byte) (hg _ (List.mem_of_getElem? (i := 13) rfl))
  obtain ⟨t2, a2, b2⟩ := z_prim (ty := .boolean) (hg _ (List.mem_of_getElem? (i := 14) rfl))
  obtain ⟨t4, a4, b4⟩ := z_over (C := RX4) (hg _ (List.mem_of_getElem? (i := 16) rfl))
  obtain ⟨t5, a5, b5⟩ := z_over (C := RX1) (hg _ (List.mem_of_getElem? (i := 17) rfl))
  obtain ⟨t6, a6, b6⟩ := z_over (C := RX2) (hg _ (List.mem_of_getElem? (i := 18) rfl))
  have hxa : ∀ w ∈ xA, w.before args s = true := xA_hts hts
  obtain ⟨k0, i0, n0⟩ := u_known (C := RX1) (T := TX1) (N := 8) (n := 8) hxa x_lays1 (hxa _ w3_194)
  obtain ⟨k1, i1, n1⟩ := u_known (C := RX2) (T := TX2) (N := 14) (n := 14) hxa x_lays2 (hxa _ w2_73)
  obtain ⟨k2, i2, n2⟩ := u_known (C := RX3) (T := TX3) (N := 10) (n := 10) hxa x_lays3 (hxa _ w4_58)
  obtain ⟨k3, i3, n3⟩ := u_known (C := RX4) (T := TX4) (N := 9) (n := 9) hxa x_lays0 (hxa _ w2_115)
  obtain ⟨k4, i4, n4⟩ := u_known (C := RX6) (T := TX6) (N := 11) (n := 11) hxa x_lays4 (hxa _ w1_152)
  obtain ⟨k5, i5, n5⟩ := u_known (C := RJ4) (T := TJ4) (N := 4) (n := 4) hxa x_lays5 (hxa _ w2_132)
  obtain ⟨k6, i6, n6⟩ := u_known (C := RJ0) (T := TJ0) (N := 4) (n := 4) hxa x_lays6 (hxa _ w3_73)
  refine ⟨(fun c => match c with | 0 => k0 | 1 => k1 | 2 => k2 | 3 => k3 | 4 => k4 | 5 => k5 | _ => k6, fun c => match c with | 0 => i0 | 1 => i1 | 2 => i2 | 3 => i3 | 4 => i4 | 5 => i5 | _ => i6), (fun k i => match k with | 20 => (sf i).1 | 21 => (sf i).2 | 22 => ut | 23 => mt | 24 => ot | 25 => nt | 26 => b | 27 => L | _ => (xs i).toBitVec.toNat, fun k => match k with | 0 => t0 | 1 => t1 | 2 => t2 | 3 => t0 | 4 => t4 | 5 => t5 | _ => t6, vf), ⟨?_, ?_⟩, ⟨?_, ?_, ?_, ?_, ?_⟩, rfl, rfl⟩
  · intro c q hq
    match c, hq with
    | 0, hq => cases hq; exact n0
    | 1, hq => cases hq; exact n1
    | 2, hq => cases hq; exact n2
    | 3, hq => cases hq; exact n3
    | 4, hq => cases hq; exact n4
    | 5, hq => cases hq; exact n5
    | 6, hq => cases hq; exact n6
    | c + 7, hq => simp [xCl] at hq
  · intro c q hq
    match c, hq with
    | 0, hq => cases hq; exact ⟨a0, b0⟩
    | 1, hq => cases hq; exact ⟨a1, b1⟩
    | 2, hq => cases hq; exact ⟨a2, b2⟩
    | 3, hq => cases hq; exact ⟨a0, b0⟩
    | 4, hq => cases hq; exact ⟨a4, b4⟩
    | 5, hq => cases hq; exact ⟨a5, b5⟩
    | 6, hq => cases hq; exact ⟨a6, b6⟩
    | c + 7, hq => simp [x_tys] at hq
  · intro w hw
    refine va_Nw.of ?_ (hts w (zd_in w hw))
    simp only [x_dw, List.mem_cons, List.not_mem_nil, or_false] at hw
    rcases hw with rfl | rfl
    all_goals rfl
  · exact trivial
  · intro i q hq
    obtain ⟨hi, e⟩ := zS_at hq
    subst e
    exact (hsf i hi).2.1
  · intro i j hi hj e
    have ei := (hvf i hi).1
    have ej := (hvf j hj).1
    have e : vf i = vf j := e
    rcases Nat.lt_trichotomy i j with h | h | h
    · rw [e] at ei
      rcases zVd_in i hi j hj h with q | q
      · exact (z_ne (hs _ q) ei ej).elim
      · exact (z_ne (hs _ q) ej ei).elim
    · exact h
    · rw [e] at ei
      rcases zVd_in j hj i hi h with q | q
      · exact (z_ne (hs _ q) ej ei).elim
      · exact (z_ne (hs _ q) ei ej).elim
  · refine ⟨trivial, trivial, fun i hi => ?_, va_Zof (hg _ (List.mem_of_getElem? (i := 9) rfl)) (hg _ (List.mem_of_getElem? (i := 10) rfl)) (va_eqt (hh _ (List.mem_of_getElem? (i := 1) rfl))) hA, fun i hi => ?_, va_Zof (hg _ (List.mem_of_getElem? (i := 0) rfl)) (hg _ (List.mem_of_getElem? (i := 1) rfl)) hut hA, hUT, va_Zof (hg _ (List.mem_of_getElem? (i := 2) rfl)) (hg _ (List.mem_of_getElem? (i := 3) rfl)) hmt hA, hMT, va_Zqof (hg _ (List.mem_of_getElem? (i := 7) rfl)) (hg _ (List.mem_of_getElem? (i := 8) rfl)) (hh _ (List.mem_of_getElem? (i := 0) rfl)) hA, ⟨va_Zof (hg _ (List.mem_of_getElem? (i := 4) rfl)) (hg _ (List.mem_of_getElem? (i := 5) rfl)) hot hA, hOT⟩, va_Zof (hg _ (List.mem_of_getElem? (i := 6) rfl)) (hg _ (List.mem_of_getElem? (i := 5) rfl)) hnt hA, hNT, ?_⟩
    · obtain ⟨-, -, p1, p2, p3, p4⟩ := hsf i hi
      exact ⟨p1, p2, p3, p4⟩
    · obtain ⟨-, p1, p2, p3, p4, p5⟩ := hvf i hi
      exact ⟨p1, p2, p3, p4, p5⟩
    · obtain ⟨scr, q1, q2, q3, q4, q5⟩ := hX
      refine ⟨scr, q1, q2, q3, by rw [q4]; exact Nat.le_refl _, by rw [q4]; rfl, fun j hj => (q5 j hj).trans ?_, hbA⟩
      refine congrArg some (congrArg Value.int ?_)
      apply Int32.toBitVec_inj.mp
      show (xs j).toBitVec = BitVec.ofNat 32 (xs j).toBitVec.toNat
      simp
