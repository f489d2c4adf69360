/-! strings, the enum, their constants: rows -/
def isn (ty : FieldType) (v : Int32) : Bool := decide (narrow ty (.int v) = .int v)
theorem isn_e {ty : FieldType} {v : Int32} (h : isn ty v = true) : narrow ty (.int v) = .int v := of_decide_eq_true h
section XW
variable {p : Program} {l : Launch} {e : Env} {R : Room} {s : State} {m : MethodId} {args : Array Value} {below : List Frame} {meth : Method} {c : Code} {cells slots : Nat} {Q : State → Prop}
variable {cc : ByteArray} {nL : Nat} {own : String} {D : va_G} {g : xG} {tb : List xQ} {pc : Nat} {lv : List (Nat × Value)} {st : List Value} {M : xM}
theorem CC.kA (C0 : CC p s m args c cc nL own D g tb) : x_KA g (x_A g tb s.heap.size) s s.heap := C0.2.2.2.2.2.2.2.2.2.2.2
theorem CC.inj (C0 : CC p s m args c cc nL own D g tb) : ∀ i j, i < 9 → j < 9 → g.2.2 i = g.2.2 j → i = j := C0.2.2.2.2.2.2.2.2.2.2.1
theorem r_nret (C0 : CC p s m args c cc nL own D g tb) {v r : Int32} {M' : xM} {ty : FieldType} (hr : meth.sig.returnType = some ty) (hlk : meth.locks = false) (hz : narrow ty (.int v) = .int v) (hf : (some (v, M) : Option (Int32 × xM)) = some (r, M')) (hd : decode cc pc = .ok (.ireturn, 1)) :
    WW p l e R s m args below meth c cells slots (MQ below (x_Qi D g tb r M' s.heap.size) args s cells slots (x_A g tb s.heap.size)) nL D g tb pc lv [.int v] M := by
  cases hf
  intro H locs ls h1 h2 h3
  exact W.zret C0.1 C0.2.1 hr hz (fun t ht hW => ⟨⟨v, (), rfl, rfl, x_Bend C0 h1 h2 ht hW⟩, h2.F ht⟩) h2.2.2 hd hlk
def x_Qe (D : va_G) (g : xG) (tb : List xQ) (r : Int32) (M : xM) (sz : Nat) : Array Value → State → Outcome → State → Prop := va_Qe g.2.2 (fun r' (_ : Unit) => r' = x_en r) (fun _ t => x_B D g tb M t) (x_A g tb sz)
def cE (l : Launch) (D : va_G) (g : xG) (tb : List xQ) (y : MethodName) (cc : ByteArray) (nL : Nat) (ret : FieldType) (rm : Room) (as : List Value) (M : xM) (r : Int32) (M' : xM) : Prop :=
  ∀ sz, Met l y (ws_ y cc nL (some ret)) rm (va_Pc as (fun U => U.heap.size = sz ∧ x_B D g tb M U)) (x_Qe D g tb r M' sz) 0 0 (x_A g tb sz)
theorem r_eret (C0 : CC p s m args c cc nL own D g tb) {v r : Int32} {M' : xM} {n : String} (hr : meth.sig.returnType = some (.object n)) (hlk : meth.locks = false) (hf : (some (v, M) : Option (Int32 × xM)) = some (r, M')) (hd : decode cc pc = .ok (.areturn, 1)) :
    WW p l e R s m args below meth c cells slots (MQ below (x_Qe D g tb r M' s.heap.size) args s cells slots (x_A g tb s.heap.size)) nL D g tb pc lv [va_re g.2.2 (x_en v)] M := by
  cases hf
  intro H locs ls h1 h2 h3
  exact W.aret C0.1 C0.2.1 hr (Or.inl ⟨n, rfl⟩) (va_re_or _ _) (fun t ht hW => ⟨⟨x_en v, (), rfl, rfl, x_Bend C0 h1 h2 ht hW⟩, h2.F ht⟩) h2.2.2 hd hlk
theorem r_ldcs (C0 : CC p s m args c cc nL own D g tb) {index si : Nat} {tx : String} (hsi : x_sl[si]? = some (own, index, tx)) (hd : decode cc pc = .ok (.ldc index, 2)) (k : WW p l e R s m args below meth c cells slots Q nL D g tb (pc + 2) lv (.ref (g.1 20 si) :: st) M) : WW p l e R s m args below meth c cells slots Q nL D g tb pc lv st M :=
  fun H locs ls h1 h2 h3 => va_ldcS C0.1 C0.2.1 C0.2.2.2.1 (C0.2.2.2.2.2.2.2.2.2.1 si _ hsi) hd (k H locs ls h1 h2 h3)
theorem x_rec20 (C0 : CC p s m args c cc nL own D g tb) {i : Nat} (hi : i < 40) : ∀ (M : xM) (H : Heap) (locs : List Loc), x_H D g tb M H → va_S (x_A g tb s.heap.size) s.heap H locs → ∃ cell : Cell, H[g.1 20 i]? = some cell ∧ cell.vm.isStatics = false ∧ s.vm.findClass RJ0 = some cell.cls :=
  fun M H locs _ h2 => va_Orecv (C0.kA.2.2.1 i hi).1 h2
theorem r_sval (C0 : CC p s m args c cc nL own D g tb) {i index : Nat} (hi : i < 40) (hw : Cond.fieldLink own index "java/lang/String" "value" "[B" ∈ xA) (hd : decode cc pc = .ok (.getfield index, 3)) (k : WW p l e R s m args below meth c cells slots Q nL D g tb (pc + 3) lv (.ref (g.1 21 i) :: st) M) : WW p l e R s m args below meth c cells slots Q nL D g tb pc lv (.ref (g.1 20 i) :: st) M :=
  fun H locs ls h1 h2 h3 => vk_getf C0.1 C0.2.1 (C0.kA.2.2.1 i hi).2.2.1 h2 C0.2.2.2.1 (C0.2.2.2.2.1 _ hw) (fun _ h => h) hd (k H locs ls h1 h2 h3)
theorem r_scod (C0 : CC p s m args c cc nL own D g tb) {i index : Nat} (hi : i < 40) (hw : Cond.fieldLink own index "java/lang/String" "coder" "B" ∈ xA) (hd : decode cc pc = .ok (.getfield index, 3)) (k : WW p l e R s m args below meth c cells slots Q nL D g tb (pc + 3) lv (.int 0 :: st) M) : WW p l e R s m args below meth c cells slots Q nL D g tb pc lv (.ref (g.1 20 i) :: st) M :=
  fun H locs ls h1 h2 h3 => vk_getf C0.1 C0.2.1 (C0.kA.2.2.1 i hi).2.1 h2 C0.2.2.2.1 (C0.2.2.2.2.1 _ hw) (fun _ h => h) hd (k H locs ls h1 h2 h3)
theorem r_slen (C0 : CC p s m args c cc nL own D g tb) {i : Nat} (hi : i < 40) (hd : decode cc pc = .ok (.arraylength, 1)) (k : WW p l e R s m args below meth c cells slots Q nL D g tb (pc + 1) lv (.int (nI (x_slen i)) :: st) M) : WW p l e R s m args below meth c cells slots Q nL D g tb pc lv (.ref (g.1 21 i) :: st) M :=
  fun H locs ls h1 h2 h3 => va_tlen C0.1 C0.2.1 (C0.kA.2.2.1 i hi).2.2.2 h2 rfl hd (k H locs ls h1 h2 h3)
theorem r_sbyte (C0 : CC p s m args c cc nL own D g tb) {i : Nat} {j : Int32} (hi : i < 40) (hin : inb j (x_slen i) = true) (hd : decode cc pc = .ok (.baload, 1)) (k : WW p l e R s m args below meth c cells slots Q nL D g tb (pc + 1) lv (.int (x_sb i j.toNatClampNeg) :: st) M) : WW p l e R s m args below meth c cells slots Q nL D g tb pc lv (.int j :: .ref (g.1 21 i) :: st) M :=
  fun H locs ls h1 h2 h3 => va_tb C0.1 C0.2.1 (C0.kA.2.2.1 i hi).2.2.2 h2 (inb_in hin) rfl hd (k H locs ls h1 h2 h3)
theorem r_compact (C0 : CC p s m args c cc nL own D g tb) {index : Nat} (hw : Cond.fieldLink own index "java/lang/String" "COMPACT_STRINGS" "Z" ∈ xA) (hd : decode cc pc = .ok (.getstatic index, 3)) (k : WW p l e R s m args below meth c cells slots Q nL D g tb (pc + 3) lv (.int 1 :: st) M) : WW p l e R s m args below meth c cells slots Q nL D g tb pc lv st M :=
  fun H locs ls h1 h2 h3 => va_gets C0.1 C0.2.1 C0.kA.2.2.2.1 h2 C0.2.2.2.1 (C0.2.2.2.2.1 _ hw) (fun _ h => h) hd (k H locs ls h1 h2 h3)
theorem r_sioobe (C0 : CC p s m args c cc nL own D g tb) {index : Nat} (hw : Cond.fieldLink own index "jdk/internal/util/Preconditions" "SIOOBE_FORMATTER" "Ljava/util/function/BiFunction;" ∈ xA) (hd : decode cc pc = .ok (.getstatic index, 3)) (k : ∀ r : Option Nat, WW p l e R s m args below meth c cells slots Q nL D g tb (pc + 3) lv (va_rf r :: st) M) : WW p l e R s m args below meth c cells slots Q nL D g tb pc lv st M := by
  intro H locs ls h1 h2 h3
  rcases C0.kA.2.2.2.2.2.2.2.2.2.1 with hz | ⟨t, hz⟩
  · exact va_gets C0.1 C0.2.1 hz h2 C0.2.2.2.1 (C0.2.2.2.2.1 _ hw) (fun _ h => h) hd (k none H locs ls h1 h2 h3)
  · exact va_gets C0.1 C0.2.1 hz h2 C0.2.2.2.1 (C0.2.2.2.2.1 _ hw) (fun _ h => h) hd (k (some t) H locs ls h1 h2 h3)
/-- the enum: 0 is null, k + 1 the constant k -/
theorem x_en_s {x : Int32} {n : Nat} (h : inb (x - 1) n = true) (hn : n < 2147483647) : x_en x = some (x - 1).toNatClampNeg := by
  unfold inb at h
  simp only [Bool.and_eq_true, decide_eq_true_eq] at h
  obtain ⟨a, b⟩ := h
  have hx : x.toInt = (x - 1).toInt + 1 := by
    have e : x = (x - 1) + 1 := by simp
    have r1 : (1 : Int32).toInt = 1 := rfl
    have r2 : ((x - 1) + 1).toInt = ((x - 1).toInt + (1 : Int32).toInt).bmod (2 ^ 32) := Int32.toInt_add _ _
    rw [← e, r1] at r2
    rw [r2]
    exact Int.bmod_eq_of_le (by omega) (by omega)
  have h0 : ¬ x = 0 := by
    rintro rfl
    have r1 : (0 : Int32).toInt = 0 := rfl
    omega
  unfold x_en
  rw [if_neg h0]
  congr 1
  show x.toInt.toNat - 1 = (x - 1).toInt.toNat
  omega
theorem x_en_lt {x : Int32} (h : inb (x - 1) 9 = true) : (x - 1).toNatClampNeg < 9 := inb_lt h
theorem r_vword (C0 : CC p s m args c cc nL own D g tb) {x : Int32} {index : Nat} (hx : inb (x - 1) 9 = true) (hw : Cond.fieldLink own index "FogBellMarket$Verb" "word" "Ljava/lang/String;" ∈ xA) (hd : decode cc pc = .ok (.getfield index, 3)) (k : WW p l e R s m args below meth c cells slots Q nL D g tb (pc + 3) lv (.ref (g.1 20 (x_vw (x - 1).toNatClampNeg)) :: st) M) : WW p l e R s m args below meth c cells slots Q nL D g tb pc lv (va_re g.2.2 (x_en x) :: st) M := by
  rw [x_en_s hx (by decide)]
  exact fun H locs ls h1 h2 h3 => vk_getf C0.1 C0.2.1 (C0.kA.2.2.2.2.1 _ (inb_lt hx)).2.2.2.1 h2 C0.2.2.2.1 (C0.2.2.2.2.1 _ hw) (fun _ h => h) hd (k H locs ls h1 h2 h3)
theorem r_vkinds (C0 : CC p s m args c cc nL own D g tb) {x : Int32} {index : Nat} (hx : inb (x - 1) 9 = true) (hw : Cond.fieldLink own index "FogBellMarket$Verb" "kinds" "Ljava/lang/String;" ∈ xA) (hd : decode cc pc = .ok (.getfield index, 3)) (k : WW p l e R s m args below meth c cells slots Q nL D g tb (pc + 3) lv (.ref (g.1 20 (x_vk (x - 1).toNatClampNeg)) :: st) M) : WW p l e R s m args below meth c cells slots Q nL D g tb pc lv (va_re g.2.2 (x_en x) :: st) M := by
  rw [x_en_s hx (by decide)]
  exact fun H locs ls h1 h2 h3 => vk_getf C0.1 C0.2.1 (C0.kA.2.2.2.2.1 _ (inb_lt hx)).2.2.2.2 h2 C0.2.2.2.1 (C0.2.2.2.2.1 _ hw) (fun _ h => h) hd (k H locs ls h1 h2 h3)
theorem r_vord (C0 : CC p s m args c cc nL own D g tb) {x : Int32} {index : Nat} (hx : inb (x - 1) 9 = true) (hw : Cond.fieldLink own index "java/lang/Enum" "ordinal" "I" ∈ xA) (hd : decode cc pc = .ok (.getfield index, 3)) (k : WW p l e R s m args below meth c cells slots Q nL D g tb (pc + 3) lv (.int (nI (x - 1).toNatClampNeg) :: st) M) : WW p l e R s m args below meth c cells slots Q nL D g tb pc lv (va_re g.2.2 (x_en x) :: st) M := by
  rw [x_en_s hx (by decide)]
  exact fun H locs ls h1 h2 h3 => vk_getf C0.1 C0.2.1 (C0.kA.2.2.2.2.1 _ (inb_lt hx)).2.2.1 h2 C0.2.2.2.1 (C0.2.2.2.2.1 _ hw) (fun _ h => h) hd (k H locs ls h1 h2 h3)
theorem r_gverb (C0 : CC p s m args c cc nL own D g tb) {index i : Nat} {x : Int32} (hi : i < 9) (hx : x_en x = some i) (hw : Cond.fieldLink own index "FogBellMarket$Verb" (x_vn i) "LFogBellMarket$Verb;" ∈ xA) (hd : decode cc pc = .ok (.getstatic index, 3)) (k : WW p l e R s m args below meth c cells slots Q nL D g tb (pc + 3) lv (va_re g.2.2 (x_en x) :: st) M) : WW p l e R s m args below meth c cells slots Q nL D g tb pc lv st M := by
  rw [hx] at k
  exact fun H locs ls h1 h2 h3 => va_gets C0.1 C0.2.1 (C0.kA.2.2.2.2.1 i hi).1 h2 C0.2.2.2.1 (C0.2.2.2.2.1 _ hw) (fun _ h => h) hd (k H locs ls h1 h2 h3)
theorem r_gverbs (C0 : CC p s m args c cc nL own D g tb) {index : Nat} (hw : Cond.fieldLink own index "FogBellMarket$Reader" "VERBS" "[LFogBellMarket$Verb;" ∈ xA) (hd : decode cc pc = .ok (.getstatic index, 3)) (k : WW p l e R s m args below meth c cells slots Q nL D g tb (pc + 3) lv (.ref (g.1 22 0) :: st) M) : WW p l e R s m args below meth c cells slots Q nL D g tb pc lv st M :=
  fun H locs ls h1 h2 h3 => va_gets C0.1 C0.2.1 C0.kA.2.2.2.2.2.1 h2 C0.2.2.2.1 (C0.2.2.2.2.1 _ hw) (fun _ h => h) hd (k H locs ls h1 h2 h3)
theorem r_vslen (C0 : CC p s m args c cc nL own D g tb) (hd : decode cc pc = .ok (.arraylength, 1)) (k : WW p l e R s m args below meth c cells slots Q nL D g tb (pc + 1) lv (.int 9 :: st) M) : WW p l e R s m args below meth c cells slots Q nL D g tb pc lv (.ref (g.1 22 0) :: st) M :=
  fun H locs ls h1 h2 h3 => va_tlen C0.1 C0.2.1 C0.kA.2.2.2.2.2.2.1 h2 (by decide) hd (k H locs ls h1 h2 h3)
theorem inb_up {i : Int32} {n : Nat} (h : inb i n = true) (hn : n < 2147483647) : inb (i + 1 - 1) n = true := by
  have e : i + 1 - 1 = i := by simp
  rw [e]; exact h
theorem r_vsald (C0 : CC p s m args c cc nL own D g tb) {i : Int32} (hin : inb i 9 = true) (hd : decode cc pc = .ok (.aaload, 1)) (k : WW p l e R s m args below meth c cells slots Q nL D g tb (pc + 1) lv (va_re g.2.2 (x_en (i + 1)) :: st) M) : WW p l e R s m args below meth c cells slots Q nL D g tb pc lv (.int i :: .ref (g.1 22 0) :: st) M := by
  rw [x_en_s (inb_up hin (by decide)) (by decide), show i + 1 - 1 = i by simp] at k
  intro H locs ls h1 h2 h3
  obtain ⟨cell, q1, q2, q3, q4, q5, q6, q7⟩ := C0.kA.2.2.2.2.2.2.1
  have hlt := inb_lt hin
  have h0 := inb_in hin
  refine W.aald (v := .ref (g.2.2 i.toNatClampNeg)) (ty := .object RX5) C0.1 C0.2.1 (a := g.1 22 0) (cell := cell) (by rw [h2.2.1 _ (Array.getElem?_eq_some_iff.mp q1).1 q7]; exact q1) q2 rfl q3 (fun z => h0 (z.elim Or.inl (fun z => Or.inr (Nat.le_trans q4 z)))) (q6 _ hlt) rfl rfl hd (k H locs ls h1 h2 h3)
theorem r_gsm (C0 : CC p s m args c cc nL own D g tb) {index : Nat} (hw : Cond.fieldLink own index "FogBellMarket$1" "$SwitchMap$FogBellMarket$Verb" "[I" ∈ xA) (hd : decode cc pc = .ok (.getstatic index, 3)) (k : WW p l e R s m args below meth c cells slots Q nL D g tb (pc + 3) lv (.ref (g.1 23 0) :: st) M) : WW p l e R s m args below meth c cells slots Q nL D g tb pc lv st M :=
  fun H locs ls h1 h2 h3 => va_gets C0.1 C0.2.1 C0.kA.2.2.2.2.2.2.2.1 h2 C0.2.2.2.1 (C0.2.2.2.2.1 _ hw) (fun _ h => h) hd (k H locs ls h1 h2 h3)
theorem r_smald (C0 : CC p s m args c cc nL own D g tb) {i : Int32} (hin : inb i 9 = true) (hd : decode cc pc = .ok (.iaload, 1)) (k : WW p l e R s m args below meth c cells slots Q nL D g tb (pc + 1) lv (.int (x_smap i.toNatClampNeg) :: st) M) : WW p l e R s m args below meth c cells slots Q nL D g tb pc lv (.int i :: .ref (g.1 23 0) :: st) M :=
  fun H locs ls h1 h2 h3 => va_ti C0.1 C0.2.1 C0.kA.2.2.2.2.2.2.2.2.1 h2 (inb_in hin) rfl hd (k H locs ls h1 h2 h3)
theorem r_ifnnv (C0 : CC p s m args c cc nL own D g tb) {x : Int32} {off : Int} {tgt : Nat} (ht : (pc : Int) + off = (tgt : Int)) (hd : decode cc pc = .ok (.ifnonnull off, 3)) (k1 : ¬ x = 0 → WW p l e R s m args below meth c cells slots Q nL D g tb tgt lv st M) (k2 : x = 0 → WW p l e R s m args below meth c cells slots Q nL D g tb (pc + 3) lv st M) : WW p l e R s m args below meth c cells slots Q nL D g tb pc lv (va_re g.2.2 (x_en x) :: st) M := by
  intro H locs ls h1 h2 h3
  by_cases hx : x = 0
  · have e : x_en x = none := by unfold x_en; rw [if_pos hx]
    rw [e]
    exact lv_ifnonnullN C0.1 C0.2.1 hd (k2 hx H locs ls h1 h2 h3)
  · have e : x_en x = some (x.toNatClampNeg - 1) := by unfold x_en; rw [if_neg hx]
    rw [e]
    exact lv_ifnonnull C0.1 C0.2.1 hd ht (k1 hx H locs ls h1 h2 h3)
theorem x_en_inj (C0 : CC p s m args c cc nL own D g tb) {x y : Int32} (hx : inb x 10 = true) (hy : inb y 10 = true) : (x_en x).map g.2.2 = (x_en y).map g.2.2 ↔ x = y := by
  constructor
  · intro h
    obtain ⟨a, ha, rfl⟩ := vp_in_of (inb_in hx) (by decide)
    obtain ⟨b, hb, rfl⟩ := vp_in_of (inb_in hy) (by decide)
    unfold x_en at h
    by_cases z1 : nI a = 0 <;> by_cases z2 : nI b = 0
    · rw [z1, z2]
    · rw [if_pos z1, if_neg z2] at h; cases h
    · rw [if_neg z1, if_pos z2] at h; cases h
    · rw [if_neg z1, if_neg z2, nI_clamp (by omega), nI_clamp (by omega)] at h
      have h5 := C0.inj (a - 1) (b - 1) (by omega) (by omega) (Option.some.inj h)
      have e1 : a ≠ 0 := fun h => z1 (by rw [h]; rfl)
      have e2 : b ≠ 0 := fun h => z2 (by rw [h]; rfl)
      rw [show a = b by omega]
  · rintro rfl; rfl
theorem r_acmpne (C0 : CC p s m args c cc nL own D g tb) {x y : Int32} {off : Int} {tgt : Nat} (hx : inb x 10 = true) (hy : inb y 10 = true) (ht : (pc : Int) + off = (tgt : Int)) (hd : decode cc pc = .ok (.if_acmp .ne off, 3)) (k1 : ¬ x = y → WW p l e R s m args below meth c cells slots Q nL D g tb tgt lv st M) (k2 : x = y → WW p l e R s m args below meth c cells slots Q nL D g tb (pc + 3) lv st M) : WW p l e R s m args below meth c cells slots Q nL D g tb pc lv (va_re g.2.2 (x_en y) :: va_re g.2.2 (x_en x) :: st) M := by
  intro H locs ls h1 h2 h3
  have hi := x_en_inj C0 hx hy
  exact lv_acmp_ne C0.1 C0.2.1 hd ht (fun h => k1 (fun z => h (hi.mpr z)) H locs ls h1 h2 h3) (fun h => k2 (hi.mp h) H locs ls h1 h2 h3)
theorem r_aloadv_n (C0 : CC p s m args c cc nL own D g tb) {kk : Fin 4} {x : Int32} (j : Nat) (hj : lv[j]? = some ((kk : Nat), va_re g.2.2 (x_en x))) (hd : decode cc pc = .ok (.aload_n kk, 1)) (k : WW p l e R s m args below meth c cells slots Q nL D g tb (pc + 1) lv (va_re g.2.2 (x_en x) :: st) M) : WW p l e R s m args below meth c cells slots Q nL D g tb pc lv st M := by
  intro H locs ls h1 h2 h3
  have h4 := lv_at h3 j hj
  cases hc : x_en x with
  | none =>
    rw [hc] at k h4
    exact lv_aload_nN C0.1 C0.2.1 hd rfl h4 (k H locs ls h1 h2 h3)
  | some a =>
    rw [hc] at k h4
    exact lv_aload_n C0.1 C0.2.1 hd rfl h4 (k H locs ls h1 h2 h3)
theorem r_nullv (C0 : CC p s m args c cc nL own D g tb) (hd : decode cc pc = .ok (.aconst_null, 1)) (k : WW p l e R s m args below meth c cells slots Q nL D g tb (pc + 1) lv (va_re g.2.2 (x_en 0) :: st) M) : WW p l e R s m args below meth c cells slots Q nL D g tb pc lv st M := r_null C0 hd k
theorem r_putv (C0 : CC p s m args c cc nL own D g tb) {b n index : Nat} {x : Int32} (hq : (3, b, n) ∈ tb) (hw : Cond.fieldLink own index "FogBellMarket$Reader" "verb" "LFogBellMarket$Verb;" ∈ xA) (hd : decode cc pc = .ok (.putfield index, 3)) (k : WW p l e R s m args below meth c cells slots Q nL D g tb (pc + 3) lv st (upd M (b + 4) x)) : WW p l e R s m args below meth c cells slots Q nL D g tb pc lv (va_re g.2.2 (x_en x) :: .ref (g.1 3 b) :: st) M := by
  intro H locs ls h1 h2 h3
  obtain ⟨i, hi⟩ := List.getElem?_of_mem hq
  obtain ⟨hx, hb, hml, hown, hts, hK, hT, -⟩ := C0
  have hn : ∀ v : Option Nat, narrow (tyX3 4) (va_re g.2.2 v) = va_re g.2.2 v ∧ fits (tyX3 4) (va_re g.2.2 v) = true := by
    intro v
    cases v <;> exact ⟨rfl, rfl⟩
  refine va_put (D := D) (cl := xCl) (ci := 2) (v := va_re g.2.2 (x_en x)) (ty := tyX3 4) (C := RX3) (T := TX3) (N := 10) hx hb hts x_lays3 tyX3 tyX3_ok nmX3 hown hK h1 (x_apart hT M s.heap.size) h2 i (x_ws_at hi) rfl 4 (by decide) (hts _ hw) (fun x h => h) (by decide) (tyX3_ok 4 (by decide)) (hn _).1 (hn _).2 (Nat.le_of_ble_eq_true rfl) hd (fun H1 locs1 hP hD hS => k H1 locs1 ls (x_conv hi hP ?_ (x_other hT hi ⟨Nat.le_add_right _ _, Nat.add_lt_add_left (show 4 < 10 by decide) b⟩)) hS h3)
  intro hv
  have e : (x_f3 g b M).set 4 (va_re g.2.2 (x_en x)) = x_f3 g b (upd M (b + 4) x) := by simp [x_f3, upd]
  show va_at D xCl (x_ad g (3, b, n), .inr (2, x_f3 g b (upd M (b + 4) x))) H1
  rw [← e]
  exact hv
theorem r_i2c (C0 : CC p s m args c cc nL own D g tb) {x : Int32} (hd : decode cc pc = .ok (.i2c, 1)) (k : WW p l e R s m args below meth c cells slots Q nL D g tb (pc + 1) lv (.int (x.toUInt32 % 65536).toInt32 :: st) M) : WW p l e R s m args below meth c cells slots Q nL D g tb pc lv (.int x :: st) M := fun H locs ls h1 h2 h3 => lv_i2c C0.1 C0.2.1 hd rfl (k H locs ls h1 h2 h3)
theorem r_vordr (C0 : CC p s m args c cc nL own D g tb) {i index : Nat} (hi : i < 9) (hw : Cond.fieldLink own index "java/lang/Enum" "ordinal" "I" ∈ xA) (hd : decode cc pc = .ok (.getfield index, 3)) (k : WW p l e R s m args below meth c cells slots Q nL D g tb (pc + 3) lv (.int (nI i) :: st) M) : WW p l e R s m args below meth c cells slots Q nL D g tb pc lv (.ref (g.2.2 i) :: st) M :=
  fun H locs ls h1 h2 h3 => vk_getf C0.1 C0.2.1 (C0.kA.2.2.2.2.1 _ hi).2.2.1 h2 C0.2.2.2.1 (C0.2.2.2.2.1 _ hw) (fun _ h => h) hd (k H locs ls h1 h2 h3)
theorem WW.stk {st2 : List Value} (h : st = st2) (k : WW p l e R s m args below meth c cells slots Q nL D g tb pc lv st2 M) : WW p l e R s m args below meth c cells slots Q nL D g tb pc lv st M := h ▸ k
end XW
theorem x_vw_lt (n : Nat) : x_vw n < 40 := by
  unfold x_vw
  split <;> decide
theorem x_vk_lt (n : Nat) : x_vk n < 40 := by
  unfold x_vk
  split <;> decide
theorem dJx29ce0_ordinal_8abf5_0 : decode cJx29ce0_ordinal_8abf5 0 = .ok (.aload_n 0, 1) := by decide +kernel
theorem dJx29ce0_ordinal_8abf5_1 : decode cJx29ce0_ordinal_8abf5 1 = .ok (.getfield 7, 3) := by decide +kernel
theorem dJx29ce0_ordinal_8abf5_4 : decode cJx29ce0_ordinal_8abf5 4 = .ok (.ireturn, 1) := by decide +kernel
theorem c_ordinal (l : Launch) (D : va_G) (g : xG) (tb : List xQ) (hT : x_T g tb) {i : Nat} (hi : i < 9) {M : xM} : cI l D g tb yJx29ce0_ordinal_8abf5 cJx29ce0_ordinal_8abf5 1 .int ({ frames := 0, cells := 0, slots := 0, locals := 0 } : Room) [.ref (g.2.2 i)] M (nI i) M := by
  refine x_startI (own := RJx29ce0) (by decide +kernel) rfl rfl (Nat.le_of_ble_eq_true rfl) hT ?_
  intro p e s m args below meth c Q C0 hend
  refine r_aload_n C0 (kk := 0) 0 rfl dJx29ce0_ordinal_8abf5_0 ?_
  refine r_vordr C0 hi w5_224 dJx29ce0_ordinal_8abf5_1 ?_
  exact hend rfl dJx29ce0_ordinal_8abf5_4
section XO
variable {p : Program} {l : Launch} {e : Env} {R : Room} {s : State} {m : MethodId} {args : Array Value} {below : List Frame} {meth : Method} {c : Code} {cells slots : Nat} {Q : State → Prop}
variable {cc : ByteArray} {nL : Nat} {own : String} {D : va_G} {g : xG} {tb : List xQ} {pc : Nat} {lv : List (Nat × Value)} {st : List Value} {M : xM}
theorem r_ordinal (C0 : CC p s m args c cc nL own D g tb) {i idx : Nat} (hi : i < 9) (w1 : Cond.methodLink own idx (⟨"FogBellMarket$Verb", "ordinal", "()I"⟩) ∈ xA) (hf1 : 1 ≤ R.frames) (hl1 : 20 ≤ R.locals) (hfc : cells + 0 ≤ R.cells) (hfs : slots + 0 ≤ R.slots) (hcat : (st.map fun v => v.category).sum ≤ 8) (hd : decode cc pc = .ok (.invokevirtual idx, 3)) (k : WW p l e R s m args below meth c cells slots Q nL D g tb (pc + 3) lv (.int (nI i) :: st) M) : WW p l e R s m args below meth c cells slots Q nL D g tb pc lv (.ref (g.2.2 i) :: st) M := by
  intro H locs ls h1 h2 h3
  have hT := C0.2.2.2.2.2.2.1
  have ho := C0.kA.2.2.2.2.1 i hi
  obtain ⟨hx, hb, hml, hown, hts, hK, -, hKS⟩ := C0
  have hG : GoodIn xA (va_wsU own idx RX5 "java/lang/Enum" (⟨"FogBellMarket$Verb", "ordinal", "()I"⟩) yJx29ce0_ordinal_8abf5 (ws_ yJx29ce0_ordinal_8abf5 cJx29ce0_ordinal_8abf5 1 (some .int))) := by
    refine x_good _ ?_ w5_49
    simp only [List.mem_cons, List.not_mem_nil, or_false]
    rintro w (rfl | rfl | rfl | rfl | rfl)
    · exact w1
    · exact w5_45
    · exact w5_47
    · exact w5_48
    · exact w1_18
  refine va_calli (va_runU (As := []) (rest := st) ⟨hx, hb, hml, hown, hts⟩ (c_ordinal l D g tb hT hi H.size) (va_cwU 0 hts hG rfl rfl rfl rfl (by decide +kernel) ⟨hf1, hl1⟩) ⟨x_blind, va_Orecv ho.2.1 h2, fun U hU hW => ⟨rfl, by rw [hU], by rw [hU]; exact h1, va_K.moved hW.alike hK, x_KS.kept hKS h2 hU hW⟩⟩ rfl rfl h3.1 rfl (lv_room hcat) hd ⟨hfc, hfs⟩) h2 (fun q _ hq => x_Aup h2.1 q hq) (fun q hq => x_Aup h2.1 q hq) ?_
  rintro r' u t H1 locs1 ht hvm rfl hB hz1 hk1 hS1
  exact k H1 locs1 ls (ht ▸ hB.1) hS1 h3
end XO
theorem x_startN {l : Launch} {D : va_G} {g : xG} {tb : List xQ} {M M' : xM} {y : MethodName} {cc : ByteArray} {nL : Nat} {rm : Room} {as : List Value} {own : String} {lv : List (Nat × Value)} {r : Int32} {ty : FieldType}
    (hy : plainName y.cls = true) (hown' : y.cls = own) (hlv : lv_args 0 as = lv) (hln : (lg_sl as).length ≤ nL) (hT : x_T g tb)
    (body : ∀ (p : Program) (e : Env) (s : State) (m : MethodId) (args : Array Value) (below : List Frame) (meth : Method) (c : Code) (Q : State → Prop), CC p s m args c cc nL own D g tb → (∀ {pc : Nat} {lv : List (Nat × Value)} {v : Int32} {M0 : xM}, narrow ty (.int v) = .int v → (some (v, M0) : Option (Int32 × xM)) = some (r, M') → decode cc pc = .ok (.ireturn, 1) → WW p l e rm s m args below meth c 0 0 Q nL D g tb pc lv [.int v] M0) → WW p l e rm s m args below meth c 0 0 Q nL D g tb 0 lv [] M) : cI l D g tb y cc nL ty rm as M r M' := by
  intro sz
  refine x_start hy hown' hlv hln hT ?_
  rintro p e s m below meth c rfl C0 hr hlk
  exact body p e s m _ below meth c _ C0 (fun hz hf hd => r_nret C0 hr hlk hz hf hd)
theorem x_startE {l : Launch} {D : va_G} {g : xG} {tb : List xQ} {M M' : xM} {y : MethodName} {cc : ByteArray} {nL : Nat} {rm : Room} {as : List Value} {own : String} {lv : List (Nat × Value)} {r : Int32} {n : String}
    (hy : plainName y.cls = true) (hown' : y.cls = own) (hlv : lv_args 0 as = lv) (hln : (lg_sl as).length ≤ nL) (hT : x_T g tb)
    (body : ∀ (p : Program) (e : Env) (s : State) (m : MethodId) (args : Array Value) (below : List Frame) (meth : Method) (c : Code) (Q : State → Prop), CC p s m args c cc nL own D g tb → (∀ {pc : Nat} {lv : List (Nat × Value)} {v : Int32} {M0 : xM}, (some (v, M0) : Option (Int32 × xM)) = some (r, M') → decode cc pc = .ok (.areturn, 1) → WW p l e rm s m args below meth c 0 0 Q nL D g tb pc lv [va_re g.2.2 (x_en v)] M0) → WW p l e rm s m args below meth c 0 0 Q nL D g tb 0 lv [] M) : cE l D g tb y cc nL (.object n) rm as M r M' := by
  intro sz
  refine x_start hy hown' hlv hln hT ?_
  rintro p e s m below meth c rfl C0 hr hlk
  exact body p e s m _ below meth c _ C0 (fun hf hd => r_eret C0 hr hlk hf hd)
section XV
variable {p : Program} {l : Launch} {e : Env} {R : Room} {s : State} {m : MethodId} {args : Array Value} {below : List Frame} {meth : Method} {c : Code} {cells slots : Nat} {Q : State → Prop}
variable {cc : ByteArray} {nL : Nat} {own : String} {D : va_G} {g : xG} {tb : List xQ} {pc : Nat} {lv : List (Nat × Value)} {st : List Value} {M : xM}
theorem r_callVe (C0 : CC p s m args c cc nL own D g tb) {y : MethodName} {bytes : ByteArray} {maxL idx n : Nat} {rm : Room} {As rest stk : List Value} {C : String} {a : Nat} {ret : FieldType} {r : Int32} {M' : xM}
    (hM : cE l D g tb y bytes maxL ret rm (.ref a :: As) M r M') (w1 : Cond.methodLink own idx y ∈ xA) (w2 : Cond.instanceMethod y ∈ xA) (w3 : Cond.selects C y y ∈ xA) (w4 : Cond.initialized C ∈ xA) (w5 : Cond.code y bytes maxL (some ret) ∈ xA)
    (hrec : ∀ (M : xM) (H : Heap) (locs : List Loc), x_H D g tb M H → va_S (x_A g tb s.heap.size) s.heap H locs → ∃ cell : Cell, H[a]? = some cell ∧ cell.vm.isStatics = false ∧ s.vm.findClass C = some cell.cls) (hdd : y.cls = C ∧ y.cls ≠ "java/lang/invoke/MethodHandle" ∧ y.cls ≠ "java/lang/invoke/VarHandle" ∧ (parseMethodDescriptor y.desc).map (fun d => d.parameters.length) = some n) (hn : As.length = n) (hrm : rm.cells = 0 ∧ rm.slots = 0) (hR : rm.frames + 1 ≤ R.frames ∧ 8 + (maxL + 11) + rm.locals ≤ R.locals) (hfc : cells + 0 ≤ R.cells) (hfs : slots + 0 ≤ R.slots)
    (hst : stk = As.reverse ++ .ref a :: rest) (hcat : (rest.map fun v => v.category).sum ≤ 8) (hd : decode cc pc = .ok (.invokevirtual idx, 3)) (k : WW p l e R s m args below meth c cells slots Q nL D g tb (pc + 3) lv (va_re g.2.2 (x_en r) :: rest) M') : WW p l e R s m args below meth c cells slots Q nL D g tb pc lv stk M := by
  intro H locs ls h1 h2 h3
  subst hst
  obtain ⟨hx, hb, hml, hown, hts, hK, hT, hKS⟩ := C0
  obtain ⟨hrc, hrs⟩ := hrm
  refine va_calle (va_runV (As := As) (rest := rest) ⟨hx, hb, hml, hown, hts⟩ (hM H.size) (cwV n hts (x_goodV w1 w2 w3 w4 w5) rfl hrc hrs hdd hR) ⟨x_blind, hrec M H _ h1 h2, fun U hU hW => ⟨rfl, by rw [hU], by rw [hU]; exact h1, va_K.moved hW.alike hK, x_KS.kept hKS h2 hU hW⟩⟩ rfl hn h3.1 rfl (lv_room hcat) hd ⟨hfc, hfs⟩) h2 (fun q _ hq => x_Aup h2.1 q hq) (fun q hq => x_Aup h2.1 q hq) ?_
  rintro r' u t H1 locs1 ht hvm rfl hB hz1 hk1 hS1
  exact k H1 locs1 ls (ht ▸ hB.1) hS1 h3
end XV
