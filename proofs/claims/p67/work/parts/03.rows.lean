/-! THE MEMORY of both systems as one function; a cell is (kind, base, length); the kinds: 0 Stall 1 Buyer 2 Market 3 Reader 4 FogBellMarket 5 Model 6 int[] 7 byte[] 8 boolean[] 9 long[] 10 Stall[] 11 Buyer[] 12 Market[] -/
abbrev xM : Type := Nat → Int32
abbrev xQ : Type := Nat × Nat × Nat
/-- addresses by kind and base; the classes of arrays; the enum's constants -/
abbrev xG : Type := (Nat → Nat → Nat) × (Nat → ClassId) × (Nat → Nat)
def ws_ (y : MethodName) (cc : ByteArray) (n : Nat) (ret : Option FieldType) : List Cond := .code y cc n ret :: xA
def x_en (x : Int32) : Option Nat := if x = 0 then none else some (x.toNatClampNeg - 1)
abbrev xCl : List vw_C := [(RX1, TX1, 8), (RX2, TX2, 14), (RX3, TX3, 10), (RX4, TX4, 9), (RX6, TX6, 11), (RJ4, TJ4, 4), (RJ0, TJ0, 4)]
abbrev x_tys (g : xG) : List (ClassId × FieldType) := [(g.2.1 0, .int), (g.2.1 1, .byte), (g.2.1 2, .boolean), (g.2.1 0, .int), (g.2.1 4, .object RX4), (g.2.1 5, .object RX1), (g.2.1 6, .object RX2)]
def x_f0 (g : xG) (b : Nat) (M : xM) : List Value := [.int (M (b + 0)), .int (M (b + 1)), .int (M (b + 2)), .int (M (b + 3)), .int (M (b + 4)), .int (M (b + 5)), .int (M (b + 6)), .int (M (b + 7)), .int (M (b + 8))]
def x_f1 (g : xG) (b : Nat) (M : xM) : List Value := [.int (M (b + 0)), .int (M (b + 1)), .int (M (b + 2)), .int (M (b + 3)), .int (M (b + 4)), .int (M (b + 5)), .int (M (b + 6)), .int (M (b + 7))]
def x_f2 (g : xG) (b : Nat) (M : xM) : List Value := [.ref (g.1 10 (b + 23)), .int (M (b + 9)), .ref (g.1 11 (b + 77)), .int (M (b + 10)), .ref (g.1 6 (b + 11)), .int (M (b + 8)), .int (M (b + 0)), .int (M (b + 7)), .int (M (b + 5)), .int (M (b + 6)), .int (M (b + 1)), .int (M (b + 2)), .int (M (b + 3)), .int (M (b + 4))]
def x_f3 (g : xG) (b : Nat) (M : xM) : List Value := [.ref (g.1 7 (b + 15)), .int (M (b + 1)), .int (M (b + 2)), .int (M (b + 3)), va_re g.2.2 (x_en (M (b + 4))), .ref (g.1 6 (b + 10)), .int (M (b + 6)), .int (M (b + 7)), .int (M (b + 8)), .int (M (b + 9))]
def x_f4 (g : xG) (b : Nat) (M : xM) : List Value := [.ref (g.1 2 0), .ref (g.1 2 128), .ref (g.1 2 256), .ref (g.1 3 1777), .ref (g.1 12 384), .int (M (b + 5)), .int (M (b + 6)), .ref (g.1 12 1408), .ref (g.1 8 (b + 11)), .ref (g.1 7 (b + 13)), .int (M (b + 10))]
def x_cell (g : xG) (M : xM) (q : xQ) : va_E := match q.1 with
  | 0 => .inr (3, x_f0 g q.2.1 M)
  | 1 => .inr (0, x_f1 g q.2.1 M)
  | 2 => .inr (1, x_f2 g q.2.1 M)
  | 3 => .inr (2, x_f3 g q.2.1 M)
  | 4 => .inr (4, x_f4 g q.2.1 M)
  | 6 => .inl (g.2.1 0, q.2.2, .inl (fun j => M (q.2.1 + j)))
  | 7 => .inl (g.2.1 1, q.2.2, .inl (fun j => M (q.2.1 + j)))
  | 8 => .inl (g.2.1 2, q.2.2, .inl (fun j => M (q.2.1 + j)))
  | 10 => .inl (g.2.1 4, q.2.2, .inr (.inr (.inr (.inr (fun j => some (g.1 0 (q.2.1 + 9 * j)))))))
  | 11 => .inl (g.2.1 5, q.2.2, .inr (.inr (.inr (.inr (fun j => some (g.1 1 (q.2.1 + 8 * j)))))))
  | _ => .inl (g.2.1 6, q.2.2, .inr (.inr (.inr (.inr (fun j => some (g.1 2 (q.2.1 + 128 * j)))))))
def x_sz (q : xQ) : Nat := match q.1 with
  | 0 => 9
  | 1 => 8
  | 2 => 11
  | 3 => 10
  | 4 => 11
  | 6 => q.2.2
  | 7 => q.2.2
  | 8 => q.2.2
  | _ => 0
def x_ad (g : xG) (q : xQ) : Nat := g.1 q.1 q.2.1
def x_ws (g : xG) (tb : List xQ) (M : xM) : va_W := tb.map (fun q => (x_ad g q, x_cell g M q))
def x_in (q : xQ) (z : Nat) : Prop := q.2.1 ≤ z ∧ z < q.2.1 + x_sz q
/-- the table: addresses apart, cells apart in the memory -/
def x_T (g : xG) (tb : List xQ) : Prop := (∀ (i j : Nat) (a b : xQ), tb[i]? = some a → tb[j]? = some b → x_ad g a = x_ad g b → i = j) ∧ ∀ (i j : Nat) (a b : xQ) (z : Nat), tb[i]? = some a → tb[j]? = some b → x_in a z → x_in b z → i = j
def x_H (D : va_G) (g : xG) (tb : List xQ) (M : xM) (H : Heap) : Prop := va_P D xCl (x_ws g tb M) H
def x_A (g : xG) (tb : List xQ) (sz : Nat) : Nat → Prop := fun z => (∃ q ∈ tb, z = x_ad g q) ∨ sz ≤ z
/-! constants: what is known of them in a state -/
def x_dw : List Cond := [Cond.declares (⟨"java/lang/Enum", "ordinal", "()I"⟩), Cond.castable "[B" "java/lang/Cloneable"]
def x_sl : List (String × Nat × String) := [("FogBellMarket", 44, "market 4 20 10; fog 2 5 7 3 8; stall 30 red smooth 12 5; stall 18 white soft 7 3; stall 55 blue smooth 9 2; buyer 25 40 smooth 6; buyer 0 6 soft 4; buyer 60 100 smooth 9; minutes 7;"), ("FogBellMarket$Reader", 45, "market"), ("FogBellMarket$Reader", 68, "fog"), ("FogBellMarket$Reader", 192, "red"), ("FogBellMarket$Reader", 194, "green"), ("FogBellMarket$Reader", 196, "blue"), ("FogBellMarket$Reader", 198, "white"), ("FogBellMarket$Reader", 200, "rough"), ("FogBellMarket$Reader", 202, "smooth"), ("FogBellMarket$Reader", 204, "soft"), ("FogBellMarketLaw", 47, "market "), ("FogBellMarketLaw", 21, " "), ("FogBellMarketLaw", 52, ";fog"), ("FogBellMarketLaw", 55, ";"), ("FogBellMarket", 208, "out of range"), ("FogBellMarket", 202, "no such stall"), ("FogBellMarket", 253, "no such buyer"), ("FogBellMarket", 281, "no room for a stall"), ("FogBellMarket", 288, "no room for a buyer"), ("FogBellMarket", 298, "the stock would be too great"), ("FogBellMarket", 306, "no such index in the fog pattern"), ("FogBellMarket", 312, "the buyer holds nothing"), ("FogBellMarket$Verb", 58, "stall"), ("FogBellMarket$Verb", 60, "pltcg"), ("FogBellMarket$Verb", 66, "buyer"), ("FogBellMarket$Verb", 68, "pmtv"), ("FogBellMarket$Verb", 76, "stock"), ("FogBellMarket$Verb", 78, "sg"), ("FogBellMarket$Verb", 96, "back"), ("FogBellMarket$Verb", 98, "b"), ("FogBellMarket$Verb", 71, "price"), ("FogBellMarket$Verb", 73, "sc"), ("FogBellMarket$Verb", 81, "lantern"), ("FogBellMarket$Verb", 83, "sl"), ("FogBellMarket$Verb", 86, "move"), ("FogBellMarket$Verb", 88, "sp"), ("FogBellMarket$Verb", 91, "fog"), ("FogBellMarket$Verb", 93, "id"), ("FogBellMarket$Verb", 101, "minutes"), ("FogBellMarket$Verb", 103, "n")]
def x_byt : Nat → List Int32 := fun i => match i with
  | 0 => [109, 97, 114, 107, 101, 116, 32, 52, 32, 50, 48, 32, 49, 48, 59, 32, 102, 111, 103, 32, 50, 32, 53, 32, 55, 32, 51, 32, 56, 59, 32, 115, 116, 97, 108, 108, 32, 51, 48, 32, 114, 101, 100, 32, 115, 109, 111, 111, 116, 104, 32, 49, 50, 32, 53, 59, 32, 115, 116, 97, 108, 108, 32, 49, 56, 32, 119, 104, 105, 116, 101, 32, 115, 111, 102, 116, 32, 55, 32, 51, 59, 32, 115, 116, 97, 108, 108, 32, 53, 53, 32, 98, 108, 117, 101, 32, 115, 109, 111, 111, 116, 104, 32, 57, 32, 50, 59, 32, 98, 117, 121, 101, 114, 32, 50, 53, 32, 52, 48, 32, 115, 109, 111, 111, 116, 104, 32, 54, 59, 32, 98, 117, 121, 101, 114, 32, 48, 32, 54, 32, 115, 111, 102, 116, 32, 52, 59, 32, 98, 117, 121, 101, 114, 32, 54, 48, 32, 49, 48, 48, 32, 115, 109, 111, 111, 116, 104, 32, 57, 59, 32, 109, 105, 110, 117, 116, 101, 115, 32, 55, 59]
  | 1 => [109, 97, 114, 107, 101, 116]
  | 2 => [102, 111, 103]
  | 3 => [114, 101, 100]
  | 4 => [103, 114, 101, 101, 110]
  | 5 => [98, 108, 117, 101]
  | 6 => [119, 104, 105, 116, 101]
  | 7 => [114, 111, 117, 103, 104]
  | 8 => [115, 109, 111, 111, 116, 104]
  | 9 => [115, 111, 102, 116]
  | 10 => [109, 97, 114, 107, 101, 116, 32]
  | 11 => [32]
  | 12 => [59, 102, 111, 103]
  | 13 => [59]
  | 14 => [111, 117, 116, 32, 111, 102, 32, 114, 97, 110, 103, 101]
  | 15 => [110, 111, 32, 115, 117, 99, 104, 32, 115, 116, 97, 108, 108]
  | 16 => [110, 111, 32, 115, 117, 99, 104, 32, 98, 117, 121, 101, 114]
  | 17 => [110, 111, 32, 114, 111, 111, 109, 32, 102, 111, 114, 32, 97, 32, 115, 116, 97, 108, 108]
  | 18 => [110, 111, 32, 114, 111, 111, 109, 32, 102, 111, 114, 32, 97, 32, 98, 117, 121, 101, 114]
  | 19 => [116, 104, 101, 32, 115, 116, 111, 99, 107, 32, 119, 111, 117, 108, 100, 32, 98, 101, 32, 116, 111, 111, 32, 103, 114, 101, 97, 116]
  | 20 => [110, 111, 32, 115, 117, 99, 104, 32, 105, 110, 100, 101, 120, 32, 105, 110, 32, 116, 104, 101, 32, 102, 111, 103, 32, 112, 97, 116, 116, 101, 114, 110]
  | 21 => [116, 104, 101, 32, 98, 117, 121, 101, 114, 32, 104, 111, 108, 100, 115, 32, 110, 111, 116, 104, 105, 110, 103]
  | 22 => [115, 116, 97, 108, 108]
  | 23 => [112, 108, 116, 99, 103]
  | 24 => [98, 117, 121, 101, 114]
  | 25 => [112, 109, 116, 118]
  | 26 => [115, 116, 111, 99, 107]
  | 27 => [115, 103]
  | 28 => [98, 97, 99, 107]
  | 29 => [98]
  | 30 => [112, 114, 105, 99, 101]
  | 31 => [115, 99]
  | 32 => [108, 97, 110, 116, 101, 114, 110]
  | 33 => [115, 108]
  | 34 => [109, 111, 118, 101]
  | 35 => [115, 112]
  | 36 => [102, 111, 103]
  | 37 => [105, 100]
  | 38 => [109, 105, 110, 117, 116, 101, 115]
  | 39 => [110]
  | _ => []
def x_slen (i : Nat) : Nat := (x_byt i).length
def x_sb (i j : Nat) : Int32 := (x_byt i).getD j 0
def x_vn : Nat → String := fun i => match i with
  | 0 => "STALL"
  | 1 => "BUYER"
  | 2 => "PRICE"
  | 3 => "STOCK"
  | 4 => "LANTERN"
  | 5 => "MOVE"
  | 6 => "FOG"
  | 7 => "BACK"
  | 8 => "MINUTES"
  | _ => ""
def x_vw : Nat → Nat := fun i => match i with
  | 0 => 22
  | 1 => 24
  | 2 => 30
  | 3 => 26
  | 4 => 32
  | 5 => 34
  | 6 => 36
  | 7 => 28
  | 8 => 38
  | _ => 0
def x_vk : Nat → Nat := fun i => match i with
  | 0 => 23
  | 1 => 25
  | 2 => 31
  | 3 => 27
  | 4 => 33
  | 5 => 35
  | 6 => 37
  | 7 => 29
  | 8 => 39
  | _ => 0
def x_smap : Nat → Int32 := fun j => [1, 2, 6, 7, 8, 0, 3, 4, 5].getD j 0
def x_ones (j : Nat) : Int32 := nI (48 + j % 10)
def x_tens (j : Nat) : Int32 := nI (48 + j / 10)
/-- the script's ints, kept in the table of addresses -/
def x_scr (g : xG) (j : Nat) : Int32 := nI (g.1 28 j)
def x_KA (g : xG) (A : Nat → Prop) (U : State) (H : Heap) : Prop :=
  True ∧ True ∧
  (∀ i, i < 40 → va_O "java/lang/String" (g.1 20 i) A U H ∧ va_OF "java/lang/String" "coder" "B" (.int 0) (g.1 20 i) A U H ∧ va_OF "java/lang/String" "value" "[B" (.ref (g.1 21 i)) (g.1 20 i) A U H ∧ va_T .byte (g.1 21 i) (x_slen i) (fun j => .int (x_sb i j)) A U H) ∧
  va_Z "java/lang/String" "COMPACT_STRINGS" "Z" (.int 1) A U H ∧
  (∀ i, i < 9 → va_Z RX5 (x_vn i) "LFogBellMarket$Verb;" (.ref (g.2.2 i)) A U H ∧ va_O RX5 (g.2.2 i) A U H ∧ va_OF "java/lang/Enum" "ordinal" "I" (.int (nI i)) (g.2.2 i) A U H ∧ va_OF RX5 "word" "Ljava/lang/String;" (.ref (g.1 20 (x_vw i))) (g.2.2 i) A U H ∧ va_OF RX5 "kinds" "Ljava/lang/String;" (.ref (g.1 20 (x_vk i))) (g.2.2 i) A U H) ∧
  va_Z RX3 "VERBS" "[LFogBellMarket$Verb;" (.ref (g.1 22 0)) A U H ∧ va_T (.object RX5) (g.1 22 0) 9 (fun j => .ref (g.2.2 j)) A U H ∧
  va_Z RX0 "$SwitchMap$FogBellMarket$Verb" "[I" (.ref (g.1 23 0)) A U H ∧ va_T .int (g.1 23 0) 9 (fun j => .int (x_smap j)) A U H ∧
  va_Zq "jdk/internal/util/Preconditions" "SIOOBE_FORMATTER" "Ljava/util/function/BiFunction;" A U H ∧
  (va_Z "java/lang/Integer" "DigitOnes" "[B" (.ref (g.1 24 0)) A U H ∧ va_T .byte (g.1 24 0) 100 (fun j => .int (x_ones j)) A U H) ∧
  va_Z "java/lang/Integer" "DigitTens" "[B" (.ref (g.1 25 0)) A U H ∧ va_T .byte (g.1 25 0) 100 (fun j => .int (x_tens j)) A U H ∧ va_T .int (g.1 26 0) (g.1 27 0) (fun j => .int (x_scr g j)) A U H
def x_KS (g : xG) (tb : List xQ) (U : State) : Prop :=
  (∀ w ∈ x_dw, va_Nw w U) ∧ True ∧ (∀ (i : Nat) (q : String × Nat × String), x_sl[i]? = some q → vk_R q.1 q.2.1 q.2.2 (g.1 20 i) U) ∧ (∀ i j, i < 9 → j < 9 → g.2.2 i = g.2.2 j → i = j) ∧ x_KA g (x_A g tb U.heap.size) U U.heap
theorem x_KA.to {g : xG} {A B : Nat → Prop} {s t : State} {H H1 : Heap} (hm : s.vm.Alike t.vm) (hq : ∀ a : Nat, a < H.size → ¬ A a → H1[a]? = H[a]?) (hAB : ∀ q, B q → A q) (h : x_KA g A s H) : x_KA g B t H1 := by
  obtain ⟨-, -, h3, h4, h5, h6, h7, h8, h9, h10, ⟨h11, h12⟩, h13, h14, h15⟩ := h
  refine ⟨trivial, trivial, fun i hi => ?_, ((va_Z.moved hm h4).kept hq).narrow hAB, fun i hi => ?_, ((va_Z.moved hm h6).kept hq).narrow hAB, ((va_T.moved hm h7).kept hq).narrow hAB, ((va_Z.moved hm h8).kept hq).narrow hAB, ((va_T.moved hm h9).kept hq).narrow hAB, ((va_Zq.moved hm h10).kept hq).narrow hAB, ⟨((va_Z.moved hm h11).kept hq).narrow hAB, ((va_T.moved hm h12).kept hq).narrow hAB⟩, ((va_Z.moved hm h13).kept hq).narrow hAB, ((va_T.moved hm h14).kept hq).narrow hAB, ((va_T.moved hm h15).kept hq).narrow hAB⟩
  · obtain ⟨a, b, c, d⟩ := h3 i hi
    exact ⟨((va_O.moved hm a).kept hq).narrow hAB, ((va_OF.moved hm b).kept hq).narrow hAB, ((va_OF.moved hm c).kept hq).narrow hAB, ((va_T.moved hm d).kept hq).narrow hAB⟩
  · obtain ⟨a, b, c, d, e⟩ := h5 i hi
    exact ⟨((va_Z.moved hm a).kept hq).narrow hAB, ((va_O.moved hm b).kept hq).narrow hAB, ((va_OF.moved hm c).kept hq).narrow hAB, ((va_OF.moved hm d).kept hq).narrow hAB, ((va_OF.moved hm e).kept hq).narrow hAB⟩
theorem x_Aup {g : xG} {tb : List xQ} {a b : Nat} (h : a ≤ b) : ∀ q, x_A g tb b q → x_A g tb a q := fun _ hq => hq.elim Or.inl (fun z => Or.inr (Nat.le_trans h z))
theorem x_dw_warm {s U : State} (hW : s.WarmedH U.vm) : ∀ w ∈ x_dw, va_Nw w s → va_Nw w U := by
  intro w hw h
  simp only [x_dw, List.mem_cons, List.not_mem_nil, or_false] at hw
  rcases hw with rfl | rfl
  all_goals first | exact va_Nw.warmD hW h | exact va_Nw.warmC hW h
theorem x_KS.kept {g : xG} {tb : List xQ} {s t : State} {H : Heap} {locs : List Loc} (h : x_KS g tb s) (h2 : va_S (x_A g tb s.heap.size) s.heap H locs) (ht : t.heap = H) (hW : s.WarmedH t.vm) : x_KS g tb t := by
  obtain ⟨k1, k2, k3, k4, k5⟩ := h
  subst ht
  exact ⟨fun w hw => x_dw_warm hW w hw (k1 w hw), trivial, fun i q hq => vk_R.warm hW (k3 i q hq), k4, x_KA.to hW.alike h2.2.1 (x_Aup h2.1) k5⟩
theorem x_KS.calling {g : xG} {tb : List xQ} {U : State} (g' : JFrame) (mk : MethodId) (a : Array Value) (h : x_KS g tb U) : x_KS g tb (U.calling g' mk a) := by
  obtain ⟨k1, k2, k3, k4, k5⟩ := h
  refine ⟨fun w hw => ?_, trivial, fun i q hq => vk_R.same (u := U) rfl (k3 i q hq), k4, x_KA.to (s := U) (t := U.calling g' mk a) (Vm.Alike.refl U.vm) (fun _ _ _ => rfl) (fun _ h => h) k5⟩
  have hw2 : w.onTables = true := by
    simp only [x_dw, List.mem_cons, List.not_mem_nil, or_false] at hw
    rcases hw with rfl | rfl
    all_goals rfl
  exact va_Nw.same hw2 (u := U) rfl (k1 w hw)
def x_B (D : va_G) (g : xG) (tb : List xQ) (M : xM) (U : State) : Prop := x_H D g tb M U.heap ∧ va_K D xCl (x_tys g) U ∧ x_KS g tb U
theorem x_arr {cA : ClassId} {n : Nat} {f f' : Nat → Value} (h : ∀ j, j < n → f j = f' j) : arrV cA n f = arrV cA n f' := by
  unfold arrV
  congr 1
  apply Array.ext
  · simp
  · intro i h1 h2
    simp only [Array.getElem_ofFn]
    exact h i (by simpa using h1)
theorem x_ws_at {g : xG} {tb : List xQ} {M : xM} {i : Nat} {q : xQ} (h : tb[i]? = some q) : (x_ws g tb M)[i]? = some (x_ad g q, x_cell g M q) := by
  simp [x_ws, h]

theorem x_fc0 {g : xG} {b : Nat} {M M' : xM} (hh : ∀ j, j < 9 → M' (b + j) = M (b + j)) : x_f0 g b M' = x_f0 g b M := by
  unfold x_f0
  rw [hh 0 (by decide), hh 1 (by decide), hh 2 (by decide), hh 3 (by decide), hh 4 (by decide), hh 5 (by decide), hh 6 (by decide), hh 7 (by decide), hh 8 (by decide)]
theorem x_fc1 {g : xG} {b : Nat} {M M' : xM} (hh : ∀ j, j < 8 → M' (b + j) = M (b + j)) : x_f1 g b M' = x_f1 g b M := by
  unfold x_f1
  rw [hh 0 (by decide), hh 1 (by decide), hh 2 (by decide), hh 3 (by decide), hh 4 (by decide), hh 5 (by decide), hh 6 (by decide), hh 7 (by decide)]
theorem x_fc2 {g : xG} {b : Nat} {M M' : xM} (hh : ∀ j, j < 11 → M' (b + j) = M (b + j)) : x_f2 g b M' = x_f2 g b M := by
  unfold x_f2
  rw [hh 9 (by decide), hh 10 (by decide), hh 8 (by decide), hh 0 (by decide), hh 7 (by decide), hh 5 (by decide), hh 6 (by decide), hh 1 (by decide), hh 2 (by decide), hh 3 (by decide), hh 4 (by decide)]
theorem x_fc3 {g : xG} {b : Nat} {M M' : xM} (hh : ∀ j, j < 10 → M' (b + j) = M (b + j)) : x_f3 g b M' = x_f3 g b M := by
  unfold x_f3
  rw [hh 1 (by decide), hh 2 (by decide), hh 3 (by decide), hh 4 (by decide), hh 6 (by decide), hh 7 (by decide), hh 8 (by decide), hh 9 (by decide)]
theorem x_fc4 {g : xG} {b : Nat} {M M' : xM} (hh : ∀ j, j < 11 → M' (b + j) = M (b + j)) : x_f4 g b M' = x_f4 g b M := by
  unfold x_f4
  rw [hh 5 (by decide), hh 6 (by decide), hh 10 (by decide)]
theorem x_agree {D : va_G} {g : xG} {M M' : xM} {q : xQ} {a : Nat} {H : Heap} (h : ∀ z, x_in q z → M' z = M z) (hv : va_at D xCl (a, x_cell g M q) H) : va_at D xCl (a, x_cell g M' q) H := by
  obtain ⟨k, b, n⟩ := q
  have hh : ∀ j, j < x_sz (k, b, n) → M' (b + j) = M (b + j) := fun j hj => h (b + j) ⟨Nat.le_add_right _ _, Nat.add_lt_add_left hj b⟩
  clear h
  by_cases h0 : k = 0
  · subst h0
    have e : x_cell g M' (0, b, n) = x_cell g M (0, b, n) := congrArg (fun l => (Sum.inr (3, l) : va_E)) (x_fc0 (g := g) hh)
    rw [e]; exact hv
  by_cases h1 : k = 1
  · subst h1
    have e : x_cell g M' (1, b, n) = x_cell g M (1, b, n) := congrArg (fun l => (Sum.inr (0, l) : va_E)) (x_fc1 (g := g) hh)
    rw [e]; exact hv
  by_cases h2 : k = 2
  · subst h2
    have e : x_cell g M' (2, b, n) = x_cell g M (2, b, n) := congrArg (fun l => (Sum.inr (1, l) : va_E)) (x_fc2 (g := g) hh)
    rw [e]; exact hv
  by_cases h3 : k = 3
  · subst h3
    have e : x_cell g M' (3, b, n) = x_cell g M (3, b, n) := congrArg (fun l => (Sum.inr (2, l) : va_E)) (x_fc3 (g := g) hh)
    rw [e]; exact hv
  by_cases h4 : k = 4
  · subst h4
    have e : x_cell g M' (4, b, n) = x_cell g M (4, b, n) := congrArg (fun l => (Sum.inr (4, l) : va_E)) (x_fc4 (g := g) hh)
    rw [e]; exact hv
  by_cases h6 : k = 6
  · subst h6
    exact (show H[a]? = some (arrV (g.2.1 0) n (fun j => .int (M (b + j)))) from hv).trans (congrArg some (x_arr (fun j hj => congrArg Value.int (hh j hj).symm)))
  by_cases h7 : k = 7
  · subst h7
    exact (show H[a]? = some (arrV (g.2.1 1) n (fun j => .int (M (b + j)))) from hv).trans (congrArg some (x_arr (fun j hj => congrArg Value.int (hh j hj).symm)))
  by_cases h8 : k = 8
  · subst h8
    exact (show H[a]? = some (arrV (g.2.1 2) n (fun j => .int (M (b + j)))) from hv).trans (congrArg some (x_arr (fun j hj => congrArg Value.int (hh j hj).symm)))
  have e : x_cell g M' (k, b, n) = x_cell g M (k, b, n) := by
    simp only [x_cell]
    split <;> first | rfl | contradiction
  rw [e]; exact hv
theorem x_conv {D : va_G} {g : xG} {tb : List xQ} {M M' : xM} {i : Nat} {q : xQ} {e : va_E} {H1 : Heap} (hi : tb[i]? = some q) (hP : va_P D xCl ((x_ws g tb M).set i (x_ad g q, e)) H1) (hn : va_at D xCl (x_ad g q, e) H1 → va_at D xCl (x_ad g q, x_cell g M' q) H1) (ho : ∀ (j : Nat) (r : xQ), tb[j]? = some r → j ≠ i → ∀ z, x_in r z → M' z = M z) : x_H D g tb M' H1 := by
  intro j w hw
  have hw2 : ∃ r, tb[j]? = some r ∧ w = (x_ad g r, x_cell g M' r) := by
    simp only [x_ws, List.getElem?_map, Option.map_eq_some_iff] at hw
    obtain ⟨r, h1, h2⟩ := hw
    exact ⟨r, h1, h2.symm⟩
  obtain ⟨r, hr, rfl⟩ := hw2
  have hlen : i < (x_ws g tb M).length := by
    have := (List.getElem?_eq_some_iff.mp hi).1
    simpa [x_ws] using this
  by_cases hji : j = i
  · subst hji
    rw [hi] at hr
    cases hr
    exact hn (hP j _ (List.getElem?_set_self hlen))
  · refine x_agree (ho j r hr hji) (hP j (x_ad g r, x_cell g M r) ?_)
    rw [List.getElem?_set_ne (Ne.symm hji)]
    exact x_ws_at hr
theorem x_other {g : xG} {tb : List xQ} (hT : x_T g tb) {M : xM} {i : Nat} {q : xQ} (hi : tb[i]? = some q) {z0 : Nat} {x : Int32} (hz : x_in q z0) : ∀ (j : Nat) (r : xQ), tb[j]? = some r → j ≠ i → ∀ z, x_in r z → upd M z0 x z = M z := by
  intro j r hr hji z hz2
  unfold upd
  rw [if_neg]
  rintro rfl
  exact hji (hT.2 j i r q z hr hi hz2 hz)
theorem x_apart {g : xG} {tb : List xQ} (hT : x_T g tb) (M : xM) (sz : Nat) : va_D (x_A g tb sz) (x_ws g tb M) := by
  have key : ∀ (k : Nat) (q : Nat × va_E), (x_ws g tb M)[k]? = some q → ∃ r, tb[k]? = some r ∧ q.1 = x_ad g r := by
    intro k q hk
    simp only [x_ws, List.getElem?_map, Option.map_eq_some_iff] at hk
    obtain ⟨r, h1, h2⟩ := hk
    exact ⟨r, h1, by rw [← h2]⟩
  refine ⟨fun i j p q hi hj hpq => ?_, fun k q hk => ?_⟩
  · obtain ⟨a, h1, h2⟩ := key i p hi
    obtain ⟨b, h3, h4⟩ := key j q hj
    exact hT.1 i j a b h1 h3 (by rw [← h2, ← h4, hpq])
  · obtain ⟨a, h1, h2⟩ := key k q hk
    exact Or.inl ⟨a, List.mem_of_getElem? h1, h2⟩
theorem x_lays0 : ∀ w ∈ u_ws RX4 TX4 9, w ∈ xA := fun w h => List.mem_append_right _ (List.mem_filter.mpr ⟨(by decide +kernel : ∀ w ∈ u_ws RX4 TX4 9, w ∈ lw_tbl) w h, (by decide +kernel : ∀ w ∈ u_ws RX4 TX4 9, goodWord w = true) w h⟩)
theorem x_lays1 : ∀ w ∈ u_ws RX1 TX1 8, w ∈ xA := fun w h => List.mem_append_right _ (List.mem_filter.mpr ⟨(by decide +kernel : ∀ w ∈ u_ws RX1 TX1 8, w ∈ lw_tbl) w h, (by decide +kernel : ∀ w ∈ u_ws RX1 TX1 8, goodWord w = true) w h⟩)
theorem x_lays2 : ∀ w ∈ u_ws RX2 TX2 14, w ∈ xA := fun w h => List.mem_append_right _ (List.mem_filter.mpr ⟨(by decide +kernel : ∀ w ∈ u_ws RX2 TX2 14, w ∈ lw_tbl) w h, (by decide +kernel : ∀ w ∈ u_ws RX2 TX2 14, goodWord w = true) w h⟩)
theorem x_lays3 : ∀ w ∈ u_ws RX3 TX3 10, w ∈ xA := fun w h => List.mem_append_right _ (List.mem_filter.mpr ⟨(by decide +kernel : ∀ w ∈ u_ws RX3 TX3 10, w ∈ lw_tbl) w h, (by decide +kernel : ∀ w ∈ u_ws RX3 TX3 10, goodWord w = true) w h⟩)
theorem x_lays4 : ∀ w ∈ u_ws RX6 TX6 11, w ∈ xA := fun w h => List.mem_append_right _ (List.mem_filter.mpr ⟨(by decide +kernel : ∀ w ∈ u_ws RX6 TX6 11, w ∈ lw_tbl) w h, (by decide +kernel : ∀ w ∈ u_ws RX6 TX6 11, goodWord w = true) w h⟩)
/-- the context of a walk -/
def CC (p : Program) (s : State) (m : MethodId) (args : Array Value) (c : Code) (cc : ByteArray) (nL : Nat) (own : String) (D : va_G) (g : xG) (tb : List xQ) : Prop :=
  p.tables.exec = Jvm.exec ∧ c.code = cc ∧ c.maxLocals = nL ∧ s.vm.findClass own = some m.cls ∧ (∀ w ∈ xA, w.before args s = true) ∧ va_K D xCl (x_tys g) s ∧ x_T g tb ∧ x_KS g tb s
/-- the walk from a point: locals, stack and memory as they are told -/
def WW (p : Program) (l : Launch) (e : Env) (R : Room) (s : State) (m : MethodId) (args : Array Value) (below : List Frame) (meth : Method) (c : Code) (cells slots : Nat) (Q : State → Prop) (nL : Nat) (D : va_G) (g : xG) (tb : List xQ) (pc : Nat) (lv : List (Nat × Value)) (st : List Value) (M : xM) : Prop :=
  ∀ (H : Heap) (locs : List Loc) (ls : Array Slot), x_H D g tb M H → va_S (x_A g tb s.heap.size) s.heap H locs → lv_has ls nL lv → W p l e R s m args below meth c H locs cells slots Q (F0 m pc ls st)
section XR
variable {p : Program} {l : Launch} {e : Env} {R : Room} {s : State} {m : MethodId} {args : Array Value} {below : List Frame} {meth : Method} {c : Code} {cells slots : Nat} {Q : State → Prop}
variable {cc : ByteArray} {nL : Nat} {own : String} {D : va_G} {g : xG} {tb : List xQ} {pc : Nat} {lv : List (Nat × Value)} {st : List Value} {M : xM}
theorem r_iconst (C0 : CC p s m args c cc nL own D g tb) {n : Int} {v : Int32} (hd : decode cc pc = .ok (.iconst n, 1)) (hv : Int32.ofInt n = v) (k : WW p l e R s m args below meth c cells slots Q nL D g tb (pc + 1) lv (.int v :: st) M) : WW p l e R s m args below meth c cells slots Q nL D g tb pc lv st M := fun H locs ls h1 h2 h3 => lv_iconst C0.1 C0.2.1 hd hv (k H locs ls h1 h2 h3)
theorem r_bipush (C0 : CC p s m args c cc nL own D g tb) {n : Int} {v : Int32} (hd : decode cc pc = .ok (.bipush n, 2)) (hv : (Int8.ofInt n).toInt32 = v) (k : WW p l e R s m args below meth c cells slots Q nL D g tb (pc + 2) lv (.int v :: st) M) : WW p l e R s m args below meth c cells slots Q nL D g tb pc lv st M := fun H locs ls h1 h2 h3 => lv_bipush C0.1 C0.2.1 hd hv (k H locs ls h1 h2 h3)
theorem r_sipush (C0 : CC p s m args c cc nL own D g tb) {n : Int} {v : Int32} (hd : decode cc pc = .ok (.sipush n, 3)) (hv : (Int16.ofInt n).toInt32 = v) (k : WW p l e R s m args below meth c cells slots Q nL D g tb (pc + 3) lv (.int v :: st) M) : WW p l e R s m args below meth c cells slots Q nL D g tb pc lv st M := fun H locs ls h1 h2 h3 => lv_sipush C0.1 C0.2.1 hd hv (k H locs ls h1 h2 h3)
theorem r_ldc (C0 : CC p s m args c cc nL own D g tb) {index : Nat} {v : Int32} (hw : Cond.constant own index v ∈ xA) (hd : decode cc pc = .ok (.ldc index, 2)) (k : WW p l e R s m args below meth c cells slots Q nL D g tb (pc + 2) lv (.int v :: st) M) : WW p l e R s m args below meth c cells slots Q nL D g tb pc lv st M := fun H locs ls h1 h2 h3 => lv_ldc C0.1 C0.2.1 C0.2.2.2.1 (C0.2.2.2.2.1 _ hw) hd (k H locs ls h1 h2 h3)
theorem r_null (C0 : CC p s m args c cc nL own D g tb) (hd : decode cc pc = .ok (.aconst_null, 1)) (k : WW p l e R s m args below meth c cells slots Q nL D g tb (pc + 1) lv (.null :: st) M) : WW p l e R s m args below meth c cells slots Q nL D g tb pc lv st M := fun H locs ls h1 h2 h3 => lv_null C0.1 C0.2.1 hd (k H locs ls h1 h2 h3)
theorem r_iload (C0 : CC p s m args c cc nL own D g tb) {i : Nat} {x : Int32} (j : Nat) (hj : lv[j]? = some (i, .int x)) (hd : decode cc pc = .ok (.iload i, 2)) (k : WW p l e R s m args below meth c cells slots Q nL D g tb (pc + 2) lv (.int x :: st) M) : WW p l e R s m args below meth c cells slots Q nL D g tb pc lv st M := fun H locs ls h1 h2 h3 => lv_iload C0.1 C0.2.1 hd (lv_at h3 j hj) (k H locs ls h1 h2 h3)
theorem r_iload_n (C0 : CC p s m args c cc nL own D g tb) {kk : Fin 4} {x : Int32} (j : Nat) (hj : lv[j]? = some ((kk : Nat), .int x)) (hd : decode cc pc = .ok (.iload_n kk, 1)) (k : WW p l e R s m args below meth c cells slots Q nL D g tb (pc + 1) lv (.int x :: st) M) : WW p l e R s m args below meth c cells slots Q nL D g tb pc lv st M := fun H locs ls h1 h2 h3 => lv_iload_n C0.1 C0.2.1 hd rfl (lv_at h3 j hj) (k H locs ls h1 h2 h3)
theorem r_aload (C0 : CC p s m args c cc nL own D g tb) {i : Nat} {x : Nat} (j : Nat) (hj : lv[j]? = some (i, .ref x)) (hd : decode cc pc = .ok (.aload i, 2)) (k : WW p l e R s m args below meth c cells slots Q nL D g tb (pc + 2) lv (.ref x :: st) M) : WW p l e R s m args below meth c cells slots Q nL D g tb pc lv st M := fun H locs ls h1 h2 h3 => lv_aload C0.1 C0.2.1 hd (lv_at h3 j hj) (k H locs ls h1 h2 h3)
theorem r_aload_n (C0 : CC p s m args c cc nL own D g tb) {kk : Fin 4} {x : Nat} (j : Nat) (hj : lv[j]? = some ((kk : Nat), .ref x)) (hd : decode cc pc = .ok (.aload_n kk, 1)) (k : WW p l e R s m args below meth c cells slots Q nL D g tb (pc + 1) lv (.ref x :: st) M) : WW p l e R s m args below meth c cells slots Q nL D g tb pc lv st M := fun H locs ls h1 h2 h3 => lv_aload_n C0.1 C0.2.1 hd rfl (lv_at h3 j hj) (k H locs ls h1 h2 h3)
theorem r_lload (C0 : CC p s m args c cc nL own D g tb) {i : Nat} {x : Int64} (j : Nat) (hj : lv[j]? = some (i, .long x)) (hd : decode cc pc = .ok (.lload i, 2)) (k : WW p l e R s m args below meth c cells slots Q nL D g tb (pc + 2) lv (.long x :: st) M) : WW p l e R s m args below meth c cells slots Q nL D g tb pc lv st M := fun H locs ls h1 h2 h3 => lv_lload C0.1 C0.2.1 hd (lv_at h3 j hj) (k H locs ls h1 h2 h3)
theorem r_lload_n (C0 : CC p s m args c cc nL own D g tb) {kk : Fin 4} {x : Int64} (j : Nat) (hj : lv[j]? = some ((kk : Nat), .long x)) (hd : decode cc pc = .ok (.lload_n kk, 1)) (k : WW p l e R s m args below meth c cells slots Q nL D g tb (pc + 1) lv (.long x :: st) M) : WW p l e R s m args below meth c cells slots Q nL D g tb pc lv st M := fun H locs ls h1 h2 h3 => lv_lload_n C0.1 C0.2.1 hd rfl (lv_at h3 j hj) (k H locs ls h1 h2 h3)
theorem r_dload (C0 : CC p s m args c cc nL own D g tb) {i : Nat} {x : UInt64} (j : Nat) (hj : lv[j]? = some (i, .double x)) (hd : decode cc pc = .ok (.dload i, 2)) (k : WW p l e R s m args below meth c cells slots Q nL D g tb (pc + 2) lv (.double x :: st) M) : WW p l e R s m args below meth c cells slots Q nL D g tb pc lv st M := fun H locs ls h1 h2 h3 => lv_dload C0.1 C0.2.1 hd (lv_at h3 j hj) (k H locs ls h1 h2 h3)
theorem r_dload_n (C0 : CC p s m args c cc nL own D g tb) {kk : Fin 4} {x : UInt64} (j : Nat) (hj : lv[j]? = some ((kk : Nat), .double x)) (hd : decode cc pc = .ok (.dload_n kk, 1)) (k : WW p l e R s m args below meth c cells slots Q nL D g tb (pc + 1) lv (.double x :: st) M) : WW p l e R s m args below meth c cells slots Q nL D g tb pc lv st M := fun H locs ls h1 h2 h3 => lv_dload_n C0.1 C0.2.1 hd rfl (lv_at h3 j hj) (k H locs ls h1 h2 h3)
theorem r_fload (C0 : CC p s m args c cc nL own D g tb) {i : Nat} {x : UInt32} (j : Nat) (hj : lv[j]? = some (i, .float x)) (hd : decode cc pc = .ok (.fload i, 2)) (k : WW p l e R s m args below meth c cells slots Q nL D g tb (pc + 2) lv (.float x :: st) M) : WW p l e R s m args below meth c cells slots Q nL D g tb pc lv st M := fun H locs ls h1 h2 h3 => lv_fload C0.1 C0.2.1 hd (lv_at h3 j hj) (k H locs ls h1 h2 h3)
theorem r_fload_n (C0 : CC p s m args c cc nL own D g tb) {kk : Fin 4} {x : UInt32} (j : Nat) (hj : lv[j]? = some ((kk : Nat), .float x)) (hd : decode cc pc = .ok (.fload_n kk, 1)) (k : WW p l e R s m args below meth c cells slots Q nL D g tb (pc + 1) lv (.float x :: st) M) : WW p l e R s m args below meth c cells slots Q nL D g tb pc lv st M := fun H locs ls h1 h2 h3 => lv_fload_n C0.1 C0.2.1 hd rfl (lv_at h3 j hj) (k H locs ls h1 h2 h3)
theorem r_istore (C0 : CC p s m args c cc nL own D g tb) {i : Nat} {x : Int32} {lv2 : List (Nat × Value)} (hn : i < nL) (hl : (i, Value.int x) :: lv.filter (fun q => !(q.1 == i) && !(q.1 + 1 == i && q.2.category == 2)) = lv2) (hd : decode cc pc = .ok (.istore i, 2)) (k : WW p l e R s m args below meth c cells slots Q nL D g tb (pc + 2) lv2 st M) : WW p l e R s m args below meth c cells slots Q nL D g tb pc lv (.int x :: st) M := fun H locs ls h1 h2 h3 => lv_istore C0.1 C0.2.1 hd h3 hn hl (fun ls2 h4 => k H locs ls2 h1 h2 h4)
theorem r_istore_n (C0 : CC p s m args c cc nL own D g tb) {kk : Fin 4} {x : Int32} {lv2 : List (Nat × Value)} (hn : (kk : Nat) < nL) (hl : ((kk : Nat), Value.int x) :: lv.filter (fun q => !(q.1 == (kk : Nat)) && !(q.1 + 1 == (kk : Nat) && q.2.category == 2)) = lv2) (hd : decode cc pc = .ok (.istore_n kk, 1)) (k : WW p l e R s m args below meth c cells slots Q nL D g tb (pc + 1) lv2 st M) : WW p l e R s m args below meth c cells slots Q nL D g tb pc lv (.int x :: st) M := fun H locs ls h1 h2 h3 => lv_istore_n C0.1 C0.2.1 hd rfl h3 hn hl (fun ls2 h4 => k H locs ls2 h1 h2 h4)
theorem r_astore (C0 : CC p s m args c cc nL own D g tb) {i : Nat} {x : Nat} {lv2 : List (Nat × Value)} (hn : i < nL) (hl : (i, Value.ref x) :: lv.filter (fun q => !(q.1 == i) && !(q.1 + 1 == i && q.2.category == 2)) = lv2) (hd : decode cc pc = .ok (.astore i, 2)) (k : WW p l e R s m args below meth c cells slots Q nL D g tb (pc + 2) lv2 st M) : WW p l e R s m args below meth c cells slots Q nL D g tb pc lv (.ref x :: st) M := fun H locs ls h1 h2 h3 => lv_astore C0.1 C0.2.1 hd h3 hn hl (fun ls2 h4 => k H locs ls2 h1 h2 h4)
theorem r_astore_n (C0 : CC p s m args c cc nL own D g tb) {kk : Fin 4} {x : Nat} {lv2 : List (Nat × Value)} (hn : (kk : Nat) < nL) (hl : ((kk : Nat), Value.ref x) :: lv.filter (fun q => !(q.1 == (kk : Nat)) && !(q.1 + 1 == (kk : Nat) && q.2.category == 2)) = lv2) (hd : decode cc pc = .ok (.astore_n kk, 1)) (k : WW p l e R s m args below meth c cells slots Q nL D g tb (pc + 1) lv2 st M) : WW p l e R s m args below meth c cells slots Q nL D g tb pc lv (.ref x :: st) M := fun H locs ls h1 h2 h3 => lv_astore_n C0.1 C0.2.1 hd rfl h3 hn hl (fun ls2 h4 => k H locs ls2 h1 h2 h4)
theorem r_dstore (C0 : CC p s m args c cc nL own D g tb) {i : Nat} {x : UInt64} {lv2 : List (Nat × Value)} (hn : i + 1 < nL) (hl : (i, Value.double x) :: lv.filter (fun q => !(q.1 == i) && (!(q.1 == i + 1) && !(q.1 + 1 == i && q.2.category == 2))) = lv2) (hd : decode cc pc = .ok (.dstore i, 2)) (k : WW p l e R s m args below meth c cells slots Q nL D g tb (pc + 2) lv2 st M) : WW p l e R s m args below meth c cells slots Q nL D g tb pc lv (.double x :: st) M := fun H locs ls h1 h2 h3 => lv_dstore C0.1 C0.2.1 hd h3 hn hl (fun ls2 h4 => k H locs ls2 h1 h2 h4)
theorem r_dstore_n (C0 : CC p s m args c cc nL own D g tb) {kk : Fin 4} {x : UInt64} {lv2 : List (Nat × Value)} (hn : (kk : Nat) + 1 < nL) (hl : ((kk : Nat), Value.double x) :: lv.filter (fun q => !(q.1 == (kk : Nat)) && (!(q.1 == (kk : Nat) + 1) && !(q.1 + 1 == (kk : Nat) && q.2.category == 2))) = lv2) (hd : decode cc pc = .ok (.dstore_n kk, 1)) (k : WW p l e R s m args below meth c cells slots Q nL D g tb (pc + 1) lv2 st M) : WW p l e R s m args below meth c cells slots Q nL D g tb pc lv (.double x :: st) M := fun H locs ls h1 h2 h3 => lv_dstore_n C0.1 C0.2.1 hd rfl h3 hn hl (fun ls2 h4 => k H locs ls2 h1 h2 h4)
theorem r_iinc (C0 : CC p s m args c cc nL own D g tb) {i : Nat} {n : Int} {x v : Int32} {lv2 : List (Nat × Value)} (j : Nat) (hj : lv[j]? = some (i, .int x)) (hv : x + Int32.ofInt n = v) (hn : i < nL) (hl : (i, Value.int v) :: lv.filter (fun q => !(q.1 == i) && !(q.1 + 1 == i && q.2.category == 2)) = lv2) (hd : decode cc pc = .ok (.iinc i n, 3)) (k : WW p l e R s m args below meth c cells slots Q nL D g tb (pc + 3) lv2 st M) : WW p l e R s m args below meth c cells slots Q nL D g tb pc lv st M := fun H locs ls h1 h2 h3 => lv_iinc C0.1 C0.2.1 hd h3 hj hv hn hl (fun ls2 h4 => k H locs ls2 h1 h2 h4)
theorem r_iadd (C0 : CC p s m args c cc nL own D g tb) {x y : Int32} (hd : decode cc pc = .ok (.iadd, 1)) (k : WW p l e R s m args below meth c cells slots Q nL D g tb (pc + 1) lv (.int (x + y) :: st) M) : WW p l e R s m args below meth c cells slots Q nL D g tb pc lv (.int y :: .int x :: st) M := fun H locs ls h1 h2 h3 => lv_iadd C0.1 C0.2.1 hd (k H locs ls h1 h2 h3)
theorem r_isub (C0 : CC p s m args c cc nL own D g tb) {x y : Int32} (hd : decode cc pc = .ok (.isub, 1)) (k : WW p l e R s m args below meth c cells slots Q nL D g tb (pc + 1) lv (.int (x - y) :: st) M) : WW p l e R s m args below meth c cells slots Q nL D g tb pc lv (.int y :: .int x :: st) M := fun H locs ls h1 h2 h3 => lv_isub C0.1 C0.2.1 hd (k H locs ls h1 h2 h3)
theorem r_imul (C0 : CC p s m args c cc nL own D g tb) {x y : Int32} (hd : decode cc pc = .ok (.imul, 1)) (k : WW p l e R s m args below meth c cells slots Q nL D g tb (pc + 1) lv (.int (x * y) :: st) M) : WW p l e R s m args below meth c cells slots Q nL D g tb pc lv (.int y :: .int x :: st) M := fun H locs ls h1 h2 h3 => lv_imul C0.1 C0.2.1 hd (k H locs ls h1 h2 h3)
theorem r_iand (C0 : CC p s m args c cc nL own D g tb) {x y : Int32} (hd : decode cc pc = .ok (.iand, 1)) (k : WW p l e R s m args below meth c cells slots Q nL D g tb (pc + 1) lv (.int (x &&& y) :: st) M) : WW p l e R s m args below meth c cells slots Q nL D g tb pc lv (.int y :: .int x :: st) M := fun H locs ls h1 h2 h3 => lv_iand C0.1 C0.2.1 hd (k H locs ls h1 h2 h3)
theorem r_ior (C0 : CC p s m args c cc nL own D g tb) {x y : Int32} (hd : decode cc pc = .ok (.ior, 1)) (k : WW p l e R s m args below meth c cells slots Q nL D g tb (pc + 1) lv (.int (x ||| y) :: st) M) : WW p l e R s m args below meth c cells slots Q nL D g tb pc lv (.int y :: .int x :: st) M := fun H locs ls h1 h2 h3 => lv_ior C0.1 C0.2.1 hd (k H locs ls h1 h2 h3)
theorem r_ishl (C0 : CC p s m args c cc nL own D g tb) {x y : Int32} (hd : decode cc pc = .ok (.ishl, 1)) (k : WW p l e R s m args below meth c cells slots Q nL D g tb (pc + 1) lv (.int (x <<< (y &&& 31)) :: st) M) : WW p l e R s m args below meth c cells slots Q nL D g tb pc lv (.int y :: .int x :: st) M := fun H locs ls h1 h2 h3 => lv_ishl C0.1 C0.2.1 hd (k H locs ls h1 h2 h3)
theorem r_ishr (C0 : CC p s m args c cc nL own D g tb) {x y : Int32} (hd : decode cc pc = .ok (.ishr, 1)) (k : WW p l e R s m args below meth c cells slots Q nL D g tb (pc + 1) lv (.int (x >>> (y &&& 31)) :: st) M) : WW p l e R s m args below meth c cells slots Q nL D g tb pc lv (.int y :: .int x :: st) M := fun H locs ls h1 h2 h3 => lv_ishr C0.1 C0.2.1 hd (k H locs ls h1 h2 h3)
theorem r_idiv (C0 : CC p s m args c cc nL own D g tb) {x y : Int32} (hne : ¬ y = 0) (hd : decode cc pc = .ok (.idiv, 1)) (k : WW p l e R s m args below meth c cells slots Q nL D g tb (pc + 1) lv (.int (x / y) :: st) M) : WW p l e R s m args below meth c cells slots Q nL D g tb pc lv (.int y :: .int x :: st) M := fun H locs ls h1 h2 h3 => lv_idiv C0.1 C0.2.1 hd hne (k H locs ls h1 h2 h3)
theorem r_irem (C0 : CC p s m args c cc nL own D g tb) {x y : Int32} (hne : ¬ y = 0) (hd : decode cc pc = .ok (.irem, 1)) (k : WW p l e R s m args below meth c cells slots Q nL D g tb (pc + 1) lv (.int (x - x / y * y) :: st) M) : WW p l e R s m args below meth c cells slots Q nL D g tb pc lv (.int y :: .int x :: st) M := fun H locs ls h1 h2 h3 => lv_irem C0.1 C0.2.1 hd hne (k H locs ls h1 h2 h3)
theorem r_iushr (C0 : CC p s m args c cc nL own D g tb) {x y : Int32} (hd : decode cc pc = .ok (.iushr, 1)) (k : WW p l e R s m args below meth c cells slots Q nL D g tb (pc + 1) lv (.int ((x.toUInt32 >>> (y.toUInt32 &&& Int32.toUInt32 31)).toInt32) :: st) M) : WW p l e R s m args below meth c cells slots Q nL D g tb pc lv (.int y :: .int x :: st) M := fun H locs ls h1 h2 h3 => lv_iushr C0.1 C0.2.1 hd rfl (k H locs ls h1 h2 h3)
theorem r_i2b (C0 : CC p s m args c cc nL own D g tb) {x : Int32} (hd : decode cc pc = .ok (.i2b, 1)) (k : WW p l e R s m args below meth c cells slots Q nL D g tb (pc + 1) lv (.int x.toInt8.toInt32 :: st) M) : WW p l e R s m args below meth c cells slots Q nL D g tb pc lv (.int x :: st) M := fun H locs ls h1 h2 h3 => lv_i2b C0.1 C0.2.1 hd rfl (k H locs ls h1 h2 h3)
theorem r_i2l (C0 : CC p s m args c cc nL own D g tb) {x : Int32} (hd : decode cc pc = .ok (.i2l, 1)) (k : WW p l e R s m args below meth c cells slots Q nL D g tb (pc + 1) lv (.long x.toInt64 :: st) M) : WW p l e R s m args below meth c cells slots Q nL D g tb pc lv (.int x :: st) M := fun H locs ls h1 h2 h3 => lv_i2l C0.1 C0.2.1 hd rfl (k H locs ls h1 h2 h3)
theorem r_dup (C0 : CC p s m args c cc nL own D g tb) {v : Value} (hv : v.category = 1) (hd : decode cc pc = .ok (.dup, 1)) (k : WW p l e R s m args below meth c cells slots Q nL D g tb (pc + 1) lv (v :: v :: st) M) : WW p l e R s m args below meth c cells slots Q nL D g tb pc lv (v :: st) M := fun H locs ls h1 h2 h3 => lv_dup C0.1 C0.2.1 hd hv (k H locs ls h1 h2 h3)
theorem r_pop (C0 : CC p s m args c cc nL own D g tb) {v : Value} (hv : v.category = 1) (hd : decode cc pc = .ok (.pop, 1)) (k : WW p l e R s m args below meth c cells slots Q nL D g tb (pc + 1) lv st M) : WW p l e R s m args below meth c cells slots Q nL D g tb pc lv (v :: st) M := fun H locs ls h1 h2 h3 => lv_pop C0.1 C0.2.1 hd hv (k H locs ls h1 h2 h3)
theorem r_dup2 (C0 : CC p s m args c cc nL own D g tb) {v w : Value} (hv : v.category = 1) (hw : w.category = 1) (hd : decode cc pc = .ok (.dup2, 1)) (k : WW p l e R s m args below meth c cells slots Q nL D g tb (pc + 1) lv (v :: w :: v :: w :: st) M) : WW p l e R s m args below meth c cells slots Q nL D g tb pc lv (v :: w :: st) M := fun H locs ls h1 h2 h3 => lv_dup2_11 C0.1 C0.2.1 hd hv hw (k H locs ls h1 h2 h3)
theorem r_goto (C0 : CC p s m args c cc nL own D g tb) {off : Int} {tgt : Nat} (ht : (pc : Int) + off = (tgt : Int)) (hd : decode cc pc = .ok (.goto off, 3)) (k : WW p l e R s m args below meth c cells slots Q nL D g tb tgt lv st M) : WW p l e R s m args below meth c cells slots Q nL D g tb pc lv st M := fun H locs ls h1 h2 h3 => lv_goto C0.1 C0.2.1 hd ht (k H locs ls h1 h2 h3)
theorem r_if_eq (C0 : CC p s m args c cc nL own D g tb) {x : Int32} {off : Int} {tgt : Nat} (ht : (pc : Int) + off = (tgt : Int)) (hd : decode cc pc = .ok (.ifCond .eq off, 3)) (k1 : (x = 0) → WW p l e R s m args below meth c cells slots Q nL D g tb tgt lv st M) (k2 : ¬ (x = 0) → WW p l e R s m args below meth c cells slots Q nL D g tb (pc + 3) lv st M) : WW p l e R s m args below meth c cells slots Q nL D g tb pc lv (.int x :: st) M := fun H locs ls h1 h2 h3 => lv_if_eq C0.1 C0.2.1 hd ht (fun q => k1 q H locs ls h1 h2 h3) (fun q => k2 q H locs ls h1 h2 h3)
theorem r_if_ne (C0 : CC p s m args c cc nL own D g tb) {x : Int32} {off : Int} {tgt : Nat} (ht : (pc : Int) + off = (tgt : Int)) (hd : decode cc pc = .ok (.ifCond .ne off, 3)) (k1 : (¬ x = 0) → WW p l e R s m args below meth c cells slots Q nL D g tb tgt lv st M) (k2 : (x = 0) → WW p l e R s m args below meth c cells slots Q nL D g tb (pc + 3) lv st M) : WW p l e R s m args below meth c cells slots Q nL D g tb pc lv (.int x :: st) M := fun H locs ls h1 h2 h3 => lv_if_ne C0.1 C0.2.1 hd ht (fun q => k1 q H locs ls h1 h2 h3) (fun q => k2 q H locs ls h1 h2 h3)
theorem r_if_lt (C0 : CC p s m args c cc nL own D g tb) {x : Int32} {off : Int} {tgt : Nat} (ht : (pc : Int) + off = (tgt : Int)) (hd : decode cc pc = .ok (.ifCond .lt off, 3)) (k1 : (x < 0) → WW p l e R s m args below meth c cells slots Q nL D g tb tgt lv st M) (k2 : ¬ (x < 0) → WW p l e R s m args below meth c cells slots Q nL D g tb (pc + 3) lv st M) : WW p l e R s m args below meth c cells slots Q nL D g tb pc lv (.int x :: st) M := fun H locs ls h1 h2 h3 => lv_if_lt C0.1 C0.2.1 hd ht (fun q => k1 q H locs ls h1 h2 h3) (fun q => k2 q H locs ls h1 h2 h3)
theorem r_if_ge (C0 : CC p s m args c cc nL own D g tb) {x : Int32} {off : Int} {tgt : Nat} (ht : (pc : Int) + off = (tgt : Int)) (hd : decode cc pc = .ok (.ifCond .ge off, 3)) (k1 : (0 ≤ x) → WW p l e R s m args below meth c cells slots Q nL D g tb tgt lv st M) (k2 : ¬ (0 ≤ x) → WW p l e R s m args below meth c cells slots Q nL D g tb (pc + 3) lv st M) : WW p l e R s m args below meth c cells slots Q nL D g tb pc lv (.int x :: st) M := fun H locs ls h1 h2 h3 => lv_if_ge C0.1 C0.2.1 hd ht (fun q => k1 q H locs ls h1 h2 h3) (fun q => k2 q H locs ls h1 h2 h3)
theorem r_if_gt (C0 : CC p s m args c cc nL own D g tb) {x : Int32} {off : Int} {tgt : Nat} (ht : (pc : Int) + off = (tgt : Int)) (hd : decode cc pc = .ok (.ifCond .gt off, 3)) (k1 : (0 < x) → WW p l e R s m args below meth c cells slots Q nL D g tb tgt lv st M) (k2 : ¬ (0 < x) → WW p l e R s m args below meth c cells slots Q nL D g tb (pc + 3) lv st M) : WW p l e R s m args below meth c cells slots Q nL D g tb pc lv (.int x :: st) M := fun H locs ls h1 h2 h3 => lv_if_gt C0.1 C0.2.1 hd ht (fun q => k1 q H locs ls h1 h2 h3) (fun q => k2 q H locs ls h1 h2 h3)
theorem r_if_le (C0 : CC p s m args c cc nL own D g tb) {x : Int32} {off : Int} {tgt : Nat} (ht : (pc : Int) + off = (tgt : Int)) (hd : decode cc pc = .ok (.ifCond .le off, 3)) (k1 : (x ≤ 0) → WW p l e R s m args below meth c cells slots Q nL D g tb tgt lv st M) (k2 : ¬ (x ≤ 0) → WW p l e R s m args below meth c cells slots Q nL D g tb (pc + 3) lv st M) : WW p l e R s m args below meth c cells slots Q nL D g tb pc lv (.int x :: st) M := fun H locs ls h1 h2 h3 => lv_if_le C0.1 C0.2.1 hd ht (fun q => k1 q H locs ls h1 h2 h3) (fun q => k2 q H locs ls h1 h2 h3)
theorem r_icmp_eq (C0 : CC p s m args c cc nL own D g tb) {x y : Int32} {off : Int} {tgt : Nat} (ht : (pc : Int) + off = (tgt : Int)) (hd : decode cc pc = .ok (.if_icmp .eq off, 3)) (k1 : (x = y) → WW p l e R s m args below meth c cells slots Q nL D g tb tgt lv st M) (k2 : ¬ (x = y) → WW p l e R s m args below meth c cells slots Q nL D g tb (pc + 3) lv st M) : WW p l e R s m args below meth c cells slots Q nL D g tb pc lv (.int y :: .int x :: st) M := fun H locs ls h1 h2 h3 => lv_icmp_eq C0.1 C0.2.1 hd ht (fun q => k1 q H locs ls h1 h2 h3) (fun q => k2 q H locs ls h1 h2 h3)
theorem r_icmp_ne (C0 : CC p s m args c cc nL own D g tb) {x y : Int32} {off : Int} {tgt : Nat} (ht : (pc : Int) + off = (tgt : Int)) (hd : decode cc pc = .ok (.if_icmp .ne off, 3)) (k1 : (¬ x = y) → WW p l e R s m args below meth c cells slots Q nL D g tb tgt lv st M) (k2 : (x = y) → WW p l e R s m args below meth c cells slots Q nL D g tb (pc + 3) lv st M) : WW p l e R s m args below meth c cells slots Q nL D g tb pc lv (.int y :: .int x :: st) M := fun H locs ls h1 h2 h3 => lv_icmp_ne C0.1 C0.2.1 hd ht (fun q => k1 q H locs ls h1 h2 h3) (fun q => k2 q H locs ls h1 h2 h3)
theorem r_icmp_lt (C0 : CC p s m args c cc nL own D g tb) {x y : Int32} {off : Int} {tgt : Nat} (ht : (pc : Int) + off = (tgt : Int)) (hd : decode cc pc = .ok (.if_icmp .lt off, 3)) (k1 : (x < y) → WW p l e R s m args below meth c cells slots Q nL D g tb tgt lv st M) (k2 : ¬ (x < y) → WW p l e R s m args below meth c cells slots Q nL D g tb (pc + 3) lv st M) : WW p l e R s m args below meth c cells slots Q nL D g tb pc lv (.int y :: .int x :: st) M := fun H locs ls h1 h2 h3 => lv_icmp_lt C0.1 C0.2.1 hd ht (fun q => k1 q H locs ls h1 h2 h3) (fun q => k2 q H locs ls h1 h2 h3)
theorem r_icmp_ge (C0 : CC p s m args c cc nL own D g tb) {x y : Int32} {off : Int} {tgt : Nat} (ht : (pc : Int) + off = (tgt : Int)) (hd : decode cc pc = .ok (.if_icmp .ge off, 3)) (k1 : (y ≤ x) → WW p l e R s m args below meth c cells slots Q nL D g tb tgt lv st M) (k2 : ¬ (y ≤ x) → WW p l e R s m args below meth c cells slots Q nL D g tb (pc + 3) lv st M) : WW p l e R s m args below meth c cells slots Q nL D g tb pc lv (.int y :: .int x :: st) M := fun H locs ls h1 h2 h3 => lv_icmp_ge C0.1 C0.2.1 hd ht (fun q => k1 q H locs ls h1 h2 h3) (fun q => k2 q H locs ls h1 h2 h3)
theorem r_icmp_gt (C0 : CC p s m args c cc nL own D g tb) {x y : Int32} {off : Int} {tgt : Nat} (ht : (pc : Int) + off = (tgt : Int)) (hd : decode cc pc = .ok (.if_icmp .gt off, 3)) (k1 : (y < x) → WW p l e R s m args below meth c cells slots Q nL D g tb tgt lv st M) (k2 : ¬ (y < x) → WW p l e R s m args below meth c cells slots Q nL D g tb (pc + 3) lv st M) : WW p l e R s m args below meth c cells slots Q nL D g tb pc lv (.int y :: .int x :: st) M := fun H locs ls h1 h2 h3 => lv_icmp_gt C0.1 C0.2.1 hd ht (fun q => k1 q H locs ls h1 h2 h3) (fun q => k2 q H locs ls h1 h2 h3)
theorem r_icmp_le (C0 : CC p s m args c cc nL own D g tb) {x y : Int32} {off : Int} {tgt : Nat} (ht : (pc : Int) + off = (tgt : Int)) (hd : decode cc pc = .ok (.if_icmp .le off, 3)) (k1 : (x ≤ y) → WW p l e R s m args below meth c cells slots Q nL D g tb tgt lv st M) (k2 : ¬ (x ≤ y) → WW p l e R s m args below meth c cells slots Q nL D g tb (pc + 3) lv st M) : WW p l e R s m args below meth c cells slots Q nL D g tb pc lv (.int y :: .int x :: st) M := fun H locs ls h1 h2 h3 => lv_icmp_le C0.1 C0.2.1 hd ht (fun q => k1 q H locs ls h1 h2 h3) (fun q => k2 q H locs ls h1 h2 h3)
theorem r_get0 (C0 : CC p s m args c cc nL own D g tb) {b n index : Nat} {ref : String} (hq : (0, b, n) ∈ tb) (j : Nat) (hj : j < 9) {v : Value} (hv : (x_f0 g b M)[j]? = some v) (hsame : ref = RX4) (hw : Cond.fieldLink own index ref (TX4 j).2.1 (TX4 j).2.2.1 ∈ xA) (hd : decode cc pc = .ok (.getfield index, 3)) (k : WW p l e R s m args below meth c cells slots Q nL D g tb (pc + 3) lv (v :: st) M) : WW p l e R s m args below meth c cells slots Q nL D g tb pc lv (.ref (g.1 0 b) :: st) M := by
  intro H locs ls h1 h2 h3
  obtain ⟨i, hi⟩ := List.getElem?_of_mem hq
  obtain ⟨hx, hb, hml, hown, hts, hK, hT, -⟩ := C0
  have e1 : (TX4 j).1 = ref := by rw [hsame]; exact (by decide +kernel : ∀ j, j < 9 → (TX4 j).1 = RX4) j hj
  exact va_get (D := D) (cl := xCl) (ci := 3) (C := RX4) (T := TX4) (N := 9) hx hb hts x_lays0 hown hK h1 i (x_ws_at hi) rfl j hj (hts _ hw) (fun x h => by rw [← e1]; exact h) hv hd (k H locs ls h1 h2 h3)
def x_o0 : Nat → Option Nat := fun j => match j with
  | 0 => some 0
  | 1 => some 1
  | 2 => some 2
  | 3 => some 3
  | 4 => some 4
  | 5 => some 5
  | 6 => some 6
  | 7 => some 7
  | 8 => some 8
  | _ => none
theorem x_o0_lt {j z : Nat} (h : x_o0 j = some z) : j < 9 ∧ z < 9 ∧ (TX4 j).2.2.2 = false := by
  unfold x_o0 at h
  split at h <;> first | (cases h; exact ⟨by decide, by decide, by decide⟩) | cases h
theorem x_set0 {g : xG} {b j z : Nat} {M : xM} {x : Int32} (h : x_o0 j = some z) : (x_f0 g b M).set j (.int x) = x_f0 g b (upd M (b + z) x) := by
  unfold x_o0 at h
  split at h <;> first | (cases h; simp [x_f0, upd]) | cases h
theorem r_put0 (C0 : CC p s m args c cc nL own D g tb) {b n index : Nat} {ref : String} {x : Int32} {ty : FieldType} (hq : (0, b, n) ∈ tb) (j : Nat) {z : Nat} (hz : x_o0 j = some z) (hsame : ref = RX4) (hw : Cond.fieldLink own index ref (TX4 j).2.1 (TX4 j).2.2.1 ∈ xA) (hty : tyX4 j = ty) (hn : narrow ty (.int x) = .int x) (hfit : fits ty (.int x) = true) (hd : decode cc pc = .ok (.putfield index, 3)) (k : WW p l e R s m args below meth c cells slots Q nL D g tb (pc + 3) lv st (upd M (b + z) x)) : WW p l e R s m args below meth c cells slots Q nL D g tb pc lv (.int x :: .ref (g.1 0 b) :: st) M := by
  intro H locs ls h1 h2 h3
  obtain ⟨i, hi⟩ := List.getElem?_of_mem hq
  obtain ⟨hx, hb, hml, hown, hts, hK, hT, -⟩ := C0
  obtain ⟨hj, hz2, hfin⟩ := x_o0_lt hz
  have e1 : (TX4 j).1 = ref := by rw [hsame]; exact (by decide +kernel : ∀ j, j < 9 → (TX4 j).1 = RX4) j hj
  refine va_put (D := D) (cl := xCl) (ci := 3) (v := .int x) (ty := ty) (C := RX4) (T := TX4) (N := 9) hx hb hts x_lays0 tyX4 tyX4_ok nmX4 hown hK h1 (x_apart hT M s.heap.size) h2 i (x_ws_at hi) rfl j hj (hts _ hw) (fun x h => by rw [← e1]; exact h) hfin (by rw [← hty]; exact tyX4_ok j hj) hn hfit (by simpa [x_f0] using hj) hd (fun H1 locs1 hP hD hS => k H1 locs1 ls (x_conv hi hP ?_ (x_other hT hi ⟨Nat.le_add_right _ _, Nat.add_lt_add_left hz2 b⟩)) hS h3)
  intro hv
  show va_at D xCl (x_ad g (0, b, n), .inr (3, x_f0 g b (upd M (b + z) x))) H1
  rw [← x_set0 hz]
  exact hv
theorem r_get1 (C0 : CC p s m args c cc nL own D g tb) {b n index : Nat} {ref : String} (hq : (1, b, n) ∈ tb) (j : Nat) (hj : j < 8) {v : Value} (hv : (x_f1 g b M)[j]? = some v) (hsame : ref = RX1) (hw : Cond.fieldLink own index ref (TX1 j).2.1 (TX1 j).2.2.1 ∈ xA) (hd : decode cc pc = .ok (.getfield index, 3)) (k : WW p l e R s m args below meth c cells slots Q nL D g tb (pc + 3) lv (v :: st) M) : WW p l e R s m args below meth c cells slots Q nL D g tb pc lv (.ref (g.1 1 b) :: st) M := by
  intro H locs ls h1 h2 h3
  obtain ⟨i, hi⟩ := List.getElem?_of_mem hq
  obtain ⟨hx, hb, hml, hown, hts, hK, hT, -⟩ := C0
  have e1 : (TX1 j).1 = ref := by rw [hsame]; exact (by decide +kernel : ∀ j, j < 8 → (TX1 j).1 = RX1) j hj
  exact va_get (D := D) (cl := xCl) (ci := 0) (C := RX1) (T := TX1) (N := 8) hx hb hts x_lays1 hown hK h1 i (x_ws_at hi) rfl j hj (hts _ hw) (fun x h => by rw [← e1]; exact h) hv hd (k H locs ls h1 h2 h3)
def x_o1 : Nat → Option Nat := fun j => match j with
  | 0 => some 0
  | 1 => some 1
  | 2 => some 2
  | 3 => some 3
  | 4 => some 4
  | 5 => some 5
  | 6 => some 6
  | 7 => some 7
  | _ => none
theorem x_o1_lt {j z : Nat} (h : x_o1 j = some z) : j < 8 ∧ z < 8 ∧ (TX1 j).2.2.2 = false := by
  unfold x_o1 at h
  split at h <;> first | (cases h; exact ⟨by decide, by decide, by decide⟩) | cases h
theorem x_set1 {g : xG} {b j z : Nat} {M : xM} {x : Int32} (h : x_o1 j = some z) : (x_f1 g b M).set j (.int x) = x_f1 g b (upd M (b + z) x) := by
  unfold x_o1 at h
  split at h <;> first | (cases h; simp [x_f1, upd]) | cases h
theorem r_put1 (C0 : CC p s m args c cc nL own D g tb) {b n index : Nat} {ref : String} {x : Int32} {ty : FieldType} (hq : (1, b, n) ∈ tb) (j : Nat) {z : Nat} (hz : x_o1 j = some z) (hsame : ref = RX1) (hw : Cond.fieldLink own index ref (TX1 j).2.1 (TX1 j).2.2.1 ∈ xA) (hty : tyX1 j = ty) (hn : narrow ty (.int x) = .int x) (hfit : fits ty (.int x) = true) (hd : decode cc pc = .ok (.putfield index, 3)) (k : WW p l e R s m args below meth c cells slots Q nL D g tb (pc + 3) lv st (upd M (b + z) x)) : WW p l e R s m args below meth c cells slots Q nL D g tb pc lv (.int x :: .ref (g.1 1 b) :: st) M := by
  intro H locs ls h1 h2 h3
  obtain ⟨i, hi⟩ := List.getElem?_of_mem hq
  obtain ⟨hx, hb, hml, hown, hts, hK, hT, -⟩ := C0
  obtain ⟨hj, hz2, hfin⟩ := x_o1_lt hz
  have e1 : (TX1 j).1 = ref := by rw [hsame]; exact (by decide +kernel : ∀ j, j < 8 → (TX1 j).1 = RX1) j hj
  refine va_put (D := D) (cl := xCl) (ci := 0) (v := .int x) (ty := ty) (C := RX1) (T := TX1) (N := 8) hx hb hts x_lays1 tyX1 tyX1_ok nmX1 hown hK h1 (x_apart hT M s.heap.size) h2 i (x_ws_at hi) rfl j hj (hts _ hw) (fun x h => by rw [← e1]; exact h) hfin (by rw [← hty]; exact tyX1_ok j hj) hn hfit (by simpa [x_f1] using hj) hd (fun H1 locs1 hP hD hS => k H1 locs1 ls (x_conv hi hP ?_ (x_other hT hi ⟨Nat.le_add_right _ _, Nat.add_lt_add_left hz2 b⟩)) hS h3)
  intro hv
  show va_at D xCl (x_ad g (1, b, n), .inr (0, x_f1 g b (upd M (b + z) x))) H1
  rw [← x_set1 hz]
  exact hv
theorem r_get2 (C0 : CC p s m args c cc nL own D g tb) {b n index : Nat} {ref : String} (hq : (2, b, n) ∈ tb) (j : Nat) (hj : j < 14) {v : Value} (hv : (x_f2 g b M)[j]? = some v) (hsame : ref = RX2) (hw : Cond.fieldLink own index ref (TX2 j).2.1 (TX2 j).2.2.1 ∈ xA) (hd : decode cc pc = .ok (.getfield index, 3)) (k : WW p l e R s m args below meth c cells slots Q nL D g tb (pc + 3) lv (v :: st) M) : WW p l e R s m args below meth c cells slots Q nL D g tb pc lv (.ref (g.1 2 b) :: st) M := by
  intro H locs ls h1 h2 h3
  obtain ⟨i, hi⟩ := List.getElem?_of_mem hq
  obtain ⟨hx, hb, hml, hown, hts, hK, hT, -⟩ := C0
  have e1 : (TX2 j).1 = ref := by rw [hsame]; exact (by decide +kernel : ∀ j, j < 14 → (TX2 j).1 = RX2) j hj
  exact va_get (D := D) (cl := xCl) (ci := 1) (C := RX2) (T := TX2) (N := 14) hx hb hts x_lays2 hown hK h1 i (x_ws_at hi) rfl j hj (hts _ hw) (fun x h => by rw [← e1]; exact h) hv hd (k H locs ls h1 h2 h3)
def x_o2 : Nat → Option Nat := fun j => match j with
  | 1 => some 9
  | 3 => some 10
  | 5 => some 8
  | 6 => some 0
  | 7 => some 7
  | 8 => some 5
  | 9 => some 6
  | 10 => some 1
  | 11 => some 2
  | 12 => some 3
  | 13 => some 4
  | _ => none
theorem x_o2_lt {j z : Nat} (h : x_o2 j = some z) : j < 14 ∧ z < 11 ∧ (TX2 j).2.2.2 = false := by
  unfold x_o2 at h
  split at h <;> first | (cases h; exact ⟨by decide, by decide, by decide⟩) | cases h
theorem x_set2 {g : xG} {b j z : Nat} {M : xM} {x : Int32} (h : x_o2 j = some z) : (x_f2 g b M).set j (.int x) = x_f2 g b (upd M (b + z) x) := by
  unfold x_o2 at h
  split at h <;> first | (cases h; simp [x_f2, upd]) | cases h
theorem r_put2 (C0 : CC p s m args c cc nL own D g tb) {b n index : Nat} {ref : String} {x : Int32} {ty : FieldType} (hq : (2, b, n) ∈ tb) (j : Nat) {z : Nat} (hz : x_o2 j = some z) (hsame : ref = RX2) (hw : Cond.fieldLink own index ref (TX2 j).2.1 (TX2 j).2.2.1 ∈ xA) (hty : tyX2 j = ty) (hn : narrow ty (.int x) = .int x) (hfit : fits ty (.int x) = true) (hd : decode cc pc = .ok (.putfield index, 3)) (k : WW p l e R s m args below meth c cells slots Q nL D g tb (pc + 3) lv st (upd M (b + z) x)) : WW p l e R s m args below meth c cells slots Q nL D g tb pc lv (.int x :: .ref (g.1 2 b) :: st) M := by
  intro H locs ls h1 h2 h3
  obtain ⟨i, hi⟩ := List.getElem?_of_mem hq
  obtain ⟨hx, hb, hml, hown, hts, hK, hT, -⟩ := C0
  obtain ⟨hj, hz2, hfin⟩ := x_o2_lt hz
  have e1 : (TX2 j).1 = ref := by rw [hsame]; exact (by decide +kernel : ∀ j, j < 14 → (TX2 j).1 = RX2) j hj
  refine va_put (D := D) (cl := xCl) (ci := 1) (v := .int x) (ty := ty) (C := RX2) (T := TX2) (N := 14) hx hb hts x_lays2 tyX2 tyX2_ok nmX2 hown hK h1 (x_apart hT M s.heap.size) h2 i (x_ws_at hi) rfl j hj (hts _ hw) (fun x h => by rw [← e1]; exact h) hfin (by rw [← hty]; exact tyX2_ok j hj) hn hfit (by simpa [x_f2] using hj) hd (fun H1 locs1 hP hD hS => k H1 locs1 ls (x_conv hi hP ?_ (x_other hT hi ⟨Nat.le_add_right _ _, Nat.add_lt_add_left hz2 b⟩)) hS h3)
  intro hv
  show va_at D xCl (x_ad g (2, b, n), .inr (1, x_f2 g b (upd M (b + z) x))) H1
  rw [← x_set2 hz]
  exact hv
theorem r_get3 (C0 : CC p s m args c cc nL own D g tb) {b n index : Nat} {ref : String} (hq : (3, b, n) ∈ tb) (j : Nat) (hj : j < 10) {v : Value} (hv : (x_f3 g b M)[j]? = some v) (hsame : ref = RX3) (hw : Cond.fieldLink own index ref (TX3 j).2.1 (TX3 j).2.2.1 ∈ xA) (hd : decode cc pc = .ok (.getfield index, 3)) (k : WW p l e R s m args below meth c cells slots Q nL D g tb (pc + 3) lv (v :: st) M) : WW p l e R s m args below meth c cells slots Q nL D g tb pc lv (.ref (g.1 3 b) :: st) M := by
  intro H locs ls h1 h2 h3
  obtain ⟨i, hi⟩ := List.getElem?_of_mem hq
  obtain ⟨hx, hb, hml, hown, hts, hK, hT, -⟩ := C0
  have e1 : (TX3 j).1 = ref := by rw [hsame]; exact (by decide +kernel : ∀ j, j < 10 → (TX3 j).1 = RX3) j hj
  exact va_get (D := D) (cl := xCl) (ci := 2) (C := RX3) (T := TX3) (N := 10) hx hb hts x_lays3 hown hK h1 i (x_ws_at hi) rfl j hj (hts _ hw) (fun x h => by rw [← e1]; exact h) hv hd (k H locs ls h1 h2 h3)
def x_o3 : Nat → Option Nat := fun j => match j with
  | 1 => some 1
  | 2 => some 2
  | 3 => some 3
  | 6 => some 6
  | 7 => some 7
  | 8 => some 8
  | 9 => some 9
  | _ => none
theorem x_o3_lt {j z : Nat} (h : x_o3 j = some z) : j < 10 ∧ z < 10 ∧ (TX3 j).2.2.2 = false := by
  unfold x_o3 at h
  split at h <;> first | (cases h; exact ⟨by decide, by decide, by decide⟩) | cases h
theorem x_set3 {g : xG} {b j z : Nat} {M : xM} {x : Int32} (h : x_o3 j = some z) : (x_f3 g b M).set j (.int x) = x_f3 g b (upd M (b + z) x) := by
  unfold x_o3 at h
  split at h <;> first | (cases h; simp [x_f3, upd]) | cases h
theorem r_put3 (C0 : CC p s m args c cc nL own D g tb) {b n index : Nat} {ref : String} {x : Int32} {ty : FieldType} (hq : (3, b, n) ∈ tb) (j : Nat) {z : Nat} (hz : x_o3 j = some z) (hsame : ref = RX3) (hw : Cond.fieldLink own index ref (TX3 j).2.1 (TX3 j).2.2.1 ∈ xA) (hty : tyX3 j = ty) (hn : narrow ty (.int x) = .int x) (hfit : fits ty (.int x) = true) (hd : decode cc pc = .ok (.putfield index, 3)) (k : WW p l e R s m args below meth c cells slots Q nL D g tb (pc + 3) lv st (upd M (b + z) x)) : WW p l e R s m args below meth c cells slots Q nL D g tb pc lv (.int x :: .ref (g.1 3 b) :: st) M := by
  intro H locs ls h1 h2 h3
  obtain ⟨i, hi⟩ := List.getElem?_of_mem hq
  obtain ⟨hx, hb, hml, hown, hts, hK, hT, -⟩ := C0
  obtain ⟨hj, hz2, hfin⟩ := x_o3_lt hz
  have e1 : (TX3 j).1 = ref := by rw [hsame]; exact (by decide +kernel : ∀ j, j < 10 → (TX3 j).1 = RX3) j hj
  refine va_put (D := D) (cl := xCl) (ci := 2) (v := .int x) (ty := ty) (C := RX3) (T := TX3) (N := 10) hx hb hts x_lays3 tyX3 tyX3_ok nmX3 hown hK h1 (x_apart hT M s.heap.size) h2 i (x_ws_at hi) rfl j hj (hts _ hw) (fun x h => by rw [← e1]; exact h) hfin (by rw [← hty]; exact tyX3_ok j hj) hn hfit (by simpa [x_f3] using hj) hd (fun H1 locs1 hP hD hS => k H1 locs1 ls (x_conv hi hP ?_ (x_other hT hi ⟨Nat.le_add_right _ _, Nat.add_lt_add_left hz2 b⟩)) hS h3)
  intro hv
  show va_at D xCl (x_ad g (3, b, n), .inr (2, x_f3 g b (upd M (b + z) x))) H1
  rw [← x_set3 hz]
  exact hv
theorem r_get4 (C0 : CC p s m args c cc nL own D g tb) {b n index : Nat} {ref : String} (hq : (4, b, n) ∈ tb) (j : Nat) (hj : j < 11) {v : Value} (hv : (x_f4 g b M)[j]? = some v) (hsame : ref = RX6) (hw : Cond.fieldLink own index ref (TX6 j).2.1 (TX6 j).2.2.1 ∈ xA) (hd : decode cc pc = .ok (.getfield index, 3)) (k : WW p l e R s m args below meth c cells slots Q nL D g tb (pc + 3) lv (v :: st) M) : WW p l e R s m args below meth c cells slots Q nL D g tb pc lv (.ref (g.1 4 b) :: st) M := by
  intro H locs ls h1 h2 h3
  obtain ⟨i, hi⟩ := List.getElem?_of_mem hq
  obtain ⟨hx, hb, hml, hown, hts, hK, hT, -⟩ := C0
  have e1 : (TX6 j).1 = ref := by rw [hsame]; exact (by decide +kernel : ∀ j, j < 11 → (TX6 j).1 = RX6) j hj
  exact va_get (D := D) (cl := xCl) (ci := 4) (C := RX6) (T := TX6) (N := 11) hx hb hts x_lays4 hown hK h1 i (x_ws_at hi) rfl j hj (hts _ hw) (fun x h => by rw [← e1]; exact h) hv hd (k H locs ls h1 h2 h3)
def x_o4 : Nat → Option Nat := fun j => match j with
  | 5 => some 5
  | 6 => some 6
  | 10 => some 10
  | _ => none
theorem x_o4_lt {j z : Nat} (h : x_o4 j = some z) : j < 11 ∧ z < 11 ∧ (TX6 j).2.2.2 = false := by
  unfold x_o4 at h
  split at h <;> first | (cases h; exact ⟨by decide, by decide, by decide⟩) | cases h
theorem x_set4 {g : xG} {b j z : Nat} {M : xM} {x : Int32} (h : x_o4 j = some z) : (x_f4 g b M).set j (.int x) = x_f4 g b (upd M (b + z) x) := by
  unfold x_o4 at h
  split at h <;> first | (cases h; simp [x_f4, upd]) | cases h
theorem r_put4 (C0 : CC p s m args c cc nL own D g tb) {b n index : Nat} {ref : String} {x : Int32} {ty : FieldType} (hq : (4, b, n) ∈ tb) (j : Nat) {z : Nat} (hz : x_o4 j = some z) (hsame : ref = RX6) (hw : Cond.fieldLink own index ref (TX6 j).2.1 (TX6 j).2.2.1 ∈ xA) (hty : tyX6 j = ty) (hn : narrow ty (.int x) = .int x) (hfit : fits ty (.int x) = true) (hd : decode cc pc = .ok (.putfield index, 3)) (k : WW p l e R s m args below meth c cells slots Q nL D g tb (pc + 3) lv st (upd M (b + z) x)) : WW p l e R s m args below meth c cells slots Q nL D g tb pc lv (.int x :: .ref (g.1 4 b) :: st) M := by
  intro H locs ls h1 h2 h3
  obtain ⟨i, hi⟩ := List.getElem?_of_mem hq
  obtain ⟨hx, hb, hml, hown, hts, hK, hT, -⟩ := C0
  obtain ⟨hj, hz2, hfin⟩ := x_o4_lt hz
  have e1 : (TX6 j).1 = ref := by rw [hsame]; exact (by decide +kernel : ∀ j, j < 11 → (TX6 j).1 = RX6) j hj
  refine va_put (D := D) (cl := xCl) (ci := 4) (v := .int x) (ty := ty) (C := RX6) (T := TX6) (N := 11) hx hb hts x_lays4 tyX6 tyX6_ok nmX6 hown hK h1 (x_apart hT M s.heap.size) h2 i (x_ws_at hi) rfl j hj (hts _ hw) (fun x h => by rw [← e1]; exact h) hfin (by rw [← hty]; exact tyX6_ok j hj) hn hfit (by simpa [x_f4] using hj) hd (fun H1 locs1 hP hD hS => k H1 locs1 ls (x_conv hi hP ?_ (x_other hT hi ⟨Nat.le_add_right _ _, Nat.add_lt_add_left hz2 b⟩)) hS h3)
  intro hv
  show va_at D xCl (x_ad g (4, b, n), .inr (4, x_f4 g b (upd M (b + z) x))) H1
  rw [← x_set4 hz]
  exact hv
theorem r_iald (C0 : CC p s m args c cc nL own D g tb) {b n : Nat} {i : Int32} (hq : (6, b, n) ∈ tb) (hin : vp_in i n) (hd : decode cc pc = .ok (.iaload, 1)) (k : WW p l e R s m args below meth c cells slots Q nL D g tb (pc + 1) lv (.int (M (b + i.toNatClampNeg)) :: st) M) : WW p l e R s m args below meth c cells slots Q nL D g tb pc lv (.int i :: .ref (g.1 6 b) :: st) M := by
  intro H locs ls h1 h2 h3
  obtain ⟨q, hi⟩ := List.getElem?_of_mem hq
  obtain ⟨hx, hb, hml, hown, hts, hK, hT, -⟩ := C0
  exact va_iald hx hb hK h1 q 0 (x_ws_at hi) rfl hin hd (k H locs ls h1 h2 h3)
theorem r_iast (C0 : CC p s m args c cc nL own D g tb) {b n : Nat} {i x : Int32} (hq : (6, b, n) ∈ tb) (hin : vp_in i n) (hd : decode cc pc = .ok (.iastore, 1)) (k : WW p l e R s m args below meth c cells slots Q nL D g tb (pc + 1) lv st (upd M (b + i.toNatClampNeg) x)) : WW p l e R s m args below meth c cells slots Q nL D g tb pc lv (.int x :: .int i :: .ref (g.1 6 b) :: st) M := by
  intro H locs ls h1 h2 h3
  obtain ⟨q, hi⟩ := List.getElem?_of_mem hq
  obtain ⟨hx, hb, hml, hown, hts, hK, hT, -⟩ := C0
  have hlt : i.toNatClampNeg < n := Nat.not_le.mp fun q => hin (Or.inr q)
  refine va_iast hx hb hK h1 (x_apart hT M s.heap.size) h2 q 0 (x_ws_at hi) rfl hin hd (fun H1 locs1 hP hD hS => k H1 locs1 ls (x_conv hi hP ?_ (x_other hT hi ⟨Nat.le_add_right _ _, Nat.add_lt_add_left hlt b⟩)) hS h3)
  intro hv
  refine (show va_at D xCl (x_ad g (6, b, n), .inl (g.2.1 0, n, .inl (fun j => upd M (b + i.toNatClampNeg) x (b + j)))) H1 from ?_)
  have e : (fun j => upd M (b + i.toNatClampNeg) x (b + j)) = upd (fun j => M (b + j)) i.toNatClampNeg x := by
    funext j
    simp [upd]
  rw [e]
  exact hv
theorem r_bald (C0 : CC p s m args c cc nL own D g tb) {b n : Nat} {i : Int32} (hq : (7, b, n) ∈ tb) (hin : vp_in i n) (hd : decode cc pc = .ok (.baload, 1)) (k : WW p l e R s m args below meth c cells slots Q nL D g tb (pc + 1) lv (.int (M (b + i.toNatClampNeg)) :: st) M) : WW p l e R s m args below meth c cells slots Q nL D g tb pc lv (.int i :: .ref (g.1 7 b) :: st) M := by
  intro H locs ls h1 h2 h3
  obtain ⟨q, hi⟩ := List.getElem?_of_mem hq
  obtain ⟨hx, hb, hml, hown, hts, hK, hT, -⟩ := C0
  exact va_bald hx hb hK h1 q 1 (x_ws_at hi) rfl hin hd (k H locs ls h1 h2 h3)
theorem r_bast (C0 : CC p s m args c cc nL own D g tb) {b n : Nat} {i x : Int32} (hq : (7, b, n) ∈ tb) (hin : vp_in i n) (hd : decode cc pc = .ok (.bastore, 1)) (k : WW p l e R s m args below meth c cells slots Q nL D g tb (pc + 1) lv st (upd M (b + i.toNatClampNeg) (vp_nar .byte x))) : WW p l e R s m args below meth c cells slots Q nL D g tb pc lv (.int x :: .int i :: .ref (g.1 7 b) :: st) M := by
  intro H locs ls h1 h2 h3
  obtain ⟨q, hi⟩ := List.getElem?_of_mem hq
  obtain ⟨hx, hb, hml, hown, hts, hK, hT, -⟩ := C0
  have hlt : i.toNatClampNeg < n := Nat.not_le.mp fun q => hin (Or.inr q)
  refine va_bast hx hb hK h1 (x_apart hT M s.heap.size) h2 q 1 (x_ws_at hi) rfl hin hd (fun H1 locs1 hP hD hS => k H1 locs1 ls (x_conv hi hP ?_ (x_other hT hi ⟨Nat.le_add_right _ _, Nat.add_lt_add_left hlt b⟩)) hS h3)
  intro hv
  refine (show va_at D xCl (x_ad g (7, b, n), .inl (g.2.1 1, n, .inl (fun j => upd M (b + i.toNatClampNeg) (vp_nar .byte x) (b + j)))) H1 from ?_)
  have e : (fun j => upd M (b + i.toNatClampNeg) (vp_nar .byte x) (b + j)) = upd (fun j => M (b + j)) i.toNatClampNeg (vp_nar .byte x) := by
    funext j
    simp [upd]
  rw [e]
  exact hv
theorem r_zald (C0 : CC p s m args c cc nL own D g tb) {b n : Nat} {i : Int32} (hq : (8, b, n) ∈ tb) (hin : vp_in i n) (hd : decode cc pc = .ok (.baload, 1)) (k : WW p l e R s m args below meth c cells slots Q nL D g tb (pc + 1) lv (.int (M (b + i.toNatClampNeg)) :: st) M) : WW p l e R s m args below meth c cells slots Q nL D g tb pc lv (.int i :: .ref (g.1 8 b) :: st) M := by
  intro H locs ls h1 h2 h3
  obtain ⟨q, hi⟩ := List.getElem?_of_mem hq
  obtain ⟨hx, hb, hml, hown, hts, hK, hT, -⟩ := C0
  exact va_zald hx hb hK h1 q 2 (x_ws_at hi) rfl hin hd (k H locs ls h1 h2 h3)
theorem r_zast (C0 : CC p s m args c cc nL own D g tb) {b n : Nat} {i x : Int32} (hq : (8, b, n) ∈ tb) (hin : vp_in i n) (hd : decode cc pc = .ok (.bastore, 1)) (k : WW p l e R s m args below meth c cells slots Q nL D g tb (pc + 1) lv st (upd M (b + i.toNatClampNeg) (vp_nar .boolean x))) : WW p l e R s m args below meth c cells slots Q nL D g tb pc lv (.int x :: .int i :: .ref (g.1 8 b) :: st) M := by
  intro H locs ls h1 h2 h3
  obtain ⟨q, hi⟩ := List.getElem?_of_mem hq
  obtain ⟨hx, hb, hml, hown, hts, hK, hT, -⟩ := C0
  have hlt : i.toNatClampNeg < n := Nat.not_le.mp fun q => hin (Or.inr q)
  refine va_zast hx hb hK h1 (x_apart hT M s.heap.size) h2 q 2 (x_ws_at hi) rfl hin hd (fun H1 locs1 hP hD hS => k H1 locs1 ls (x_conv hi hP ?_ (x_other hT hi ⟨Nat.le_add_right _ _, Nat.add_lt_add_left hlt b⟩)) hS h3)
  intro hv
  refine (show va_at D xCl (x_ad g (8, b, n), .inl (g.2.1 2, n, .inl (fun j => upd M (b + i.toNatClampNeg) (vp_nar .boolean x) (b + j)))) H1 from ?_)
  have e : (fun j => upd M (b + i.toNatClampNeg) (vp_nar .boolean x) (b + j)) = upd (fun j => M (b + j)) i.toNatClampNeg (vp_nar .boolean x) := by
    funext j
    simp [upd]
  rw [e]
  exact hv
theorem r_aald10 (C0 : CC p s m args c cc nL own D g tb) {b n : Nat} {i : Int32} (hq : (10, b, n) ∈ tb) (hin : vp_in i n) (hd : decode cc pc = .ok (.aaload, 1)) (k : WW p l e R s m args below meth c cells slots Q nL D g tb (pc + 1) lv (.ref (g.1 0 (b + 9 * i.toNatClampNeg)) :: st) M) : WW p l e R s m args below meth c cells slots Q nL D g tb pc lv (.int i :: .ref (g.1 10 b) :: st) M := by
  intro H locs ls h1 h2 h3
  obtain ⟨q, hi⟩ := List.getElem?_of_mem hq
  obtain ⟨hx, hb, hml, hown, hts, hK, hT, -⟩ := C0
  exact va_aldq hx hb hK h1 q 4 (x_ws_at hi) rfl hin hd (k H locs ls h1 h2 h3)
theorem r_aald11 (C0 : CC p s m args c cc nL own D g tb) {b n : Nat} {i : Int32} (hq : (11, b, n) ∈ tb) (hin : vp_in i n) (hd : decode cc pc = .ok (.aaload, 1)) (k : WW p l e R s m args below meth c cells slots Q nL D g tb (pc + 1) lv (.ref (g.1 1 (b + 8 * i.toNatClampNeg)) :: st) M) : WW p l e R s m args below meth c cells slots Q nL D g tb pc lv (.int i :: .ref (g.1 11 b) :: st) M := by
  intro H locs ls h1 h2 h3
  obtain ⟨q, hi⟩ := List.getElem?_of_mem hq
  obtain ⟨hx, hb, hml, hown, hts, hK, hT, -⟩ := C0
  exact va_aldq hx hb hK h1 q 5 (x_ws_at hi) rfl hin hd (k H locs ls h1 h2 h3)
theorem r_aald12 (C0 : CC p s m args c cc nL own D g tb) {b n : Nat} {i : Int32} (hq : (12, b, n) ∈ tb) (hin : vp_in i n) (hd : decode cc pc = .ok (.aaload, 1)) (k : WW p l e R s m args below meth c cells slots Q nL D g tb (pc + 1) lv (.ref (g.1 2 (b + 128 * i.toNatClampNeg)) :: st) M) : WW p l e R s m args below meth c cells slots Q nL D g tb pc lv (.int i :: .ref (g.1 12 b) :: st) M := by
  intro H locs ls h1 h2 h3
  obtain ⟨q, hi⟩ := List.getElem?_of_mem hq
  obtain ⟨hx, hb, hml, hown, hts, hK, hT, -⟩ := C0
  exact va_aldq hx hb hK h1 q 6 (x_ws_at hi) rfl hin hd (k H locs ls h1 h2 h3)
theorem r_alen6 (C0 : CC p s m args c cc nL own D g tb) {b n : Nat} {v : Int32} (hq : (6, b, n) ∈ tb) (hv : Int32.ofNat n = v) (hd : decode cc pc = .ok (.arraylength, 1)) (k : WW p l e R s m args below meth c cells slots Q nL D g tb (pc + 1) lv (.int v :: st) M) : WW p l e R s m args below meth c cells slots Q nL D g tb pc lv (.ref (g.1 6 b) :: st) M := by
  intro H locs ls h1 h2 h3
  obtain ⟨q, hi⟩ := List.getElem?_of_mem hq
  obtain ⟨hx, hb, hml, hown, hts, hK, hT, -⟩ := C0
  exact va_alen hx hb hK h1 q 0 (x_ws_at hi) rfl hv hd (k H locs ls h1 h2 h3)
theorem r_alen7 (C0 : CC p s m args c cc nL own D g tb) {b n : Nat} {v : Int32} (hq : (7, b, n) ∈ tb) (hv : Int32.ofNat n = v) (hd : decode cc pc = .ok (.arraylength, 1)) (k : WW p l e R s m args below meth c cells slots Q nL D g tb (pc + 1) lv (.int v :: st) M) : WW p l e R s m args below meth c cells slots Q nL D g tb pc lv (.ref (g.1 7 b) :: st) M := by
  intro H locs ls h1 h2 h3
  obtain ⟨q, hi⟩ := List.getElem?_of_mem hq
  obtain ⟨hx, hb, hml, hown, hts, hK, hT, -⟩ := C0
  exact va_alen hx hb hK h1 q 1 (x_ws_at hi) rfl hv hd (k H locs ls h1 h2 h3)
theorem r_alen8 (C0 : CC p s m args c cc nL own D g tb) {b n : Nat} {v : Int32} (hq : (8, b, n) ∈ tb) (hv : Int32.ofNat n = v) (hd : decode cc pc = .ok (.arraylength, 1)) (k : WW p l e R s m args below meth c cells slots Q nL D g tb (pc + 1) lv (.int v :: st) M) : WW p l e R s m args below meth c cells slots Q nL D g tb pc lv (.ref (g.1 8 b) :: st) M := by
  intro H locs ls h1 h2 h3
  obtain ⟨q, hi⟩ := List.getElem?_of_mem hq
  obtain ⟨hx, hb, hml, hown, hts, hK, hT, -⟩ := C0
  exact va_alen hx hb hK h1 q 2 (x_ws_at hi) rfl hv hd (k H locs ls h1 h2 h3)
theorem r_alen10 (C0 : CC p s m args c cc nL own D g tb) {b n : Nat} {v : Int32} (hq : (10, b, n) ∈ tb) (hv : Int32.ofNat n = v) (hd : decode cc pc = .ok (.arraylength, 1)) (k : WW p l e R s m args below meth c cells slots Q nL D g tb (pc + 1) lv (.int v :: st) M) : WW p l e R s m args below meth c cells slots Q nL D g tb pc lv (.ref (g.1 10 b) :: st) M := by
  intro H locs ls h1 h2 h3
  obtain ⟨q, hi⟩ := List.getElem?_of_mem hq
  obtain ⟨hx, hb, hml, hown, hts, hK, hT, -⟩ := C0
  exact va_alen hx hb hK h1 q 4 (x_ws_at hi) rfl hv hd (k H locs ls h1 h2 h3)
theorem r_alen11 (C0 : CC p s m args c cc nL own D g tb) {b n : Nat} {v : Int32} (hq : (11, b, n) ∈ tb) (hv : Int32.ofNat n = v) (hd : decode cc pc = .ok (.arraylength, 1)) (k : WW p l e R s m args below meth c cells slots Q nL D g tb (pc + 1) lv (.int v :: st) M) : WW p l e R s m args below meth c cells slots Q nL D g tb pc lv (.ref (g.1 11 b) :: st) M := by
  intro H locs ls h1 h2 h3
  obtain ⟨q, hi⟩ := List.getElem?_of_mem hq
  obtain ⟨hx, hb, hml, hown, hts, hK, hT, -⟩ := C0
  exact va_alen hx hb hK h1 q 5 (x_ws_at hi) rfl hv hd (k H locs ls h1 h2 h3)
theorem r_alen12 (C0 : CC p s m args c cc nL own D g tb) {b n : Nat} {v : Int32} (hq : (12, b, n) ∈ tb) (hv : Int32.ofNat n = v) (hd : decode cc pc = .ok (.arraylength, 1)) (k : WW p l e R s m args below meth c cells slots Q nL D g tb (pc + 1) lv (.int v :: st) M) : WW p l e R s m args below meth c cells slots Q nL D g tb pc lv (.ref (g.1 12 b) :: st) M := by
  intro H locs ls h1 h2 h3
  obtain ⟨q, hi⟩ := List.getElem?_of_mem hq
  obtain ⟨hx, hb, hml, hown, hts, hK, hT, -⟩ := C0
  exact va_alen hx hb hK h1 q 6 (x_ws_at hi) rfl hv hd (k H locs ls h1 h2 h3)
theorem WW.sub {lv2 : List (Nat × Value)} (ks : List Nat) (hl : lv_pick lv ks = lv2) (k : WW p l e R s m args below meth c cells slots Q nL D g tb pc lv2 st M) : WW p l e R s m args below meth c cells slots Q nL D g tb pc lv st M := fun H locs ls h1 h2 h3 => k H locs ls h1 h2 (lv_sub h3 ks hl)
end XR
