/-! texts as lists: a builder with a text, a string with a text -/
def TL (L : List Nat) (b : Nat → Int32) : Prop := TB (fun j => L.getD j 32) L.length b
def SBL (g : xG) (h : Nat) (L : List Nat) (w : va_W) : Prop := ∃ v z a, w = [(h, .inr (5, sbF v L.length)), (v, .inl (g.2.1 1, z, .inl a))] ∧ z ≤ 256 ∧ L.length ≤ z ∧ TL L a
def STL (g : xG) (x : Nat) (L : List Nat) (w : va_W) : Prop := ∃ y b, w = [(x, .inr (6, [.ref y, .int 0, .int 0, .int 0])), (y, .inl (g.2.1 1, L.length, .inl b))] ∧ TL L b
def SL (i : Nat) : List Nat := (x_byt i).map (fun b => b.toNatClampNeg)
def DL (x : Nat) : List Nat := if x < 10 then [48 + x] else [48 + x / 10, 48 + x % 10]
theorem TL_app {L L2 : List Nat} {a a2 f : Nat → Int32} (h : TL L a) (hf : sb_Fit a2) (h1 : ∀ j, j < L.length → a2 j = a j) (h2 : ∀ j, j < L2.length → a2 (L.length + j) = f j) (h3 : ∀ j, j < L2.length → f j = nI (L2.getD j 32)) : TL (L ++ L2) a2 := by
  refine ⟨hf, fun j hj => ?_⟩
  rw [List.length_append] at hj
  show a2 j = nI ((L ++ L2).getD j 32)
  rcases Nat.lt_or_ge j L.length with q | q
  · rw [h1 j q, h.2 j q]
    show nI (L.getD j 32) = nI ((L ++ L2).getD j 32)
    rw [List.getD_eq_getElem?_getD, List.getD_eq_getElem?_getD, List.getElem?_append_left q]
  · obtain ⟨i, rfl⟩ : ∃ i, j = L.length + i := ⟨j - L.length, by omega⟩
    rw [h2 i (by omega), h3 i (by omega), List.getD_eq_getElem?_getD, List.getD_eq_getElem?_getD, List.getElem?_append_right (by omega), show L.length + i - L.length = i by omega]
theorem DL_len (x : Nat) : (DL x).length = dgN x := by
  unfold DL dgN
  split <;> rfl
theorem DL_at (x j : Nat) (hj : j < (DL x).length) : dgF x j = nI ((DL x).getD j 32) := by
  unfold DL at hj ⊢
  unfold dgF
  by_cases h : x < 10
  · rw [if_pos h] at hj ⊢
    rw [if_pos h]
    have : j = 0 := by
      simp only [List.length_cons, List.length_nil] at hj
      omega
    subst this
    rfl
  · rw [if_neg h] at hj ⊢
    rw [if_neg h]
    simp only [List.length_cons, List.length_nil] at hj
    rcases (show j = 0 ∨ j = 1 by omega) with rfl | rfl
    · rfl
    · rfl
theorem SL_at : ∀ i, i < 14 → 9 < i → (SL i).length = x_slen i ∧ ∀ j, j < (SL i).length → x_sb i j = nI ((SL i).getD j 32) := by decide +kernel
section TT
variable {p : Program} {l : Launch} {e : Env} {R : Room} {s : State} {m : MethodId} {args : Array Value} {below : List Frame} {meth : Method} {c : Code} {cells slots : Nat} {Q : State → Prop}
variable {cc : ByteArray} {nL : Nat} {D : va_G} {g : xG} {A : Nat → Prop} {pc : Nat} {lv : List (Nat × Value)} {st rest : List Value} {ws w0 wr : va_W} {h : Nat} {L L2 : List Nat}
theorem t_new (C0 : NC p s m args c cc nL RL D g A) (hR : 3 ≤ R.frames ∧ 53 ≤ R.locals) (hfc : cells + 1 + 1 ≤ R.cells) (hfs2 : slots + 4 + 16 ≤ R.slots) (hcat : ((st.map fun v => v.category).sum + 1) ≤ 8) (d0 : decode cc pc = .ok (.new 14, 3)) (d1 : decode cc (pc + 3) = .ok (.dup, 1)) (d2 : decode cc (pc + 3 + 1) = .ok (.invokespecial 16, 3))
    (k : ∀ h w1, SBL g h [] w1 → WN p l e R s m args below meth c (cells + 1 + 1) (slots + 4 + 16) Q nL D A (pc + 7) lv (.ref h :: st) (w1 ++ ws)) : WN p l e R s m args below meth c cells slots Q nL D A pc lv st ws := by
  refine n_make C0 (nJ4_init_da8c8 l D g) x_lays5 tyJ4 tyJ4_ok rfl (fun j hj => by rcases (show j = 0 ∨ j = 1 ∨ j = 2 ∨ j = 3 by omega) with rfl | rfl | rfl | rfl <;> rfl) w2_131 w2_132 w1_2 w2_133 w2_134 w1_2 w2_135 rfl hdJ4_init_da8c8 ⟨rfl, rfl⟩ ⟨hR.1, Nat.le_trans (Nat.le_of_ble_eq_true rfl) hR.2⟩ hfc hfs2 hcat d0 d1 d2 (fun h w1 hw1 => ?_)
  obtain ⟨v, rfl⟩ := hw1
  refine WN.perm List.perm_append_comm ?_
  exact k h _ ⟨v, 16, _, rfl, by decide, by decide, sb_fit0, fun j hj => absurd hj (Nat.not_lt_zero _)⟩
theorem t_appT (C0 : NC p s m args c cc nL RL D g A) {q : xS} (hS : SBL g h L w0) (hlen : L.length + L2.length ≤ 110) (hq : q.2.2.1 = L2.length) (hfq : sb_Fit q.2.2.2) (hqv : ∀ j, j < L2.length → q.2.2.2 j = nI (L2.getD j 32)) (ho : oG s A D w0 wr (some q)) (hR : 6 ≤ R.frames ∧ 149 ≤ R.locals) (hfc : cells + 1 ≤ R.cells) (hfs : slots + 256 ≤ R.slots) (hcat : (rest.map fun v => v.category).sum ≤ 8) (hd : decode cc pc = .ok (.invokevirtual 17, 3))
    (k : ∀ w1, SBL g h (L ++ L2) w1 → WN p l e R s m args below meth c (cells + 1) (slots + 256) Q nL D A (pc + 3) lv (.ref h :: rest) (w1 ++ wr)) : WN p l e R s m args below meth c cells slots Q nL D A pc lv (.ref q.1 :: .ref h :: rest) (w0 ++ wr) := by
  obtain ⟨v, z, a, rfl, hz, hn, ha⟩ := hS
  refine m_callVr C0 (w0 := [(h, .inr (5, sbF v L.length)), (v, .inl (g.2.1 1, z, .inl a))]) (wr := wr) (As := [.ref q.1]) (rest := rest) (mJ4_append_15ec4 l D g (q := q) hn hz (by rw [hq]; exact hlen) ha.1 hfq) (List.Perm.refl _) ho w2_163 w2_164 w2_165 w2_166 w1_2 hdJ4_append_15ec4 rfl ⟨rfl, rfl⟩ ⟨hR.1, Nat.le_trans (Nat.le_of_ble_eq_true rfl) hR.2⟩ hfc hfs (rG_w C0 (q := (RJ4, TJ4, 4)) 0 rfl rfl) rfl hcat hd ?_
  rintro r w1 ⟨er, v2, z2, a2, rfl, g1, g2, g3, g4, g5⟩
  rw [er]
  rw [hq] at g2 g5 ⊢
  refine k _ ⟨v2, z2, a2, by rw [List.length_append], g1, by rw [List.length_append]; exact g2, TL_app ha g3 g4 g5 hqv⟩
theorem t_appC (C0 : NC p s m args c cc nL RL D g A) (i : Nat) (hi : i < 14) (hi2 : 9 < i) (hS : SBL g h L w0) (hlen : L.length + (SL i).length ≤ 110) (hR : 6 ≤ R.frames ∧ 149 ≤ R.locals) (hfc : cells + 1 ≤ R.cells) (hfs : slots + 256 ≤ R.slots) (hcat : (rest.map fun v => v.category).sum ≤ 8) (hd : decode cc pc = .ok (.invokevirtual 17, 3))
    (k : ∀ w1, SBL g h (L ++ SL i) w1 → WN p l e R s m args below meth c (cells + 1) (slots + 256) Q nL D A (pc + 3) lv (.ref h :: rest) (w1 ++ wr)) : WN p l e R s m args below meth c cells slots Q nL D A pc lv (.ref (g.1 20 i) :: .ref h :: rest) (w0 ++ wr) :=
  t_appT C0 (q := (g.1 20 i, g.1 21 i, x_slen i, x_sb i)) hS hlen (SL_at i hi hi2).1.symm (fit_sb' (by omega)) (SL_at i hi hi2).2 (oG_const C0 (by omega)) hR hfc hfs hcat hd k
theorem t_appN (C0 : NC p s m args c cc nL RL D g A) {x : Nat} (hx : x < 100) (hS : SBL g h L w0) (hlen : L.length + (DL x).length ≤ 110) (hR : 6 ≤ R.frames ∧ 149 ≤ R.locals) (hfc : cells + 1 ≤ R.cells) (hfs : slots + 256 ≤ R.slots) (hcat : (rest.map fun v => v.category).sum ≤ 8) (hd : decode cc pc = .ok (.invokevirtual 49, 3))
    (k : ∀ w1, SBL g h (L ++ DL x) w1 → WN p l e R s m args below meth c (cells + 1) (slots + 256) Q nL D A (pc + 3) lv (.ref h :: rest) (w1 ++ wr)) : WN p l e R s m args below meth c cells slots Q nL D A pc lv (.int (nI x) :: .ref h :: rest) (w0 ++ wr) := by
  obtain ⟨v, z, a, rfl, hz, hn, ha⟩ := hS
  have hq := DL_len x
  refine m_callVr C0 (w0 := [(h, .inr (5, sbF v L.length)), (v, .inl (g.2.1 1, z, .inl a))]) (wr := wr) (As := [.int (nI x)]) (rest := rest) (mJ4_append_bf812 l D g hx hn hz (by rw [← hq]; exact hlen) ha.1) (List.Perm.refl _) oG_none w3_41 w3_42 w3_43 w3_44 w1_2 hdJ4_append_bf812 rfl ⟨rfl, rfl⟩ ⟨hR.1, Nat.le_trans (Nat.le_of_ble_eq_true rfl) hR.2⟩ hfc hfs (rG_w C0 (q := (RJ4, TJ4, 4)) 0 rfl rfl) rfl hcat hd ?_
  rintro r w1 ⟨er, v2, z2, a2, rfl, g1, g2, g3, g4, g5⟩
  rw [er]
  rw [← hq] at g2 g5 ⊢
  refine k _ ⟨v2, z2, a2, by rw [List.length_append], g1, by rw [List.length_append]; exact g2, TL_app ha g3 g4 g5 (DL_at x)⟩
theorem t_toS (C0 : NC p s m args c cc nL RL D g A) (hS : SBL g h L w0) (hR : 6 ≤ R.frames ∧ 171 ≤ R.locals) (hfc : cells + 2 ≤ R.cells) (hfs : slots + 260 ≤ R.slots) (hcat : (rest.map fun v => v.category).sum ≤ 8) (hd : decode cc pc = .ok (.invokevirtual 23, 3))
    (k : ∀ x w1, STL g x L w1 → WN p l e R s m args below meth c (cells + 2) (slots + 260) Q nL D A (pc + 3) lv (.ref x :: rest) (w1 ++ wr)) : WN p l e R s m args below meth c cells slots Q nL D A pc lv (.ref h :: rest) (w0 ++ wr) := by
  obtain ⟨v, z, a, rfl, hz, hn, ha⟩ := hS
  refine m_callVr C0 (w0 := [(h, .inr (5, sbF v L.length)), (v, .inl (g.2.1 1, z, .inl a))]) (wr := wr) (As := []) (rest := rest) (mJ4_toString_0e30d l D g hn hz ha.1) (List.Perm.refl _) oG_none w3_68 w3_69 w3_70 w3_71 w1_2 hdJ4_toString_0e30d rfl ⟨rfl, rfl⟩ ⟨hR.1, Nat.le_trans (Nat.le_of_ble_eq_true rfl) hR.2⟩ hfc hfs (rG_w C0 (q := (RJ4, TJ4, 4)) 0 rfl rfl) rfl hcat hd ?_
  rintro x w1 ⟨y, b, rfl, g1, g2⟩
  refine WN.less (ws2 := [(x, .inr (6, [.ref y, .int 0, .int 0, .int 0])), (y, .inl (g.2.1 1, L.length, .inl b))] ++ wr) (List.Sublist.append (List.sublist_append_left [_, _] [_, _]) (List.Sublist.refl _)) ?_
  exact k x _ ⟨y, b, rfl, g1, fun j hj => (g2 j hj).trans (ha.2 j hj)⟩
/-- a string of the world as a text -/
theorem oG_L (C0 : NC p s m args c cc nL RL D g A) {x y : Nat} {b : Nat → Int32} (h1 : (x, (.inr (6, [.ref y, .int 0, .int 0, .int 0]) : va_E)) ∈ wr) (h2 : (y, (.inl (g.2.1 1, L.length, .inl b) : va_E)) ∈ wr) (hl : L.length < 2147483648) : oG s A D w0 wr (some (x, y, L.length, b)) := oG_w C0 h1 h2 hl
end TT
