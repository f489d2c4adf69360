/-! the law's market: a class is made and the text put into it -/
theorem WN.withT {p : Program} {l : Launch} {e : Env} {R : Room} {s : State} {m : MethodId} {args : Array Value} {below : List Frame} {meth : Method} {c : Code} {cells slots : Nat} {Q : State → Prop} {nL : Nat} {D : va_G} {g : xG} {A : Nat → Prop} {pc : Nat} {lv : List (Nat × Value)} {st : List Value} {ws wr : va_W} {a : Nat → Nat → Nat} {M : xM} (hp : ws.Perm (x_ws (a, g.2) tbX M ++ wr)) (k : x_T (a, g.2) tbX → WN p l e R s m args below meth c cells slots Q nL D A pc lv st ws) : WN p l e R s m args below meth c cells slots Q nL D A pc lv st ws :=
  fun H locs ls h1 h2 h3 h4 => k (T_of (D_left (D_perm hp h2)) apt_X) H locs ls h1 h2 h3 h4
set_option maxRecDepth 100000 in
set_option maxHeartbeats 8000000 in
theorem mk_put {p : Program} {l : Launch} {e : Env} {s : State} {m : MethodId} {args : Array Value} {below : List Frame} {meth : Method} {c : Code} {Q : State → Prop} {D : va_G} {g : xG} {A : Nat → Prop} (C0 : NC p s m args c cL_market 9 RL D g A) {cells slots : Nat} (hc : cells ≤ 300) (hs : slots ≤ 20000) {L : List Nat} {x : Nat} {w : va_W} (hL : L.length ≤ 43) (hT0 : STL g x L w) (ht : ∀ j, (L ++ SL 13).getD j 32 < 128) {FT : xM → Prop}
    (hpf : ∀ M1 : xM, M1 1778 = 0 → ∃ ME, PFd (fun j => (L ++ SL 13).getD j 32) (((L ++ SL 13).length + 19) / 20) 0 M1 = some ME ∧ FT ME)
    (hk : ∀ {a1 : Nat → Nat → Nat} {ME : xM}, (∀ k z, 20 ≤ k → a1 k z = g.1 k z) → x_T (a1, g.2) tbX → FT ME → WN p l e rMk s m args below meth c 800 50000 Q 9 D A 171 [(0, .ref (g.1 26 0)), (1, .int (cv g 0)), (4, .ref (a1 4 1664))] [] (x_ws (a1, g.2) tbX ME)) :
    WN p l e rMk s m args below meth c cells slots Q 9 D A 138 [(0, .ref (g.1 26 0)), (1, .int (cv g 0)), (3, .ref x)] [] w := by
  obtain ⟨y, b, rfl, hb⟩ := hT0
  have la := SL_len
  have eC : rP.cells = 200 := rfl
  have eS : rP.slots = 20000 := rfl
  refine n_make C0 (c_X6_init l D g) x_lays4 tyX6 tyX6_ok rfl (fun j hj => by rcases (show j = 0 ∨ j = 1 ∨ j = 2 ∨ j = 3 ∨ j = 4 ∨ j = 5 ∨ j = 6 ∨ j = 7 ∨ j = 8 ∨ j = 9 ∨ j = 10 by omega) with rfl | rfl | rfl | rfl | rfl | rfl | rfl | rfl | rfl | rfl | rfl <;> rfl) w3_128 w1_152 w1_13 w3_129 w3_130 w1_13 w3_131 rfl ⟨by decide +kernel, by decide +kernel, by decide +kernel⟩ ⟨rfl, rfl⟩ ⟨Nat.le_of_ble_eq_true rfl, Nat.le_of_ble_eq_true rfl⟩ (by show _ ≤ 2000; omega) (by show _ ≤ 60000; omega) (Nat.le_of_ble_eq_true rfl) dL_market_138 dL_market_141 dL_market_142 (fun q1 w1 hw1 => ?_)
  obtain ⟨a1, M1, eh, hg1, rfl, hM1⟩ := hw1
  subst eh
  refine WN.withT (a := a1) (g := g) (M := M1) List.perm_append_comm (fun hT => ?_)
  refine q_astore C0 (lv2 := [(4, .ref (a1 4 1664)), (0, .ref (g.1 26 0)), (1, .int (cv g 0)), (3, .ref x)]) (by decide) rfl dL_market_145 ?_
  refine q_aload C0 0 rfl dL_market_147 ?_
  refine t_new C0 ⟨Nat.le_of_ble_eq_true rfl, Nat.le_of_ble_eq_true rfl⟩ (by show _ ≤ 2000; omega) (by show _ ≤ 60000; omega) (Nat.le_of_ble_eq_true rfl) dL_market_149 dL_market_152 dL_market_153 ?_
  intro h w1 S0
  refine q_aload_n C0 (kk := 3) 3 rfl dL_market_156 ?_
  refine t_appT C0 (q := (x, y, L.length, b)) (L2 := L) S0 (by simp only [List.length_nil]; omega) rfl hb.1 hb.2 (oG_L C0 (List.mem_append_left _ List.mem_cons_self) (List.mem_append_left _ (List.mem_cons_of_mem _ List.mem_cons_self)) (by omega)) ⟨Nat.le_of_ble_eq_true rfl, Nat.le_of_ble_eq_true rfl⟩ (by show _ ≤ 2000; omega) (by show _ ≤ 60000; omega) (Nat.le_of_ble_eq_true rfl) dL_market_157 ?_
  intro w1 S0
  rw [List.nil_append] at S0
  refine q_ldcs C0 (si := 13) rfl dL_market_160 ?_
  refine t_appC C0 13 (by decide) (by decide) S0 (by omega) ⟨Nat.le_of_ble_eq_true rfl, Nat.le_of_ble_eq_true rfl⟩ (by show _ ≤ 2000; omega) (by show _ ≤ 60000; omega) (Nat.le_of_ble_eq_true rfl) dL_market_162 ?_
  intro w1 S0
  refine t_toS C0 S0 ⟨Nat.le_of_ble_eq_true rfl, Nat.le_of_ble_eq_true rfl⟩ (by show _ ≤ 2000; omega) (by show _ ≤ 60000; omega) (Nat.le_of_ble_eq_true rfl) dL_market_165 ?_
  intro x2 w1 T0
  obtain ⟨y2, b2, rfl, hb2⟩ := T0
  obtain ⟨ME, hPF, hFT⟩ := hpf M1 hM1
  have hlen : (L ++ SL 13).length = L.length + 1 := by
    rw [List.length_append]
    omega
  refine m_callSv (C0.a hg1) (w0 := [(x2, .inr (6, [.ref y2, .int 0, .int 0, .int 0])), (y2, .inl (g.2.1 1, (L ++ SL 13).length, .inl b2))] ++ x_ws (a1, g.2) tbX M1) (wr := [(x, .inr (6, [.ref y, .int 0, .int 0, .int 0])), (y, .inl (g.2.1 1, L.length, .inl b))]) (As := [.ref (a1 4 1664), .ref x2]) (rest := []) (mL_put l D (a1, g.2) hT (fb_in (fun q hq => hq)) (n := (L ++ SL 13).length) (n0 := (L ++ SL 13).length) (B := ((L ++ SL 13).length + 19) / 20) (by omega) (by omega) (by omega) ht (Nat.le_refl _) (fun j hj => by rw [List.getD_eq_getElem?_getD, List.getElem?_eq_none hj]; rfl) hb2 hPF) ((List.Perm.append_left _ List.perm_append_comm).trans (List.Perm.of_eq (List.append_assoc _ _ _).symm)) oG_none w5_122 w5_123 w5_124 w1_0 hdL_put rfl ⟨rfl, rfl⟩ ⟨Nat.le_of_ble_eq_true rfl, Nat.le_of_ble_eq_true rfl⟩ (by show _ ≤ 2000; omega) (by show _ ≤ 60000; omega) rfl (Nat.le_of_ble_eq_true rfl) dL_market_168 ?_
  rintro w1 rfl
  refine WN.less (List.sublist_append_left _ _) ?_
  refine WN.sub (lv2 := [(0, .ref (g.1 26 0)), (1, .int (cv g 0)), (4, .ref (a1 4 1664))]) [1, 2, 0] rfl ?_
  refine WN.widen (k := 800) (n := 50000) (by omega) (by omega) ?_
  exact hk hg1 hT hFT
