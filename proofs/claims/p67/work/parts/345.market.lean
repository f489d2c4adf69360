/-! the law's market, whole: what is left to know is said of the mirrors alone (MKP) -/
def TXT (D1 D2 D3 : Nat) (ds : List Nat) : List Nat := (MKH D1 D2 D3 ++ ds.flatMap (fun d => SL 11 ++ DL d)) ++ SL 13
def MKP (Pq : Nat → Nat → xM → Prop) : Prop :=
  (∀ (D1 D2 D3 : Nat) (ds : List Nat), (1 ≤ D1 ∧ D1 ≤ 9) → (1 ≤ D2 ∧ D2 ≤ 40) → D3 < 100 → 1 ≤ ds.length → ds.length ≤ 12 → (∀ d ∈ ds, d < 10) → ∀ M1 : xM, M1 1778 = 0 → ∃ ME, PFd (fun j => (TXT D1 D2 D3 ds).getD j 32) (((TXT D1 D2 D3 ds).length + 19) / 20) 0 M1 = some ME ∧ ∃ M2, f_X6_loadSetup ME = some (0, M2) ∧ Pq 0 0 M2) ∧
  (∀ i a b d q r (M : xM), i < 6 → a < 100 → b < 4 → d < 3 → 1 ≤ q → q ≤ 60 → r < 20 → Pq i 0 M → ∃ M', f_X6_addStall (nI a) (nI b) (nI d) (nI q) (nI r) M = some (nI i, M') ∧ Pq (i + 1) 0 M') ∧
  (∀ n i a b d q (M : xM), 1 ≤ n → n ≤ 6 → i < 6 → a < 100 → b < 400 → d < 3 → 1 ≤ q → q ≤ 20 → Pq n i M → ∃ M', f_X6_addBuyer (nI a) (nI b) (nI d) (nI q) M = some (nI i, M') ∧ Pq n (i + 1) M')
theorem SL_c : ∀ i, i < 14 → 9 < i → ∀ x ∈ SL i, x < 128 := by decide +kernel
theorem DL_c {x : Nat} (h : x < 100) : ∀ z ∈ DL x, z < 128 := by
  unfold DL
  split
  · intro z hz
    rw [List.mem_singleton] at hz
    omega
  · intro z hz
    simp only [List.mem_cons, List.not_mem_nil, or_false] at hz
    omega
theorem flat_len : ∀ (ds : List Nat), (∀ d ∈ ds, d < 10) → (ds.flatMap (fun d => SL 11 ++ DL d)).length = 2 * ds.length
  | [], _ => rfl
  | d :: r, h => by
    have la := SL_len
    have lc : (DL d).length = 1 := by
      rw [DL_len]
      exact if_pos (h d List.mem_cons_self)
    have := flat_len r (fun z hz => h z (List.mem_cons_of_mem _ hz))
    simp only [List.flatMap_cons, List.length_append, List.length_cons, this]
    omega
theorem TXT_c {D1 D2 D3 : Nat} {ds : List Nat} (h1 : D1 < 100) (h2 : D2 < 100) (h3 : D3 < 100) (hd : ∀ d ∈ ds, d < 10) : ∀ z ∈ TXT D1 D2 D3 ds, z < 128 := by
  intro z hz
  unfold TXT MKH at hz
  simp only [List.mem_append, List.mem_flatMap] at hz
  rcases hz with ((((((((hz | hz) | hz) | hz) | hz) | hz) | hz) | ⟨d, hdd, hz | hz⟩) | hz)
  · exact SL_c 10 (by decide) (by decide) z hz
  · exact DL_c h1 z hz
  · exact SL_c 11 (by decide) (by decide) z hz
  · exact DL_c h2 z hz
  · exact SL_c 11 (by decide) (by decide) z hz
  · exact DL_c h3 z hz
  · exact SL_c 12 (by decide) (by decide) z hz
  · exact SL_c 11 (by decide) (by decide) z hz
  · exact DL_c (by have := hd d hdd; omega) z hz
  · exact SL_c 13 (by decide) (by decide) z hz
theorem getD_c {L : List Nat} (h : ∀ z ∈ L, z < 128) (j : Nat) : L.getD j 32 < 128 := by
  rw [List.getD_eq_getElem?_getD]
  cases e : L[j]? with
  | none => show 32 < 128; decide
  | some z => exact h z (List.mem_of_getElem? e)
theorem cv_a {g : xG} {a1 : Nat → Nat → Nat} (h : ∀ k z, 20 ≤ k → a1 k z = g.1 k z) (k : Nat) : cv (a1, g.2) k = cv g k := by
  unfold cv x_scr
  rw [show (a1, g.2).1 27 0 = g.1 27 0 from h 27 0 (by decide), show (a1, g.2).1 28 k = g.1 28 k from h 28 k (by decide)]
theorem hdL_market : yL_market.cls ≠ "java/lang/invoke/MethodHandle" ∧ yL_market.cls ≠ "java/lang/invoke/VarHandle" ∧ (parseMethodDescriptor yL_market.desc).map (fun d => d.parameters.length) = some 1 := by decide +kernel
theorem mL_market (l : Launch) (D : va_G) (g : xG) (hL : g.1 27 0 < 1073741824) {Pq : Nat → Nat → xM → Prop} (hM : MKP Pq) :
    mR l D g yL_market cL_market 9 (.object "FogBellMarket") rMk [.ref (g.1 26 0)] [] none 2000 60000 (fun a w => ∃ (a1 : Nat → Nat → Nat) (M : xM) (ns nb : Nat), a = a1 4 1664 ∧ w = x_ws (a1, g.2) tbX M ∧ (∀ k z, 20 ≤ k → a1 k z = g.1 k z) ∧ x_T (a1, g.2) tbX ∧ 1 ≤ ns ∧ ns ≤ 6 ∧ 1 ≤ nb ∧ nb ≤ 6 ∧ Pq ns nb M) := by
  obtain ⟨hTx, hSt, hBu⟩ := hM
  refine m_startR (own := RL) (Or.inl ⟨_, rfl⟩) (by decide +kernel) rfl rfl (Nat.le_of_ble_eq_true rfl) ?_
  intro p e s m args below meth c A Q C0 hE hend
  refine mk_head C0 hL (fun {v1} hv1 {D1 D2 D3 x w} h1 h2 h3 hT => ?_)
  refine mk_fog C0 hL (nf := 1 + v1) (hnf := by omega) (Pr := fun i L => ∃ ds : List Nat, ds.length = i ∧ (∀ d ∈ ds, d < 10) ∧ L = MKH D1 D2 D3 ++ ds.flatMap (fun d => SL 11 ++ DL d)) (fun i L d hi hd hP => ?_) (fun {L x w cells slots} hc hs hP hT => ?_) (1 + v1) 0 _ x w 20 4000 (by omega) (by omega) (by omega) (by have := MKH_len D1 D2 D3; omega) ⟨[], rfl, fun _ h => absurd h List.not_mem_nil, by simp⟩ hT
  · obtain ⟨ds, e1, e2, rfl⟩ := hP
    refine ⟨ds ++ [d], by simp [e1], fun z hz => ?_, by simp [List.append_assoc]⟩
    rcases List.mem_append.mp hz with q | q
    · exact e2 z q
    · rw [List.mem_singleton] at q
      omega
  · obtain ⟨ds, e1, e2, rfl⟩ := hP
    have hl : (MKH D1 D2 D3 ++ ds.flatMap (fun d => SL 11 ++ DL d)).length ≤ 43 := by
      have := MKH_len D1 D2 D3
      rw [List.length_append, flat_len ds e2]
      omega
    refine mk_put C0 hc hs hl hT (getD_c (TXT_c (by omega) (by omega) h3 e2)) (FT := fun ME => ∃ M2, f_X6_loadSetup ME = some (0, M2) ∧ Pq 0 0 M2) (hTx D1 D2 D3 ds h1 h2 h3 (by omega) (by omega) e2) (fun {a1 ME} hg1 hTX hFT => ?_)
    have key := mk_rest (g := (a1, g.2)) (C0.a hg1) (by show a1 27 0 < _; rw [hg1 27 0 (by decide)]; exact hL) hTX (fb_in (fun q hq => hq)) (Q := Q) (l := l) (e := e) (below := below) (meth := meth) hSt hBu hFT (fun {M lv ns nb} p1 p2 p3 p4 hP => WN.widen (k := 2000) (n := 60000) (by omega) (by omega) (hend ⟨a1, M, ns, nb, rfl, rfl, hg1, hTX, p1, p2, p3, p4, hP⟩ dL_market_372))
    rw [cv_a hg1, show (a1, g.2).1 26 0 = g.1 26 0 from hg1 26 0 (by decide)] at key
    exact key
